set_option maxHeartbeats 4000000 in
set_option maxRecDepth 100000 in
theorem cBl_work (l : Launch) (dC : Nat → ClassId) (dI : Nat → Nat → Nat) (ad : Nat → Nat) (ca : Nat → ClassId) (sz : Nat) (S : Ss) (j : Nat) (hj : j < 10) (x : Int32) (q0 p0 : Nat) (hb9 : okW S j x q0 p0) : Met l yBl_work (kBl_work :: CW) ({ frames := 2, cells := 0, slots := 0, locals := 47 }) (va_Pc [.ref (ad (18 + j)), .int x, .ref (ad 1)] (gPre (dC, dI) (xT ca) (XW ad ca S) sz)) (va_Qi (fun (r : Int32) (u : Ss) => r = outB S j x ∧ u = bw S j x) (fun u => gAt (dC, dI) (xT ca) (va_A (XW ad ca S) sz) (XW ad ca u)) (va_A (XW ad ca S) sz)) 0 0 (va_A (XW ad ca S) sz) := by
  refine Met.ofW (cc := bBl_work) (maxL := 3) (ret := (some .int)) (by decide +kernel) rfl ?_
  intro p e s m args below meth c s₁ B hml hv
  obtain ⟨rfl, hsz, hP, hK, hD0⟩ := hv
  have hx := B.exec
  have hb := B.bytes
  have hr := B.returns
  have hts := atoms_spec (ws := kBl_work :: CW) B.pre
  have hc : ∀ w ∈ CW, w.before _ s = true := fun w h => hts w (List.mem_cons_of_mem _ h)
  have hown : s.vm.findClass RBl = some m.cls := findClass_of_methodNamed B.named
  have hlocks := B.notSynchronized
  subst hsz
  have hD := hD0.self (sz := s.heap.size)
  generalize hAe : va_A (XW ad ca S) s.heap.size = A at hD ⊢
  have hA : ∀ q : Nat, s.heap.size ≤ q → A q := fun q h => by rw [← hAe]; exact Or.inr h
  have hS : va_S A s.heap s.heap [] := va_S.rf
  have hl := lv_entry ([.ref (ad (18 + j)), .int x, .ref (ad 1)]) (n := 3) (Nat.le_of_ble_eq_true rfl)
  rw [lg_entry_eq]
  generalize (lg_sl ([.ref (ad (18 + j)), .int x, .ref (ad 1)]) ++ List.replicate (3 - (lg_sl ([.ref (ad (18 + j)), .int x, .ref (ad 1)])).length) Slot.unset).toArray = ls at hl ⊢
  have hl : lv_has ls 3 [(0, .ref (ad (18 + j))), (1, .int x), (2, .ref (ad 1))] := hl
  obtain ⟨hx01, hk7, hp9, hc9, hq2, hp5, hq5, hr9, hf9, ho9, h79, h69⟩ := hb9
  refine lv_aload_n hx hb dBl_work_0 rfl (lv_at hl 0 rfl) ?_
  refine va_get (D := (dC, dI)) (ci := 2) (v := .int (S 14 j)) (C := RBl) (T := TBl) (N := 8) hx hb hc inBl hown hK hP (18 + j) (xb_cell (by omega)) rfl 0 (by decide) (hc _ w81) (fun _ h9 => h9) rfl dBl_work_1 ?_
  by_cases w_0 : S 14 j = 0
  · refine lv_tableIn (tgt := 40) hx hb dBl_work_4 (by rw [w_0]; decide) (by rw [w_0]; decide) (by rw [w_0]; rfl) (by decide) ?_
    refine lv_aload_n hx hb dBl_work_40 rfl (lv_at hl 0 rfl) ?_
    refine lv_iload_n hx hb dBl_work_41 rfl (lv_at hl 1 rfl) ?_
    refine lv_iconst (v := 1) hx hb dBl_work_42 (by decide +kernel) ?_
    refine lv_icmp_ne (tgt := 62) hx hb dBl_work_43 (by decide) (fun c_1 => ?_) (fun c_1 => ?_)
    · refine lv_iconst (v := 0) hx hb dBl_work_62 (by decide +kernel) ?_
      refine va_put (D := (dC, dI)) (ci := 2) (v := .int 0) (ty := .int) (C := RBl) (T := TBl) (N := 8) hx hb hc inBl tyBl tyBl_ok nmBl hown hK hP hD hS (18 + j) (xb_cell (by omega)) rfl 6 (by decide) (hc _ w91) (fun _ h9 => h9) rfl (by decide +kernel) rfl rfl (Nat.le_of_ble_eq_true rfl) dBl_work_63 (fun H locs hP hD hS => ?_)
      obtain ⟨S_3, eS_3⟩ : ∃ z9 : Ss, z9 = row S 20 (upd (S 20) j 0) := ⟨_, rfl⟩
      rw [xb_set (by omega) 6 (by decide)] at hP hD
      have hP : va_P (dC, dI) vwCl (XW ad ca S_3) H := by rw [eS_3]; exact hP
      have hD : va_D A (XW ad ca S_3) := by rw [eS_3]; exact hD
      refine lv_aload_n hx hb dBl_work_66 rfl (lv_at hl 0 rfl) ?_
      refine lv_iload_n hx hb dBl_work_67 rfl (lv_at hl 1 rfl) ?_
      refine lv_iconst (v := 1) hx hb dBl_work_68 (by decide +kernel) ?_
      refine lv_icmp_ne (tgt := 87) hx hb dBl_work_69 (by decide) (fun c_3 => ?_) (fun c_3 => ?_)
      · refine lv_iconst (v := 0) hx hb dBl_work_87 (by decide +kernel) ?_
        refine va_put (D := (dC, dI)) (ci := 2) (v := .int 0) (ty := .int) (C := RBl) (T := TBl) (N := 8) hx hb hc inBl tyBl tyBl_ok nmBl hown hK hP hD hS (18 + j) (xb_cell (by omega)) rfl 5 (by decide) (hc _ w89) (fun _ h9 => h9) rfl (by decide +kernel) rfl rfl (Nat.le_of_ble_eq_true rfl) dBl_work_88 (fun H locs hP hD hS => ?_)
        obtain ⟨S_5, eS_5⟩ : ∃ z9 : Ss, z9 = row S_3 19 (upd (S_3 19) j 0) := ⟨_, rfl⟩
        rw [xb_set (by omega) 5 (by decide)] at hP hD
        have hP : va_P (dC, dI) vwCl (XW ad ca S_5) H := by rw [eS_5]; exact hP
        have hD : va_D A (XW ad ca S_5) := by rw [eS_5]; exact hD
        refine lv_goto (tgt := 259) hx hb dBl_work_91 (by decide) ?_
        refine lv_aload_n hx hb dBl_work_259 rfl (lv_at hl 0 rfl) ?_
        refine lv_iload_n hx hb dBl_work_260 rfl (lv_at hl 1 rfl) ?_
        refine va_put (D := (dC, dI)) (ci := 2) (v := .int x) (ty := .int) (C := RBl) (T := TBl) (N := 8) hx hb hc inBl tyBl tyBl_ok nmBl hown hK hP hD hS (18 + j) (xb_cell (by omega)) rfl 7 (by decide) (hc _ w93) (fun _ h9 => h9) rfl (by decide +kernel) rfl rfl (Nat.le_of_ble_eq_true rfl) dBl_work_261 (fun H locs hP hD hS => ?_)
        obtain ⟨S_6, eS_6⟩ : ∃ z9 : Ss, z9 = row S_5 21 (upd (S_5 21) j x) := ⟨_, rfl⟩
        rw [xb_set (by omega) 7 (by decide)] at hP hD
        have hP : va_P (dC, dI) vwCl (XW ad ca S_6) H := by rw [eS_6]; exact hP
        have hD : va_D A (XW ad ca S_6) := by rw [eS_6]; exact hD
        refine lv_aload_n hx hb dBl_work_264 rfl (lv_at hl 0 rfl) ?_
        refine va_get (D := (dC, dI)) (ci := 2) (v := .int (S_6 19 j)) (C := RBl) (T := TBl) (N := 8) hx hb hc inBl hown hK hP (18 + j) (xb_cell (by omega)) rfl 5 (by decide) (hc _ w89) (fun _ h9 => h9) rfl dBl_work_265 ?_
        exact W.iret (v := (S_6 19 j)) hx hb hr (fun t ht hW => ⟨⟨_, S_6, rfl, (by (try dsimp only); exact (by subst S_6; subst S_5; subst S_3; have hC : 0 = cntB S j x := (by unfold cntB; rw [if_pos w_0, if_neg c_1]); have hO : (0 : Int32) = outB S j x := (by unfold outB; rw [if_pos w_0]; exact (b2_f (fun h => c_1 h.1)).symm); exact ⟨(show upd (S 19) j 0 j = outB S j x from pk_us.trans hO), bw_0 (n5 (Or.inl w_0)) hC hO⟩)), by rw [ht]; exact hP, va_K.moved hW.alike hK, hD⟩, hS.F ht⟩) hS.2.2 dBl_work_268
      · exact absurd c_3 c_1
    · refine lv_aload_n hx hb dBl_work_46 rfl (lv_at hl 0 rfl) ?_
      refine va_get (D := (dC, dI)) (ci := 2) (v := .int (S 20 j)) (C := RBl) (T := TBl) (N := 8) hx hb hc inBl hown hK hP (18 + j) (xb_cell (by omega)) rfl 6 (by decide) (hc _ w91) (fun _ h9 => h9) rfl dBl_work_47 ?_
      refine lv_iconst (v := 1) hx hb dBl_work_50 (by decide +kernel) ?_
      refine lv_iadd hx hb dBl_work_51 ?_
      refine lv_aload_n hx hb dBl_work_52 rfl (lv_at hl 0 rfl) ?_
      refine va_get (D := (dC, dI)) (ci := 2) (v := .int (S 15 j)) (C := RBl) (T := TBl) (N := 8) hx hb hc inBl hown hK hP (18 + j) (xb_cell (by omega)) rfl 1 (by decide) (hc _ w83) (fun _ h9 => h9) rfl dBl_work_53 ?_
      refine va_mmin hx hb (by rw [hml]; exact hl.1.symm) hown (hc _ w440) (hc _ w441) (hc _ w14) (hc _ w442) (Nat.le_of_ble_eq_true rfl) (Nat.le_of_ble_eq_true rfl) (Nat.zero_le _) (Nat.zero_le _) dBl_work_56 ?_
      refine lv_topi (fun v_7 ev_7 => ?_)
      refine lv_goto (tgt := 63) hx hb dBl_work_59 (by decide) ?_
      refine va_put (D := (dC, dI)) (ci := 2) (v := .int v_7) (ty := .int) (C := RBl) (T := TBl) (N := 8) hx hb hc inBl tyBl tyBl_ok nmBl hown hK hP hD hS (18 + j) (xb_cell (by omega)) rfl 6 (by decide) (hc _ w91) (fun _ h9 => h9) rfl (by decide +kernel) rfl rfl (Nat.le_of_ble_eq_true rfl) dBl_work_63 (fun H locs hP hD hS => ?_)
      obtain ⟨S_8, eS_8⟩ : ∃ z9 : Ss, z9 = row S 20 (upd (S 20) j v_7) := ⟨_, rfl⟩
      rw [xb_set (by omega) 6 (by decide)] at hP hD
      have hP : va_P (dC, dI) vwCl (XW ad ca S_8) H := by rw [eS_8]; exact hP
      have hD : va_D A (XW ad ca S_8) := by rw [eS_8]; exact hD
      refine lv_aload_n hx hb dBl_work_66 rfl (lv_at hl 0 rfl) ?_
      refine lv_iload_n hx hb dBl_work_67 rfl (lv_at hl 1 rfl) ?_
      refine lv_iconst (v := 1) hx hb dBl_work_68 (by decide +kernel) ?_
      refine lv_icmp_ne (tgt := 87) hx hb dBl_work_69 (by decide) (fun c_8 => ?_) (fun c_8 => ?_)
      · exact absurd c_1 c_8
      · refine lv_aload_n hx hb dBl_work_72 rfl (lv_at hl 0 rfl) ?_
        refine va_get (D := (dC, dI)) (ci := 2) (v := .int (S_8 20 j)) (C := RBl) (T := TBl) (N := 8) hx hb hc inBl hown hK hP (18 + j) (xb_cell (by omega)) rfl 6 (by decide) (hc _ w91) (fun _ h9 => h9) rfl dBl_work_73 ?_
        refine lv_aload_n hx hb dBl_work_76 rfl (lv_at hl 0 rfl) ?_
        refine va_get (D := (dC, dI)) (ci := 2) (v := .int (S_8 15 j)) (C := RBl) (T := TBl) (N := 8) hx hb hc inBl hown hK hP (18 + j) (xb_cell (by omega)) rfl 1 (by decide) (hc _ w83) (fun _ h9 => h9) rfl dBl_work_77 ?_
        refine lv_icmp_ne (tgt := 87) hx hb dBl_work_80 (by decide) (fun c_9 => ?_) (fun c_9 => ?_)
        · refine lv_iconst (v := 0) hx hb dBl_work_87 (by decide +kernel) ?_
          refine va_put (D := (dC, dI)) (ci := 2) (v := .int 0) (ty := .int) (C := RBl) (T := TBl) (N := 8) hx hb hc inBl tyBl tyBl_ok nmBl hown hK hP hD hS (18 + j) (xb_cell (by omega)) rfl 5 (by decide) (hc _ w89) (fun _ h9 => h9) rfl (by decide +kernel) rfl rfl (Nat.le_of_ble_eq_true rfl) dBl_work_88 (fun H locs hP hD hS => ?_)
          obtain ⟨S_11, eS_11⟩ : ∃ z9 : Ss, z9 = row S_8 19 (upd (S_8 19) j 0) := ⟨_, rfl⟩
          rw [xb_set (by omega) 5 (by decide)] at hP hD
          have hP : va_P (dC, dI) vwCl (XW ad ca S_11) H := by rw [eS_11]; exact hP
          have hD : va_D A (XW ad ca S_11) := by rw [eS_11]; exact hD
          refine lv_goto (tgt := 259) hx hb dBl_work_91 (by decide) ?_
          refine lv_aload_n hx hb dBl_work_259 rfl (lv_at hl 0 rfl) ?_
          refine lv_iload_n hx hb dBl_work_260 rfl (lv_at hl 1 rfl) ?_
          refine va_put (D := (dC, dI)) (ci := 2) (v := .int x) (ty := .int) (C := RBl) (T := TBl) (N := 8) hx hb hc inBl tyBl tyBl_ok nmBl hown hK hP hD hS (18 + j) (xb_cell (by omega)) rfl 7 (by decide) (hc _ w93) (fun _ h9 => h9) rfl (by decide +kernel) rfl rfl (Nat.le_of_ble_eq_true rfl) dBl_work_261 (fun H locs hP hD hS => ?_)
          obtain ⟨S_12, eS_12⟩ : ∃ z9 : Ss, z9 = row S_11 21 (upd (S_11 21) j x) := ⟨_, rfl⟩
          rw [xb_set (by omega) 7 (by decide)] at hP hD
          have hP : va_P (dC, dI) vwCl (XW ad ca S_12) H := by rw [eS_12]; exact hP
          have hD : va_D A (XW ad ca S_12) := by rw [eS_12]; exact hD
          refine lv_aload_n hx hb dBl_work_264 rfl (lv_at hl 0 rfl) ?_
          refine va_get (D := (dC, dI)) (ci := 2) (v := .int (S_12 19 j)) (C := RBl) (T := TBl) (N := 8) hx hb hc inBl hown hK hP (18 + j) (xb_cell (by omega)) rfl 5 (by decide) (hc _ w89) (fun _ h9 => h9) rfl dBl_work_265 ?_
          exact W.iret (v := (S_12 19 j)) hx hb hr (fun t ht hW => ⟨⟨_, S_12, rfl, (by (try dsimp only); exact (by subst S_12; subst S_11; subst S_8; subst v_7; have hC : (if S 15 j < S 20 j + 1 then S 15 j else S 20 j + 1) = cntB S j x := (by unfold cntB; rw [if_pos w_0, if_pos c_1]; exact mn_eq hc9 (hp9 (Or.inl w_0))); have hO : (0 : Int32) = outB S j x := (by unfold outB; rw [if_pos w_0, ← hC]; exact (b2_f (fun h => c_9 ((pk_us (f := S 20) (k := j) (x := (if S 15 j < S 20 j + 1 then S 15 j else S 20 j + 1))).trans h.2))).symm); exact ⟨(show upd (S 19) j 0 j = outB S j x from pk_us.trans hO), bw_0 (n5 (Or.inl w_0)) hC hO⟩)), by rw [ht]; exact hP, va_K.moved hW.alike hK, hD⟩, hS.F ht⟩) hS.2.2 dBl_work_268
        · refine lv_iconst (v := 1) hx hb dBl_work_83 (by decide +kernel) ?_
          refine lv_goto (tgt := 88) hx hb dBl_work_84 (by decide) ?_
          refine va_put (D := (dC, dI)) (ci := 2) (v := .int 1) (ty := .int) (C := RBl) (T := TBl) (N := 8) hx hb hc inBl tyBl tyBl_ok nmBl hown hK hP hD hS (18 + j) (xb_cell (by omega)) rfl 5 (by decide) (hc _ w89) (fun _ h9 => h9) rfl (by decide +kernel) rfl rfl (Nat.le_of_ble_eq_true rfl) dBl_work_88 (fun H locs hP hD hS => ?_)
          obtain ⟨S_13, eS_13⟩ : ∃ z9 : Ss, z9 = row S_8 19 (upd (S_8 19) j 1) := ⟨_, rfl⟩
          rw [xb_set (by omega) 5 (by decide)] at hP hD
          have hP : va_P (dC, dI) vwCl (XW ad ca S_13) H := by rw [eS_13]; exact hP
          have hD : va_D A (XW ad ca S_13) := by rw [eS_13]; exact hD
          refine lv_goto (tgt := 259) hx hb dBl_work_91 (by decide) ?_
          refine lv_aload_n hx hb dBl_work_259 rfl (lv_at hl 0 rfl) ?_
          refine lv_iload_n hx hb dBl_work_260 rfl (lv_at hl 1 rfl) ?_
          refine va_put (D := (dC, dI)) (ci := 2) (v := .int x) (ty := .int) (C := RBl) (T := TBl) (N := 8) hx hb hc inBl tyBl tyBl_ok nmBl hown hK hP hD hS (18 + j) (xb_cell (by omega)) rfl 7 (by decide) (hc _ w93) (fun _ h9 => h9) rfl (by decide +kernel) rfl rfl (Nat.le_of_ble_eq_true rfl) dBl_work_261 (fun H locs hP hD hS => ?_)
          obtain ⟨S_14, eS_14⟩ : ∃ z9 : Ss, z9 = row S_13 21 (upd (S_13 21) j x) := ⟨_, rfl⟩
          rw [xb_set (by omega) 7 (by decide)] at hP hD
          have hP : va_P (dC, dI) vwCl (XW ad ca S_14) H := by rw [eS_14]; exact hP
          have hD : va_D A (XW ad ca S_14) := by rw [eS_14]; exact hD
          refine lv_aload_n hx hb dBl_work_264 rfl (lv_at hl 0 rfl) ?_
          refine va_get (D := (dC, dI)) (ci := 2) (v := .int (S_14 19 j)) (C := RBl) (T := TBl) (N := 8) hx hb hc inBl hown hK hP (18 + j) (xb_cell (by omega)) rfl 5 (by decide) (hc _ w89) (fun _ h9 => h9) rfl dBl_work_265 ?_
          exact W.iret (v := (S_14 19 j)) hx hb hr (fun t ht hW => ⟨⟨_, S_14, rfl, (by (try dsimp only); exact (by subst S_14; subst S_13; subst S_8; subst v_7; have hC : (if S 15 j < S 20 j + 1 then S 15 j else S 20 j + 1) = cntB S j x := (by unfold cntB; rw [if_pos w_0, if_pos c_1]; exact mn_eq hc9 (hp9 (Or.inl w_0))); have hO : (1 : Int32) = outB S j x := (by unfold outB; rw [if_pos w_0, ← hC]; exact (b2_t ⟨c_1, (pk_us (f := S 20) (k := j) (x := (if S 15 j < S 20 j + 1 then S 15 j else S 20 j + 1))).symm.trans c_9⟩).symm); exact ⟨(show upd (S 19) j 1 j = outB S j x from pk_us.trans hO), bw_0 (n5 (Or.inl w_0)) hC hO⟩)), by rw [ht]; exact hP, va_K.moved hW.alike hK, hD⟩, hS.F ht⟩) hS.2.2 dBl_work_268
  by_cases w_14 : S 14 j = 1
  · refine lv_tableIn (tgt := 94) hx hb dBl_work_4 (by rw [w_14]; decide) (by rw [w_14]; decide) (by rw [w_14]; rfl) (by decide) ?_
    refine lv_aload_n hx hb dBl_work_94 rfl (lv_at hl 0 rfl) ?_
    refine lv_iload_n hx hb dBl_work_95 rfl (lv_at hl 1 rfl) ?_
    refine lv_iconst (v := 1) hx hb dBl_work_96 (by decide +kernel) ?_
    refine lv_icmp_ne (tgt := 107) hx hb dBl_work_97 (by decide) (fun c_15 => ?_) (fun c_15 => ?_)
    · refine lv_aload_n hx hb dBl_work_107 rfl (lv_at hl 0 rfl) ?_
      refine va_get (D := (dC, dI)) (ci := 2) (v := .int (S 20 j)) (C := RBl) (T := TBl) (N := 8) hx hb hc inBl hown hK hP (18 + j) (xb_cell (by omega)) rfl 6 (by decide) (hc _ w91) (fun _ h9 => h9) rfl dBl_work_108 ?_
      refine lv_iconst (v := 1) hx hb dBl_work_111 (by decide +kernel) ?_
      refine lv_isub hx hb dBl_work_112 ?_
      refine lv_iconst (v := 0) hx hb dBl_work_113 (by decide +kernel) ?_
      refine va_mmax hx hb (by rw [hml]; exact hl.1.symm) hown (hc _ w443) (hc _ w444) (hc _ w14) (hc _ w445) (Nat.le_of_ble_eq_true rfl) (Nat.le_of_ble_eq_true rfl) (Nat.zero_le _) (Nat.zero_le _) dBl_work_114 ?_
      refine lv_topi (fun v_17 ev_17 => ?_)
      refine va_put (D := (dC, dI)) (ci := 2) (v := .int v_17) (ty := .int) (C := RBl) (T := TBl) (N := 8) hx hb hc inBl tyBl tyBl_ok nmBl hown hK hP hD hS (18 + j) (xb_cell (by omega)) rfl 6 (by decide) (hc _ w91) (fun _ h9 => h9) rfl (by decide +kernel) rfl rfl (Nat.le_of_ble_eq_true rfl) dBl_work_117 (fun H locs hP hD hS => ?_)
      obtain ⟨S_18, eS_18⟩ : ∃ z9 : Ss, z9 = row S 20 (upd (S 20) j v_17) := ⟨_, rfl⟩
      rw [xb_set (by omega) 6 (by decide)] at hP hD
      have hP : va_P (dC, dI) vwCl (XW ad ca S_18) H := by rw [eS_18]; exact hP
      have hD : va_D A (XW ad ca S_18) := by rw [eS_18]; exact hD
      refine lv_aload_n hx hb dBl_work_120 rfl (lv_at hl 0 rfl) ?_
      refine lv_aload_n hx hb dBl_work_121 rfl (lv_at hl 0 rfl) ?_
      refine va_get (D := (dC, dI)) (ci := 2) (v := .int (S_18 20 j)) (C := RBl) (T := TBl) (N := 8) hx hb hc inBl hown hK hP (18 + j) (xb_cell (by omega)) rfl 6 (by decide) (hc _ w91) (fun _ h9 => h9) rfl dBl_work_122 ?_
      refine lv_if_le (tgt := 132) hx hb dBl_work_125 (by decide) (fun c_18 => ?_) (fun c_18 => ?_)
      · refine lv_iconst (v := 0) hx hb dBl_work_132 (by decide +kernel) ?_
        refine va_put (D := (dC, dI)) (ci := 2) (v := .int 0) (ty := .int) (C := RBl) (T := TBl) (N := 8) hx hb hc inBl tyBl tyBl_ok nmBl hown hK hP hD hS (18 + j) (xb_cell (by omega)) rfl 5 (by decide) (hc _ w89) (fun _ h9 => h9) rfl (by decide +kernel) rfl rfl (Nat.le_of_ble_eq_true rfl) dBl_work_133 (fun H locs hP hD hS => ?_)
        obtain ⟨S_20, eS_20⟩ : ∃ z9 : Ss, z9 = row S_18 19 (upd (S_18 19) j 0) := ⟨_, rfl⟩
        rw [xb_set (by omega) 5 (by decide)] at hP hD
        have hP : va_P (dC, dI) vwCl (XW ad ca S_20) H := by rw [eS_20]; exact hP
        have hD : va_D A (XW ad ca S_20) := by rw [eS_20]; exact hD
        refine lv_goto (tgt := 259) hx hb dBl_work_136 (by decide) ?_
        refine lv_aload_n hx hb dBl_work_259 rfl (lv_at hl 0 rfl) ?_
        refine lv_iload_n hx hb dBl_work_260 rfl (lv_at hl 1 rfl) ?_
        refine va_put (D := (dC, dI)) (ci := 2) (v := .int x) (ty := .int) (C := RBl) (T := TBl) (N := 8) hx hb hc inBl tyBl tyBl_ok nmBl hown hK hP hD hS (18 + j) (xb_cell (by omega)) rfl 7 (by decide) (hc _ w93) (fun _ h9 => h9) rfl (by decide +kernel) rfl rfl (Nat.le_of_ble_eq_true rfl) dBl_work_261 (fun H locs hP hD hS => ?_)
        obtain ⟨S_21, eS_21⟩ : ∃ z9 : Ss, z9 = row S_20 21 (upd (S_20 21) j x) := ⟨_, rfl⟩
        rw [xb_set (by omega) 7 (by decide)] at hP hD
        have hP : va_P (dC, dI) vwCl (XW ad ca S_21) H := by rw [eS_21]; exact hP
        have hD : va_D A (XW ad ca S_21) := by rw [eS_21]; exact hD
        refine lv_aload_n hx hb dBl_work_264 rfl (lv_at hl 0 rfl) ?_
        refine va_get (D := (dC, dI)) (ci := 2) (v := .int (S_21 19 j)) (C := RBl) (T := TBl) (N := 8) hx hb hc inBl hown hK hP (18 + j) (xb_cell (by omega)) rfl 5 (by decide) (hc _ w89) (fun _ h9 => h9) rfl dBl_work_265 ?_
        exact W.iret (v := (S_21 19 j)) hx hb hr (fun t ht hW => ⟨⟨_, S_21, rfl, (by (try dsimp only); exact (by subst S_21; subst S_20; subst S_18; subst v_17; have hC : (if S 20 j - 1 < 0 then 0 else S 20 j - 1) = cntB S j x := (by unfold cntB; rw [if_neg w_0, if_pos w_14, if_neg c_15]; exact mx_eq hc9); have hO : (0 : Int32) = outB S j x := (by unfold outB; rw [if_neg w_0, if_pos w_14, ← hC]; exact (b2_f (Int32.not_lt.mpr (le_of_eq_of_le9 (pk_us (f := S 20) (k := j) (x := (if S 20 j - 1 < 0 then 0 else S 20 j - 1))).symm c_18))).symm); exact ⟨(show upd (S 19) j 0 j = outB S j x from pk_us.trans hO), bw_0 (n5 (Or.inr (Or.inl w_14))) hC hO⟩)), by rw [ht]; exact hP, va_K.moved hW.alike hK, hD⟩, hS.F ht⟩) hS.2.2 dBl_work_268
      · refine lv_iconst (v := 1) hx hb dBl_work_128 (by decide +kernel) ?_
        refine lv_goto (tgt := 133) hx hb dBl_work_129 (by decide) ?_
        refine va_put (D := (dC, dI)) (ci := 2) (v := .int 1) (ty := .int) (C := RBl) (T := TBl) (N := 8) hx hb hc inBl tyBl tyBl_ok nmBl hown hK hP hD hS (18 + j) (xb_cell (by omega)) rfl 5 (by decide) (hc _ w89) (fun _ h9 => h9) rfl (by decide +kernel) rfl rfl (Nat.le_of_ble_eq_true rfl) dBl_work_133 (fun H locs hP hD hS => ?_)
        obtain ⟨S_22, eS_22⟩ : ∃ z9 : Ss, z9 = row S_18 19 (upd (S_18 19) j 1) := ⟨_, rfl⟩
        rw [xb_set (by omega) 5 (by decide)] at hP hD
        have hP : va_P (dC, dI) vwCl (XW ad ca S_22) H := by rw [eS_22]; exact hP
        have hD : va_D A (XW ad ca S_22) := by rw [eS_22]; exact hD
        refine lv_goto (tgt := 259) hx hb dBl_work_136 (by decide) ?_
        refine lv_aload_n hx hb dBl_work_259 rfl (lv_at hl 0 rfl) ?_
        refine lv_iload_n hx hb dBl_work_260 rfl (lv_at hl 1 rfl) ?_
        refine va_put (D := (dC, dI)) (ci := 2) (v := .int x) (ty := .int) (C := RBl) (T := TBl) (N := 8) hx hb hc inBl tyBl tyBl_ok nmBl hown hK hP hD hS (18 + j) (xb_cell (by omega)) rfl 7 (by decide) (hc _ w93) (fun _ h9 => h9) rfl (by decide +kernel) rfl rfl (Nat.le_of_ble_eq_true rfl) dBl_work_261 (fun H locs hP hD hS => ?_)
        obtain ⟨S_23, eS_23⟩ : ∃ z9 : Ss, z9 = row S_22 21 (upd (S_22 21) j x) := ⟨_, rfl⟩
        rw [xb_set (by omega) 7 (by decide)] at hP hD
        have hP : va_P (dC, dI) vwCl (XW ad ca S_23) H := by rw [eS_23]; exact hP
        have hD : va_D A (XW ad ca S_23) := by rw [eS_23]; exact hD
        refine lv_aload_n hx hb dBl_work_264 rfl (lv_at hl 0 rfl) ?_
        refine va_get (D := (dC, dI)) (ci := 2) (v := .int (S_23 19 j)) (C := RBl) (T := TBl) (N := 8) hx hb hc inBl hown hK hP (18 + j) (xb_cell (by omega)) rfl 5 (by decide) (hc _ w89) (fun _ h9 => h9) rfl dBl_work_265 ?_
        exact W.iret (v := (S_23 19 j)) hx hb hr (fun t ht hW => ⟨⟨_, S_23, rfl, (by (try dsimp only); exact (by subst S_23; subst S_22; subst S_18; subst v_17; have hC : (if S 20 j - 1 < 0 then 0 else S 20 j - 1) = cntB S j x := (by unfold cntB; rw [if_neg w_0, if_pos w_14, if_neg c_15]; exact mx_eq hc9); have hO : (1 : Int32) = outB S j x := (by unfold outB; rw [if_neg w_0, if_pos w_14, ← hC]; exact (b2_t (Int32.not_le.mp (fun h => c_18 (le_of_eq_of_le9 (pk_us (f := S 20) (k := j) (x := (if S 20 j - 1 < 0 then 0 else S 20 j - 1))) h)))).symm); exact ⟨(show upd (S 19) j 1 j = outB S j x from pk_us.trans hO), bw_0 (n5 (Or.inr (Or.inl w_14))) hC hO⟩)), by rw [ht]; exact hP, va_K.moved hW.alike hK, hD⟩, hS.F ht⟩) hS.2.2 dBl_work_268
    · refine lv_aload_n hx hb dBl_work_100 rfl (lv_at hl 0 rfl) ?_
      refine va_get (D := (dC, dI)) (ci := 2) (v := .int (S 15 j)) (C := RBl) (T := TBl) (N := 8) hx hb hc inBl hown hK hP (18 + j) (xb_cell (by omega)) rfl 1 (by decide) (hc _ w83) (fun _ h9 => h9) rfl dBl_work_101 ?_
      refine lv_goto (tgt := 117) hx hb dBl_work_104 (by decide) ?_
      refine va_put (D := (dC, dI)) (ci := 2) (v := .int (S 15 j)) (ty := .int) (C := RBl) (T := TBl) (N := 8) hx hb hc inBl tyBl tyBl_ok nmBl hown hK hP hD hS (18 + j) (xb_cell (by omega)) rfl 6 (by decide) (hc _ w91) (fun _ h9 => h9) rfl (by decide +kernel) rfl rfl (Nat.le_of_ble_eq_true rfl) dBl_work_117 (fun H locs hP hD hS => ?_)
      obtain ⟨S_24, eS_24⟩ : ∃ z9 : Ss, z9 = row S 20 (upd (S 20) j (S 15 j)) := ⟨_, rfl⟩
      rw [xb_set (by omega) 6 (by decide)] at hP hD
      have hP : va_P (dC, dI) vwCl (XW ad ca S_24) H := by rw [eS_24]; exact hP
      have hD : va_D A (XW ad ca S_24) := by rw [eS_24]; exact hD
      refine lv_aload_n hx hb dBl_work_120 rfl (lv_at hl 0 rfl) ?_
      refine lv_aload_n hx hb dBl_work_121 rfl (lv_at hl 0 rfl) ?_
      refine va_get (D := (dC, dI)) (ci := 2) (v := .int (S_24 20 j)) (C := RBl) (T := TBl) (N := 8) hx hb hc inBl hown hK hP (18 + j) (xb_cell (by omega)) rfl 6 (by decide) (hc _ w91) (fun _ h9 => h9) rfl dBl_work_122 ?_
      refine lv_if_le (tgt := 132) hx hb dBl_work_125 (by decide) (fun c_24 => ?_) (fun c_24 => ?_)
      · refine lv_iconst (v := 0) hx hb dBl_work_132 (by decide +kernel) ?_
        refine va_put (D := (dC, dI)) (ci := 2) (v := .int 0) (ty := .int) (C := RBl) (T := TBl) (N := 8) hx hb hc inBl tyBl tyBl_ok nmBl hown hK hP hD hS (18 + j) (xb_cell (by omega)) rfl 5 (by decide) (hc _ w89) (fun _ h9 => h9) rfl (by decide +kernel) rfl rfl (Nat.le_of_ble_eq_true rfl) dBl_work_133 (fun H locs hP hD hS => ?_)
        obtain ⟨S_26, eS_26⟩ : ∃ z9 : Ss, z9 = row S_24 19 (upd (S_24 19) j 0) := ⟨_, rfl⟩
        rw [xb_set (by omega) 5 (by decide)] at hP hD
        have hP : va_P (dC, dI) vwCl (XW ad ca S_26) H := by rw [eS_26]; exact hP
        have hD : va_D A (XW ad ca S_26) := by rw [eS_26]; exact hD
        refine lv_goto (tgt := 259) hx hb dBl_work_136 (by decide) ?_
        refine lv_aload_n hx hb dBl_work_259 rfl (lv_at hl 0 rfl) ?_
        refine lv_iload_n hx hb dBl_work_260 rfl (lv_at hl 1 rfl) ?_
        refine va_put (D := (dC, dI)) (ci := 2) (v := .int x) (ty := .int) (C := RBl) (T := TBl) (N := 8) hx hb hc inBl tyBl tyBl_ok nmBl hown hK hP hD hS (18 + j) (xb_cell (by omega)) rfl 7 (by decide) (hc _ w93) (fun _ h9 => h9) rfl (by decide +kernel) rfl rfl (Nat.le_of_ble_eq_true rfl) dBl_work_261 (fun H locs hP hD hS => ?_)
        obtain ⟨S_27, eS_27⟩ : ∃ z9 : Ss, z9 = row S_26 21 (upd (S_26 21) j x) := ⟨_, rfl⟩
        rw [xb_set (by omega) 7 (by decide)] at hP hD
        have hP : va_P (dC, dI) vwCl (XW ad ca S_27) H := by rw [eS_27]; exact hP
        have hD : va_D A (XW ad ca S_27) := by rw [eS_27]; exact hD
        refine lv_aload_n hx hb dBl_work_264 rfl (lv_at hl 0 rfl) ?_
        refine va_get (D := (dC, dI)) (ci := 2) (v := .int (S_27 19 j)) (C := RBl) (T := TBl) (N := 8) hx hb hc inBl hown hK hP (18 + j) (xb_cell (by omega)) rfl 5 (by decide) (hc _ w89) (fun _ h9 => h9) rfl dBl_work_265 ?_
        exact W.iret (v := (S_27 19 j)) hx hb hr (fun t ht hW => ⟨⟨_, S_27, rfl, (by (try dsimp only); exact (by subst S_27; subst S_26; subst S_24; have hC : (S 15 j) = cntB S j x := (by unfold cntB; rw [if_neg w_0, if_pos w_14, if_pos c_15]); have hO : (0 : Int32) = outB S j x := (by unfold outB; rw [if_neg w_0, if_pos w_14, ← hC]; exact (b2_f (Int32.not_lt.mpr (le_of_eq_of_le9 (pk_us (f := S 20) (k := j) (x := (S 15 j))).symm c_24))).symm); exact ⟨(show upd (S 19) j 0 j = outB S j x from pk_us.trans hO), bw_0 (n5 (Or.inr (Or.inl w_14))) hC hO⟩)), by rw [ht]; exact hP, va_K.moved hW.alike hK, hD⟩, hS.F ht⟩) hS.2.2 dBl_work_268
      · refine lv_iconst (v := 1) hx hb dBl_work_128 (by decide +kernel) ?_
        refine lv_goto (tgt := 133) hx hb dBl_work_129 (by decide) ?_
        refine va_put (D := (dC, dI)) (ci := 2) (v := .int 1) (ty := .int) (C := RBl) (T := TBl) (N := 8) hx hb hc inBl tyBl tyBl_ok nmBl hown hK hP hD hS (18 + j) (xb_cell (by omega)) rfl 5 (by decide) (hc _ w89) (fun _ h9 => h9) rfl (by decide +kernel) rfl rfl (Nat.le_of_ble_eq_true rfl) dBl_work_133 (fun H locs hP hD hS => ?_)
        obtain ⟨S_28, eS_28⟩ : ∃ z9 : Ss, z9 = row S_24 19 (upd (S_24 19) j 1) := ⟨_, rfl⟩
        rw [xb_set (by omega) 5 (by decide)] at hP hD
        have hP : va_P (dC, dI) vwCl (XW ad ca S_28) H := by rw [eS_28]; exact hP
        have hD : va_D A (XW ad ca S_28) := by rw [eS_28]; exact hD
        refine lv_goto (tgt := 259) hx hb dBl_work_136 (by decide) ?_
        refine lv_aload_n hx hb dBl_work_259 rfl (lv_at hl 0 rfl) ?_
        refine lv_iload_n hx hb dBl_work_260 rfl (lv_at hl 1 rfl) ?_
        refine va_put (D := (dC, dI)) (ci := 2) (v := .int x) (ty := .int) (C := RBl) (T := TBl) (N := 8) hx hb hc inBl tyBl tyBl_ok nmBl hown hK hP hD hS (18 + j) (xb_cell (by omega)) rfl 7 (by decide) (hc _ w93) (fun _ h9 => h9) rfl (by decide +kernel) rfl rfl (Nat.le_of_ble_eq_true rfl) dBl_work_261 (fun H locs hP hD hS => ?_)
        obtain ⟨S_29, eS_29⟩ : ∃ z9 : Ss, z9 = row S_28 21 (upd (S_28 21) j x) := ⟨_, rfl⟩
        rw [xb_set (by omega) 7 (by decide)] at hP hD
        have hP : va_P (dC, dI) vwCl (XW ad ca S_29) H := by rw [eS_29]; exact hP
        have hD : va_D A (XW ad ca S_29) := by rw [eS_29]; exact hD
        refine lv_aload_n hx hb dBl_work_264 rfl (lv_at hl 0 rfl) ?_
        refine va_get (D := (dC, dI)) (ci := 2) (v := .int (S_29 19 j)) (C := RBl) (T := TBl) (N := 8) hx hb hc inBl hown hK hP (18 + j) (xb_cell (by omega)) rfl 5 (by decide) (hc _ w89) (fun _ h9 => h9) rfl dBl_work_265 ?_
        exact W.iret (v := (S_29 19 j)) hx hb hr (fun t ht hW => ⟨⟨_, S_29, rfl, (by (try dsimp only); exact (by subst S_29; subst S_28; subst S_24; have hC : (S 15 j) = cntB S j x := (by unfold cntB; rw [if_neg w_0, if_pos w_14, if_pos c_15]); have hO : (1 : Int32) = outB S j x := (by unfold outB; rw [if_neg w_0, if_pos w_14, ← hC]; exact (b2_t (Int32.not_le.mp (fun h => c_24 (le_of_eq_of_le9 (pk_us (f := S 20) (k := j) (x := (S 15 j))) h)))).symm); exact ⟨(show upd (S 19) j 1 j = outB S j x from pk_us.trans hO), bw_0 (n5 (Or.inr (Or.inl w_14))) hC hO⟩)), by rw [ht]; exact hP, va_K.moved hW.alike hK, hD⟩, hS.F ht⟩) hS.2.2 dBl_work_268
  by_cases w_29 : S 14 j = 2
  · refine lv_tableIn (tgt := 139) hx hb dBl_work_4 (by rw [w_29]; decide) (by rw [w_29]; decide) (by rw [w_29]; rfl) (by decide) ?_
    refine lv_aload_n hx hb dBl_work_139 rfl (lv_at hl 0 rfl) ?_
    refine lv_aload_n hx hb dBl_work_140 rfl (lv_at hl 0 rfl) ?_
    refine lv_iload_n hx hb dBl_work_141 rfl (lv_at hl 1 rfl) ?_
    refine lv_aload_n hx hb dBl_work_142 rfl (lv_at hl 2 rfl) ?_
    refine lv_aload_n hx hb dBl_work_143 rfl (lv_at hl 0 rfl) ?_
    refine va_get (D := (dC, dI)) (ci := 2) (v := .int (S 16 j)) (C := RBl) (T := TBl) (N := 8) hx hb hc inBl hown hK hP (18 + j) (xb_cell (by omega)) rfl 2 (by decide) (hc _ w84) (fun _ h9 => h9) rfl dBl_work_144 ?_
    obtain ⟨hq20, hq21⟩ := hq2 w_29
    refine W.eq (g2 := F0 m 147 ls [.int (nI q0), .ref (ad 1), .int x, .ref (ad (18 + j)), .ref (ad (18 + j))]) (by rw [hq21]) ?_
    refine vp_callSi (va_Run.run (va_runV (As := [.int (nI q0)]) (rest := [.int x, .ref (ad (18 + j)), .ref (ad (18 + j))]) ⟨hx, hb, hml, hown, hc⟩ (cMe_read l dC dI ad ca s.heap.size S q0 (by omega)) (cwV 1 hc (gV w446 w447 w448 w2 qMe_read) rfl rfl rfl (by decide +kernel) ⟨Nat.le_of_ble_eq_true rfl, Nat.le_of_ble_eq_true rfl⟩) ⟨gPre_blind, va_recv hK hP (ci := 1) (q0 := 1) rfl rfl, (gPre_in hP hK hD)⟩ rfl rfl hl.1 rfl (lv_room (Nat.le_of_ble_eq_true rfl)) dBl_work_147 ⟨Nat.zero_le _, Nat.zero_le _⟩)) (fun r_31 hr_31 => ?_)
    refine vp_callSi (va_Run.run (va_runV (As := [.int x, .int r_31]) (rest := [.ref (ad (18 + j))]) ⟨hx, hb, hml, hown, hc⟩ (cBl_countWith l dC dI ad ca s.heap.size S j (by omega) x r_31) (cwV 2 hc (gV w450 w452 s6 w4 qBl_countWith) rfl rfl rfl (by decide +kernel) ⟨Nat.le_of_ble_eq_true rfl, Nat.le_of_ble_eq_true rfl⟩) ⟨gPre_blind, va_recv hK hP (ci := 2) (q0 := (18 + j)) rfl (xb_cell (by omega)), (gPre_in hP hK hD)⟩ rfl rfl hl.1 rfl (lv_room (Nat.le_of_ble_eq_true rfl)) dBl_work_150 ⟨Nat.zero_le _, Nat.zero_le _⟩)) (fun r_32 hr_32 => ?_)
    refine va_put (D := (dC, dI)) (ci := 2) (v := .int r_32) (ty := .int) (C := RBl) (T := TBl) (N := 8) hx hb hc inBl tyBl tyBl_ok nmBl hown hK hP hD hS (18 + j) (xb_cell (by omega)) rfl 6 (by decide) (hc _ w91) (fun _ h9 => h9) rfl (by decide +kernel) rfl rfl (Nat.le_of_ble_eq_true rfl) dBl_work_153 (fun H locs hP hD hS => ?_)
    obtain ⟨S_33, eS_33⟩ : ∃ z9 : Ss, z9 = row S 20 (upd (S 20) j r_32) := ⟨_, rfl⟩
    rw [xb_set (by omega) 6 (by decide)] at hP hD
    have hP : va_P (dC, dI) vwCl (XW ad ca S_33) H := by rw [eS_33]; exact hP
    have hD : va_D A (XW ad ca S_33) := by rw [eS_33]; exact hD
    refine lv_aload_n hx hb dBl_work_156 rfl (lv_at hl 0 rfl) ?_
    refine lv_aload_n hx hb dBl_work_157 rfl (lv_at hl 0 rfl) ?_
    refine va_get (D := (dC, dI)) (ci := 2) (v := .int (S_33 20 j)) (C := RBl) (T := TBl) (N := 8) hx hb hc inBl hown hK hP (18 + j) (xb_cell (by omega)) rfl 6 (by decide) (hc _ w91) (fun _ h9 => h9) rfl dBl_work_158 ?_
    refine lv_aload_n hx hb dBl_work_161 rfl (lv_at hl 0 rfl) ?_
    refine va_get (D := (dC, dI)) (ci := 2) (v := .int (S_33 15 j)) (C := RBl) (T := TBl) (N := 8) hx hb hc inBl hown hK hP (18 + j) (xb_cell (by omega)) rfl 1 (by decide) (hc _ w83) (fun _ h9 => h9) rfl dBl_work_162 ?_
    refine lv_icmp_ne (tgt := 172) hx hb dBl_work_165 (by decide) (fun c_33 => ?_) (fun c_33 => ?_)
    · refine lv_iconst (v := 0) hx hb dBl_work_172 (by decide +kernel) ?_
      refine va_put (D := (dC, dI)) (ci := 2) (v := .int 0) (ty := .int) (C := RBl) (T := TBl) (N := 8) hx hb hc inBl tyBl tyBl_ok nmBl hown hK hP hD hS (18 + j) (xb_cell (by omega)) rfl 5 (by decide) (hc _ w89) (fun _ h9 => h9) rfl (by decide +kernel) rfl rfl (Nat.le_of_ble_eq_true rfl) dBl_work_173 (fun H locs hP hD hS => ?_)
      obtain ⟨S_35, eS_35⟩ : ∃ z9 : Ss, z9 = row S_33 19 (upd (S_33 19) j 0) := ⟨_, rfl⟩
      rw [xb_set (by omega) 5 (by decide)] at hP hD
      have hP : va_P (dC, dI) vwCl (XW ad ca S_35) H := by rw [eS_35]; exact hP
      have hD : va_D A (XW ad ca S_35) := by rw [eS_35]; exact hD
      refine lv_goto (tgt := 259) hx hb dBl_work_176 (by decide) ?_
      refine lv_aload_n hx hb dBl_work_259 rfl (lv_at hl 0 rfl) ?_
      refine lv_iload_n hx hb dBl_work_260 rfl (lv_at hl 1 rfl) ?_
      refine va_put (D := (dC, dI)) (ci := 2) (v := .int x) (ty := .int) (C := RBl) (T := TBl) (N := 8) hx hb hc inBl tyBl tyBl_ok nmBl hown hK hP hD hS (18 + j) (xb_cell (by omega)) rfl 7 (by decide) (hc _ w93) (fun _ h9 => h9) rfl (by decide +kernel) rfl rfl (Nat.le_of_ble_eq_true rfl) dBl_work_261 (fun H locs hP hD hS => ?_)
      obtain ⟨S_36, eS_36⟩ : ∃ z9 : Ss, z9 = row S_35 21 (upd (S_35 21) j x) := ⟨_, rfl⟩
      rw [xb_set (by omega) 7 (by decide)] at hP hD
      have hP : va_P (dC, dI) vwCl (XW ad ca S_36) H := by rw [eS_36]; exact hP
      have hD : va_D A (XW ad ca S_36) := by rw [eS_36]; exact hD
      refine lv_aload_n hx hb dBl_work_264 rfl (lv_at hl 0 rfl) ?_
      refine va_get (D := (dC, dI)) (ci := 2) (v := .int (S_36 19 j)) (C := RBl) (T := TBl) (N := 8) hx hb hc inBl hown hK hP (18 + j) (xb_cell (by omega)) rfl 5 (by decide) (hc _ w89) (fun _ h9 => h9) rfl dBl_work_265 ?_
      exact W.iret (v := (S_36 19 j)) hx hb hr (fun t ht hW => ⟨⟨_, S_36, rfl, (by (try dsimp only); exact (by subst S_36; subst S_35; subst S_33; subst r_32; subst r_31; have hC : (if rd S q0 = 1 then 0 else if x = 1 ∧ S 21 j = 0 then (if S 15 j < S 20 j + 1 then S 15 j else S 20 j + 1) else S 20 j) = cntB S j x := (by unfold cntB; rw [if_neg w_0, if_neg w_14, if_pos w_29, hq21, nI_clamp (by omega), mn_eq hc9 (hp9 (Or.inr (Or.inr w_29)))]); have hO : (0 : Int32) = outB S j x := (by unfold outB; rw [if_neg w_0, if_neg w_14, if_pos w_29, ← hC]; exact (b2_f (fun h => c_33 ((pk_us (f := S 20) (k := j) (x := (if rd S q0 = 1 then 0 else if x = 1 ∧ S 21 j = 0 then (if S 15 j < S 20 j + 1 then S 15 j else S 20 j + 1) else S 20 j))).trans h))).symm); exact ⟨(show upd (S 19) j 0 j = outB S j x from pk_us.trans hO), bw_0 (n5 (Or.inr (Or.inr (Or.inl w_29)))) hC hO⟩)), by rw [ht]; exact hP, va_K.moved hW.alike hK, hD⟩, hS.F ht⟩) hS.2.2 dBl_work_268
    · refine lv_iconst (v := 1) hx hb dBl_work_168 (by decide +kernel) ?_
      refine lv_goto (tgt := 173) hx hb dBl_work_169 (by decide) ?_
      refine va_put (D := (dC, dI)) (ci := 2) (v := .int 1) (ty := .int) (C := RBl) (T := TBl) (N := 8) hx hb hc inBl tyBl tyBl_ok nmBl hown hK hP hD hS (18 + j) (xb_cell (by omega)) rfl 5 (by decide) (hc _ w89) (fun _ h9 => h9) rfl (by decide +kernel) rfl rfl (Nat.le_of_ble_eq_true rfl) dBl_work_173 (fun H locs hP hD hS => ?_)
      obtain ⟨S_37, eS_37⟩ : ∃ z9 : Ss, z9 = row S_33 19 (upd (S_33 19) j 1) := ⟨_, rfl⟩
      rw [xb_set (by omega) 5 (by decide)] at hP hD
      have hP : va_P (dC, dI) vwCl (XW ad ca S_37) H := by rw [eS_37]; exact hP
      have hD : va_D A (XW ad ca S_37) := by rw [eS_37]; exact hD
      refine lv_goto (tgt := 259) hx hb dBl_work_176 (by decide) ?_
      refine lv_aload_n hx hb dBl_work_259 rfl (lv_at hl 0 rfl) ?_
      refine lv_iload_n hx hb dBl_work_260 rfl (lv_at hl 1 rfl) ?_
      refine va_put (D := (dC, dI)) (ci := 2) (v := .int x) (ty := .int) (C := RBl) (T := TBl) (N := 8) hx hb hc inBl tyBl tyBl_ok nmBl hown hK hP hD hS (18 + j) (xb_cell (by omega)) rfl 7 (by decide) (hc _ w93) (fun _ h9 => h9) rfl (by decide +kernel) rfl rfl (Nat.le_of_ble_eq_true rfl) dBl_work_261 (fun H locs hP hD hS => ?_)
      obtain ⟨S_38, eS_38⟩ : ∃ z9 : Ss, z9 = row S_37 21 (upd (S_37 21) j x) := ⟨_, rfl⟩
      rw [xb_set (by omega) 7 (by decide)] at hP hD
      have hP : va_P (dC, dI) vwCl (XW ad ca S_38) H := by rw [eS_38]; exact hP
      have hD : va_D A (XW ad ca S_38) := by rw [eS_38]; exact hD
      refine lv_aload_n hx hb dBl_work_264 rfl (lv_at hl 0 rfl) ?_
      refine va_get (D := (dC, dI)) (ci := 2) (v := .int (S_38 19 j)) (C := RBl) (T := TBl) (N := 8) hx hb hc inBl hown hK hP (18 + j) (xb_cell (by omega)) rfl 5 (by decide) (hc _ w89) (fun _ h9 => h9) rfl dBl_work_265 ?_
      exact W.iret (v := (S_38 19 j)) hx hb hr (fun t ht hW => ⟨⟨_, S_38, rfl, (by (try dsimp only); exact (by subst S_38; subst S_37; subst S_33; subst r_32; subst r_31; have hC : (if rd S q0 = 1 then 0 else if x = 1 ∧ S 21 j = 0 then (if S 15 j < S 20 j + 1 then S 15 j else S 20 j + 1) else S 20 j) = cntB S j x := (by unfold cntB; rw [if_neg w_0, if_neg w_14, if_pos w_29, hq21, nI_clamp (by omega), mn_eq hc9 (hp9 (Or.inr (Or.inr w_29)))]); have hO : (1 : Int32) = outB S j x := (by unfold outB; rw [if_neg w_0, if_neg w_14, if_pos w_29, ← hC]; exact (b2_t ((pk_us (f := S 20) (k := j) (x := (if rd S q0 = 1 then 0 else if x = 1 ∧ S 21 j = 0 then (if S 15 j < S 20 j + 1 then S 15 j else S 20 j + 1) else S 20 j))).symm.trans c_33)).symm); exact ⟨(show upd (S 19) j 1 j = outB S j x from pk_us.trans hO), bw_0 (n5 (Or.inr (Or.inr (Or.inl w_29)))) hC hO⟩)), by rw [ht]; exact hP, va_K.moved hW.alike hK, hD⟩, hS.F ht⟩) hS.2.2 dBl_work_268
  by_cases w_38 : S 14 j = 3
  · refine lv_tableIn (tgt := 179) hx hb dBl_work_4 (by rw [w_38]; decide) (by rw [w_38]; decide) (by rw [w_38]; rfl) (by decide) ?_
    refine lv_aload_n hx hb dBl_work_179 rfl (lv_at hl 0 rfl) ?_
    refine lv_iload_n hx hb dBl_work_180 rfl (lv_at hl 1 rfl) ?_
    refine lv_iconst (v := 1) hx hb dBl_work_181 (by decide +kernel) ?_
    refine lv_icmp_ne (tgt := 196) hx hb dBl_work_182 (by decide) (fun c_39 => ?_) (fun c_39 => ?_)
    · refine lv_iconst (v := 0) hx hb dBl_work_196 (by decide +kernel) ?_
      refine va_put (D := (dC, dI)) (ci := 2) (v := .int 0) (ty := .int) (C := RBl) (T := TBl) (N := 8) hx hb hc inBl tyBl tyBl_ok nmBl hown hK hP hD hS (18 + j) (xb_cell (by omega)) rfl 5 (by decide) (hc _ w89) (fun _ h9 => h9) rfl (by decide +kernel) rfl rfl (Nat.le_of_ble_eq_true rfl) dBl_work_197 (fun H locs hP hD hS => ?_)
      obtain ⟨S_41, eS_41⟩ : ∃ z9 : Ss, z9 = row S 19 (upd (S 19) j 0) := ⟨_, rfl⟩
      rw [xb_set (by omega) 5 (by decide)] at hP hD
      have hP : va_P (dC, dI) vwCl (XW ad ca S_41) H := by rw [eS_41]; exact hP
      have hD : va_D A (XW ad ca S_41) := by rw [eS_41]; exact hD
      refine lv_goto (tgt := 259) hx hb dBl_work_200 (by decide) ?_
      refine lv_aload_n hx hb dBl_work_259 rfl (lv_at hl 0 rfl) ?_
      refine lv_iload_n hx hb dBl_work_260 rfl (lv_at hl 1 rfl) ?_
      refine va_put (D := (dC, dI)) (ci := 2) (v := .int x) (ty := .int) (C := RBl) (T := TBl) (N := 8) hx hb hc inBl tyBl tyBl_ok nmBl hown hK hP hD hS (18 + j) (xb_cell (by omega)) rfl 7 (by decide) (hc _ w93) (fun _ h9 => h9) rfl (by decide +kernel) rfl rfl (Nat.le_of_ble_eq_true rfl) dBl_work_261 (fun H locs hP hD hS => ?_)
      obtain ⟨S_42, eS_42⟩ : ∃ z9 : Ss, z9 = row S_41 21 (upd (S_41 21) j x) := ⟨_, rfl⟩
      rw [xb_set (by omega) 7 (by decide)] at hP hD
      have hP : va_P (dC, dI) vwCl (XW ad ca S_42) H := by rw [eS_42]; exact hP
      have hD : va_D A (XW ad ca S_42) := by rw [eS_42]; exact hD
      refine lv_aload_n hx hb dBl_work_264 rfl (lv_at hl 0 rfl) ?_
      refine va_get (D := (dC, dI)) (ci := 2) (v := .int (S_42 19 j)) (C := RBl) (T := TBl) (N := 8) hx hb hc inBl hown hK hP (18 + j) (xb_cell (by omega)) rfl 5 (by decide) (hc _ w89) (fun _ h9 => h9) rfl dBl_work_265 ?_
      exact W.iret (v := (S_42 19 j)) hx hb hr (fun t ht hW => ⟨⟨_, S_42, rfl, (by (try dsimp only); exact (by subst S_42; subst S_41; have hC : S 20 j = cntB S j x := (by unfold cntB; rw [if_neg w_0, if_neg w_14, if_neg w_29]); have hO : (0 : Int32) = outB S j x := (by unfold outB; rw [if_neg w_0, if_neg w_14, if_neg w_29, if_pos w_38]; exact (b2_f (fun h => c_39 h.1)).symm); exact ⟨(show upd (S 19) j 0 j = outB S j x from pk_us.trans hO), bw_3 (fun h => n5 (Or.inr (Or.inr (Or.inr (Or.inl w_38)))) h.1) hC hO⟩)), by rw [ht]; exact hP, va_K.moved hW.alike hK, hD⟩, hS.F ht⟩) hS.2.2 dBl_work_268
    · refine lv_aload_n hx hb dBl_work_185 rfl (lv_at hl 0 rfl) ?_
      refine va_get (D := (dC, dI)) (ci := 2) (v := .int (S 21 j)) (C := RBl) (T := TBl) (N := 8) hx hb hc inBl hown hK hP (18 + j) (xb_cell (by omega)) rfl 7 (by decide) (hc _ w93) (fun _ h9 => h9) rfl dBl_work_186 ?_
      refine lv_if_ne (tgt := 196) hx hb dBl_work_189 (by decide) (fun c_42 => ?_) (fun c_42 => ?_)
      · refine lv_iconst (v := 0) hx hb dBl_work_196 (by decide +kernel) ?_
        refine va_put (D := (dC, dI)) (ci := 2) (v := .int 0) (ty := .int) (C := RBl) (T := TBl) (N := 8) hx hb hc inBl tyBl tyBl_ok nmBl hown hK hP hD hS (18 + j) (xb_cell (by omega)) rfl 5 (by decide) (hc _ w89) (fun _ h9 => h9) rfl (by decide +kernel) rfl rfl (Nat.le_of_ble_eq_true rfl) dBl_work_197 (fun H locs hP hD hS => ?_)
        obtain ⟨S_44, eS_44⟩ : ∃ z9 : Ss, z9 = row S 19 (upd (S 19) j 0) := ⟨_, rfl⟩
        rw [xb_set (by omega) 5 (by decide)] at hP hD
        have hP : va_P (dC, dI) vwCl (XW ad ca S_44) H := by rw [eS_44]; exact hP
        have hD : va_D A (XW ad ca S_44) := by rw [eS_44]; exact hD
        refine lv_goto (tgt := 259) hx hb dBl_work_200 (by decide) ?_
        refine lv_aload_n hx hb dBl_work_259 rfl (lv_at hl 0 rfl) ?_
        refine lv_iload_n hx hb dBl_work_260 rfl (lv_at hl 1 rfl) ?_
        refine va_put (D := (dC, dI)) (ci := 2) (v := .int x) (ty := .int) (C := RBl) (T := TBl) (N := 8) hx hb hc inBl tyBl tyBl_ok nmBl hown hK hP hD hS (18 + j) (xb_cell (by omega)) rfl 7 (by decide) (hc _ w93) (fun _ h9 => h9) rfl (by decide +kernel) rfl rfl (Nat.le_of_ble_eq_true rfl) dBl_work_261 (fun H locs hP hD hS => ?_)
        obtain ⟨S_45, eS_45⟩ : ∃ z9 : Ss, z9 = row S_44 21 (upd (S_44 21) j x) := ⟨_, rfl⟩
        rw [xb_set (by omega) 7 (by decide)] at hP hD
        have hP : va_P (dC, dI) vwCl (XW ad ca S_45) H := by rw [eS_45]; exact hP
        have hD : va_D A (XW ad ca S_45) := by rw [eS_45]; exact hD
        refine lv_aload_n hx hb dBl_work_264 rfl (lv_at hl 0 rfl) ?_
        refine va_get (D := (dC, dI)) (ci := 2) (v := .int (S_45 19 j)) (C := RBl) (T := TBl) (N := 8) hx hb hc inBl hown hK hP (18 + j) (xb_cell (by omega)) rfl 5 (by decide) (hc _ w89) (fun _ h9 => h9) rfl dBl_work_265 ?_
        exact W.iret (v := (S_45 19 j)) hx hb hr (fun t ht hW => ⟨⟨_, S_45, rfl, (by (try dsimp only); exact (by subst S_45; subst S_44; have hC : S 20 j = cntB S j x := (by unfold cntB; rw [if_neg w_0, if_neg w_14, if_neg w_29]); have hO : (0 : Int32) = outB S j x := (by unfold outB; rw [if_neg w_0, if_neg w_14, if_neg w_29, if_pos w_38]; exact (b2_f (fun h => c_42 h.2)).symm); exact ⟨(show upd (S 19) j 0 j = outB S j x from pk_us.trans hO), bw_3 (fun h => n5 (Or.inr (Or.inr (Or.inr (Or.inl w_38)))) h.1) hC hO⟩)), by rw [ht]; exact hP, va_K.moved hW.alike hK, hD⟩, hS.F ht⟩) hS.2.2 dBl_work_268
      · refine lv_iconst (v := 1) hx hb dBl_work_192 (by decide +kernel) ?_
        refine lv_goto (tgt := 197) hx hb dBl_work_193 (by decide) ?_
        refine va_put (D := (dC, dI)) (ci := 2) (v := .int 1) (ty := .int) (C := RBl) (T := TBl) (N := 8) hx hb hc inBl tyBl tyBl_ok nmBl hown hK hP hD hS (18 + j) (xb_cell (by omega)) rfl 5 (by decide) (hc _ w89) (fun _ h9 => h9) rfl (by decide +kernel) rfl rfl (Nat.le_of_ble_eq_true rfl) dBl_work_197 (fun H locs hP hD hS => ?_)
        obtain ⟨S_46, eS_46⟩ : ∃ z9 : Ss, z9 = row S 19 (upd (S 19) j 1) := ⟨_, rfl⟩
        rw [xb_set (by omega) 5 (by decide)] at hP hD
        have hP : va_P (dC, dI) vwCl (XW ad ca S_46) H := by rw [eS_46]; exact hP
        have hD : va_D A (XW ad ca S_46) := by rw [eS_46]; exact hD
        refine lv_goto (tgt := 259) hx hb dBl_work_200 (by decide) ?_
        refine lv_aload_n hx hb dBl_work_259 rfl (lv_at hl 0 rfl) ?_
        refine lv_iload_n hx hb dBl_work_260 rfl (lv_at hl 1 rfl) ?_
        refine va_put (D := (dC, dI)) (ci := 2) (v := .int x) (ty := .int) (C := RBl) (T := TBl) (N := 8) hx hb hc inBl tyBl tyBl_ok nmBl hown hK hP hD hS (18 + j) (xb_cell (by omega)) rfl 7 (by decide) (hc _ w93) (fun _ h9 => h9) rfl (by decide +kernel) rfl rfl (Nat.le_of_ble_eq_true rfl) dBl_work_261 (fun H locs hP hD hS => ?_)
        obtain ⟨S_47, eS_47⟩ : ∃ z9 : Ss, z9 = row S_46 21 (upd (S_46 21) j x) := ⟨_, rfl⟩
        rw [xb_set (by omega) 7 (by decide)] at hP hD
        have hP : va_P (dC, dI) vwCl (XW ad ca S_47) H := by rw [eS_47]; exact hP
        have hD : va_D A (XW ad ca S_47) := by rw [eS_47]; exact hD
        refine lv_aload_n hx hb dBl_work_264 rfl (lv_at hl 0 rfl) ?_
        refine va_get (D := (dC, dI)) (ci := 2) (v := .int (S_47 19 j)) (C := RBl) (T := TBl) (N := 8) hx hb hc inBl hown hK hP (18 + j) (xb_cell (by omega)) rfl 5 (by decide) (hc _ w89) (fun _ h9 => h9) rfl dBl_work_265 ?_
        exact W.iret (v := (S_47 19 j)) hx hb hr (fun t ht hW => ⟨⟨_, S_47, rfl, (by (try dsimp only); exact (by subst S_47; subst S_46; have hC : S 20 j = cntB S j x := (by unfold cntB; rw [if_neg w_0, if_neg w_14, if_neg w_29]); have hO : (1 : Int32) = outB S j x := (by unfold outB; rw [if_neg w_0, if_neg w_14, if_neg w_29, if_pos w_38]; exact (b2_t ⟨c_39, c_42⟩).symm); exact ⟨(show upd (S 19) j 1 j = outB S j x from pk_us.trans hO), bw_3 (fun h => n5 (Or.inr (Or.inr (Or.inr (Or.inl w_38)))) h.1) hC hO⟩)), by rw [ht]; exact hP, va_K.moved hW.alike hK, hD⟩, hS.F ht⟩) hS.2.2 dBl_work_268
  by_cases w_47 : S 14 j = 4
  · refine lv_tableIn (tgt := 203) hx hb dBl_work_4 (by rw [w_47]; decide) (by rw [w_47]; decide) (by rw [w_47]; rfl) (by decide) ?_
    refine lv_aload_n hx hb dBl_work_203 rfl (lv_at hl 0 rfl) ?_
    refine lv_iload_n hx hb dBl_work_204 rfl (lv_at hl 1 rfl) ?_
    refine lv_if_ne (tgt := 220) hx hb dBl_work_205 (by decide) (fun c_48 => ?_) (fun c_48 => ?_)
    · refine lv_iconst (v := 0) hx hb dBl_work_220 (by decide +kernel) ?_
      refine va_put (D := (dC, dI)) (ci := 2) (v := .int 0) (ty := .int) (C := RBl) (T := TBl) (N := 8) hx hb hc inBl tyBl tyBl_ok nmBl hown hK hP hD hS (18 + j) (xb_cell (by omega)) rfl 5 (by decide) (hc _ w89) (fun _ h9 => h9) rfl (by decide +kernel) rfl rfl (Nat.le_of_ble_eq_true rfl) dBl_work_221 (fun H locs hP hD hS => ?_)
      obtain ⟨S_50, eS_50⟩ : ∃ z9 : Ss, z9 = row S 19 (upd (S 19) j 0) := ⟨_, rfl⟩
      rw [xb_set (by omega) 5 (by decide)] at hP hD
      have hP : va_P (dC, dI) vwCl (XW ad ca S_50) H := by rw [eS_50]; exact hP
      have hD : va_D A (XW ad ca S_50) := by rw [eS_50]; exact hD
      refine lv_goto (tgt := 259) hx hb dBl_work_224 (by decide) ?_
      refine lv_aload_n hx hb dBl_work_259 rfl (lv_at hl 0 rfl) ?_
      refine lv_iload_n hx hb dBl_work_260 rfl (lv_at hl 1 rfl) ?_
      refine va_put (D := (dC, dI)) (ci := 2) (v := .int x) (ty := .int) (C := RBl) (T := TBl) (N := 8) hx hb hc inBl tyBl tyBl_ok nmBl hown hK hP hD hS (18 + j) (xb_cell (by omega)) rfl 7 (by decide) (hc _ w93) (fun _ h9 => h9) rfl (by decide +kernel) rfl rfl (Nat.le_of_ble_eq_true rfl) dBl_work_261 (fun H locs hP hD hS => ?_)
      obtain ⟨S_51, eS_51⟩ : ∃ z9 : Ss, z9 = row S_50 21 (upd (S_50 21) j x) := ⟨_, rfl⟩
      rw [xb_set (by omega) 7 (by decide)] at hP hD
      have hP : va_P (dC, dI) vwCl (XW ad ca S_51) H := by rw [eS_51]; exact hP
      have hD : va_D A (XW ad ca S_51) := by rw [eS_51]; exact hD
      refine lv_aload_n hx hb dBl_work_264 rfl (lv_at hl 0 rfl) ?_
      refine va_get (D := (dC, dI)) (ci := 2) (v := .int (S_51 19 j)) (C := RBl) (T := TBl) (N := 8) hx hb hc inBl hown hK hP (18 + j) (xb_cell (by omega)) rfl 5 (by decide) (hc _ w89) (fun _ h9 => h9) rfl dBl_work_265 ?_
      exact W.iret (v := (S_51 19 j)) hx hb hr (fun t ht hW => ⟨⟨_, S_51, rfl, (by (try dsimp only); exact (by subst S_51; subst S_50; have hC : S 20 j = cntB S j x := (by unfold cntB; rw [if_neg w_0, if_neg w_14, if_neg w_29]); have hO : (0 : Int32) = outB S j x := (by unfold outB; rw [if_neg w_0, if_neg w_14, if_neg w_29, if_neg w_38, if_pos w_47]; exact (b2_f (fun h => c_48 h.1)).symm); exact ⟨(show upd (S 19) j 0 j = outB S j x from pk_us.trans hO), bw_3 (fun h => n5 (Or.inr (Or.inr (Or.inr (Or.inr w_47)))) h.1) hC hO⟩)), by rw [ht]; exact hP, va_K.moved hW.alike hK, hD⟩, hS.F ht⟩) hS.2.2 dBl_work_268
    · refine lv_aload_n hx hb dBl_work_208 rfl (lv_at hl 0 rfl) ?_
      refine va_get (D := (dC, dI)) (ci := 2) (v := .int (S 21 j)) (C := RBl) (T := TBl) (N := 8) hx hb hc inBl hown hK hP (18 + j) (xb_cell (by omega)) rfl 7 (by decide) (hc _ w93) (fun _ h9 => h9) rfl dBl_work_209 ?_
      refine lv_iconst (v := 1) hx hb dBl_work_212 (by decide +kernel) ?_
      refine lv_icmp_ne (tgt := 220) hx hb dBl_work_213 (by decide) (fun c_51 => ?_) (fun c_51 => ?_)
      · refine lv_iconst (v := 0) hx hb dBl_work_220 (by decide +kernel) ?_
        refine va_put (D := (dC, dI)) (ci := 2) (v := .int 0) (ty := .int) (C := RBl) (T := TBl) (N := 8) hx hb hc inBl tyBl tyBl_ok nmBl hown hK hP hD hS (18 + j) (xb_cell (by omega)) rfl 5 (by decide) (hc _ w89) (fun _ h9 => h9) rfl (by decide +kernel) rfl rfl (Nat.le_of_ble_eq_true rfl) dBl_work_221 (fun H locs hP hD hS => ?_)
        obtain ⟨S_53, eS_53⟩ : ∃ z9 : Ss, z9 = row S 19 (upd (S 19) j 0) := ⟨_, rfl⟩
        rw [xb_set (by omega) 5 (by decide)] at hP hD
        have hP : va_P (dC, dI) vwCl (XW ad ca S_53) H := by rw [eS_53]; exact hP
        have hD : va_D A (XW ad ca S_53) := by rw [eS_53]; exact hD
        refine lv_goto (tgt := 259) hx hb dBl_work_224 (by decide) ?_
        refine lv_aload_n hx hb dBl_work_259 rfl (lv_at hl 0 rfl) ?_
        refine lv_iload_n hx hb dBl_work_260 rfl (lv_at hl 1 rfl) ?_
        refine va_put (D := (dC, dI)) (ci := 2) (v := .int x) (ty := .int) (C := RBl) (T := TBl) (N := 8) hx hb hc inBl tyBl tyBl_ok nmBl hown hK hP hD hS (18 + j) (xb_cell (by omega)) rfl 7 (by decide) (hc _ w93) (fun _ h9 => h9) rfl (by decide +kernel) rfl rfl (Nat.le_of_ble_eq_true rfl) dBl_work_261 (fun H locs hP hD hS => ?_)
        obtain ⟨S_54, eS_54⟩ : ∃ z9 : Ss, z9 = row S_53 21 (upd (S_53 21) j x) := ⟨_, rfl⟩
        rw [xb_set (by omega) 7 (by decide)] at hP hD
        have hP : va_P (dC, dI) vwCl (XW ad ca S_54) H := by rw [eS_54]; exact hP
        have hD : va_D A (XW ad ca S_54) := by rw [eS_54]; exact hD
        refine lv_aload_n hx hb dBl_work_264 rfl (lv_at hl 0 rfl) ?_
        refine va_get (D := (dC, dI)) (ci := 2) (v := .int (S_54 19 j)) (C := RBl) (T := TBl) (N := 8) hx hb hc inBl hown hK hP (18 + j) (xb_cell (by omega)) rfl 5 (by decide) (hc _ w89) (fun _ h9 => h9) rfl dBl_work_265 ?_
        exact W.iret (v := (S_54 19 j)) hx hb hr (fun t ht hW => ⟨⟨_, S_54, rfl, (by (try dsimp only); exact (by subst S_54; subst S_53; have hC : S 20 j = cntB S j x := (by unfold cntB; rw [if_neg w_0, if_neg w_14, if_neg w_29]); have hO : (0 : Int32) = outB S j x := (by unfold outB; rw [if_neg w_0, if_neg w_14, if_neg w_29, if_neg w_38, if_pos w_47]; exact (b2_f (fun h => c_51 h.2)).symm); exact ⟨(show upd (S 19) j 0 j = outB S j x from pk_us.trans hO), bw_3 (fun h => n5 (Or.inr (Or.inr (Or.inr (Or.inr w_47)))) h.1) hC hO⟩)), by rw [ht]; exact hP, va_K.moved hW.alike hK, hD⟩, hS.F ht⟩) hS.2.2 dBl_work_268
      · refine lv_iconst (v := 1) hx hb dBl_work_216 (by decide +kernel) ?_
        refine lv_goto (tgt := 221) hx hb dBl_work_217 (by decide) ?_
        refine va_put (D := (dC, dI)) (ci := 2) (v := .int 1) (ty := .int) (C := RBl) (T := TBl) (N := 8) hx hb hc inBl tyBl tyBl_ok nmBl hown hK hP hD hS (18 + j) (xb_cell (by omega)) rfl 5 (by decide) (hc _ w89) (fun _ h9 => h9) rfl (by decide +kernel) rfl rfl (Nat.le_of_ble_eq_true rfl) dBl_work_221 (fun H locs hP hD hS => ?_)
        obtain ⟨S_55, eS_55⟩ : ∃ z9 : Ss, z9 = row S 19 (upd (S 19) j 1) := ⟨_, rfl⟩
        rw [xb_set (by omega) 5 (by decide)] at hP hD
        have hP : va_P (dC, dI) vwCl (XW ad ca S_55) H := by rw [eS_55]; exact hP
        have hD : va_D A (XW ad ca S_55) := by rw [eS_55]; exact hD
        refine lv_goto (tgt := 259) hx hb dBl_work_224 (by decide) ?_
        refine lv_aload_n hx hb dBl_work_259 rfl (lv_at hl 0 rfl) ?_
        refine lv_iload_n hx hb dBl_work_260 rfl (lv_at hl 1 rfl) ?_
        refine va_put (D := (dC, dI)) (ci := 2) (v := .int x) (ty := .int) (C := RBl) (T := TBl) (N := 8) hx hb hc inBl tyBl tyBl_ok nmBl hown hK hP hD hS (18 + j) (xb_cell (by omega)) rfl 7 (by decide) (hc _ w93) (fun _ h9 => h9) rfl (by decide +kernel) rfl rfl (Nat.le_of_ble_eq_true rfl) dBl_work_261 (fun H locs hP hD hS => ?_)
        obtain ⟨S_56, eS_56⟩ : ∃ z9 : Ss, z9 = row S_55 21 (upd (S_55 21) j x) := ⟨_, rfl⟩
        rw [xb_set (by omega) 7 (by decide)] at hP hD
        have hP : va_P (dC, dI) vwCl (XW ad ca S_56) H := by rw [eS_56]; exact hP
        have hD : va_D A (XW ad ca S_56) := by rw [eS_56]; exact hD
        refine lv_aload_n hx hb dBl_work_264 rfl (lv_at hl 0 rfl) ?_
        refine va_get (D := (dC, dI)) (ci := 2) (v := .int (S_56 19 j)) (C := RBl) (T := TBl) (N := 8) hx hb hc inBl hown hK hP (18 + j) (xb_cell (by omega)) rfl 5 (by decide) (hc _ w89) (fun _ h9 => h9) rfl dBl_work_265 ?_
        exact W.iret (v := (S_56 19 j)) hx hb hr (fun t ht hW => ⟨⟨_, S_56, rfl, (by (try dsimp only); exact (by subst S_56; subst S_55; have hC : S 20 j = cntB S j x := (by unfold cntB; rw [if_neg w_0, if_neg w_14, if_neg w_29]); have hO : (1 : Int32) = outB S j x := (by unfold outB; rw [if_neg w_0, if_neg w_14, if_neg w_29, if_neg w_38, if_pos w_47]; exact (b2_t ⟨c_48, c_51⟩).symm); exact ⟨(show upd (S 19) j 1 j = outB S j x from pk_us.trans hO), bw_3 (fun h => n5 (Or.inr (Or.inr (Or.inr (Or.inr w_47)))) h.1) hC hO⟩)), by rw [ht]; exact hP, va_K.moved hW.alike hK, hD⟩, hS.F ht⟩) hS.2.2 dBl_work_268
  have iw_0 : (S 14 j : Int32).toInt ≠ 0 := fun z => w_0 (Int32.toInt_inj.mp (by rw [z]; rfl))
  have iw_14 : (S 14 j : Int32).toInt ≠ 1 := fun z => w_14 (Int32.toInt_inj.mp (by rw [z]; rfl))
  have iw_29 : (S 14 j : Int32).toInt ≠ 2 := fun z => w_29 (Int32.toInt_inj.mp (by rw [z]; rfl))
  have iw_38 : (S 14 j : Int32).toInt ≠ 3 := fun z => w_38 (Int32.toInt_inj.mp (by rw [z]; rfl))
  have iw_47 : (S 14 j : Int32).toInt ≠ 4 := fun z => w_47 (Int32.toInt_inj.mp (by rw [z]; rfl))
  refine lv_tableOut (tgt := 227) hx hb dBl_work_4 (by omega) (by decide) ?_
  refine lv_iload_n hx hb dBl_work_227 rfl (lv_at hl 1 rfl) ?_
  refine lv_iconst (v := 1) hx hb dBl_work_228 (by decide +kernel) ?_
  refine lv_icmp_ne (tgt := 254) hx hb dBl_work_229 (by decide) (fun c_56 => ?_) (fun c_56 => ?_)
  · refine lv_aload_n hx hb dBl_work_254 rfl (lv_at hl 0 rfl) ?_
    refine lv_iload_n hx hb dBl_work_255 rfl (lv_at hl 1 rfl) ?_
    refine va_put (D := (dC, dI)) (ci := 2) (v := .int x) (ty := .int) (C := RBl) (T := TBl) (N := 8) hx hb hc inBl tyBl tyBl_ok nmBl hown hK hP hD hS (18 + j) (xb_cell (by omega)) rfl 5 (by decide) (hc _ w89) (fun _ h9 => h9) rfl (by decide +kernel) rfl rfl (Nat.le_of_ble_eq_true rfl) dBl_work_256 (fun H locs hP hD hS => ?_)
    obtain ⟨S_58, eS_58⟩ : ∃ z9 : Ss, z9 = row S 19 (upd (S 19) j x) := ⟨_, rfl⟩
    rw [xb_set (by omega) 5 (by decide)] at hP hD
    have hP : va_P (dC, dI) vwCl (XW ad ca S_58) H := by rw [eS_58]; exact hP
    have hD : va_D A (XW ad ca S_58) := by rw [eS_58]; exact hD
    refine lv_aload_n hx hb dBl_work_259 rfl (lv_at hl 0 rfl) ?_
    refine lv_iload_n hx hb dBl_work_260 rfl (lv_at hl 1 rfl) ?_
    refine va_put (D := (dC, dI)) (ci := 2) (v := .int x) (ty := .int) (C := RBl) (T := TBl) (N := 8) hx hb hc inBl tyBl tyBl_ok nmBl hown hK hP hD hS (18 + j) (xb_cell (by omega)) rfl 7 (by decide) (hc _ w93) (fun _ h9 => h9) rfl (by decide +kernel) rfl rfl (Nat.le_of_ble_eq_true rfl) dBl_work_261 (fun H locs hP hD hS => ?_)
    obtain ⟨S_59, eS_59⟩ : ∃ z9 : Ss, z9 = row S_58 21 (upd (S_58 21) j x) := ⟨_, rfl⟩
    rw [xb_set (by omega) 7 (by decide)] at hP hD
    have hP : va_P (dC, dI) vwCl (XW ad ca S_59) H := by rw [eS_59]; exact hP
    have hD : va_D A (XW ad ca S_59) := by rw [eS_59]; exact hD
    refine lv_aload_n hx hb dBl_work_264 rfl (lv_at hl 0 rfl) ?_
    refine va_get (D := (dC, dI)) (ci := 2) (v := .int (S_59 19 j)) (C := RBl) (T := TBl) (N := 8) hx hb hc inBl hown hK hP (18 + j) (xb_cell (by omega)) rfl 5 (by decide) (hc _ w89) (fun _ h9 => h9) rfl dBl_work_265 ?_
    exact W.iret (v := (S_59 19 j)) hx hb hr (fun t ht hW => ⟨⟨_, S_59, rfl, (by (try dsimp only); exact (by subst S_59; subst S_58; have hC : S 20 j = cntB S j x := (by unfold cntB; rw [if_neg w_0, if_neg w_14, if_neg w_29]); have hO : x = outB S j x := (by unfold outB; rw [if_neg w_0, if_neg w_14, if_neg w_29, if_neg w_38, if_neg w_47]); exact ⟨(show upd (S 19) j x j = outB S j x from pk_us.trans hO), bw_3 (fun h => c_56 h.2) hC hO⟩)), by rw [ht]; exact hP, va_K.moved hW.alike hK, hD⟩, hS.F ht⟩) hS.2.2 dBl_work_268
  · refine lv_aload_n hx hb dBl_work_232 rfl (lv_at hl 2 rfl) ?_
    refine lv_aload_n hx hb dBl_work_233 rfl (lv_at hl 0 rfl) ?_
    refine va_get (D := (dC, dI)) (ci := 2) (v := .int (S 16 j)) (C := RBl) (T := TBl) (N := 8) hx hb hc inBl hown hK hP (18 + j) (xb_cell (by omega)) rfl 2 (by decide) (hc _ w84) (fun _ h9 => h9) rfl dBl_work_234 ?_
    obtain ⟨hq50, hq51⟩ := hq5 (kk5 hk7 w_0 w_14 w_29 w_38 w_47)
    refine W.eq (g2 := F0 m 237 ls [.int (nI q0), .ref (ad 1)]) (by rw [hq51]) ?_
    refine lv_aload_n hx hb dBl_work_237 rfl (lv_at hl 0 rfl) ?_
    refine lv_aload_n hx hb dBl_work_238 rfl (lv_at hl 2 rfl) ?_
    refine va_get (D := (dC, dI)) (ci := 1) (v := .ref (ad 6)) (C := RMe) (T := TMe) (N := 5) hx hb hc inMe hown hK hP 1 rfl rfl 4 (by decide) (hc _ w38) (fun _ h9 => h9) rfl dBl_work_239 ?_
    refine lv_aload_n hx hb dBl_work_242 rfl (lv_at hl 0 rfl) ?_
    refine va_get (D := (dC, dI)) (ci := 2) (v := .int (S 15 j)) (C := RBl) (T := TBl) (N := 8) hx hb hc inBl hown hK hP (18 + j) (xb_cell (by omega)) rfl 1 (by decide) (hc _ w83) (fun _ h9 => h9) rfl dBl_work_243 ?_
    obtain ⟨hp50, hp51⟩ := hp5 (kk5 hk7 w_0 w_14 w_29 w_38 w_47)
    refine W.eq (g2 := F0 m 246 ls [.int (nI p0), .ref (ad 6), .ref (ad (18 + j)), .int (nI q0), .ref (ad 1)]) (by rw [hp51]) ?_
    refine va_iald hx hb hK hP 6 4 rfl rfl (vp_in_nI (by omega) (by decide)) dBl_work_246 ?_
    refine lv_topi (fun v_60 ev_60 => ?_)
    rw [nI_clamp (by omega)] at ev_60
    subst v_60
    refine lv_i2l (v := (S 5 p0).toInt64) hx hb dBl_work_247 rfl ?_
    refine vp_callSl (va_Run.run (va_runV (As := [.long ((S 5 p0).toInt64)]) (rest := [.int (nI q0), .ref (ad 1)]) ⟨hx, hb, hml, hown, hc⟩ (cBl_reckon l dC dI ad ca s.heap.size S j (by omega) (S 5 p0) (hr9 _ hp50) hf9 ho9) (cwV 1 hc (gV w454 w456 s7 w4 qBl_reckon) rfl rfl rfl (by decide +kernel) ⟨Nat.le_of_ble_eq_true rfl, Nat.le_of_ble_eq_true rfl⟩) ⟨gPre_blind, va_recv hK hP (ci := 2) (q0 := (18 + j)) rfl (xb_cell (by omega)), (gPre_in hP hK hD)⟩ rfl rfl hl.1 rfl (lv_room (Nat.le_of_ble_eq_true rfl)) dBl_work_248 ⟨Nat.zero_le _, Nat.zero_le _⟩)) (fun r_61 hr_61 => ?_)
    refine g_callv (va_runV (As := [.int (nI q0), .long r_61]) (rest := []) ⟨hx, hb, hml, hown, hc⟩ (cMe_store l dC dI ad ca s.heap.size S q0 r_61 (by omega)) (cwV 2 hc (gV w468 w469 w470 w2 qMe_store) rfl rfl rfl (by decide +kernel) ⟨Nat.le_of_ble_eq_true rfl, Nat.le_of_ble_eq_true rfl⟩) ⟨gPre_blind, va_recv hK hP (ci := 1) (q0 := 1) rfl rfl, (gPre_in hP hK hD)⟩ rfl rfl hl.1 rfl (lv_room (Nat.le_of_ble_eq_true rfl)) dBl_work_251 ⟨Nat.zero_le _, Nat.zero_le _⟩) hD hS hA (fun u_62 H locs hu_62 hP hD hS => ?_)
    refine lv_aload_n hx hb dBl_work_254 rfl (lv_at hl 0 rfl) ?_
    refine lv_iload_n hx hb dBl_work_255 rfl (lv_at hl 1 rfl) ?_
    refine va_put (D := (dC, dI)) (ci := 2) (v := .int x) (ty := .int) (C := RBl) (T := TBl) (N := 8) hx hb hc inBl tyBl tyBl_ok nmBl hown hK hP hD hS (18 + j) (xb_cell (by omega)) rfl 5 (by decide) (hc _ w89) (fun _ h9 => h9) rfl (by decide +kernel) rfl rfl (Nat.le_of_ble_eq_true rfl) dBl_work_256 (fun H locs hP hD hS => ?_)
    obtain ⟨S_63, eS_63⟩ : ∃ z9 : Ss, z9 = row u_62 19 (upd (u_62 19) j x) := ⟨_, rfl⟩
    rw [xb_set (by omega) 5 (by decide)] at hP hD
    have hP : va_P (dC, dI) vwCl (XW ad ca S_63) H := by rw [eS_63]; exact hP
    have hD : va_D A (XW ad ca S_63) := by rw [eS_63]; exact hD
    refine lv_aload_n hx hb dBl_work_259 rfl (lv_at hl 0 rfl) ?_
    refine lv_iload_n hx hb dBl_work_260 rfl (lv_at hl 1 rfl) ?_
    refine va_put (D := (dC, dI)) (ci := 2) (v := .int x) (ty := .int) (C := RBl) (T := TBl) (N := 8) hx hb hc inBl tyBl tyBl_ok nmBl hown hK hP hD hS (18 + j) (xb_cell (by omega)) rfl 7 (by decide) (hc _ w93) (fun _ h9 => h9) rfl (by decide +kernel) rfl rfl (Nat.le_of_ble_eq_true rfl) dBl_work_261 (fun H locs hP hD hS => ?_)
    obtain ⟨S_64, eS_64⟩ : ∃ z9 : Ss, z9 = row S_63 21 (upd (S_63 21) j x) := ⟨_, rfl⟩
    rw [xb_set (by omega) 7 (by decide)] at hP hD
    have hP : va_P (dC, dI) vwCl (XW ad ca S_64) H := by rw [eS_64]; exact hP
    have hD : va_D A (XW ad ca S_64) := by rw [eS_64]; exact hD
    refine lv_aload_n hx hb dBl_work_264 rfl (lv_at hl 0 rfl) ?_
    refine va_get (D := (dC, dI)) (ci := 2) (v := .int (S_64 19 j)) (C := RBl) (T := TBl) (N := 8) hx hb hc inBl hown hK hP (18 + j) (xb_cell (by omega)) rfl 5 (by decide) (hc _ w89) (fun _ h9 => h9) rfl dBl_work_265 ?_
    exact W.iret (v := (S_64 19 j)) hx hb hr (fun t ht hW => ⟨⟨_, S_64, rfl, (by (try dsimp only); exact (by have hC : S 20 j = cntB S j x := (by unfold cntB; rw [if_neg w_0, if_neg w_14, if_neg w_29]); have hO : x = outB S j x := (by unfold outB; rw [if_neg w_0, if_neg w_14, if_neg w_29, if_neg w_38, if_neg w_47]); have hV : fitI (r_61).toInt = clc (S 14 j) (S 5 (S 15 j).toNatClampNeg) (S 17 j) (S 18 j) := (by rw [hr_61, hp51, nI_clamp (by omega)]; exact rk_clc (k567 hk7 (kk5 hk7 w_0 w_14 w_29 w_38 w_47)) (hr9 _ hp50) hf9 ho9 h79 (fun h e => h69 ⟨h, c_56, e⟩)); subst S_64; subst S_63; subst u_62; exact ⟨(show upd (S 19) j x j = outB S j x from pk_us.trans hO), bw_5 ⟨(kk5 hk7 w_0 w_14 w_29 w_38 w_47), c_56⟩ hq51 hq50 hV hC hO⟩)), by rw [ht]; exact hP, va_K.moved hW.alike hK, hD⟩, hS.F ht⟩) hS.2.2 dBl_work_268
