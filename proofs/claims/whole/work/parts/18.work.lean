set_option maxHeartbeats 4000000 in
set_option maxRecDepth 100000 in
theorem cBl_work (l : Launch) (dC : Nat → ClassId) (dI : Nat → Nat → Nat) (ad : Nat → Nat) (ca : Nat → ClassId) (sz : Nat) (S : Ss) (j : Nat) (hj : j < 10) (x : Int32) (q0 p0 : Nat) (hb9 : okW S j x q0 p0) : Met l yBl_work (kBl_work :: CW) ({ frames := 2, cells := 0, slots := 0, locals := 47 }) (va_Pc [.ref (ad (18 + j)), .int x, .ref (ad 1)] (gPre (dC, dI) (xT ca) (XW ad ca S) sz)) (va_Qi (fun (r : Int32) (u : Ss) => r = outB S j x ∧ u = bw S j x) (fun u => gAt (dC, dI) (xT ca) (va_A (XW ad ca S) sz) (XW ad ca u)) (va_A (XW ad ca S) sz)) 0 0 (va_A (XW ad ca S) sz) := by
  refine Met.ofW (cc := bBl_work) (maxL := 3) (ret := (some .int)) (by decide +kernel) rfl ?_
  intro p e s m args below meth c s₁ B hml hv
  obtain ⟨rfl, hsz, hP, hK, hD0⟩ := hv
  have hx := B.exec
  have hb := B.bytes
  have hr := B.returns
  have hts := atoms_spec (ws := kBl_work :: CW) B.pre
  have hc : ∀ w ∈ CW, w.before _ s = true := fun w h => hts w (List.mem_cons_of_mem _ h)
  have hown : s.vm.findClass RBl = some m.cls := findClass_of_methodNamed B.named
  have hlocks := B.notSynchronized
  subst hsz
  have hD := hD0.self (sz := s.heap.size)
  generalize hAe : va_A (XW ad ca S) s.heap.size = A at hD ⊢
  have hA : ∀ q : Nat, s.heap.size ≤ q → A q := fun q h => by rw [← hAe]; exact Or.inr h
  have hS : va_S A s.heap s.heap [] := va_S.rf
  have hl := lv_entry ([.ref (ad (18 + j)), .int x, .ref (ad 1)]) (n := 3) (Nat.le_of_ble_eq_true rfl)
  rw [lg_entry_eq]
  generalize (lg_sl ([.ref (ad (18 + j)), .int x, .ref (ad 1)]) ++ List.replicate (3 - (lg_sl ([.ref (ad (18 + j)), .int x, .ref (ad 1)])).length) Slot.unset).toArray = ls at hl ⊢
  have hl : lv_has ls 3 [(0, .ref (ad (18 + j))), (1, .int x), (2, .ref (ad 1))] := hl
  obtain ⟨hx01, hk7, hp9, hc9, hq2, hp5, hq5, hr9, hf9, ho9, h79, h69⟩ := hb9
  refine lv_aload_n hx hb dBl_work_0 rfl (lv_at hl 0 rfl) ?_
  refine va_get (D := (dC, dI)) (ci := 2) (v := .int (S 14 j)) (C := RBl) (T := TBl) (N := 8) hx hb hc inBl hown hK hP (18 + j) (xb_cell (by omega)) rfl 0 (by decide) (hc _ w81) (fun _ h9 => h9) rfl dBl_work_1 ?_
  by_cases w_0 : S 14 j = 0
  · refine lv_tableIn (tgt := 40) hx hb dBl_work_4 (by rw [w_0]; decide) (by rw [w_0]; decide) (by rw [w_0]; rfl) (by decide) ?_
    refine lv_aload_n hx hb dBl_work_40 rfl (lv_at hl 0 rfl) ?_
    refine lv_iload_n hx hb dBl_work_41 rfl (lv_at hl 1 rfl) ?_
    refine lv_iconst (v := 1) hx hb dBl_work_42 (by decide +kernel) ?_
    refine lv_icmp_ne (tgt := 62) hx hb dBl_work_43 (by decide) (fun c_1 => ?_) (fun c_1 => ?_)
    · refine lv_iconst (v := 0) hx hb dBl_work_62 (by decide +kernel) ?_
      refine va_put (D := (dC, dI)) (ci := 2) (v := .int 0) (ty := .int) (C := RBl) (T := TBl) (N := 8) hx hb hc inBl tyBl tyBl_ok nmBl hown hK hP hD hS (18 + j) (xb_cell (by omega)) rfl 6 (by decide) (hc _ w91) (fun _ h9 => h9) rfl (by decide +kernel) rfl rfl (Nat.le_of_ble_eq_true rfl) dBl_work_63 (fun H locs hP hD hS => ?_)
      obtain ⟨S_3, eS_3⟩ : ∃ z9 : Ss, z9 = row S 20 (upd (S 20) j 0) := ⟨_, rfl⟩
      rw [xb_set (by omega) 6 (by decide)] at hP hD
      have hP : va_P (dC, dI) vwCl (XW ad ca S_3) H := by rw [eS_3]; exact hP
      have hD : va_D A (XW ad ca S_3) := by rw [eS_3]; exact hD
      refine lv_aload_n hx hb dBl_work_66 rfl (lv_at hl 0 rfl) ?_
      refine lv_iload_n hx hb dBl_work_67 rfl (lv_at hl 1 rfl) ?_
      refine lv_iconst (v := 1) hx hb dBl_work_68 (by decide +kernel) ?_
      refine lv_icmp_ne (tgt := 87) hx hb dBl_work_69 (by decide) (fun c_3 => ?_) (fun c_3 => ?_)
      · refine lv_iconst (v := 0) hx hb dBl_work_87 (by decide +kernel) ?_
        refine va_put (D := (dC, dI)) (ci := 2) (v := .int 0) (ty := .int) (C := RBl) (T := TBl) (N := 8) hx hb hc inBl tyBl tyBl_ok nmBl hown hK hP hD hS (18 + j) (xb_cell (by omega)) rfl 5 (by decide) (hc _ w89) (fun _ h9 => h9) rfl (by decide +kernel) rfl rfl (Nat.le_of_ble_eq_true rfl) dBl_work_88 (fun H locs hP hD hS => ?_)
        obtain ⟨S_5, eS_5⟩ : ∃ z9 : Ss, z9 = row S_3 19 (upd (S_3 19) j 0) := ⟨_, rfl⟩
        rw [xb_set (by omega) 5 (by decide)] at hP hD
        have hP : va_P (dC, dI) vwCl (XW ad ca S_5) H := by rw [eS_5]; exact hP
        have hD : va_D A (XW ad ca S_5) := by rw [eS_5]; exact hD
        refine lv_goto (tgt := 259) hx hb dBl_work_91 (by decide) ?_
        refine lv_aload_n hx hb dBl_work_259 rfl (lv_at hl 0 rfl) ?_
        refine lv_iload_n hx hb dBl_work_260 rfl (lv_at hl 1 rfl) ?_
        refine va_put (D := (dC, dI)) (ci := 2) (v := .int x) (ty := .int) (C := RBl) (T := TBl) (N := 8) hx hb hc inBl tyBl tyBl_ok nmBl hown hK hP hD hS (18 + j) (xb_cell (by omega)) rfl 7 (by decide) (hc _ w93) (fun _ h9 => h9) rfl (by decide +kernel) rfl rfl (Nat.le_of_ble_eq_true rfl) dBl_work_261 (fun H locs hP hD hS => ?_)
        obtain ⟨S_6, eS_6⟩ : ∃ z9 : Ss, z9 = row S_5 21 (upd (S_5 21) j x) := ⟨_, rfl⟩
        rw [xb_set (by omega) 7 (by decide)] at hP hD
        have hP : va_P (dC, dI) vwCl (XW ad ca S_6) H := by rw [eS_6]; exact hP
        have hD : va_D A (XW ad ca S_6) := by rw [eS_6]; exact hD
        refine lv_aload_n hx hb dBl_work_264 rfl (lv_at hl 0 rfl) ?_
        refine va_get (D := (dC, dI)) (ci := 2) (v := .int (S_6 19 j)) (C := RBl) (T := TBl) (N := 8) hx hb hc inBl hown hK hP (18 + j) (xb_cell (by omega)) rfl 5 (by decide) (hc _ w89) (fun _ h9 => h9) rfl dBl_work_265 ?_
        exact W.iret (v := (S_6 19 j)) hx hb hr (fun t ht hW => ⟨⟨_, S_6, rfl, (by (try dsimp only); exact (by sorry)), by rw [ht]; exact hP, va_K.moved hW.alike hK, hD⟩, hS.F ht⟩) hS.2.2 dBl_work_268
      · refine lv_aload_n hx hb dBl_work_72 rfl (lv_at hl 0 rfl) ?_
        refine va_get (D := (dC, dI)) (ci := 2) (v := .int (S_3 20 j)) (C := RBl) (T := TBl) (N := 8) hx hb hc inBl hown hK hP (18 + j) (xb_cell (by omega)) rfl 6 (by decide) (hc _ w91) (fun _ h9 => h9) rfl dBl_work_73 ?_
        refine lv_aload_n hx hb dBl_work_76 rfl (lv_at hl 0 rfl) ?_
        refine va_get (D := (dC, dI)) (ci := 2) (v := .int (S_3 15 j)) (C := RBl) (T := TBl) (N := 8) hx hb hc inBl hown hK hP (18 + j) (xb_cell (by omega)) rfl 1 (by decide) (hc _ w83) (fun _ h9 => h9) rfl dBl_work_77 ?_
        refine lv_icmp_ne (tgt := 87) hx hb dBl_work_80 (by decide) (fun c_6 => ?_) (fun c_6 => ?_)
        · refine lv_iconst (v := 0) hx hb dBl_work_87 (by decide +kernel) ?_
          refine va_put (D := (dC, dI)) (ci := 2) (v := .int 0) (ty := .int) (C := RBl) (T := TBl) (N := 8) hx hb hc inBl tyBl tyBl_ok nmBl hown hK hP hD hS (18 + j) (xb_cell (by omega)) rfl 5 (by decide) (hc _ w89) (fun _ h9 => h9) rfl (by decide +kernel) rfl rfl (Nat.le_of_ble_eq_true rfl) dBl_work_88 (fun H locs hP hD hS => ?_)
          obtain ⟨S_8, eS_8⟩ : ∃ z9 : Ss, z9 = row S_3 19 (upd (S_3 19) j 0) := ⟨_, rfl⟩
          rw [xb_set (by omega) 5 (by decide)] at hP hD
          have hP : va_P (dC, dI) vwCl (XW ad ca S_8) H := by rw [eS_8]; exact hP
          have hD : va_D A (XW ad ca S_8) := by rw [eS_8]; exact hD
          refine lv_goto (tgt := 259) hx hb dBl_work_91 (by decide) ?_
          refine lv_aload_n hx hb dBl_work_259 rfl (lv_at hl 0 rfl) ?_
          refine lv_iload_n hx hb dBl_work_260 rfl (lv_at hl 1 rfl) ?_
          refine va_put (D := (dC, dI)) (ci := 2) (v := .int x) (ty := .int) (C := RBl) (T := TBl) (N := 8) hx hb hc inBl tyBl tyBl_ok nmBl hown hK hP hD hS (18 + j) (xb_cell (by omega)) rfl 7 (by decide) (hc _ w93) (fun _ h9 => h9) rfl (by decide +kernel) rfl rfl (Nat.le_of_ble_eq_true rfl) dBl_work_261 (fun H locs hP hD hS => ?_)
          obtain ⟨S_9, eS_9⟩ : ∃ z9 : Ss, z9 = row S_8 21 (upd (S_8 21) j x) := ⟨_, rfl⟩
          rw [xb_set (by omega) 7 (by decide)] at hP hD
          have hP : va_P (dC, dI) vwCl (XW ad ca S_9) H := by rw [eS_9]; exact hP
          have hD : va_D A (XW ad ca S_9) := by rw [eS_9]; exact hD
          refine lv_aload_n hx hb dBl_work_264 rfl (lv_at hl 0 rfl) ?_
          refine va_get (D := (dC, dI)) (ci := 2) (v := .int (S_9 19 j)) (C := RBl) (T := TBl) (N := 8) hx hb hc inBl hown hK hP (18 + j) (xb_cell (by omega)) rfl 5 (by decide) (hc _ w89) (fun _ h9 => h9) rfl dBl_work_265 ?_
          exact W.iret (v := (S_9 19 j)) hx hb hr (fun t ht hW => ⟨⟨_, S_9, rfl, (by (try dsimp only); exact (by sorry)), by rw [ht]; exact hP, va_K.moved hW.alike hK, hD⟩, hS.F ht⟩) hS.2.2 dBl_work_268
        · refine lv_iconst (v := 1) hx hb dBl_work_83 (by decide +kernel) ?_
          refine lv_goto (tgt := 88) hx hb dBl_work_84 (by decide) ?_
          refine va_put (D := (dC, dI)) (ci := 2) (v := .int 1) (ty := .int) (C := RBl) (T := TBl) (N := 8) hx hb hc inBl tyBl tyBl_ok nmBl hown hK hP hD hS (18 + j) (xb_cell (by omega)) rfl 5 (by decide) (hc _ w89) (fun _ h9 => h9) rfl (by decide +kernel) rfl rfl (Nat.le_of_ble_eq_true rfl) dBl_work_88 (fun H locs hP hD hS => ?_)
          obtain ⟨S_10, eS_10⟩ : ∃ z9 : Ss, z9 = row S_3 19 (upd (S_3 19) j 1) := ⟨_, rfl⟩
          rw [xb_set (by omega) 5 (by decide)] at hP hD
          have hP : va_P (dC, dI) vwCl (XW ad ca S_10) H := by rw [eS_10]; exact hP
          have hD : va_D A (XW ad ca S_10) := by rw [eS_10]; exact hD
          refine lv_goto (tgt := 259) hx hb dBl_work_91 (by decide) ?_
          refine lv_aload_n hx hb dBl_work_259 rfl (lv_at hl 0 rfl) ?_
          refine lv_iload_n hx hb dBl_work_260 rfl (lv_at hl 1 rfl) ?_
          refine va_put (D := (dC, dI)) (ci := 2) (v := .int x) (ty := .int) (C := RBl) (T := TBl) (N := 8) hx hb hc inBl tyBl tyBl_ok nmBl hown hK hP hD hS (18 + j) (xb_cell (by omega)) rfl 7 (by decide) (hc _ w93) (fun _ h9 => h9) rfl (by decide +kernel) rfl rfl (Nat.le_of_ble_eq_true rfl) dBl_work_261 (fun H locs hP hD hS => ?_)
          obtain ⟨S_11, eS_11⟩ : ∃ z9 : Ss, z9 = row S_10 21 (upd (S_10 21) j x) := ⟨_, rfl⟩
          rw [xb_set (by omega) 7 (by decide)] at hP hD
          have hP : va_P (dC, dI) vwCl (XW ad ca S_11) H := by rw [eS_11]; exact hP
          have hD : va_D A (XW ad ca S_11) := by rw [eS_11]; exact hD
          refine lv_aload_n hx hb dBl_work_264 rfl (lv_at hl 0 rfl) ?_
          refine va_get (D := (dC, dI)) (ci := 2) (v := .int (S_11 19 j)) (C := RBl) (T := TBl) (N := 8) hx hb hc inBl hown hK hP (18 + j) (xb_cell (by omega)) rfl 5 (by decide) (hc _ w89) (fun _ h9 => h9) rfl dBl_work_265 ?_
          exact W.iret (v := (S_11 19 j)) hx hb hr (fun t ht hW => ⟨⟨_, S_11, rfl, (by (try dsimp only); exact (by sorry)), by rw [ht]; exact hP, va_K.moved hW.alike hK, hD⟩, hS.F ht⟩) hS.2.2 dBl_work_268
    · refine lv_aload_n hx hb dBl_work_46 rfl (lv_at hl 0 rfl) ?_
      refine va_get (D := (dC, dI)) (ci := 2) (v := .int (S 20 j)) (C := RBl) (T := TBl) (N := 8) hx hb hc inBl hown hK hP (18 + j) (xb_cell (by omega)) rfl 6 (by decide) (hc _ w91) (fun _ h9 => h9) rfl dBl_work_47 ?_
      refine lv_iconst (v := 1) hx hb dBl_work_50 (by decide +kernel) ?_
      refine lv_iadd hx hb dBl_work_51 ?_
      refine lv_aload_n hx hb dBl_work_52 rfl (lv_at hl 0 rfl) ?_
      refine va_get (D := (dC, dI)) (ci := 2) (v := .int (S 15 j)) (C := RBl) (T := TBl) (N := 8) hx hb hc inBl hown hK hP (18 + j) (xb_cell (by omega)) rfl 1 (by decide) (hc _ w83) (fun _ h9 => h9) rfl dBl_work_53 ?_
      refine va_mmin hx hb (by rw [hml]; exact hl.1.symm) hown (hc _ w440) (hc _ w441) (hc _ w14) (hc _ w442) (Nat.le_of_ble_eq_true rfl) (Nat.le_of_ble_eq_true rfl) (Nat.zero_le _) (Nat.zero_le _) dBl_work_56 ?_
      refine lv_topi (fun v_12 ev_12 => ?_)
      refine lv_goto (tgt := 63) hx hb dBl_work_59 (by decide) ?_
      refine va_put (D := (dC, dI)) (ci := 2) (v := .int v_12) (ty := .int) (C := RBl) (T := TBl) (N := 8) hx hb hc inBl tyBl tyBl_ok nmBl hown hK hP hD hS (18 + j) (xb_cell (by omega)) rfl 6 (by decide) (hc _ w91) (fun _ h9 => h9) rfl (by decide +kernel) rfl rfl (Nat.le_of_ble_eq_true rfl) dBl_work_63 (fun H locs hP hD hS => ?_)
      obtain ⟨S_13, eS_13⟩ : ∃ z9 : Ss, z9 = row S 20 (upd (S 20) j v_12) := ⟨_, rfl⟩
      rw [xb_set (by omega) 6 (by decide)] at hP hD
      have hP : va_P (dC, dI) vwCl (XW ad ca S_13) H := by rw [eS_13]; exact hP
      have hD : va_D A (XW ad ca S_13) := by rw [eS_13]; exact hD
      refine lv_aload_n hx hb dBl_work_66 rfl (lv_at hl 0 rfl) ?_
      refine lv_iload_n hx hb dBl_work_67 rfl (lv_at hl 1 rfl) ?_
      refine lv_iconst (v := 1) hx hb dBl_work_68 (by decide +kernel) ?_
      refine lv_icmp_ne (tgt := 87) hx hb dBl_work_69 (by decide) (fun c_13 => ?_) (fun c_13 => ?_)
      · refine lv_iconst (v := 0) hx hb dBl_work_87 (by decide +kernel) ?_
        refine va_put (D := (dC, dI)) (ci := 2) (v := .int 0) (ty := .int) (C := RBl) (T := TBl) (N := 8) hx hb hc inBl tyBl tyBl_ok nmBl hown hK hP hD hS (18 + j) (xb_cell (by omega)) rfl 5 (by decide) (hc _ w89) (fun _ h9 => h9) rfl (by decide +kernel) rfl rfl (Nat.le_of_ble_eq_true rfl) dBl_work_88 (fun H locs hP hD hS => ?_)
        obtain ⟨S_15, eS_15⟩ : ∃ z9 : Ss, z9 = row S_13 19 (upd (S_13 19) j 0) := ⟨_, rfl⟩
        rw [xb_set (by omega) 5 (by decide)] at hP hD
        have hP : va_P (dC, dI) vwCl (XW ad ca S_15) H := by rw [eS_15]; exact hP
        have hD : va_D A (XW ad ca S_15) := by rw [eS_15]; exact hD
        refine lv_goto (tgt := 259) hx hb dBl_work_91 (by decide) ?_
        refine lv_aload_n hx hb dBl_work_259 rfl (lv_at hl 0 rfl) ?_
        refine lv_iload_n hx hb dBl_work_260 rfl (lv_at hl 1 rfl) ?_
        refine va_put (D := (dC, dI)) (ci := 2) (v := .int x) (ty := .int) (C := RBl) (T := TBl) (N := 8) hx hb hc inBl tyBl tyBl_ok nmBl hown hK hP hD hS (18 + j) (xb_cell (by omega)) rfl 7 (by decide) (hc _ w93) (fun _ h9 => h9) rfl (by decide +kernel) rfl rfl (Nat.le_of_ble_eq_true rfl) dBl_work_261 (fun H locs hP hD hS => ?_)
        obtain ⟨S_16, eS_16⟩ : ∃ z9 : Ss, z9 = row S_15 21 (upd (S_15 21) j x) := ⟨_, rfl⟩
        rw [xb_set (by omega) 7 (by decide)] at hP hD
        have hP : va_P (dC, dI) vwCl (XW ad ca S_16) H := by rw [eS_16]; exact hP
        have hD : va_D A (XW ad ca S_16) := by rw [eS_16]; exact hD
        refine lv_aload_n hx hb dBl_work_264 rfl (lv_at hl 0 rfl) ?_
        refine va_get (D := (dC, dI)) (ci := 2) (v := .int (S_16 19 j)) (C := RBl) (T := TBl) (N := 8) hx hb hc inBl hown hK hP (18 + j) (xb_cell (by omega)) rfl 5 (by decide) (hc _ w89) (fun _ h9 => h9) rfl dBl_work_265 ?_
        exact W.iret (v := (S_16 19 j)) hx hb hr (fun t ht hW => ⟨⟨_, S_16, rfl, (by (try dsimp only); exact (by sorry)), by rw [ht]; exact hP, va_K.moved hW.alike hK, hD⟩, hS.F ht⟩) hS.2.2 dBl_work_268
      · refine lv_aload_n hx hb dBl_work_72 rfl (lv_at hl 0 rfl) ?_
        refine va_get (D := (dC, dI)) (ci := 2) (v := .int (S_13 20 j)) (C := RBl) (T := TBl) (N := 8) hx hb hc inBl hown hK hP (18 + j) (xb_cell (by omega)) rfl 6 (by decide) (hc _ w91) (fun _ h9 => h9) rfl dBl_work_73 ?_
        refine lv_aload_n hx hb dBl_work_76 rfl (lv_at hl 0 rfl) ?_
        refine va_get (D := (dC, dI)) (ci := 2) (v := .int (S_13 15 j)) (C := RBl) (T := TBl) (N := 8) hx hb hc inBl hown hK hP (18 + j) (xb_cell (by omega)) rfl 1 (by decide) (hc _ w83) (fun _ h9 => h9) rfl dBl_work_77 ?_
        refine lv_icmp_ne (tgt := 87) hx hb dBl_work_80 (by decide) (fun c_16 => ?_) (fun c_16 => ?_)
        · refine lv_iconst (v := 0) hx hb dBl_work_87 (by decide +kernel) ?_
          refine va_put (D := (dC, dI)) (ci := 2) (v := .int 0) (ty := .int) (C := RBl) (T := TBl) (N := 8) hx hb hc inBl tyBl tyBl_ok nmBl hown hK hP hD hS (18 + j) (xb_cell (by omega)) rfl 5 (by decide) (hc _ w89) (fun _ h9 => h9) rfl (by decide +kernel) rfl rfl (Nat.le_of_ble_eq_true rfl) dBl_work_88 (fun H locs hP hD hS => ?_)
          obtain ⟨S_18, eS_18⟩ : ∃ z9 : Ss, z9 = row S_13 19 (upd (S_13 19) j 0) := ⟨_, rfl⟩
          rw [xb_set (by omega) 5 (by decide)] at hP hD
          have hP : va_P (dC, dI) vwCl (XW ad ca S_18) H := by rw [eS_18]; exact hP
          have hD : va_D A (XW ad ca S_18) := by rw [eS_18]; exact hD
          refine lv_goto (tgt := 259) hx hb dBl_work_91 (by decide) ?_
          refine lv_aload_n hx hb dBl_work_259 rfl (lv_at hl 0 rfl) ?_
          refine lv_iload_n hx hb dBl_work_260 rfl (lv_at hl 1 rfl) ?_
          refine va_put (D := (dC, dI)) (ci := 2) (v := .int x) (ty := .int) (C := RBl) (T := TBl) (N := 8) hx hb hc inBl tyBl tyBl_ok nmBl hown hK hP hD hS (18 + j) (xb_cell (by omega)) rfl 7 (by decide) (hc _ w93) (fun _ h9 => h9) rfl (by decide +kernel) rfl rfl (Nat.le_of_ble_eq_true rfl) dBl_work_261 (fun H locs hP hD hS => ?_)
          obtain ⟨S_19, eS_19⟩ : ∃ z9 : Ss, z9 = row S_18 21 (upd (S_18 21) j x) := ⟨_, rfl⟩
          rw [xb_set (by omega) 7 (by decide)] at hP hD
          have hP : va_P (dC, dI) vwCl (XW ad ca S_19) H := by rw [eS_19]; exact hP
          have hD : va_D A (XW ad ca S_19) := by rw [eS_19]; exact hD
          refine lv_aload_n hx hb dBl_work_264 rfl (lv_at hl 0 rfl) ?_
          refine va_get (D := (dC, dI)) (ci := 2) (v := .int (S_19 19 j)) (C := RBl) (T := TBl) (N := 8) hx hb hc inBl hown hK hP (18 + j) (xb_cell (by omega)) rfl 5 (by decide) (hc _ w89) (fun _ h9 => h9) rfl dBl_work_265 ?_
          exact W.iret (v := (S_19 19 j)) hx hb hr (fun t ht hW => ⟨⟨_, S_19, rfl, (by (try dsimp only); exact (by sorry)), by rw [ht]; exact hP, va_K.moved hW.alike hK, hD⟩, hS.F ht⟩) hS.2.2 dBl_work_268
        · refine lv_iconst (v := 1) hx hb dBl_work_83 (by decide +kernel) ?_
          refine lv_goto (tgt := 88) hx hb dBl_work_84 (by decide) ?_
          refine va_put (D := (dC, dI)) (ci := 2) (v := .int 1) (ty := .int) (C := RBl) (T := TBl) (N := 8) hx hb hc inBl tyBl tyBl_ok nmBl hown hK hP hD hS (18 + j) (xb_cell (by omega)) rfl 5 (by decide) (hc _ w89) (fun _ h9 => h9) rfl (by decide +kernel) rfl rfl (Nat.le_of_ble_eq_true rfl) dBl_work_88 (fun H locs hP hD hS => ?_)
          obtain ⟨S_20, eS_20⟩ : ∃ z9 : Ss, z9 = row S_13 19 (upd (S_13 19) j 1) := ⟨_, rfl⟩
          rw [xb_set (by omega) 5 (by decide)] at hP hD
          have hP : va_P (dC, dI) vwCl (XW ad ca S_20) H := by rw [eS_20]; exact hP
          have hD : va_D A (XW ad ca S_20) := by rw [eS_20]; exact hD
          refine lv_goto (tgt := 259) hx hb dBl_work_91 (by decide) ?_
          refine lv_aload_n hx hb dBl_work_259 rfl (lv_at hl 0 rfl) ?_
          refine lv_iload_n hx hb dBl_work_260 rfl (lv_at hl 1 rfl) ?_
          refine va_put (D := (dC, dI)) (ci := 2) (v := .int x) (ty := .int) (C := RBl) (T := TBl) (N := 8) hx hb hc inBl tyBl tyBl_ok nmBl hown hK hP hD hS (18 + j) (xb_cell (by omega)) rfl 7 (by decide) (hc _ w93) (fun _ h9 => h9) rfl (by decide +kernel) rfl rfl (Nat.le_of_ble_eq_true rfl) dBl_work_261 (fun H locs hP hD hS => ?_)
          obtain ⟨S_21, eS_21⟩ : ∃ z9 : Ss, z9 = row S_20 21 (upd (S_20 21) j x) := ⟨_, rfl⟩
          rw [xb_set (by omega) 7 (by decide)] at hP hD
          have hP : va_P (dC, dI) vwCl (XW ad ca S_21) H := by rw [eS_21]; exact hP
          have hD : va_D A (XW ad ca S_21) := by rw [eS_21]; exact hD
          refine lv_aload_n hx hb dBl_work_264 rfl (lv_at hl 0 rfl) ?_
          refine va_get (D := (dC, dI)) (ci := 2) (v := .int (S_21 19 j)) (C := RBl) (T := TBl) (N := 8) hx hb hc inBl hown hK hP (18 + j) (xb_cell (by omega)) rfl 5 (by decide) (hc _ w89) (fun _ h9 => h9) rfl dBl_work_265 ?_
          exact W.iret (v := (S_21 19 j)) hx hb hr (fun t ht hW => ⟨⟨_, S_21, rfl, (by (try dsimp only); exact (by sorry)), by rw [ht]; exact hP, va_K.moved hW.alike hK, hD⟩, hS.F ht⟩) hS.2.2 dBl_work_268
  by_cases w_21 : S 14 j = 1
  · refine lv_tableIn (tgt := 94) hx hb dBl_work_4 (by rw [w_21]; decide) (by rw [w_21]; decide) (by rw [w_21]; rfl) (by decide) ?_
    refine lv_aload_n hx hb dBl_work_94 rfl (lv_at hl 0 rfl) ?_
    refine lv_iload_n hx hb dBl_work_95 rfl (lv_at hl 1 rfl) ?_
    refine lv_iconst (v := 1) hx hb dBl_work_96 (by decide +kernel) ?_
    refine lv_icmp_ne (tgt := 107) hx hb dBl_work_97 (by decide) (fun c_22 => ?_) (fun c_22 => ?_)
    · refine lv_aload_n hx hb dBl_work_107 rfl (lv_at hl 0 rfl) ?_
      refine va_get (D := (dC, dI)) (ci := 2) (v := .int (S 20 j)) (C := RBl) (T := TBl) (N := 8) hx hb hc inBl hown hK hP (18 + j) (xb_cell (by omega)) rfl 6 (by decide) (hc _ w91) (fun _ h9 => h9) rfl dBl_work_108 ?_
      refine lv_iconst (v := 1) hx hb dBl_work_111 (by decide +kernel) ?_
      refine lv_isub hx hb dBl_work_112 ?_
      refine lv_iconst (v := 0) hx hb dBl_work_113 (by decide +kernel) ?_
      refine va_mmax hx hb (by rw [hml]; exact hl.1.symm) hown (hc _ w443) (hc _ w444) (hc _ w14) (hc _ w445) (Nat.le_of_ble_eq_true rfl) (Nat.le_of_ble_eq_true rfl) (Nat.zero_le _) (Nat.zero_le _) dBl_work_114 ?_
      refine lv_topi (fun v_24 ev_24 => ?_)
      refine va_put (D := (dC, dI)) (ci := 2) (v := .int v_24) (ty := .int) (C := RBl) (T := TBl) (N := 8) hx hb hc inBl tyBl tyBl_ok nmBl hown hK hP hD hS (18 + j) (xb_cell (by omega)) rfl 6 (by decide) (hc _ w91) (fun _ h9 => h9) rfl (by decide +kernel) rfl rfl (Nat.le_of_ble_eq_true rfl) dBl_work_117 (fun H locs hP hD hS => ?_)
      obtain ⟨S_25, eS_25⟩ : ∃ z9 : Ss, z9 = row S 20 (upd (S 20) j v_24) := ⟨_, rfl⟩
      rw [xb_set (by omega) 6 (by decide)] at hP hD
      have hP : va_P (dC, dI) vwCl (XW ad ca S_25) H := by rw [eS_25]; exact hP
      have hD : va_D A (XW ad ca S_25) := by rw [eS_25]; exact hD
      refine lv_aload_n hx hb dBl_work_120 rfl (lv_at hl 0 rfl) ?_
      refine lv_aload_n hx hb dBl_work_121 rfl (lv_at hl 0 rfl) ?_
      refine va_get (D := (dC, dI)) (ci := 2) (v := .int (S_25 20 j)) (C := RBl) (T := TBl) (N := 8) hx hb hc inBl hown hK hP (18 + j) (xb_cell (by omega)) rfl 6 (by decide) (hc _ w91) (fun _ h9 => h9) rfl dBl_work_122 ?_
      refine lv_if_le (tgt := 132) hx hb dBl_work_125 (by decide) (fun c_25 => ?_) (fun c_25 => ?_)
      · refine lv_iconst (v := 0) hx hb dBl_work_132 (by decide +kernel) ?_
        refine va_put (D := (dC, dI)) (ci := 2) (v := .int 0) (ty := .int) (C := RBl) (T := TBl) (N := 8) hx hb hc inBl tyBl tyBl_ok nmBl hown hK hP hD hS (18 + j) (xb_cell (by omega)) rfl 5 (by decide) (hc _ w89) (fun _ h9 => h9) rfl (by decide +kernel) rfl rfl (Nat.le_of_ble_eq_true rfl) dBl_work_133 (fun H locs hP hD hS => ?_)
        obtain ⟨S_27, eS_27⟩ : ∃ z9 : Ss, z9 = row S_25 19 (upd (S_25 19) j 0) := ⟨_, rfl⟩
        rw [xb_set (by omega) 5 (by decide)] at hP hD
        have hP : va_P (dC, dI) vwCl (XW ad ca S_27) H := by rw [eS_27]; exact hP
        have hD : va_D A (XW ad ca S_27) := by rw [eS_27]; exact hD
        refine lv_goto (tgt := 259) hx hb dBl_work_136 (by decide) ?_
        refine lv_aload_n hx hb dBl_work_259 rfl (lv_at hl 0 rfl) ?_
        refine lv_iload_n hx hb dBl_work_260 rfl (lv_at hl 1 rfl) ?_
        refine va_put (D := (dC, dI)) (ci := 2) (v := .int x) (ty := .int) (C := RBl) (T := TBl) (N := 8) hx hb hc inBl tyBl tyBl_ok nmBl hown hK hP hD hS (18 + j) (xb_cell (by omega)) rfl 7 (by decide) (hc _ w93) (fun _ h9 => h9) rfl (by decide +kernel) rfl rfl (Nat.le_of_ble_eq_true rfl) dBl_work_261 (fun H locs hP hD hS => ?_)
        obtain ⟨S_28, eS_28⟩ : ∃ z9 : Ss, z9 = row S_27 21 (upd (S_27 21) j x) := ⟨_, rfl⟩
        rw [xb_set (by omega) 7 (by decide)] at hP hD
        have hP : va_P (dC, dI) vwCl (XW ad ca S_28) H := by rw [eS_28]; exact hP
        have hD : va_D A (XW ad ca S_28) := by rw [eS_28]; exact hD
        refine lv_aload_n hx hb dBl_work_264 rfl (lv_at hl 0 rfl) ?_
        refine va_get (D := (dC, dI)) (ci := 2) (v := .int (S_28 19 j)) (C := RBl) (T := TBl) (N := 8) hx hb hc inBl hown hK hP (18 + j) (xb_cell (by omega)) rfl 5 (by decide) (hc _ w89) (fun _ h9 => h9) rfl dBl_work_265 ?_
        exact W.iret (v := (S_28 19 j)) hx hb hr (fun t ht hW => ⟨⟨_, S_28, rfl, (by (try dsimp only); exact (by sorry)), by rw [ht]; exact hP, va_K.moved hW.alike hK, hD⟩, hS.F ht⟩) hS.2.2 dBl_work_268
      · refine lv_iconst (v := 1) hx hb dBl_work_128 (by decide +kernel) ?_
        refine lv_goto (tgt := 133) hx hb dBl_work_129 (by decide) ?_
        refine va_put (D := (dC, dI)) (ci := 2) (v := .int 1) (ty := .int) (C := RBl) (T := TBl) (N := 8) hx hb hc inBl tyBl tyBl_ok nmBl hown hK hP hD hS (18 + j) (xb_cell (by omega)) rfl 5 (by decide) (hc _ w89) (fun _ h9 => h9) rfl (by decide +kernel) rfl rfl (Nat.le_of_ble_eq_true rfl) dBl_work_133 (fun H locs hP hD hS => ?_)
        obtain ⟨S_29, eS_29⟩ : ∃ z9 : Ss, z9 = row S_25 19 (upd (S_25 19) j 1) := ⟨_, rfl⟩
        rw [xb_set (by omega) 5 (by decide)] at hP hD
        have hP : va_P (dC, dI) vwCl (XW ad ca S_29) H := by rw [eS_29]; exact hP
        have hD : va_D A (XW ad ca S_29) := by rw [eS_29]; exact hD
        refine lv_goto (tgt := 259) hx hb dBl_work_136 (by decide) ?_
        refine lv_aload_n hx hb dBl_work_259 rfl (lv_at hl 0 rfl) ?_
        refine lv_iload_n hx hb dBl_work_260 rfl (lv_at hl 1 rfl) ?_
        refine va_put (D := (dC, dI)) (ci := 2) (v := .int x) (ty := .int) (C := RBl) (T := TBl) (N := 8) hx hb hc inBl tyBl tyBl_ok nmBl hown hK hP hD hS (18 + j) (xb_cell (by omega)) rfl 7 (by decide) (hc _ w93) (fun _ h9 => h9) rfl (by decide +kernel) rfl rfl (Nat.le_of_ble_eq_true rfl) dBl_work_261 (fun H locs hP hD hS => ?_)
        obtain ⟨S_30, eS_30⟩ : ∃ z9 : Ss, z9 = row S_29 21 (upd (S_29 21) j x) := ⟨_, rfl⟩
        rw [xb_set (by omega) 7 (by decide)] at hP hD
        have hP : va_P (dC, dI) vwCl (XW ad ca S_30) H := by rw [eS_30]; exact hP
        have hD : va_D A (XW ad ca S_30) := by rw [eS_30]; exact hD
        refine lv_aload_n hx hb dBl_work_264 rfl (lv_at hl 0 rfl) ?_
        refine va_get (D := (dC, dI)) (ci := 2) (v := .int (S_30 19 j)) (C := RBl) (T := TBl) (N := 8) hx hb hc inBl hown hK hP (18 + j) (xb_cell (by omega)) rfl 5 (by decide) (hc _ w89) (fun _ h9 => h9) rfl dBl_work_265 ?_
        exact W.iret (v := (S_30 19 j)) hx hb hr (fun t ht hW => ⟨⟨_, S_30, rfl, (by (try dsimp only); exact (by sorry)), by rw [ht]; exact hP, va_K.moved hW.alike hK, hD⟩, hS.F ht⟩) hS.2.2 dBl_work_268
    · refine lv_aload_n hx hb dBl_work_100 rfl (lv_at hl 0 rfl) ?_
      refine va_get (D := (dC, dI)) (ci := 2) (v := .int (S 15 j)) (C := RBl) (T := TBl) (N := 8) hx hb hc inBl hown hK hP (18 + j) (xb_cell (by omega)) rfl 1 (by decide) (hc _ w83) (fun _ h9 => h9) rfl dBl_work_101 ?_
      refine lv_goto (tgt := 117) hx hb dBl_work_104 (by decide) ?_
      refine va_put (D := (dC, dI)) (ci := 2) (v := .int (S 15 j)) (ty := .int) (C := RBl) (T := TBl) (N := 8) hx hb hc inBl tyBl tyBl_ok nmBl hown hK hP hD hS (18 + j) (xb_cell (by omega)) rfl 6 (by decide) (hc _ w91) (fun _ h9 => h9) rfl (by decide +kernel) rfl rfl (Nat.le_of_ble_eq_true rfl) dBl_work_117 (fun H locs hP hD hS => ?_)
      obtain ⟨S_31, eS_31⟩ : ∃ z9 : Ss, z9 = row S 20 (upd (S 20) j (S 15 j)) := ⟨_, rfl⟩
      rw [xb_set (by omega) 6 (by decide)] at hP hD
      have hP : va_P (dC, dI) vwCl (XW ad ca S_31) H := by rw [eS_31]; exact hP
      have hD : va_D A (XW ad ca S_31) := by rw [eS_31]; exact hD
      refine lv_aload_n hx hb dBl_work_120 rfl (lv_at hl 0 rfl) ?_
      refine lv_aload_n hx hb dBl_work_121 rfl (lv_at hl 0 rfl) ?_
      refine va_get (D := (dC, dI)) (ci := 2) (v := .int (S_31 20 j)) (C := RBl) (T := TBl) (N := 8) hx hb hc inBl hown hK hP (18 + j) (xb_cell (by omega)) rfl 6 (by decide) (hc _ w91) (fun _ h9 => h9) rfl dBl_work_122 ?_
      refine lv_if_le (tgt := 132) hx hb dBl_work_125 (by decide) (fun c_31 => ?_) (fun c_31 => ?_)
      · refine lv_iconst (v := 0) hx hb dBl_work_132 (by decide +kernel) ?_
        refine va_put (D := (dC, dI)) (ci := 2) (v := .int 0) (ty := .int) (C := RBl) (T := TBl) (N := 8) hx hb hc inBl tyBl tyBl_ok nmBl hown hK hP hD hS (18 + j) (xb_cell (by omega)) rfl 5 (by decide) (hc _ w89) (fun _ h9 => h9) rfl (by decide +kernel) rfl rfl (Nat.le_of_ble_eq_true rfl) dBl_work_133 (fun H locs hP hD hS => ?_)
        obtain ⟨S_33, eS_33⟩ : ∃ z9 : Ss, z9 = row S_31 19 (upd (S_31 19) j 0) := ⟨_, rfl⟩
        rw [xb_set (by omega) 5 (by decide)] at hP hD
        have hP : va_P (dC, dI) vwCl (XW ad ca S_33) H := by rw [eS_33]; exact hP
        have hD : va_D A (XW ad ca S_33) := by rw [eS_33]; exact hD
        refine lv_goto (tgt := 259) hx hb dBl_work_136 (by decide) ?_
        refine lv_aload_n hx hb dBl_work_259 rfl (lv_at hl 0 rfl) ?_
        refine lv_iload_n hx hb dBl_work_260 rfl (lv_at hl 1 rfl) ?_
        refine va_put (D := (dC, dI)) (ci := 2) (v := .int x) (ty := .int) (C := RBl) (T := TBl) (N := 8) hx hb hc inBl tyBl tyBl_ok nmBl hown hK hP hD hS (18 + j) (xb_cell (by omega)) rfl 7 (by decide) (hc _ w93) (fun _ h9 => h9) rfl (by decide +kernel) rfl rfl (Nat.le_of_ble_eq_true rfl) dBl_work_261 (fun H locs hP hD hS => ?_)
        obtain ⟨S_34, eS_34⟩ : ∃ z9 : Ss, z9 = row S_33 21 (upd (S_33 21) j x) := ⟨_, rfl⟩
        rw [xb_set (by omega) 7 (by decide)] at hP hD
        have hP : va_P (dC, dI) vwCl (XW ad ca S_34) H := by rw [eS_34]; exact hP
        have hD : va_D A (XW ad ca S_34) := by rw [eS_34]; exact hD
        refine lv_aload_n hx hb dBl_work_264 rfl (lv_at hl 0 rfl) ?_
        refine va_get (D := (dC, dI)) (ci := 2) (v := .int (S_34 19 j)) (C := RBl) (T := TBl) (N := 8) hx hb hc inBl hown hK hP (18 + j) (xb_cell (by omega)) rfl 5 (by decide) (hc _ w89) (fun _ h9 => h9) rfl dBl_work_265 ?_
        exact W.iret (v := (S_34 19 j)) hx hb hr (fun t ht hW => ⟨⟨_, S_34, rfl, (by (try dsimp only); exact (by sorry)), by rw [ht]; exact hP, va_K.moved hW.alike hK, hD⟩, hS.F ht⟩) hS.2.2 dBl_work_268
      · refine lv_iconst (v := 1) hx hb dBl_work_128 (by decide +kernel) ?_
        refine lv_goto (tgt := 133) hx hb dBl_work_129 (by decide) ?_
        refine va_put (D := (dC, dI)) (ci := 2) (v := .int 1) (ty := .int) (C := RBl) (T := TBl) (N := 8) hx hb hc inBl tyBl tyBl_ok nmBl hown hK hP hD hS (18 + j) (xb_cell (by omega)) rfl 5 (by decide) (hc _ w89) (fun _ h9 => h9) rfl (by decide +kernel) rfl rfl (Nat.le_of_ble_eq_true rfl) dBl_work_133 (fun H locs hP hD hS => ?_)
        obtain ⟨S_35, eS_35⟩ : ∃ z9 : Ss, z9 = row S_31 19 (upd (S_31 19) j 1) := ⟨_, rfl⟩
        rw [xb_set (by omega) 5 (by decide)] at hP hD
        have hP : va_P (dC, dI) vwCl (XW ad ca S_35) H := by rw [eS_35]; exact hP
        have hD : va_D A (XW ad ca S_35) := by rw [eS_35]; exact hD
        refine lv_goto (tgt := 259) hx hb dBl_work_136 (by decide) ?_
        refine lv_aload_n hx hb dBl_work_259 rfl (lv_at hl 0 rfl) ?_
        refine lv_iload_n hx hb dBl_work_260 rfl (lv_at hl 1 rfl) ?_
        refine va_put (D := (dC, dI)) (ci := 2) (v := .int x) (ty := .int) (C := RBl) (T := TBl) (N := 8) hx hb hc inBl tyBl tyBl_ok nmBl hown hK hP hD hS (18 + j) (xb_cell (by omega)) rfl 7 (by decide) (hc _ w93) (fun _ h9 => h9) rfl (by decide +kernel) rfl rfl (Nat.le_of_ble_eq_true rfl) dBl_work_261 (fun H locs hP hD hS => ?_)
        obtain ⟨S_36, eS_36⟩ : ∃ z9 : Ss, z9 = row S_35 21 (upd (S_35 21) j x) := ⟨_, rfl⟩
        rw [xb_set (by omega) 7 (by decide)] at hP hD
        have hP : va_P (dC, dI) vwCl (XW ad ca S_36) H := by rw [eS_36]; exact hP
        have hD : va_D A (XW ad ca S_36) := by rw [eS_36]; exact hD
        refine lv_aload_n hx hb dBl_work_264 rfl (lv_at hl 0 rfl) ?_
        refine va_get (D := (dC, dI)) (ci := 2) (v := .int (S_36 19 j)) (C := RBl) (T := TBl) (N := 8) hx hb hc inBl hown hK hP (18 + j) (xb_cell (by omega)) rfl 5 (by decide) (hc _ w89) (fun _ h9 => h9) rfl dBl_work_265 ?_
        exact W.iret (v := (S_36 19 j)) hx hb hr (fun t ht hW => ⟨⟨_, S_36, rfl, (by (try dsimp only); exact (by sorry)), by rw [ht]; exact hP, va_K.moved hW.alike hK, hD⟩, hS.F ht⟩) hS.2.2 dBl_work_268
  by_cases w_36 : S 14 j = 2
  · refine lv_tableIn (tgt := 139) hx hb dBl_work_4 (by rw [w_36]; decide) (by rw [w_36]; decide) (by rw [w_36]; rfl) (by decide) ?_
    refine lv_aload_n hx hb dBl_work_139 rfl (lv_at hl 0 rfl) ?_
    refine lv_aload_n hx hb dBl_work_140 rfl (lv_at hl 0 rfl) ?_
    refine lv_iload_n hx hb dBl_work_141 rfl (lv_at hl 1 rfl) ?_
    refine lv_aload_n hx hb dBl_work_142 rfl (lv_at hl 2 rfl) ?_
    refine lv_aload_n hx hb dBl_work_143 rfl (lv_at hl 0 rfl) ?_
    refine va_get (D := (dC, dI)) (ci := 2) (v := .int (S 16 j)) (C := RBl) (T := TBl) (N := 8) hx hb hc inBl hown hK hP (18 + j) (xb_cell (by omega)) rfl 2 (by decide) (hc _ w84) (fun _ h9 => h9) rfl dBl_work_144 ?_
    refine W.eq (g2 := F0 m 147 ls [.int (nI q0), .ref (ad 1), .int x, .ref (ad (18 + j)), .ref (ad (18 + j))]) (by rw [hq2 w_36]) ?_
    refine vp_callSi (va_Run.run (va_runV (As := [.int (nI q0)]) (rest := [.int x, .ref (ad (18 + j)), .ref (ad (18 + j))]) ⟨hx, hb, hml, hown, hc⟩ (cMe_read l dC dI ad ca H.size S q0 (by omega)) (cwV 1 hc (gV w446 w447 w448 w2 qMe_read) rfl rfl rfl (by decide +kernel) ⟨Nat.le_of_ble_eq_true rfl, Nat.le_of_ble_eq_true rfl⟩) ⟨gPre_blind, va_recv hK hP (ci := 1) (q0 := 1) rfl rfl, (gPre_in hP hK hD)⟩ rfl rfl hl.1 rfl (lv_room (Nat.le_of_ble_eq_true rfl)) dBl_work_147 ⟨Nat.zero_le _, Nat.zero_le _⟩)) (fun r_38 hr_38 => ?_)
    refine vp_callSi (va_Run.run (va_runV (As := [.int x, .int r_38]) (rest := [.ref (ad (18 + j))]) ⟨hx, hb, hml, hown, hc⟩ (cBl_countWith l dC dI ad ca H.size S j (by omega) x r_38) (cwV 2 hc (gV w450 w452 s6 w4 qBl_countWith) rfl rfl rfl (by decide +kernel) ⟨Nat.le_of_ble_eq_true rfl, Nat.le_of_ble_eq_true rfl⟩) ⟨gPre_blind, va_recv hK hP (ci := 2) (q0 := (18 + j)) rfl (xb_cell (by omega)), (gPre_in hP hK hD)⟩ rfl rfl hl.1 rfl (lv_room (Nat.le_of_ble_eq_true rfl)) dBl_work_150 ⟨Nat.zero_le _, Nat.zero_le _⟩)) (fun r_39 hr_39 => ?_)
    refine va_put (D := (dC, dI)) (ci := 2) (v := .int r_39) (ty := .int) (C := RBl) (T := TBl) (N := 8) hx hb hc inBl tyBl tyBl_ok nmBl hown hK hP hD hS (18 + j) (xb_cell (by omega)) rfl 6 (by decide) (hc _ w91) (fun _ h9 => h9) rfl (by decide +kernel) rfl rfl (Nat.le_of_ble_eq_true rfl) dBl_work_153 (fun H locs hP hD hS => ?_)
    obtain ⟨S_40, eS_40⟩ : ∃ z9 : Ss, z9 = row S 20 (upd (S 20) j r_39) := ⟨_, rfl⟩
    rw [xb_set (by omega) 6 (by decide)] at hP hD
    have hP : va_P (dC, dI) vwCl (XW ad ca S_40) H := by rw [eS_40]; exact hP
    have hD : va_D A (XW ad ca S_40) := by rw [eS_40]; exact hD
    refine lv_aload_n hx hb dBl_work_156 rfl (lv_at hl 0 rfl) ?_
    refine lv_aload_n hx hb dBl_work_157 rfl (lv_at hl 0 rfl) ?_
    refine va_get (D := (dC, dI)) (ci := 2) (v := .int (S_40 20 j)) (C := RBl) (T := TBl) (N := 8) hx hb hc inBl hown hK hP (18 + j) (xb_cell (by omega)) rfl 6 (by decide) (hc _ w91) (fun _ h9 => h9) rfl dBl_work_158 ?_
    refine lv_aload_n hx hb dBl_work_161 rfl (lv_at hl 0 rfl) ?_
    refine va_get (D := (dC, dI)) (ci := 2) (v := .int (S_40 15 j)) (C := RBl) (T := TBl) (N := 8) hx hb hc inBl hown hK hP (18 + j) (xb_cell (by omega)) rfl 1 (by decide) (hc _ w83) (fun _ h9 => h9) rfl dBl_work_162 ?_
    refine lv_icmp_ne (tgt := 172) hx hb dBl_work_165 (by decide) (fun c_40 => ?_) (fun c_40 => ?_)
    · refine lv_iconst (v := 0) hx hb dBl_work_172 (by decide +kernel) ?_
      refine va_put (D := (dC, dI)) (ci := 2) (v := .int 0) (ty := .int) (C := RBl) (T := TBl) (N := 8) hx hb hc inBl tyBl tyBl_ok nmBl hown hK hP hD hS (18 + j) (xb_cell (by omega)) rfl 5 (by decide) (hc _ w89) (fun _ h9 => h9) rfl (by decide +kernel) rfl rfl (Nat.le_of_ble_eq_true rfl) dBl_work_173 (fun H locs hP hD hS => ?_)
      obtain ⟨S_42, eS_42⟩ : ∃ z9 : Ss, z9 = row S_40 19 (upd (S_40 19) j 0) := ⟨_, rfl⟩
      rw [xb_set (by omega) 5 (by decide)] at hP hD
      have hP : va_P (dC, dI) vwCl (XW ad ca S_42) H := by rw [eS_42]; exact hP
      have hD : va_D A (XW ad ca S_42) := by rw [eS_42]; exact hD
      refine lv_goto (tgt := 259) hx hb dBl_work_176 (by decide) ?_
      refine lv_aload_n hx hb dBl_work_259 rfl (lv_at hl 0 rfl) ?_
      refine lv_iload_n hx hb dBl_work_260 rfl (lv_at hl 1 rfl) ?_
      refine va_put (D := (dC, dI)) (ci := 2) (v := .int x) (ty := .int) (C := RBl) (T := TBl) (N := 8) hx hb hc inBl tyBl tyBl_ok nmBl hown hK hP hD hS (18 + j) (xb_cell (by omega)) rfl 7 (by decide) (hc _ w93) (fun _ h9 => h9) rfl (by decide +kernel) rfl rfl (Nat.le_of_ble_eq_true rfl) dBl_work_261 (fun H locs hP hD hS => ?_)
      obtain ⟨S_43, eS_43⟩ : ∃ z9 : Ss, z9 = row S_42 21 (upd (S_42 21) j x) := ⟨_, rfl⟩
      rw [xb_set (by omega) 7 (by decide)] at hP hD
      have hP : va_P (dC, dI) vwCl (XW ad ca S_43) H := by rw [eS_43]; exact hP
      have hD : va_D A (XW ad ca S_43) := by rw [eS_43]; exact hD
      refine lv_aload_n hx hb dBl_work_264 rfl (lv_at hl 0 rfl) ?_
      refine va_get (D := (dC, dI)) (ci := 2) (v := .int (S_43 19 j)) (C := RBl) (T := TBl) (N := 8) hx hb hc inBl hown hK hP (18 + j) (xb_cell (by omega)) rfl 5 (by decide) (hc _ w89) (fun _ h9 => h9) rfl dBl_work_265 ?_
      exact W.iret (v := (S_43 19 j)) hx hb hr (fun t ht hW => ⟨⟨_, S_43, rfl, (by (try dsimp only); exact (by sorry)), by rw [ht]; exact hP, va_K.moved hW.alike hK, hD⟩, hS.F ht⟩) hS.2.2 dBl_work_268
    · refine lv_iconst (v := 1) hx hb dBl_work_168 (by decide +kernel) ?_
      refine lv_goto (tgt := 173) hx hb dBl_work_169 (by decide) ?_
      refine va_put (D := (dC, dI)) (ci := 2) (v := .int 1) (ty := .int) (C := RBl) (T := TBl) (N := 8) hx hb hc inBl tyBl tyBl_ok nmBl hown hK hP hD hS (18 + j) (xb_cell (by omega)) rfl 5 (by decide) (hc _ w89) (fun _ h9 => h9) rfl (by decide +kernel) rfl rfl (Nat.le_of_ble_eq_true rfl) dBl_work_173 (fun H locs hP hD hS => ?_)
      obtain ⟨S_44, eS_44⟩ : ∃ z9 : Ss, z9 = row S_40 19 (upd (S_40 19) j 1) := ⟨_, rfl⟩
      rw [xb_set (by omega) 5 (by decide)] at hP hD
      have hP : va_P (dC, dI) vwCl (XW ad ca S_44) H := by rw [eS_44]; exact hP
      have hD : va_D A (XW ad ca S_44) := by rw [eS_44]; exact hD
      refine lv_goto (tgt := 259) hx hb dBl_work_176 (by decide) ?_
      refine lv_aload_n hx hb dBl_work_259 rfl (lv_at hl 0 rfl) ?_
      refine lv_iload_n hx hb dBl_work_260 rfl (lv_at hl 1 rfl) ?_
      refine va_put (D := (dC, dI)) (ci := 2) (v := .int x) (ty := .int) (C := RBl) (T := TBl) (N := 8) hx hb hc inBl tyBl tyBl_ok nmBl hown hK hP hD hS (18 + j) (xb_cell (by omega)) rfl 7 (by decide) (hc _ w93) (fun _ h9 => h9) rfl (by decide +kernel) rfl rfl (Nat.le_of_ble_eq_true rfl) dBl_work_261 (fun H locs hP hD hS => ?_)
      obtain ⟨S_45, eS_45⟩ : ∃ z9 : Ss, z9 = row S_44 21 (upd (S_44 21) j x) := ⟨_, rfl⟩
      rw [xb_set (by omega) 7 (by decide)] at hP hD
      have hP : va_P (dC, dI) vwCl (XW ad ca S_45) H := by rw [eS_45]; exact hP
      have hD : va_D A (XW ad ca S_45) := by rw [eS_45]; exact hD
      refine lv_aload_n hx hb dBl_work_264 rfl (lv_at hl 0 rfl) ?_
      refine va_get (D := (dC, dI)) (ci := 2) (v := .int (S_45 19 j)) (C := RBl) (T := TBl) (N := 8) hx hb hc inBl hown hK hP (18 + j) (xb_cell (by omega)) rfl 5 (by decide) (hc _ w89) (fun _ h9 => h9) rfl dBl_work_265 ?_
      exact W.iret (v := (S_45 19 j)) hx hb hr (fun t ht hW => ⟨⟨_, S_45, rfl, (by (try dsimp only); exact (by sorry)), by rw [ht]; exact hP, va_K.moved hW.alike hK, hD⟩, hS.F ht⟩) hS.2.2 dBl_work_268
  by_cases w_45 : S 14 j = 3
  · refine lv_tableIn (tgt := 179) hx hb dBl_work_4 (by rw [w_45]; decide) (by rw [w_45]; decide) (by rw [w_45]; rfl) (by decide) ?_
    refine lv_aload_n hx hb dBl_work_179 rfl (lv_at hl 0 rfl) ?_
    refine lv_iload_n hx hb dBl_work_180 rfl (lv_at hl 1 rfl) ?_
    refine lv_iconst (v := 1) hx hb dBl_work_181 (by decide +kernel) ?_
    refine lv_icmp_ne (tgt := 196) hx hb dBl_work_182 (by decide) (fun c_46 => ?_) (fun c_46 => ?_)
    · refine lv_iconst (v := 0) hx hb dBl_work_196 (by decide +kernel) ?_
      refine va_put (D := (dC, dI)) (ci := 2) (v := .int 0) (ty := .int) (C := RBl) (T := TBl) (N := 8) hx hb hc inBl tyBl tyBl_ok nmBl hown hK hP hD hS (18 + j) (xb_cell (by omega)) rfl 5 (by decide) (hc _ w89) (fun _ h9 => h9) rfl (by decide +kernel) rfl rfl (Nat.le_of_ble_eq_true rfl) dBl_work_197 (fun H locs hP hD hS => ?_)
      obtain ⟨S_48, eS_48⟩ : ∃ z9 : Ss, z9 = row S 19 (upd (S 19) j 0) := ⟨_, rfl⟩
      rw [xb_set (by omega) 5 (by decide)] at hP hD
      have hP : va_P (dC, dI) vwCl (XW ad ca S_48) H := by rw [eS_48]; exact hP
      have hD : va_D A (XW ad ca S_48) := by rw [eS_48]; exact hD
      refine lv_goto (tgt := 259) hx hb dBl_work_200 (by decide) ?_
      refine lv_aload_n hx hb dBl_work_259 rfl (lv_at hl 0 rfl) ?_
      refine lv_iload_n hx hb dBl_work_260 rfl (lv_at hl 1 rfl) ?_
      refine va_put (D := (dC, dI)) (ci := 2) (v := .int x) (ty := .int) (C := RBl) (T := TBl) (N := 8) hx hb hc inBl tyBl tyBl_ok nmBl hown hK hP hD hS (18 + j) (xb_cell (by omega)) rfl 7 (by decide) (hc _ w93) (fun _ h9 => h9) rfl (by decide +kernel) rfl rfl (Nat.le_of_ble_eq_true rfl) dBl_work_261 (fun H locs hP hD hS => ?_)
      obtain ⟨S_49, eS_49⟩ : ∃ z9 : Ss, z9 = row S_48 21 (upd (S_48 21) j x) := ⟨_, rfl⟩
      rw [xb_set (by omega) 7 (by decide)] at hP hD
      have hP : va_P (dC, dI) vwCl (XW ad ca S_49) H := by rw [eS_49]; exact hP
      have hD : va_D A (XW ad ca S_49) := by rw [eS_49]; exact hD
      refine lv_aload_n hx hb dBl_work_264 rfl (lv_at hl 0 rfl) ?_
      refine va_get (D := (dC, dI)) (ci := 2) (v := .int (S_49 19 j)) (C := RBl) (T := TBl) (N := 8) hx hb hc inBl hown hK hP (18 + j) (xb_cell (by omega)) rfl 5 (by decide) (hc _ w89) (fun _ h9 => h9) rfl dBl_work_265 ?_
      exact W.iret (v := (S_49 19 j)) hx hb hr (fun t ht hW => ⟨⟨_, S_49, rfl, (by (try dsimp only); exact (by sorry)), by rw [ht]; exact hP, va_K.moved hW.alike hK, hD⟩, hS.F ht⟩) hS.2.2 dBl_work_268
    · refine lv_aload_n hx hb dBl_work_185 rfl (lv_at hl 0 rfl) ?_
      refine va_get (D := (dC, dI)) (ci := 2) (v := .int (S 21 j)) (C := RBl) (T := TBl) (N := 8) hx hb hc inBl hown hK hP (18 + j) (xb_cell (by omega)) rfl 7 (by decide) (hc _ w93) (fun _ h9 => h9) rfl dBl_work_186 ?_
      refine lv_if_ne (tgt := 196) hx hb dBl_work_189 (by decide) (fun c_49 => ?_) (fun c_49 => ?_)
      · refine lv_iconst (v := 0) hx hb dBl_work_196 (by decide +kernel) ?_
        refine va_put (D := (dC, dI)) (ci := 2) (v := .int 0) (ty := .int) (C := RBl) (T := TBl) (N := 8) hx hb hc inBl tyBl tyBl_ok nmBl hown hK hP hD hS (18 + j) (xb_cell (by omega)) rfl 5 (by decide) (hc _ w89) (fun _ h9 => h9) rfl (by decide +kernel) rfl rfl (Nat.le_of_ble_eq_true rfl) dBl_work_197 (fun H locs hP hD hS => ?_)
        obtain ⟨S_51, eS_51⟩ : ∃ z9 : Ss, z9 = row S 19 (upd (S 19) j 0) := ⟨_, rfl⟩
        rw [xb_set (by omega) 5 (by decide)] at hP hD
        have hP : va_P (dC, dI) vwCl (XW ad ca S_51) H := by rw [eS_51]; exact hP
        have hD : va_D A (XW ad ca S_51) := by rw [eS_51]; exact hD
        refine lv_goto (tgt := 259) hx hb dBl_work_200 (by decide) ?_
        refine lv_aload_n hx hb dBl_work_259 rfl (lv_at hl 0 rfl) ?_
        refine lv_iload_n hx hb dBl_work_260 rfl (lv_at hl 1 rfl) ?_
        refine va_put (D := (dC, dI)) (ci := 2) (v := .int x) (ty := .int) (C := RBl) (T := TBl) (N := 8) hx hb hc inBl tyBl tyBl_ok nmBl hown hK hP hD hS (18 + j) (xb_cell (by omega)) rfl 7 (by decide) (hc _ w93) (fun _ h9 => h9) rfl (by decide +kernel) rfl rfl (Nat.le_of_ble_eq_true rfl) dBl_work_261 (fun H locs hP hD hS => ?_)
        obtain ⟨S_52, eS_52⟩ : ∃ z9 : Ss, z9 = row S_51 21 (upd (S_51 21) j x) := ⟨_, rfl⟩
        rw [xb_set (by omega) 7 (by decide)] at hP hD
        have hP : va_P (dC, dI) vwCl (XW ad ca S_52) H := by rw [eS_52]; exact hP
        have hD : va_D A (XW ad ca S_52) := by rw [eS_52]; exact hD
        refine lv_aload_n hx hb dBl_work_264 rfl (lv_at hl 0 rfl) ?_
        refine va_get (D := (dC, dI)) (ci := 2) (v := .int (S_52 19 j)) (C := RBl) (T := TBl) (N := 8) hx hb hc inBl hown hK hP (18 + j) (xb_cell (by omega)) rfl 5 (by decide) (hc _ w89) (fun _ h9 => h9) rfl dBl_work_265 ?_
        exact W.iret (v := (S_52 19 j)) hx hb hr (fun t ht hW => ⟨⟨_, S_52, rfl, (by (try dsimp only); exact (by sorry)), by rw [ht]; exact hP, va_K.moved hW.alike hK, hD⟩, hS.F ht⟩) hS.2.2 dBl_work_268
      · refine lv_iconst (v := 1) hx hb dBl_work_192 (by decide +kernel) ?_
        refine lv_goto (tgt := 197) hx hb dBl_work_193 (by decide) ?_
        refine va_put (D := (dC, dI)) (ci := 2) (v := .int 1) (ty := .int) (C := RBl) (T := TBl) (N := 8) hx hb hc inBl tyBl tyBl_ok nmBl hown hK hP hD hS (18 + j) (xb_cell (by omega)) rfl 5 (by decide) (hc _ w89) (fun _ h9 => h9) rfl (by decide +kernel) rfl rfl (Nat.le_of_ble_eq_true rfl) dBl_work_197 (fun H locs hP hD hS => ?_)
        obtain ⟨S_53, eS_53⟩ : ∃ z9 : Ss, z9 = row S 19 (upd (S 19) j 1) := ⟨_, rfl⟩
        rw [xb_set (by omega) 5 (by decide)] at hP hD
        have hP : va_P (dC, dI) vwCl (XW ad ca S_53) H := by rw [eS_53]; exact hP
        have hD : va_D A (XW ad ca S_53) := by rw [eS_53]; exact hD
        refine lv_goto (tgt := 259) hx hb dBl_work_200 (by decide) ?_
        refine lv_aload_n hx hb dBl_work_259 rfl (lv_at hl 0 rfl) ?_
        refine lv_iload_n hx hb dBl_work_260 rfl (lv_at hl 1 rfl) ?_
        refine va_put (D := (dC, dI)) (ci := 2) (v := .int x) (ty := .int) (C := RBl) (T := TBl) (N := 8) hx hb hc inBl tyBl tyBl_ok nmBl hown hK hP hD hS (18 + j) (xb_cell (by omega)) rfl 7 (by decide) (hc _ w93) (fun _ h9 => h9) rfl (by decide +kernel) rfl rfl (Nat.le_of_ble_eq_true rfl) dBl_work_261 (fun H locs hP hD hS => ?_)
        obtain ⟨S_54, eS_54⟩ : ∃ z9 : Ss, z9 = row S_53 21 (upd (S_53 21) j x) := ⟨_, rfl⟩
        rw [xb_set (by omega) 7 (by decide)] at hP hD
        have hP : va_P (dC, dI) vwCl (XW ad ca S_54) H := by rw [eS_54]; exact hP
        have hD : va_D A (XW ad ca S_54) := by rw [eS_54]; exact hD
        refine lv_aload_n hx hb dBl_work_264 rfl (lv_at hl 0 rfl) ?_
        refine va_get (D := (dC, dI)) (ci := 2) (v := .int (S_54 19 j)) (C := RBl) (T := TBl) (N := 8) hx hb hc inBl hown hK hP (18 + j) (xb_cell (by omega)) rfl 5 (by decide) (hc _ w89) (fun _ h9 => h9) rfl dBl_work_265 ?_
        exact W.iret (v := (S_54 19 j)) hx hb hr (fun t ht hW => ⟨⟨_, S_54, rfl, (by (try dsimp only); exact (by sorry)), by rw [ht]; exact hP, va_K.moved hW.alike hK, hD⟩, hS.F ht⟩) hS.2.2 dBl_work_268
  by_cases w_54 : S 14 j = 4
  · refine lv_tableIn (tgt := 203) hx hb dBl_work_4 (by rw [w_54]; decide) (by rw [w_54]; decide) (by rw [w_54]; rfl) (by decide) ?_
    refine lv_aload_n hx hb dBl_work_203 rfl (lv_at hl 0 rfl) ?_
    refine lv_iload_n hx hb dBl_work_204 rfl (lv_at hl 1 rfl) ?_
    refine lv_if_ne (tgt := 220) hx hb dBl_work_205 (by decide) (fun c_55 => ?_) (fun c_55 => ?_)
    · refine lv_iconst (v := 0) hx hb dBl_work_220 (by decide +kernel) ?_
      refine va_put (D := (dC, dI)) (ci := 2) (v := .int 0) (ty := .int) (C := RBl) (T := TBl) (N := 8) hx hb hc inBl tyBl tyBl_ok nmBl hown hK hP hD hS (18 + j) (xb_cell (by omega)) rfl 5 (by decide) (hc _ w89) (fun _ h9 => h9) rfl (by decide +kernel) rfl rfl (Nat.le_of_ble_eq_true rfl) dBl_work_221 (fun H locs hP hD hS => ?_)
      obtain ⟨S_57, eS_57⟩ : ∃ z9 : Ss, z9 = row S 19 (upd (S 19) j 0) := ⟨_, rfl⟩
      rw [xb_set (by omega) 5 (by decide)] at hP hD
      have hP : va_P (dC, dI) vwCl (XW ad ca S_57) H := by rw [eS_57]; exact hP
      have hD : va_D A (XW ad ca S_57) := by rw [eS_57]; exact hD
      refine lv_goto (tgt := 259) hx hb dBl_work_224 (by decide) ?_
      refine lv_aload_n hx hb dBl_work_259 rfl (lv_at hl 0 rfl) ?_
      refine lv_iload_n hx hb dBl_work_260 rfl (lv_at hl 1 rfl) ?_
      refine va_put (D := (dC, dI)) (ci := 2) (v := .int x) (ty := .int) (C := RBl) (T := TBl) (N := 8) hx hb hc inBl tyBl tyBl_ok nmBl hown hK hP hD hS (18 + j) (xb_cell (by omega)) rfl 7 (by decide) (hc _ w93) (fun _ h9 => h9) rfl (by decide +kernel) rfl rfl (Nat.le_of_ble_eq_true rfl) dBl_work_261 (fun H locs hP hD hS => ?_)
      obtain ⟨S_58, eS_58⟩ : ∃ z9 : Ss, z9 = row S_57 21 (upd (S_57 21) j x) := ⟨_, rfl⟩
      rw [xb_set (by omega) 7 (by decide)] at hP hD
      have hP : va_P (dC, dI) vwCl (XW ad ca S_58) H := by rw [eS_58]; exact hP
      have hD : va_D A (XW ad ca S_58) := by rw [eS_58]; exact hD
      refine lv_aload_n hx hb dBl_work_264 rfl (lv_at hl 0 rfl) ?_
      refine va_get (D := (dC, dI)) (ci := 2) (v := .int (S_58 19 j)) (C := RBl) (T := TBl) (N := 8) hx hb hc inBl hown hK hP (18 + j) (xb_cell (by omega)) rfl 5 (by decide) (hc _ w89) (fun _ h9 => h9) rfl dBl_work_265 ?_
      exact W.iret (v := (S_58 19 j)) hx hb hr (fun t ht hW => ⟨⟨_, S_58, rfl, (by (try dsimp only); exact (by sorry)), by rw [ht]; exact hP, va_K.moved hW.alike hK, hD⟩, hS.F ht⟩) hS.2.2 dBl_work_268
    · refine lv_aload_n hx hb dBl_work_208 rfl (lv_at hl 0 rfl) ?_
      refine va_get (D := (dC, dI)) (ci := 2) (v := .int (S 21 j)) (C := RBl) (T := TBl) (N := 8) hx hb hc inBl hown hK hP (18 + j) (xb_cell (by omega)) rfl 7 (by decide) (hc _ w93) (fun _ h9 => h9) rfl dBl_work_209 ?_
      refine lv_iconst (v := 1) hx hb dBl_work_212 (by decide +kernel) ?_
      refine lv_icmp_ne (tgt := 220) hx hb dBl_work_213 (by decide) (fun c_58 => ?_) (fun c_58 => ?_)
      · refine lv_iconst (v := 0) hx hb dBl_work_220 (by decide +kernel) ?_
        refine va_put (D := (dC, dI)) (ci := 2) (v := .int 0) (ty := .int) (C := RBl) (T := TBl) (N := 8) hx hb hc inBl tyBl tyBl_ok nmBl hown hK hP hD hS (18 + j) (xb_cell (by omega)) rfl 5 (by decide) (hc _ w89) (fun _ h9 => h9) rfl (by decide +kernel) rfl rfl (Nat.le_of_ble_eq_true rfl) dBl_work_221 (fun H locs hP hD hS => ?_)
        obtain ⟨S_60, eS_60⟩ : ∃ z9 : Ss, z9 = row S 19 (upd (S 19) j 0) := ⟨_, rfl⟩
        rw [xb_set (by omega) 5 (by decide)] at hP hD
        have hP : va_P (dC, dI) vwCl (XW ad ca S_60) H := by rw [eS_60]; exact hP
        have hD : va_D A (XW ad ca S_60) := by rw [eS_60]; exact hD
        refine lv_goto (tgt := 259) hx hb dBl_work_224 (by decide) ?_
        refine lv_aload_n hx hb dBl_work_259 rfl (lv_at hl 0 rfl) ?_
        refine lv_iload_n hx hb dBl_work_260 rfl (lv_at hl 1 rfl) ?_
        refine va_put (D := (dC, dI)) (ci := 2) (v := .int x) (ty := .int) (C := RBl) (T := TBl) (N := 8) hx hb hc inBl tyBl tyBl_ok nmBl hown hK hP hD hS (18 + j) (xb_cell (by omega)) rfl 7 (by decide) (hc _ w93) (fun _ h9 => h9) rfl (by decide +kernel) rfl rfl (Nat.le_of_ble_eq_true rfl) dBl_work_261 (fun H locs hP hD hS => ?_)
        obtain ⟨S_61, eS_61⟩ : ∃ z9 : Ss, z9 = row S_60 21 (upd (S_60 21) j x) := ⟨_, rfl⟩
        rw [xb_set (by omega) 7 (by decide)] at hP hD
        have hP : va_P (dC, dI) vwCl (XW ad ca S_61) H := by rw [eS_61]; exact hP
        have hD : va_D A (XW ad ca S_61) := by rw [eS_61]; exact hD
        refine lv_aload_n hx hb dBl_work_264 rfl (lv_at hl 0 rfl) ?_
        refine va_get (D := (dC, dI)) (ci := 2) (v := .int (S_61 19 j)) (C := RBl) (T := TBl) (N := 8) hx hb hc inBl hown hK hP (18 + j) (xb_cell (by omega)) rfl 5 (by decide) (hc _ w89) (fun _ h9 => h9) rfl dBl_work_265 ?_
        exact W.iret (v := (S_61 19 j)) hx hb hr (fun t ht hW => ⟨⟨_, S_61, rfl, (by (try dsimp only); exact (by sorry)), by rw [ht]; exact hP, va_K.moved hW.alike hK, hD⟩, hS.F ht⟩) hS.2.2 dBl_work_268
      · refine lv_iconst (v := 1) hx hb dBl_work_216 (by decide +kernel) ?_
        refine lv_goto (tgt := 221) hx hb dBl_work_217 (by decide) ?_
        refine va_put (D := (dC, dI)) (ci := 2) (v := .int 1) (ty := .int) (C := RBl) (T := TBl) (N := 8) hx hb hc inBl tyBl tyBl_ok nmBl hown hK hP hD hS (18 + j) (xb_cell (by omega)) rfl 5 (by decide) (hc _ w89) (fun _ h9 => h9) rfl (by decide +kernel) rfl rfl (Nat.le_of_ble_eq_true rfl) dBl_work_221 (fun H locs hP hD hS => ?_)
        obtain ⟨S_62, eS_62⟩ : ∃ z9 : Ss, z9 = row S 19 (upd (S 19) j 1) := ⟨_, rfl⟩
        rw [xb_set (by omega) 5 (by decide)] at hP hD
        have hP : va_P (dC, dI) vwCl (XW ad ca S_62) H := by rw [eS_62]; exact hP
        have hD : va_D A (XW ad ca S_62) := by rw [eS_62]; exact hD
        refine lv_goto (tgt := 259) hx hb dBl_work_224 (by decide) ?_
        refine lv_aload_n hx hb dBl_work_259 rfl (lv_at hl 0 rfl) ?_
        refine lv_iload_n hx hb dBl_work_260 rfl (lv_at hl 1 rfl) ?_
        refine va_put (D := (dC, dI)) (ci := 2) (v := .int x) (ty := .int) (C := RBl) (T := TBl) (N := 8) hx hb hc inBl tyBl tyBl_ok nmBl hown hK hP hD hS (18 + j) (xb_cell (by omega)) rfl 7 (by decide) (hc _ w93) (fun _ h9 => h9) rfl (by decide +kernel) rfl rfl (Nat.le_of_ble_eq_true rfl) dBl_work_261 (fun H locs hP hD hS => ?_)
        obtain ⟨S_63, eS_63⟩ : ∃ z9 : Ss, z9 = row S_62 21 (upd (S_62 21) j x) := ⟨_, rfl⟩
        rw [xb_set (by omega) 7 (by decide)] at hP hD
        have hP : va_P (dC, dI) vwCl (XW ad ca S_63) H := by rw [eS_63]; exact hP
        have hD : va_D A (XW ad ca S_63) := by rw [eS_63]; exact hD
        refine lv_aload_n hx hb dBl_work_264 rfl (lv_at hl 0 rfl) ?_
        refine va_get (D := (dC, dI)) (ci := 2) (v := .int (S_63 19 j)) (C := RBl) (T := TBl) (N := 8) hx hb hc inBl hown hK hP (18 + j) (xb_cell (by omega)) rfl 5 (by decide) (hc _ w89) (fun _ h9 => h9) rfl dBl_work_265 ?_
        exact W.iret (v := (S_63 19 j)) hx hb hr (fun t ht hW => ⟨⟨_, S_63, rfl, (by (try dsimp only); exact (by sorry)), by rw [ht]; exact hP, va_K.moved hW.alike hK, hD⟩, hS.F ht⟩) hS.2.2 dBl_work_268
  have iw_0 : (S 14 j : Int32).toInt ≠ 0 := fun z => w_0 (Int32.toInt_inj.mp (by rw [z]; rfl))
  have iw_21 : (S 14 j : Int32).toInt ≠ 1 := fun z => w_21 (Int32.toInt_inj.mp (by rw [z]; rfl))
  have iw_36 : (S 14 j : Int32).toInt ≠ 2 := fun z => w_36 (Int32.toInt_inj.mp (by rw [z]; rfl))
  have iw_45 : (S 14 j : Int32).toInt ≠ 3 := fun z => w_45 (Int32.toInt_inj.mp (by rw [z]; rfl))
  have iw_54 : (S 14 j : Int32).toInt ≠ 4 := fun z => w_54 (Int32.toInt_inj.mp (by rw [z]; rfl))
  refine lv_tableOut (tgt := 227) hx hb dBl_work_4 (by omega) (by decide) ?_
  refine lv_iload_n hx hb dBl_work_227 rfl (lv_at hl 1 rfl) ?_
  refine lv_iconst (v := 1) hx hb dBl_work_228 (by decide +kernel) ?_
  refine lv_icmp_ne (tgt := 254) hx hb dBl_work_229 (by decide) (fun c_63 => ?_) (fun c_63 => ?_)
  · refine lv_aload_n hx hb dBl_work_254 rfl (lv_at hl 0 rfl) ?_
    refine lv_iload_n hx hb dBl_work_255 rfl (lv_at hl 1 rfl) ?_
    refine va_put (D := (dC, dI)) (ci := 2) (v := .int x) (ty := .int) (C := RBl) (T := TBl) (N := 8) hx hb hc inBl tyBl tyBl_ok nmBl hown hK hP hD hS (18 + j) (xb_cell (by omega)) rfl 5 (by decide) (hc _ w89) (fun _ h9 => h9) rfl (by decide +kernel) rfl rfl (Nat.le_of_ble_eq_true rfl) dBl_work_256 (fun H locs hP hD hS => ?_)
    obtain ⟨S_65, eS_65⟩ : ∃ z9 : Ss, z9 = row S 19 (upd (S 19) j x) := ⟨_, rfl⟩
    rw [xb_set (by omega) 5 (by decide)] at hP hD
    have hP : va_P (dC, dI) vwCl (XW ad ca S_65) H := by rw [eS_65]; exact hP
    have hD : va_D A (XW ad ca S_65) := by rw [eS_65]; exact hD
    refine lv_aload_n hx hb dBl_work_259 rfl (lv_at hl 0 rfl) ?_
    refine lv_iload_n hx hb dBl_work_260 rfl (lv_at hl 1 rfl) ?_
    refine va_put (D := (dC, dI)) (ci := 2) (v := .int x) (ty := .int) (C := RBl) (T := TBl) (N := 8) hx hb hc inBl tyBl tyBl_ok nmBl hown hK hP hD hS (18 + j) (xb_cell (by omega)) rfl 7 (by decide) (hc _ w93) (fun _ h9 => h9) rfl (by decide +kernel) rfl rfl (Nat.le_of_ble_eq_true rfl) dBl_work_261 (fun H locs hP hD hS => ?_)
    obtain ⟨S_66, eS_66⟩ : ∃ z9 : Ss, z9 = row S_65 21 (upd (S_65 21) j x) := ⟨_, rfl⟩
    rw [xb_set (by omega) 7 (by decide)] at hP hD
    have hP : va_P (dC, dI) vwCl (XW ad ca S_66) H := by rw [eS_66]; exact hP
    have hD : va_D A (XW ad ca S_66) := by rw [eS_66]; exact hD
    refine lv_aload_n hx hb dBl_work_264 rfl (lv_at hl 0 rfl) ?_
    refine va_get (D := (dC, dI)) (ci := 2) (v := .int (S_66 19 j)) (C := RBl) (T := TBl) (N := 8) hx hb hc inBl hown hK hP (18 + j) (xb_cell (by omega)) rfl 5 (by decide) (hc _ w89) (fun _ h9 => h9) rfl dBl_work_265 ?_
    exact W.iret (v := (S_66 19 j)) hx hb hr (fun t ht hW => ⟨⟨_, S_66, rfl, (by (try dsimp only); exact (by sorry)), by rw [ht]; exact hP, va_K.moved hW.alike hK, hD⟩, hS.F ht⟩) hS.2.2 dBl_work_268
  · refine lv_aload_n hx hb dBl_work_232 rfl (lv_at hl 2 rfl) ?_
    refine lv_aload_n hx hb dBl_work_233 rfl (lv_at hl 0 rfl) ?_
    refine va_get (D := (dC, dI)) (ci := 2) (v := .int (S 16 j)) (C := RBl) (T := TBl) (N := 8) hx hb hc inBl hown hK hP (18 + j) (xb_cell (by omega)) rfl 2 (by decide) (hc _ w84) (fun _ h9 => h9) rfl dBl_work_234 ?_
    obtain ⟨hq50, hq51⟩ := hq5 (kk5 hk7 w_0 w_21 w_36 w_45 w_54)
    refine W.eq (g2 := F0 m 237 ls [.int (nI q0), .ref (ad 1)]) (by rw [hq51]) ?_
    refine lv_aload_n hx hb dBl_work_237 rfl (lv_at hl 0 rfl) ?_
    refine lv_aload_n hx hb dBl_work_238 rfl (lv_at hl 2 rfl) ?_
    refine va_get (D := (dC, dI)) (ci := 1) (v := .ref (ad 6)) (C := RMe) (T := TMe) (N := 5) hx hb hc inMe hown hK hP 1 rfl rfl 4 (by decide) (hc _ w38) (fun _ h9 => h9) rfl dBl_work_239 ?_
    refine lv_aload_n hx hb dBl_work_242 rfl (lv_at hl 0 rfl) ?_
    refine va_get (D := (dC, dI)) (ci := 2) (v := .int (S 15 j)) (C := RBl) (T := TBl) (N := 8) hx hb hc inBl hown hK hP (18 + j) (xb_cell (by omega)) rfl 1 (by decide) (hc _ w83) (fun _ h9 => h9) rfl dBl_work_243 ?_
    obtain ⟨hp50, hp51⟩ := hp5 (kk5 hk7 w_0 w_21 w_36 w_45 w_54)
    refine W.eq (g2 := F0 m 246 ls [.int (nI p0), .ref (ad 6), .ref (ad (18 + j)), .int (nI q0), .ref (ad 1)]) (by rw [hp51]) ?_
    refine va_iald hx hb hK hP 6 4 rfl rfl (vp_in_nI (by omega) (by decide)) dBl_work_246 ?_
    refine lv_topi (fun v_67 ev_67 => ?_)
    rw [nI_clamp (by omega)] at ev_67
    subst v_67
    refine lv_i2l (v := (S 5 p0).toInt64) hx hb dBl_work_247 rfl ?_
    refine vp_callSl (va_Run.run (va_runV (As := [.long ((S 5 p0).toInt64)]) (rest := [.int (nI q0), .ref (ad 1)]) ⟨hx, hb, hml, hown, hc⟩ (cBl_reckon l dC dI ad ca H.size S j (by omega) (S 5 p0) (hr9 _ hp50) hf9 ho9) (cwV 1 hc (gV w454 w456 s7 w4 qBl_reckon) rfl rfl rfl (by decide +kernel) ⟨Nat.le_of_ble_eq_true rfl, Nat.le_of_ble_eq_true rfl⟩) ⟨gPre_blind, va_recv hK hP (ci := 2) (q0 := (18 + j)) rfl (xb_cell (by omega)), (gPre_in hP hK hD)⟩ rfl rfl hl.1 rfl (lv_room (Nat.le_of_ble_eq_true rfl)) dBl_work_248 ⟨Nat.zero_le _, Nat.zero_le _⟩)) (fun r_68 hr_68 => ?_)
    refine g_callv (va_runV (As := [.int (nI q0), .long r_68]) (rest := []) ⟨hx, hb, hml, hown, hc⟩ (cMe_store l dC dI ad ca H.size S q0 r_68 (by omega)) (cwV 2 hc (gV w468 w469 w470 w2 qMe_store) rfl rfl rfl (by decide +kernel) ⟨Nat.le_of_ble_eq_true rfl, Nat.le_of_ble_eq_true rfl⟩) ⟨gPre_blind, va_recv hK hP (ci := 1) (q0 := 1) rfl rfl, (gPre_in hP hK hD)⟩ rfl rfl hl.1 rfl (lv_room (Nat.le_of_ble_eq_true rfl)) dBl_work_251 ⟨Nat.zero_le _, Nat.zero_le _⟩) hD hS hA (fun u_69 H locs hu_69 hP hD hS => ?_)
    refine lv_aload_n hx hb dBl_work_254 rfl (lv_at hl 0 rfl) ?_
    refine lv_iload_n hx hb dBl_work_255 rfl (lv_at hl 1 rfl) ?_
    refine va_put (D := (dC, dI)) (ci := 2) (v := .int x) (ty := .int) (C := RBl) (T := TBl) (N := 8) hx hb hc inBl tyBl tyBl_ok nmBl hown hK hP hD hS (18 + j) (xb_cell (by omega)) rfl 5 (by decide) (hc _ w89) (fun _ h9 => h9) rfl (by decide +kernel) rfl rfl (Nat.le_of_ble_eq_true rfl) dBl_work_256 (fun H locs hP hD hS => ?_)
    obtain ⟨S_70, eS_70⟩ : ∃ z9 : Ss, z9 = row u_69 19 (upd (u_69 19) j x) := ⟨_, rfl⟩
    rw [xb_set (by omega) 5 (by decide)] at hP hD
    have hP : va_P (dC, dI) vwCl (XW ad ca S_70) H := by rw [eS_70]; exact hP
    have hD : va_D A (XW ad ca S_70) := by rw [eS_70]; exact hD
    refine lv_aload_n hx hb dBl_work_259 rfl (lv_at hl 0 rfl) ?_
    refine lv_iload_n hx hb dBl_work_260 rfl (lv_at hl 1 rfl) ?_
    refine va_put (D := (dC, dI)) (ci := 2) (v := .int x) (ty := .int) (C := RBl) (T := TBl) (N := 8) hx hb hc inBl tyBl tyBl_ok nmBl hown hK hP hD hS (18 + j) (xb_cell (by omega)) rfl 7 (by decide) (hc _ w93) (fun _ h9 => h9) rfl (by decide +kernel) rfl rfl (Nat.le_of_ble_eq_true rfl) dBl_work_261 (fun H locs hP hD hS => ?_)
    obtain ⟨S_71, eS_71⟩ : ∃ z9 : Ss, z9 = row S_70 21 (upd (S_70 21) j x) := ⟨_, rfl⟩
    rw [xb_set (by omega) 7 (by decide)] at hP hD
    have hP : va_P (dC, dI) vwCl (XW ad ca S_71) H := by rw [eS_71]; exact hP
    have hD : va_D A (XW ad ca S_71) := by rw [eS_71]; exact hD
    refine lv_aload_n hx hb dBl_work_264 rfl (lv_at hl 0 rfl) ?_
    refine va_get (D := (dC, dI)) (ci := 2) (v := .int (S_71 19 j)) (C := RBl) (T := TBl) (N := 8) hx hb hc inBl hown hK hP (18 + j) (xb_cell (by omega)) rfl 5 (by decide) (hc _ w89) (fun _ h9 => h9) rfl dBl_work_265 ?_
    exact W.iret (v := (S_71 19 j)) hx hb hr (fun t ht hW => ⟨⟨_, S_71, rfl, (by (try dsimp only); exact (by sorry)), by rw [ht]; exact hP, va_K.moved hW.alike hK, hD⟩, hS.F ht⟩) hS.2.2 dBl_work_268
