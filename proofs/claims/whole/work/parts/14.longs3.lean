set_option maxHeartbeats 4000000 in
set_option maxRecDepth 100000 in
theorem cMa_floorDiv (l : Launch) (x y : Int64) (hx1 : -1152921504606846976 ≤ x.toInt) (hx2 : x.toInt ≤ 1152921504606846976) (hy0 : y.toInt ≠ 0)  : Met l yMa_floorDiv (kMa_floorDiv :: CW) ({ frames := 0, cells := 0, slots := 0, locals := 0 }) (va_Pc [.long x, .long y] (fun _ => True)) (vp_Sl (fun r => r.toInt = Int.fdiv x.toInt y.toInt)) 0 0 (fun _ => False) := by
  refine va_MetF (cc := bMa_floorDiv) (maxL := 6) (ret := (some .long)) (by decide +kernel) rfl ?_
  intro p e s m args below meth c s₁ B hml hv
  obtain ⟨rfl, -⟩ := hv
  have hx := B.exec
  have hb := B.bytes
  have hr := B.returns
  have hts := atoms_spec (ws := kMa_floorDiv :: CW) B.pre
  have hc : ∀ w ∈ CW, w.before _ s = true := fun w h => hts w (List.mem_cons_of_mem _ h)
  have hown : s.vm.findClass RMa = some m.cls := findClass_of_methodNamed B.named
  have hlocks := B.notSynchronized
  have hl := lv_entry ([.long x, .long y]) (n := 6) (Nat.le_of_ble_eq_true rfl)
  rw [lg_entry_eq]
  generalize (lg_sl ([.long x, .long y]) ++ List.replicate (6 - (lg_sl ([.long x, .long y])).length) Slot.unset).toArray = ls at hl ⊢
  have hl : lv_has ls 6 [(0, .long x), (2, .long y)] := hl
  refine lv_lload_n hx hb dMa_floorDiv_0 rfl (lv_at hl 0 rfl) ?_
  refine lv_lload_n hx hb dMa_floorDiv_1 rfl (lv_at hl 1 rfl) ?_
  refine lv_ldiv hx hb dMa_floorDiv_2 (fun h => hy0 (by rw [h]; rfl)) ?_
  refine lv_topl (fun v_1 ev_1 => ?_)
  refine lv_lstore (lv' := [(4, .long v_1), (0, .long x), (2, .long y)]) hx hb dMa_floorDiv_3 hl (by decide) rfl (fun ls hl => ?_)
  refine lv_lload_n hx hb dMa_floorDiv_5 rfl (lv_at hl 1 rfl) ?_
  refine lv_lload_n hx hb dMa_floorDiv_6 rfl (lv_at hl 2 rfl) ?_
  refine lv_lxor hx hb dMa_floorDiv_7 ?_
  refine lv_lconst (v := 0) hx hb dMa_floorDiv_8 (by decide +kernel) ?_
  refine W.lcmp hx hb dMa_floorDiv_9 ?_
  refine lv_if_ge (tgt := 27) hx hb dMa_floorDiv_10 (by decide) (fun c_1 => ?_) (fun c_1 => ?_)
  · refine lv_lload hx hb dMa_floorDiv_27 (lv_at hl 0 rfl) ?_
    exact W.lret (v := v_1) hx hb hr (fun t ht hW => ⟨_, rfl, (by (try dsimp only); exact (by rw [ev_1, lT_div (by omega)]; exact fd_same hy0 ((lT_xor x y).mp ((lg_cmp_ge _ _).mp c_1)))), ht⟩) (fun _ h => nomatch h) dMa_floorDiv_29
  · refine lv_lload hx hb dMa_floorDiv_13 (lv_at hl 0 rfl) ?_
    refine lv_lload_n hx hb dMa_floorDiv_15 rfl (lv_at hl 2 rfl) ?_
    refine lv_lmul hx hb dMa_floorDiv_16 ?_
    refine lv_lload_n hx hb dMa_floorDiv_17 rfl (lv_at hl 1 rfl) ?_
    refine W.lcmp hx hb dMa_floorDiv_18 ?_
    refine lv_if_eq (tgt := 27) hx hb dMa_floorDiv_19 (by decide) (fun c_2 => ?_) (fun c_2 => ?_)
    · refine lv_lload hx hb dMa_floorDiv_27 (lv_at hl 0 rfl) ?_
      exact W.lret (v := v_1) hx hb hr (fun t ht hW => ⟨_, rfl, (by (try dsimp only); exact (by have h1 : v_1.toInt = x.toInt.tdiv y.toInt := (by rw [ev_1]; exact lT_div (by omega)); have h3 := tdm_le x.toInt y.toInt; have h5 : v_1.toInt.natAbs ≤ x.toInt.natAbs := (by rw [h1]; exact fd_abs _ _); have h2 : v_1.toInt * y.toInt = x.toInt := (by rw [← lT_mul (by rw [h1]; omega) (by rw [h1]; omega), (lg_cmp_eq _ _).mp c_2]); rw [h1]; exact fd_dvd (tdm_dvd.mp (by rw [← h1]; exact h2)))), ht⟩) (fun _ h => nomatch h) dMa_floorDiv_29
    · refine lv_lload hx hb dMa_floorDiv_22 (lv_at hl 0 rfl) ?_
      refine lv_lconst (v := 1) hx hb dMa_floorDiv_24 (by decide +kernel) ?_
      refine lv_lsub hx hb dMa_floorDiv_25 ?_
      exact W.lret (v := (v_1 - 1)) hx hb hr (fun t ht hW => ⟨_, rfl, (by (try dsimp only); exact (by have h1 : v_1.toInt = x.toInt.tdiv y.toInt := (by rw [ev_1]; exact lT_div (by omega)); have h3 := tdm_le x.toInt y.toInt; have h5 : v_1.toInt.natAbs ≤ x.toInt.natAbs := (by rw [h1]; exact fd_abs _ _); have h2 : ¬ y.toInt ∣ x.toInt := fun hd => c_2 ((lg_cmp_eq _ _).mpr (Int64.toInt_inj.mp (by rw [lT_mul (by rw [h1]; omega) (by rw [h1]; omega), h1]; exact tdm_dvd.mpr hd))); have e1 : (1 : Int64).toInt = 1 := rfl; rw [lT_sub (by rw [e1]; omega) (by rw [e1]; omega), e1, h1]; exact fd_diff hy0 (fun h => c_1 ((lg_cmp_ge _ _).mpr ((lT_xor x y).mpr h))) h2)), ht⟩) (fun _ h => nomatch h) dMa_floorDiv_26

set_option maxHeartbeats 4000000 in
set_option maxRecDepth 100000 in
theorem cBl_reckon (l : Launch) (dC : Nat → ClassId) (dI : Nat → Nat → Nat) (ad : Nat → Nat) (ca : Nat → ClassId) (sz : Nat) (S : Ss) (j : Nat) (hj : j < 10) (v : Int32) (hv : rng v) (hf : rng (S 17 j)) (ho : rng (S 18 j)) : Met l yBl_reckon (kBl_reckon :: CW) ({ frames := 1, cells := 0, slots := 0, locals := 25 }) (va_Pc [.ref (ad (18 + j)), .long v.toInt64] (gPre (dC, dI) (xT ca) (XW ad ca S) sz)) (vp_Sl (fun r => r.toInt = rkn (S 14 j) v (S 17 j) (S 18 j))) 0 0 (fun _ => False) := by
  refine Met.ofW (cc := bBl_reckon) (maxL := 3) (ret := (some .long)) (by decide +kernel) rfl ?_
  intro p e s m args below meth c s₁ B hml hv
  obtain ⟨rfl, hsz, hP, hK, hD0⟩ := hv
  have hx := B.exec
  have hb := B.bytes
  have hr := B.returns
  have hts := atoms_spec (ws := kBl_reckon :: CW) B.pre
  have hc : ∀ w ∈ CW, w.before _ s = true := fun w h => hts w (List.mem_cons_of_mem _ h)
  have hown : s.vm.findClass RBl = some m.cls := findClass_of_methodNamed B.named
  have hlocks := B.notSynchronized
  subst hsz
  have hD := hD0
  have hl := lv_entry ([.ref (ad (18 + j)), .long v.toInt64]) (n := 3) (Nat.le_of_ble_eq_true rfl)
  rw [lg_entry_eq]
  generalize (lg_sl ([.ref (ad (18 + j)), .long v.toInt64]) ++ List.replicate (3 - (lg_sl ([.ref (ad (18 + j)), .long v.toInt64])).length) Slot.unset).toArray = ls at hl ⊢
  have hl : lv_has ls 3 [(0, .ref (ad (18 + j))), (1, .long v.toInt64)] := hl
  refine lv_aload_n hx hb dBl_reckon_0 rfl (lv_at hl 0 rfl) ?_
  refine va_get (D := (dC, dI)) (ci := 2) (v := .int (S 14 j)) (C := RBl) (T := TBl) (N := 8) hx hb hc inBl hown hK hP (18 + j) (xb_cell (by omega)) rfl 0 (by decide) (hc _ w81) (fun _ h9 => h9) rfl dBl_reckon_1 ?_
  refine lv_iconst (v := 5) hx hb dBl_reckon_4 (by decide +kernel) ?_
  refine lv_icmp_ne (tgt := 28) hx hb dBl_reckon_5 (by decide) (fun c_0 => ?_) (fun c_0 => ?_)
  · refine lv_aload_n hx hb dBl_reckon_28 rfl (lv_at hl 0 rfl) ?_
    refine va_get (D := (dC, dI)) (ci := 2) (v := .int (S 14 j)) (C := RBl) (T := TBl) (N := 8) hx hb hc inBl hown hK hP (18 + j) (xb_cell (by omega)) rfl 0 (by decide) (hc _ w81) (fun _ h9 => h9) rfl dBl_reckon_29 ?_
    refine lv_bipush (v := 7) hx hb dBl_reckon_32 (by decide +kernel) ?_
    refine lv_icmp_ne (tgt := 55) hx hb dBl_reckon_34 (by decide) (fun c_1 => ?_) (fun c_1 => ?_)
    · refine lv_aload_n hx hb dBl_reckon_55 rfl (lv_at hl 0 rfl) ?_
      refine va_get (D := (dC, dI)) (ci := 2) (v := .int (S 17 j)) (C := RBl) (T := TBl) (N := 8) hx hb hc inBl hown hK hP (18 + j) (xb_cell (by omega)) rfl 3 (by decide) (hc _ w85) (fun _ h9 => h9) rfl dBl_reckon_56 ?_
      refine lv_if_ne (tgt := 66) hx hb dBl_reckon_59 (by decide) (fun c_2 => ?_) (fun c_2 => ?_)
      · refine lv_lload_n hx hb dBl_reckon_66 rfl (lv_at hl 1 rfl) ?_
        refine lv_ldc2 (v := 8) hx hb hown (hc _ w458) dBl_reckon_67 ?_
        refine lv_lmul hx hb dBl_reckon_70 ?_
        refine lv_aload_n hx hb dBl_reckon_71 rfl (lv_at hl 0 rfl) ?_
        refine va_get (D := (dC, dI)) (ci := 2) (v := .int (S 17 j)) (C := RBl) (T := TBl) (N := 8) hx hb hc inBl hown hK hP (18 + j) (xb_cell (by omega)) rfl 3 (by decide) (hc _ w85) (fun _ h9 => h9) rfl dBl_reckon_72 ?_
        refine lv_i2l (v := (S 17 j).toInt64) hx hb dBl_reckon_75 rfl ?_
        refine vp_callSl (va_Run.run (va_runS (As := [.long (v.toInt64 * 8), .long ((S 17 j).toInt64)]) (rest := []) ⟨hx, hb, hml, hown, hc⟩ (cMa_floorDiv l (v.toInt64 * 8) ((S 17 j).toInt64) (by rw [lm_mul8 hv]; omega) (by rw [lm_mul8 hv]; omega) (by rw [Int32.toInt_toInt64]; exact fun h => c_2 (Int32.toInt_inj.mp h))) (va_cwS 2 hc (g_S w459 w460 w14 qMa_floorDiv) rfl rfl rfl (by decide +kernel) ⟨Nat.le_of_ble_eq_true rfl, Nat.le_of_ble_eq_true rfl⟩) ⟨tPre_blind, tPre_in⟩ rfl rfl hl.1 rfl (lv_room (Nat.le_of_ble_eq_true rfl)) dBl_reckon_76 ⟨Nat.zero_le _, Nat.zero_le _⟩)) (fun r_4 hr_4 => ?_)
        exact W.lret (v := r_4) hx hb hr (fun t ht hW => ⟨_, rfl, (by (try dsimp only); exact (by unfold rkn; rw [if_neg c_0, if_neg c_1, if_neg c_2]; rw [lm_mul8 hv, Int32.toInt_toInt64] at hr_4; exact hr_4)), ht⟩) (fun _ h => nomatch h) dBl_reckon_79
      · refine lv_lconst (v := 0) hx hb dBl_reckon_62 (by decide +kernel) ?_
        refine lv_goto (tgt := 79) hx hb dBl_reckon_63 (by decide) ?_
        exact W.lret (v := 0) hx hb hr (fun t ht hW => ⟨_, rfl, (by (try dsimp only); exact (by unfold rkn; rw [if_neg c_0, if_neg c_1, if_pos c_2]; rfl)), ht⟩) (fun _ h => nomatch h) dBl_reckon_79
    · refine lv_aload_n hx hb dBl_reckon_37 rfl (lv_at hl 0 rfl) ?_
      refine va_get (D := (dC, dI)) (ci := 2) (v := .int (S 18 j)) (C := RBl) (T := TBl) (N := 8) hx hb hc inBl hown hK hP (18 + j) (xb_cell (by omega)) rfl 4 (by decide) (hc _ w87) (fun _ h9 => h9) rfl dBl_reckon_38 ?_
      refine lv_i2l (v := (S 18 j).toInt64) hx hb dBl_reckon_41 rfl ?_
      refine lv_aload_n hx hb dBl_reckon_42 rfl (lv_at hl 0 rfl) ?_
      refine va_get (D := (dC, dI)) (ci := 2) (v := .int (S 17 j)) (C := RBl) (T := TBl) (N := 8) hx hb hc inBl hown hK hP (18 + j) (xb_cell (by omega)) rfl 3 (by decide) (hc _ w85) (fun _ h9 => h9) rfl dBl_reckon_43 ?_
      refine lv_i2l (v := (S 17 j).toInt64) hx hb dBl_reckon_46 rfl ?_
      refine lv_lload_n hx hb dBl_reckon_47 rfl (lv_at hl 1 rfl) ?_
      refine va_mmin_long hx hb (by rw [hml]; exact hl.1.symm) hown (hc _ w462) (hc _ w463) (hc _ w14) (hc _ w464) (Nat.le_of_ble_eq_true rfl) (Nat.le_of_ble_eq_true rfl) (Nat.zero_le _) (Nat.zero_le _) dBl_reckon_48 ?_
      refine lv_topl (fun v_5 ev_5 => ?_)
      refine va_mmax_long hx hb (by rw [hml]; exact hl.1.symm) hown (hc _ w465) (hc _ w466) (hc _ w14) (hc _ w467) (Nat.le_of_ble_eq_true rfl) (Nat.le_of_ble_eq_true rfl) (Nat.zero_le _) (Nat.zero_le _) dBl_reckon_51 ?_
      refine lv_topl (fun v_6 ev_6 => ?_)
      exact W.lret (v := v_6) hx hb hr (fun t ht hW => ⟨_, rfl, (by (try dsimp only); exact (by unfold rkn; rw [if_neg c_0, if_pos c_1, ev_6, lmx, ev_5, lmn, Int32.toInt_toInt64, Int32.toInt_toInt64, Int32.toInt_toInt64])), ht⟩) (fun _ h => nomatch h) dBl_reckon_54
  · refine lv_lload_n hx hb dBl_reckon_8 rfl (lv_at hl 1 rfl) ?_
    refine lv_aload_n hx hb dBl_reckon_9 rfl (lv_at hl 0 rfl) ?_
    refine va_get (D := (dC, dI)) (ci := 2) (v := .int (S 17 j)) (C := RBl) (T := TBl) (N := 8) hx hb hc inBl hown hK hP (18 + j) (xb_cell (by omega)) rfl 3 (by decide) (hc _ w85) (fun _ h9 => h9) rfl dBl_reckon_10 ?_
    refine lv_i2l (v := (S 17 j).toInt64) hx hb dBl_reckon_13 rfl ?_
    refine lv_lmul hx hb dBl_reckon_14 ?_
    refine lv_ldc2 (v := 8) hx hb hown (hc _ w458) dBl_reckon_15 ?_
    refine vp_callSl (va_Run.run (va_runS (As := [.long (v.toInt64 * ((S 17 j).toInt64)), .long 8]) (rest := []) ⟨hx, hb, hml, hown, hc⟩ (cMa_floorDiv l (v.toInt64 * ((S 17 j).toInt64)) 8 (by rw [(lm_mul hv hf).1]; have := (lm_mul hv hf).2; omega) (by rw [(lm_mul hv hf).1]; have := (lm_mul hv hf).2; omega) (by decide)) (va_cwS 2 hc (g_S w459 w460 w14 qMa_floorDiv) rfl rfl rfl (by decide +kernel) ⟨Nat.le_of_ble_eq_true rfl, Nat.le_of_ble_eq_true rfl⟩) ⟨tPre_blind, tPre_in⟩ rfl rfl hl.1 rfl (lv_room (Nat.le_of_ble_eq_true rfl)) dBl_reckon_18 ⟨Nat.zero_le _, Nat.zero_le _⟩)) (fun r_7 hr_7 => ?_)
    refine lv_aload_n hx hb dBl_reckon_21 rfl (lv_at hl 0 rfl) ?_
    refine va_get (D := (dC, dI)) (ci := 2) (v := .int (S 18 j)) (C := RBl) (T := TBl) (N := 8) hx hb hc inBl hown hK hP (18 + j) (xb_cell (by omega)) rfl 4 (by decide) (hc _ w87) (fun _ h9 => h9) rfl dBl_reckon_22 ?_
    refine lv_i2l (v := (S 18 j).toInt64) hx hb dBl_reckon_25 rfl ?_
    refine lv_ladd hx hb dBl_reckon_26 ?_
    exact W.lret (v := (r_7 + ((S 18 j).toInt64))) hx hb hr (fun t ht hW => ⟨_, rfl, (by (try dsimp only); exact (by unfold rkn; rw [if_pos c_0]; rw [(lm_mul hv hf).1] at hr_7; have h8 : (8 : Int64).toInt = 8 := rfl; rw [h8] at hr_7; have hb := fd_bound (a := v.toInt * (S 17 j).toInt) (b := 8) (by decide); have hm := (lm_mul hv hf).2; rw [lT_add, Int32.toInt_toInt64, hr_7] <;> (try rw [Int32.toInt_toInt64, hr_7]) <;> omega)), ht⟩) (fun _ h => nomatch h) dBl_reckon_27

set_option maxHeartbeats 4000000 in
set_option maxRecDepth 100000 in
theorem cMe_store (l : Launch) (dC : Nat → ClassId) (dI : Nat → Nat → Nat) (ad : Nat → Nat) (ca : Nat → ClassId) (sz : Nat) (S : Ss) (k : Nat) (x : Int64) (hk : k < 8) : Met l yMe_store (kMe_store :: CW) ({ frames := 1, cells := 0, slots := 0, locals := 23 }) (va_Pc [.ref (ad 1), .int (nI k), .long x] (gPre (dC, dI) (xT ca) (XW ad ca S) sz)) (va_Qv (fun (u : Ss) => u = row S 5 (upd (S 5) k (fitI x.toInt))) (fun u => gAt (dC, dI) (xT ca) (va_A (XW ad ca S) sz) (XW ad ca u)) (va_A (XW ad ca S) sz)) 0 0 (va_A (XW ad ca S) sz) := by
  refine Met.ofW (cc := bMe_store) (maxL := 4) (ret := none) (by decide +kernel) rfl ?_
  intro p e s m args below meth c s₁ B hml hv
  obtain ⟨rfl, hsz, hP, hK, hD0⟩ := hv
  have hx := B.exec
  have hb := B.bytes
  have hr := B.returns
  have hts := atoms_spec (ws := kMe_store :: CW) B.pre
  have hc : ∀ w ∈ CW, w.before _ s = true := fun w h => hts w (List.mem_cons_of_mem _ h)
  have hown : s.vm.findClass RMe = some m.cls := findClass_of_methodNamed B.named
  have hlocks := B.notSynchronized
  subst hsz
  have hD := hD0.self (sz := s.heap.size)
  generalize hAe : va_A (XW ad ca S) s.heap.size = A at hD ⊢
  have hA : ∀ q : Nat, s.heap.size ≤ q → A q := fun q h => by rw [← hAe]; exact Or.inr h
  have hS : va_S A s.heap s.heap [] := va_S.rf
  have hl := lv_entry ([.ref (ad 1), .int (nI k), .long x]) (n := 4) (Nat.le_of_ble_eq_true rfl)
  rw [lg_entry_eq]
  generalize (lg_sl ([.ref (ad 1), .int (nI k), .long x]) ++ List.replicate (4 - (lg_sl ([.ref (ad 1), .int (nI k), .long x])).length) Slot.unset).toArray = ls at hl ⊢
  have hl : lv_has ls 4 [(0, .ref (ad 1)), (1, .int (nI k)), (2, .long x)] := hl
  refine lv_aload_n hx hb dMe_store_0 rfl (lv_at hl 0 rfl) ?_
  refine va_get (D := (dC, dI)) (ci := 1) (v := .ref (ad 6)) (C := RMe) (T := TMe) (N := 5) hx hb hc inMe hown hK hP 1 rfl rfl 4 (by decide) (hc _ w37) (fun _ h9 => h9) rfl dMe_store_1 ?_
  refine lv_iload_n hx hb dMe_store_4 rfl (lv_at hl 1 rfl) ?_
  refine lv_ldc2 (v := (-65536)) hx hb hown (hc _ w472) dMe_store_5 ?_
  refine lv_ldc2 (v := 65536) hx hb hown (hc _ w473) dMe_store_8 ?_
  refine lv_lload_n hx hb dMe_store_11 rfl (lv_at hl 2 rfl) ?_
  refine va_mmin_long hx hb (by rw [hml]; exact hl.1.symm) hown (hc _ w474) (hc _ w463) (hc _ w14) (hc _ w464) (Nat.le_of_ble_eq_true rfl) (Nat.le_of_ble_eq_true rfl) (Nat.zero_le _) (Nat.zero_le _) dMe_store_12 ?_
  refine lv_topl (fun v_1 ev_1 => ?_)
  refine va_mmax_long hx hb (by rw [hml]; exact hl.1.symm) hown (hc _ w475) (hc _ w466) (hc _ w14) (hc _ w467) (Nat.le_of_ble_eq_true rfl) (Nat.le_of_ble_eq_true rfl) (Nat.zero_le _) (Nat.zero_le _) dMe_store_15 ?_
  refine lv_topl (fun v_2 ev_2 => ?_)
  refine lv_l2i (v := v_2.toInt32) hx hb dMe_store_18 rfl ?_
  refine va_iast hx hb hK hP hD hS 6 4 rfl rfl (vp_in_nI (by omega) (by decide)) dMe_store_19 (fun H locs hP hD hS => ?_)
  rw [nI_clamp (by omega)] at hP hD
  obtain ⟨S_3, eS_3⟩ : ∃ z9 : Ss, z9 = row S 5 (upd (S 5) k v_2.toInt32) := ⟨_, rfl⟩
  have hP : va_P (dC, dI) vwCl (XW ad ca S_3) H := by rw [eS_3]; exact hP
  have hD : va_D A (XW ad ca S_3) := by rw [eS_3]; exact hD
  exact W.vret hx hb hr (fun t ht hW => ⟨⟨S_3, rfl, (by (try dsimp only); exact (by rw [eS_3]; congr 2; exact fitI_l (by rw [ev_2, lmx, ev_1, lmn]; rfl))), by rw [ht]; exact hP, va_K.moved hW.alike hK, hD⟩, hS.F ht⟩) hS.2.2 dMe_store_20
