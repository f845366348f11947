set_option maxHeartbeats 4000000 in
set_option maxRecDepth 100000 in
theorem cMo_erase (l : Launch) (dC : Nat → ClassId) (dI : Nat → Nat → Nat) (ad : Nat → Nat) (ca : Nat → ClassId) (sz : Nat) (S E : Ss) (a : Int32) : Met l yMo_erase (kMo_erase :: CW) ({ frames := 1, cells := 0, slots := 0, locals := 22 }) (va_Pc [.ref (ad 0), .int a] (gPre (dC, dI) (mT ca) (MW ad ca S E) sz)) (va_Qi (fun (r : Int32) (u : Ss × Ss) => (oErase S a).1 = u.2 0 0 ∧ ((oErase S a).1 = 0 → r = (oErase S a).2.1) ∧ u.1 = (oErase S a).2.2) (fun u => gAt (dC, dI) (mT ca) (va_A (MW ad ca S E) sz) (MW ad ca u.1 u.2)) (va_A (MW ad ca S E) sz)) 0 0 (va_A (MW ad ca S E) sz) := by
  refine Met.ofW (cc := bMo_erase) (maxL := 3) (ret := (some .int)) (by decide +kernel) rfl ?_
  intro p e s m args below meth c s₁ B hml hv
  obtain ⟨rfl, hsz, hP, hK, hD0⟩ := hv
  have hx := B.exec
  have hb := B.bytes
  have hr := B.returns
  have hts := atoms_spec (ws := kMo_erase :: CW) B.pre
  have hc : ∀ w ∈ CW, w.before _ s = true := fun w h => hts w (List.mem_cons_of_mem _ h)
  have hown : s.vm.findClass RMo = some m.cls := findClass_of_methodNamed B.named
  have hlocks := B.notSynchronized
  subst hsz
  have hD := hD0.self (sz := s.heap.size)
  generalize hAe : va_A (MW ad ca S E) s.heap.size = A at hD ⊢
  have hA : ∀ q : Nat, s.heap.size ≤ q → A q := fun q h => by rw [← hAe]; exact Or.inr h
  have hS : va_S A s.heap s.heap [] := va_S.rf
  have hl := lv_entry ([.ref (ad 0), .int a]) (n := 3) (Nat.le_of_ble_eq_true rfl)
  rw [lg_entry_eq]
  generalize (lg_sl ([.ref (ad 0), .int a]) ++ List.replicate (3 - (lg_sl ([.ref (ad 0), .int a])).length) Slot.unset).toArray = ls at hl ⊢
  have hl : lv_has ls 3 [(0, .ref (ad 0)), (1, .int a)] := hl
  refine lv_aload_n hx hb dMo_erase_0 rfl (lv_at hl 0 rfl) ?_
  refine lv_iconst (v := 0) hx hb dMo_erase_1 (by decide +kernel) ?_
  refine va_put (D := (dC, dI)) (ci := 4) (v := .int 0) (ty := .int) (C := RMo) (T := TMo) (N := 29) hx hb hc inMo tyMo tyMo_ok nmMo hown hK hP hD hS 0 rfl rfl 0 (by decide) (hc _ w561) (fun _ h9 => h9) rfl (by decide +kernel) rfl rfl (Nat.le_of_ble_eq_true rfl) dMo_erase_2 (fun H locs hP hD hS => ?_)
  obtain ⟨E_1, eE_1⟩ : ∃ z9 : Ss, z9 = row E 0 (upd (E 0) 0 0) := ⟨_, rfl⟩
  have hP : va_P (dC, dI) vwCl (MW ad ca S E_1) H := by rw [eE_1]; exact hP
  have hD : va_D A (MW ad ca S E_1) := by rw [eE_1]; exact hD
  refine lv_iload_n hx hb dMo_erase_5 rfl (lv_at hl 1 rfl) ?_
  refine lv_iconst (v := 0) hx hb dMo_erase_6 (by decide +kernel) ?_
  refine lv_bipush (v := 11) hx hb dMo_erase_7 (by decide +kernel) ?_
  refine vp_callSi (va_Run.run (va_runS (As := [.int a, .int 0, .int 11]) (rest := []) ⟨hx, hb, hml, hown, hc⟩ (cMo_in l a 0 11) (va_cwS 3 hc (g_S w658 w659 w5 qMo_in) rfl rfl rfl (by decide +kernel) ⟨Nat.le_of_ble_eq_true rfl, Nat.le_of_ble_eq_true rfl⟩) ⟨tPre_blind, tPre_in⟩ rfl rfl hl.1 rfl (lv_room (Nat.le_of_ble_eq_true rfl)) dMo_erase_9 ⟨Nat.zero_le _, Nat.zero_le _⟩)) (fun r_2 hr_2 => ?_)
  refine lv_if_ne (tgt := 21) hx hb dMo_erase_12 (by decide) (fun c_2 => ?_) (fun c_2 => ?_)
  · obtain ⟨k, hk, ek⟩ := wi_ex (br_n hr_2 c_2) (n := 11) rfl (by decide)
    subst ek
    refine lv_aload_n hx hb dMo_erase_21 rfl (lv_at hl 0 rfl) ?_
    refine va_get (D := (dC, dI)) (ci := 4) (v := .ref (ad 16)) (C := RMo) (T := TMo) (N := 29) hx hb hc inMo hown hK hP 0 rfl rfl 17 (by decide) (hc _ w578) (fun _ h9 => h9) rfl dMo_erase_22 ?_
    refine lv_iload_n hx hb dMo_erase_25 rfl (lv_at hl 1 rfl) ?_
    refine va_iald hx hb hK hP 16 15 rfl rfl (vp_in_nI (by omega) (by decide)) dMo_erase_26 ?_
    refine lv_topi (fun v_4 ev_4 => ?_)
    rw [nI_clamp (by omega)] at ev_4
    subst v_4
    refine lv_istore_n (lv' := [(2, .int (S 8 k)), (0, .ref (ad 0)), (1, .int (nI k))]) hx hb dMo_erase_27 rfl hl (by decide) rfl (fun ls hl => ?_)
    refine lv_aload_n hx hb dMo_erase_28 rfl (lv_at hl 1 rfl) ?_
    refine va_get (D := (dC, dI)) (ci := 4) (v := .ref (ad 16)) (C := RMo) (T := TMo) (N := 29) hx hb hc inMo hown hK hP 0 rfl rfl 17 (by decide) (hc _ w578) (fun _ h9 => h9) rfl dMo_erase_29 ?_
    refine lv_iload_n hx hb dMo_erase_32 rfl (lv_at hl 2 rfl) ?_
    refine lv_iconst (v := 0) hx hb dMo_erase_33 (by decide +kernel) ?_
    refine va_iast hx hb hK hP hD hS 16 15 rfl rfl (vp_in_nI (by omega) (by decide)) dMo_erase_34 (fun H locs hP hD hS => ?_)
    rw [nI_clamp (by omega)] at hP hD
    obtain ⟨S_5, eS_5⟩ : ∃ z9 : Ss, z9 = row S 8 (upd (S 8) k 0) := ⟨_, rfl⟩
    have hP : va_P (dC, dI) vwCl (MW ad ca S_5 E_1) H := by rw [eS_5]; exact hP
    have hD : va_D A (MW ad ca S_5 E_1) := by rw [eS_5]; exact hD
    refine lv_aload_n hx hb dMo_erase_35 rfl (lv_at hl 1 rfl) ?_
    refine va_get (D := (dC, dI)) (ci := 4) (v := .ref (ad 17)) (C := RMo) (T := TMo) (N := 29) hx hb hc inMo hown hK hP 0 rfl rfl 18 (by decide) (hc _ w579) (fun _ h9 => h9) rfl dMo_erase_36 ?_
    refine lv_iload_n hx hb dMo_erase_39 rfl (lv_at hl 2 rfl) ?_
    refine lv_iconst (v := 0) hx hb dMo_erase_40 (by decide +kernel) ?_
    refine va_iast hx hb hK hP hD hS 17 16 rfl rfl (vp_in_nI (by omega) (by decide)) dMo_erase_41 (fun H locs hP hD hS => ?_)
    rw [nI_clamp (by omega)] at hP hD
    obtain ⟨S_6, eS_6⟩ : ∃ z9 : Ss, z9 = row S_5 9 (upd (S_5 9) k 0) := ⟨_, rfl⟩
    have hP : va_P (dC, dI) vwCl (MW ad ca S_6 E_1) H := by rw [eS_6]; exact hP
    have hD : va_D A (MW ad ca S_6 E_1) := by rw [eS_6]; exact hD
    refine lv_iload_n hx hb dMo_erase_42 rfl (lv_at hl 0 rfl) ?_
    exact W.iret (v := (S 8 k)) hx hb hr (fun t ht hW => ⟨⟨_, (S_6, E_1), rfl, (by (try dsimp only) <;> exact (by have hO : oErase S (nI k) = (0, S 8 k, S_6) := (by rw [eS_6, eS_5]; unfold oErase; rw [if_neg (fun h => h (br_n hr_2 c_2)), nI_clamp (by omega)]; rfl); rw [hO]; exact ⟨by rw [eE_1]; rfl, fun _ => rfl, rfl⟩)), by rw [ht]; exact hP, va_K.moved hW.alike hK, hD⟩, hS.F ht⟩) hS.2.2 dMo_erase_43
  · refine lv_aload_n hx hb dMo_erase_15 rfl (lv_at hl 0 rfl) ?_
    refine lv_iconst (v := 1) hx hb dMo_erase_16 (by decide +kernel) ?_
    refine g_calli (va_runV (As := [.int 1]) (rest := []) ⟨hx, hb, hml, hown, hc⟩ (cMo_raise l dC dI ad ca H.size S E_1 1) (cwV 1 hc (gV w661 w663 s9 w5 qMo_raise) rfl rfl rfl (by decide +kernel) ⟨Nat.le_of_ble_eq_true rfl, Nat.le_of_ble_eq_true rfl⟩) ⟨gPre_blind, va_recv hK hP (ci := 4) (q0 := 0) rfl rfl, (gPre_in hP hK hD)⟩ rfl rfl hl.1 rfl (lv_room (Nat.le_of_ble_eq_true rfl)) dMo_erase_17 ⟨Nat.zero_le _, Nat.zero_le _⟩) hD hS hA (fun r_8 u_7 H locs hu_7 hP hD hS => ?_)
    obtain ⟨S_7, E_7⟩ := u_7
    (try dsimp only at hu_7 hP hD)
    obtain ⟨hr9, hS9, hE9⟩ := hu_7
    subst S_7
    exact W.iret (v := r_8) hx hb hr (fun t ht hW => ⟨⟨_, (S, E_7), rfl, (by (try dsimp only) <;> exact (by have hO : oErase S a = (1, 0, S) := (by unfold oErase; rw [if_pos (br_0 hr_2 c_2)]); rw [hO]; exact ⟨by rw [hE9]; rfl, fun h => absurd (show (1 : Int32) = 0 from h) (by decide), rfl⟩)), by rw [ht]; exact hP, va_K.moved hW.alike hK, hD⟩, hS.F ht⟩) hS.2.2 dMo_erase_20

set_option maxHeartbeats 4000000 in
set_option maxRecDepth 100000 in
theorem cMo_bit (l : Launch) (dC : Nat → ClassId) (dI : Nat → Nat → Nat) (ad : Nat → Nat) (ca : Nat → ClassId) (sz : Nat) (S E : Ss) (a : Int32) (hF : ∀ i, i < 32 → S 2 i = -1 ∨ b01 (S 2 i)) : Met l yMo_bit (kMo_bit :: CW) ({ frames := 1, cells := 0, slots := 0, locals := 22 }) (va_Pc [.ref (ad 0), .int a] (gPre (dC, dI) (mT ca) (MW ad ca S E) sz)) (va_Qi (fun (r : Int32) (u : Ss × Ss) => (oBit S a).1 = u.2 0 0 ∧ ((oBit S a).1 = 0 → r = (oBit S a).2.1) ∧ u.1 = (oBit S a).2.2) (fun u => gAt (dC, dI) (mT ca) (va_A (MW ad ca S E) sz) (MW ad ca u.1 u.2)) (va_A (MW ad ca S E) sz)) 0 0 (va_A (MW ad ca S E) sz) := by
  refine Met.ofW (cc := bMo_bit) (maxL := 2) (ret := (some .int)) (by decide +kernel) rfl ?_
  intro p e s m args below meth c s₁ B hml hv
  obtain ⟨rfl, hsz, hP, hK, hD0⟩ := hv
  have hx := B.exec
  have hb := B.bytes
  have hr := B.returns
  have hts := atoms_spec (ws := kMo_bit :: CW) B.pre
  have hc : ∀ w ∈ CW, w.before _ s = true := fun w h => hts w (List.mem_cons_of_mem _ h)
  have hown : s.vm.findClass RMo = some m.cls := findClass_of_methodNamed B.named
  have hlocks := B.notSynchronized
  subst hsz
  have hD := hD0.self (sz := s.heap.size)
  generalize hAe : va_A (MW ad ca S E) s.heap.size = A at hD ⊢
  have hA : ∀ q : Nat, s.heap.size ≤ q → A q := fun q h => by rw [← hAe]; exact Or.inr h
  have hS : va_S A s.heap s.heap [] := va_S.rf
  have hl := lv_entry ([.ref (ad 0), .int a]) (n := 2) (Nat.le_of_ble_eq_true rfl)
  rw [lg_entry_eq]
  generalize (lg_sl ([.ref (ad 0), .int a]) ++ List.replicate (2 - (lg_sl ([.ref (ad 0), .int a])).length) Slot.unset).toArray = ls at hl ⊢
  have hl : lv_has ls 2 [(0, .ref (ad 0)), (1, .int a)] := hl
  refine lv_aload_n hx hb dMo_bit_0 rfl (lv_at hl 0 rfl) ?_
  refine lv_iconst (v := 0) hx hb dMo_bit_1 (by decide +kernel) ?_
  refine va_put (D := (dC, dI)) (ci := 4) (v := .int 0) (ty := .int) (C := RMo) (T := TMo) (N := 29) hx hb hc inMo tyMo tyMo_ok nmMo hown hK hP hD hS 0 rfl rfl 0 (by decide) (hc _ w561) (fun _ h9 => h9) rfl (by decide +kernel) rfl rfl (Nat.le_of_ble_eq_true rfl) dMo_bit_2 (fun H locs hP hD hS => ?_)
  obtain ⟨E_1, eE_1⟩ : ∃ z9 : Ss, z9 = row E 0 (upd (E 0) 0 0) := ⟨_, rfl⟩
  have hP : va_P (dC, dI) vwCl (MW ad ca S E_1) H := by rw [eE_1]; exact hP
  have hD : va_D A (MW ad ca S E_1) := by rw [eE_1]; exact hD
  refine lv_iload_n hx hb dMo_bit_5 rfl (lv_at hl 1 rfl) ?_
  refine lv_iconst (v := 0) hx hb dMo_bit_6 (by decide +kernel) ?_
  refine lv_bipush (v := 31) hx hb dMo_bit_7 (by decide +kernel) ?_
  refine vp_callSi (va_Run.run (va_runS (As := [.int a, .int 0, .int 31]) (rest := []) ⟨hx, hb, hml, hown, hc⟩ (cMo_in l a 0 31) (va_cwS 3 hc (g_S w658 w659 w5 qMo_in) rfl rfl rfl (by decide +kernel) ⟨Nat.le_of_ble_eq_true rfl, Nat.le_of_ble_eq_true rfl⟩) ⟨tPre_blind, tPre_in⟩ rfl rfl hl.1 rfl (lv_room (Nat.le_of_ble_eq_true rfl)) dMo_bit_9 ⟨Nat.zero_le _, Nat.zero_le _⟩)) (fun r_2 hr_2 => ?_)
  refine lv_if_eq (tgt := 23) hx hb dMo_bit_12 (by decide) (fun c_2 => ?_) (fun c_2 => ?_)
  · refine lv_aload_n hx hb dMo_bit_23 rfl (lv_at hl 0 rfl) ?_
    refine lv_iconst (v := 1) hx hb dMo_bit_24 (by decide +kernel) ?_
    refine g_calli (va_runV (As := [.int 1]) (rest := []) ⟨hx, hb, hml, hown, hc⟩ (cMo_raise l dC dI ad ca H.size S E_1 1) (cwV 1 hc (gV w661 w663 s9 w5 qMo_raise) rfl rfl rfl (by decide +kernel) ⟨Nat.le_of_ble_eq_true rfl, Nat.le_of_ble_eq_true rfl⟩) ⟨gPre_blind, va_recv hK hP (ci := 4) (q0 := 0) rfl rfl, (gPre_in hP hK hD)⟩ rfl rfl hl.1 rfl (lv_room (Nat.le_of_ble_eq_true rfl)) dMo_bit_25 ⟨Nat.zero_le _, Nat.zero_le _⟩) hD hS hA (fun r_5 u_4 H locs hu_4 hP hD hS => ?_)
    obtain ⟨S_4, E_4⟩ := u_4
    (try dsimp only at hu_4 hP hD)
    obtain ⟨hr9, hS9, hE9⟩ := hu_4
    subst S_4
    exact W.iret (v := r_5) hx hb hr (fun t ht hW => ⟨⟨_, (S, E_4), rfl, (by (try dsimp only) <;> exact (by have hO : oBit S a = (1, 0, S) := (by unfold oBit; rw [if_pos (br_0 hr_2 c_2)]); rw [hO]; exact ⟨by rw [hE9]; rfl, fun h => absurd (show (1 : Int32) = 0 from h) (by decide), rfl⟩)), by rw [ht]; exact hP, va_K.moved hW.alike hK, hD⟩, hS.F ht⟩) hS.2.2 dMo_bit_28
  · obtain ⟨k, hk, ek⟩ := wi_ex (br_n hr_2 c_2) (n := 31) rfl (by decide)
    subst ek
    refine lv_aload_n hx hb dMo_bit_15 rfl (lv_at hl 0 rfl) ?_
    refine lv_iload_n hx hb dMo_bit_16 rfl (lv_at hl 1 rfl) ?_
    refine vp_callSi (va_Run.run (va_runV (As := [.int (nI k)]) (rest := []) ⟨hx, hb, hml, hown, hc⟩ (cMo_read l dC dI ad ca H.size S E_1 k (by omega) (hF k (by omega))) (cwV 1 hc (gV w732 w734 s14 w5 qMo_read) rfl rfl rfl (by decide +kernel) ⟨Nat.le_of_ble_eq_true rfl, Nat.le_of_ble_eq_true rfl⟩) ⟨gPre_blind, va_recv hK hP (ci := 4) (q0 := 0) rfl rfl, (gPre_in hP hK hD)⟩ rfl rfl hl.1 rfl (lv_room (Nat.le_of_ble_eq_true rfl)) dMo_bit_17 ⟨Nat.zero_le _, Nat.zero_le _⟩)) (fun r_6 hr_6 => ?_)
    refine lv_goto (tgt := 28) hx hb dMo_bit_20 (by decide) ?_
    exact W.iret (v := r_6) hx hb hr (fun t ht hW => ⟨⟨_, (S, E_1), rfl, (by (try dsimp only) <;> exact (by have hO : oBit S (nI k) = (0, r_6, S) := (by unfold oBit; rw [if_neg (fun h => h (br_n hr_2 c_2)), nI_clamp (by omega), hr_6]); rw [hO]; exact ⟨by rw [eE_1]; rfl, fun _ => rfl, rfl⟩)), by rw [ht]; exact hP, va_K.moved hW.alike hK, hD⟩, hS.F ht⟩) hS.2.2 dMo_bit_28

set_option maxHeartbeats 4000000 in
set_option maxRecDepth 100000 in
theorem cMo_out (l : Launch) (dC : Nat → ClassId) (dI : Nat → Nat → Nat) (ad : Nat → Nat) (ca : Nat → ClassId) (sz : Nat) (S E : Ss) (a : Int32) : Met l yMo_out (kMo_out :: CW) ({ frames := 1, cells := 0, slots := 0, locals := 22 }) (va_Pc [.ref (ad 0), .int a] (gPre (dC, dI) (mT ca) (MW ad ca S E) sz)) (va_Qi (fun (r : Int32) (u : Ss × Ss) => (oOut S a).1 = u.2 0 0 ∧ ((oOut S a).1 = 0 → r = (oOut S a).2.1) ∧ u.1 = (oOut S a).2.2) (fun u => gAt (dC, dI) (mT ca) (va_A (MW ad ca S E) sz) (MW ad ca u.1 u.2)) (va_A (MW ad ca S E) sz)) 0 0 (va_A (MW ad ca S E) sz) := by
  refine Met.ofW (cc := bMo_out) (maxL := 2) (ret := (some .int)) (by decide +kernel) rfl ?_
  intro p e s m args below meth c s₁ B hml hv
  obtain ⟨rfl, hsz, hP, hK, hD0⟩ := hv
  have hx := B.exec
  have hb := B.bytes
  have hr := B.returns
  have hts := atoms_spec (ws := kMo_out :: CW) B.pre
  have hc : ∀ w ∈ CW, w.before _ s = true := fun w h => hts w (List.mem_cons_of_mem _ h)
  have hown : s.vm.findClass RMo = some m.cls := findClass_of_methodNamed B.named
  have hlocks := B.notSynchronized
  subst hsz
  have hD := hD0.self (sz := s.heap.size)
  generalize hAe : va_A (MW ad ca S E) s.heap.size = A at hD ⊢
  have hA : ∀ q : Nat, s.heap.size ≤ q → A q := fun q h => by rw [← hAe]; exact Or.inr h
  have hS : va_S A s.heap s.heap [] := va_S.rf
  have hl := lv_entry ([.ref (ad 0), .int a]) (n := 2) (Nat.le_of_ble_eq_true rfl)
  rw [lg_entry_eq]
  generalize (lg_sl ([.ref (ad 0), .int a]) ++ List.replicate (2 - (lg_sl ([.ref (ad 0), .int a])).length) Slot.unset).toArray = ls at hl ⊢
  have hl : lv_has ls 2 [(0, .ref (ad 0)), (1, .int a)] := hl
  refine lv_aload_n hx hb dMo_out_0 rfl (lv_at hl 0 rfl) ?_
  refine lv_iconst (v := 0) hx hb dMo_out_1 (by decide +kernel) ?_
  refine va_put (D := (dC, dI)) (ci := 4) (v := .int 0) (ty := .int) (C := RMo) (T := TMo) (N := 29) hx hb hc inMo tyMo tyMo_ok nmMo hown hK hP hD hS 0 rfl rfl 0 (by decide) (hc _ w561) (fun _ h9 => h9) rfl (by decide +kernel) rfl rfl (Nat.le_of_ble_eq_true rfl) dMo_out_2 (fun H locs hP hD hS => ?_)
  obtain ⟨E_1, eE_1⟩ : ∃ z9 : Ss, z9 = row E 0 (upd (E 0) 0 0) := ⟨_, rfl⟩
  have hP : va_P (dC, dI) vwCl (MW ad ca S E_1) H := by rw [eE_1]; exact hP
  have hD : va_D A (MW ad ca S E_1) := by rw [eE_1]; exact hD
  refine lv_iload_n hx hb dMo_out_5 rfl (lv_at hl 1 rfl) ?_
  refine lv_bipush (v := 8) hx hb dMo_out_6 (by decide +kernel) ?_
  refine lv_bipush (v := 15) hx hb dMo_out_8 (by decide +kernel) ?_
  refine vp_callSi (va_Run.run (va_runS (As := [.int a, .int 8, .int 15]) (rest := []) ⟨hx, hb, hml, hown, hc⟩ (cMo_in l a 8 15) (va_cwS 3 hc (g_S w658 w659 w5 qMo_in) rfl rfl rfl (by decide +kernel) ⟨Nat.le_of_ble_eq_true rfl, Nat.le_of_ble_eq_true rfl⟩) ⟨tPre_blind, tPre_in⟩ rfl rfl hl.1 rfl (lv_room (Nat.le_of_ble_eq_true rfl)) dMo_out_10 ⟨Nat.zero_le _, Nat.zero_le _⟩)) (fun r_2 hr_2 => ?_)
  refine lv_if_eq (tgt := 28) hx hb dMo_out_13 (by decide) (fun c_2 => ?_) (fun c_2 => ?_)
  · refine lv_aload_n hx hb dMo_out_28 rfl (lv_at hl 0 rfl) ?_
    refine lv_iconst (v := 1) hx hb dMo_out_29 (by decide +kernel) ?_
    refine g_calli (va_runV (As := [.int 1]) (rest := []) ⟨hx, hb, hml, hown, hc⟩ (cMo_raise l dC dI ad ca H.size S E_1 1) (cwV 1 hc (gV w661 w663 s9 w5 qMo_raise) rfl rfl rfl (by decide +kernel) ⟨Nat.le_of_ble_eq_true rfl, Nat.le_of_ble_eq_true rfl⟩) ⟨gPre_blind, va_recv hK hP (ci := 4) (q0 := 0) rfl rfl, (gPre_in hP hK hD)⟩ rfl rfl hl.1 rfl (lv_room (Nat.le_of_ble_eq_true rfl)) dMo_out_30 ⟨Nat.zero_le _, Nat.zero_le _⟩) hD hS hA (fun r_5 u_4 H locs hu_4 hP hD hS => ?_)
    obtain ⟨S_4, E_4⟩ := u_4
    (try dsimp only at hu_4 hP hD)
    obtain ⟨hr9, hS9, hE9⟩ := hu_4
    subst S_4
    exact W.iret (v := r_5) hx hb hr (fun t ht hW => ⟨⟨_, (S, E_4), rfl, (by (try dsimp only) <;> exact (by have hO : oOut S a = (1, 0, S) := (by unfold oOut; rw [if_pos (br_0 hr_2 c_2)]); rw [hO]; exact ⟨by rw [hE9]; rfl, fun h => absurd (show (1 : Int32) = 0 from h) (by decide), rfl⟩)), by rw [ht]; exact hP, va_K.moved hW.alike hK, hD⟩, hS.F ht⟩) hS.2.2 dMo_out_33
  · obtain ⟨k, hk, ek⟩ := wi_815 (br_n hr_2 c_2)
    subst ek
    refine lv_aload_n hx hb dMo_out_16 rfl (lv_at hl 0 rfl) ?_
    refine va_get (D := (dC, dI)) (ci := 4) (v := .ref (ad 4)) (C := RMo) (T := TMo) (N := 29) hx hb hc inMo hown hK hP 0 rfl rfl 4 (by decide) (hc _ w565) (fun _ h9 => h9) rfl dMo_out_17 ?_
    refine lv_iload_n hx hb dMo_out_20 rfl (lv_at hl 1 rfl) ?_
    refine lv_bipush (v := 8) hx hb dMo_out_21 (by decide +kernel) ?_
    refine lv_isub hx hb dMo_out_23 ?_
    refine lv_topi (fun v_6 ev_6 => ?_)
    rw [show nI (8 + k) - 8 = nI k from sub8 k] at ev_6
    subst v_6
    refine va_iald hx hb hK hP 4 3 rfl rfl (vp_in_nI (by omega) (by decide)) dMo_out_24 ?_
    refine lv_topi (fun v_7 ev_7 => ?_)
    rw [nI_clamp (by omega)] at ev_7
    subst v_7
    refine lv_goto (tgt := 33) hx hb dMo_out_25 (by decide) ?_
    exact W.iret (v := (S 4 k)) hx hb hr (fun t ht hW => ⟨⟨_, (S, E_1), rfl, (by (try dsimp only) <;> exact (by have hO : oOut S (nI (8 + k)) = (0, S 4 k, S) := (by unfold oOut; rw [if_neg (fun h => h (br_n hr_2 c_2)), nI_clamp (by omega), show 8 + k - 8 = k by omega]); rw [hO]; exact ⟨by rw [eE_1]; rfl, fun _ => rfl, rfl⟩)), by rw [ht]; exact hP, va_K.moved hW.alike hK, hD⟩, hS.F ht⟩) hS.2.2 dMo_out_33

set_option maxHeartbeats 4000000 in
set_option maxRecDepth 100000 in
theorem cMo_register (l : Launch) (dC : Nat → ClassId) (dI : Nat → Nat → Nat) (ad : Nat → Nat) (ca : Nat → ClassId) (sz : Nat) (S E : Ss) (a : Int32) : Met l yMo_register (kMo_register :: CW) ({ frames := 1, cells := 0, slots := 0, locals := 22 }) (va_Pc [.ref (ad 0), .int a] (gPre (dC, dI) (mT ca) (MW ad ca S E) sz)) (va_Qd (fun (r : UInt64) (u : Ss × Ss) => (oReg S a).1 = u.2 0 0 ∧ ((oReg S a).1 = 0 → r = (oReg S a).2.1) ∧ u.1 = (oReg S a).2.2) (fun u => gAt (dC, dI) (mT ca) (va_A (MW ad ca S E) sz) (MW ad ca u.1 u.2)) (va_A (MW ad ca S E) sz)) 0 0 (va_A (MW ad ca S E) sz) := by
  refine Met.ofW (cc := bMo_register) (maxL := 2) (ret := (some .double)) (by decide +kernel) rfl ?_
  intro p e s m args below meth c s₁ B hml hv
  obtain ⟨rfl, hsz, hP, hK, hD0⟩ := hv
  have hx := B.exec
  have hb := B.bytes
  have hr := B.returns
  have hts := atoms_spec (ws := kMo_register :: CW) B.pre
  have hc : ∀ w ∈ CW, w.before _ s = true := fun w h => hts w (List.mem_cons_of_mem _ h)
  have hown : s.vm.findClass RMo = some m.cls := findClass_of_methodNamed B.named
  have hlocks := B.notSynchronized
  subst hsz
  have hD := hD0.self (sz := s.heap.size)
  generalize hAe : va_A (MW ad ca S E) s.heap.size = A at hD ⊢
  have hA : ∀ q : Nat, s.heap.size ≤ q → A q := fun q h => by rw [← hAe]; exact Or.inr h
  have hS : va_S A s.heap s.heap [] := va_S.rf
  have hl := lv_entry ([.ref (ad 0), .int a]) (n := 2) (Nat.le_of_ble_eq_true rfl)
  rw [lg_entry_eq]
  generalize (lg_sl ([.ref (ad 0), .int a]) ++ List.replicate (2 - (lg_sl ([.ref (ad 0), .int a])).length) Slot.unset).toArray = ls at hl ⊢
  have hl : lv_has ls 2 [(0, .ref (ad 0)), (1, .int a)] := hl
  refine lv_aload_n hx hb dMo_register_0 rfl (lv_at hl 0 rfl) ?_
  refine lv_iconst (v := 0) hx hb dMo_register_1 (by decide +kernel) ?_
  refine va_put (D := (dC, dI)) (ci := 4) (v := .int 0) (ty := .int) (C := RMo) (T := TMo) (N := 29) hx hb hc inMo tyMo tyMo_ok nmMo hown hK hP hD hS 0 rfl rfl 0 (by decide) (hc _ w561) (fun _ h9 => h9) rfl (by decide +kernel) rfl rfl (Nat.le_of_ble_eq_true rfl) dMo_register_2 (fun H locs hP hD hS => ?_)
  obtain ⟨E_1, eE_1⟩ : ∃ z9 : Ss, z9 = row E 0 (upd (E 0) 0 0) := ⟨_, rfl⟩
  have hP : va_P (dC, dI) vwCl (MW ad ca S E_1) H := by rw [eE_1]; exact hP
  have hD : va_D A (MW ad ca S E_1) := by rw [eE_1]; exact hD
  refine lv_iload_n hx hb dMo_register_5 rfl (lv_at hl 1 rfl) ?_
  refine lv_iconst (v := 0) hx hb dMo_register_6 (by decide +kernel) ?_
  refine lv_bipush (v := 7) hx hb dMo_register_7 (by decide +kernel) ?_
  refine vp_callSi (va_Run.run (va_runS (As := [.int a, .int 0, .int 7]) (rest := []) ⟨hx, hb, hml, hown, hc⟩ (cMo_in l a 0 7) (va_cwS 3 hc (g_S w658 w659 w5 qMo_in) rfl rfl rfl (by decide +kernel) ⟨Nat.le_of_ble_eq_true rfl, Nat.le_of_ble_eq_true rfl⟩) ⟨tPre_blind, tPre_in⟩ rfl rfl hl.1 rfl (lv_room (Nat.le_of_ble_eq_true rfl)) dMo_register_9 ⟨Nat.zero_le _, Nat.zero_le _⟩)) (fun r_2 hr_2 => ?_)
  refine lv_if_eq (tgt := 29) hx hb dMo_register_12 (by decide) (fun c_2 => ?_) (fun c_2 => ?_)
  · refine lv_aload_n hx hb dMo_register_29 rfl (lv_at hl 0 rfl) ?_
    refine lv_iconst (v := 1) hx hb dMo_register_30 (by decide +kernel) ?_
    refine g_calli (va_runV (As := [.int 1]) (rest := []) ⟨hx, hb, hml, hown, hc⟩ (cMo_raise l dC dI ad ca H.size S E_1 1) (cwV 1 hc (gV w661 w663 s9 w5 qMo_raise) rfl rfl rfl (by decide +kernel) ⟨Nat.le_of_ble_eq_true rfl, Nat.le_of_ble_eq_true rfl⟩) ⟨gPre_blind, va_recv hK hP (ci := 4) (q0 := 0) rfl rfl, (gPre_in hP hK hD)⟩ rfl rfl hl.1 rfl (lv_room (Nat.le_of_ble_eq_true rfl)) dMo_register_31 ⟨Nat.zero_le _, Nat.zero_le _⟩) hD hS hA (fun r_5 u_4 H locs hu_4 hP hD hS => ?_)
    obtain ⟨S_4, E_4⟩ := u_4
    (try dsimp only at hu_4 hP hD)
    obtain ⟨hr9, hS9, hE9⟩ := hu_4
    subst S_4
    refine lv_i2d hx hb dMo_register_34 ?_
    exact W.dret (v := (FP.i2d r_5)) hx hb hr (fun t ht hW => ⟨⟨_, (S, E_4), rfl, (by (try dsimp only) <;> exact (by have hO : oReg S a = (1, 0, S) := (by unfold oReg; rw [if_pos (br_0 hr_2 c_2)]); rw [hO]; exact ⟨by rw [hE9]; rfl, fun h => absurd (show (1 : Int32) = 0 from h) (by decide), rfl⟩)), by rw [ht]; exact hP, va_K.moved hW.alike hK, hD⟩, hS.F ht⟩) hS.2.2 dMo_register_35
  · obtain ⟨k, hk, ek⟩ := wi_ex (br_n hr_2 c_2) (n := 7) rfl (by decide)
    subst ek
    refine lv_aload_n hx hb dMo_register_15 rfl (lv_at hl 0 rfl) ?_
    refine va_get (D := (dC, dI)) (ci := 4) (v := .ref (ad 5)) (C := RMo) (T := TMo) (N := 29) hx hb hc inMo hown hK hP 0 rfl rfl 5 (by decide) (hc _ w566) (fun _ h9 => h9) rfl dMo_register_16 ?_
    refine lv_iload_n hx hb dMo_register_19 rfl (lv_at hl 1 rfl) ?_
    refine va_lald hx hb hK hP 5 4 rfl rfl (vp_in_nI (by omega) (by decide)) dMo_register_20 ?_
    refine lv_topl (fun v_6 ev_6 => ?_)
    rw [nI_clamp (by omega)] at ev_6
    have ev_6 : v_6 = (S 5 k).toInt64 := ev_6
    subst v_6
    refine lv_l2d hx hb dMo_register_21 ?_
    refine lv_topd (fun v_7 ev_7 => ?_)
    rw [e8_l2d] at ev_7
    subst v_7
    refine lv_ldc2d (v := 4593671619917905920) hx hb hown (hc _ w681) dMo_register_22 ?_
    refine lv_dmul hx hb dMo_register_25 (e8_n (e8_eD (S 5 k))) ?_
    refine W.eq (g2 := F0 m 26 ls [.double (eD (S 5 k))]) rfl ?_
    refine lv_goto (tgt := 35) hx hb dMo_register_26 (by decide) ?_
    exact W.dret (v := (eD (S 5 k))) hx hb hr (fun t ht hW => ⟨⟨_, (S, E_1), rfl, (by (try dsimp only) <;> exact (by have hO : oReg S (nI k) = (0, eD (S 5 k), S) := (by unfold oReg; rw [if_neg (fun h => h (br_n hr_2 c_2)), nI_clamp (by omega)]); rw [hO]; exact ⟨by rw [eE_1]; rfl, fun _ => rfl, rfl⟩)), by rw [ht]; exact hP, va_K.moved hW.alike hK, hD⟩, hS.F ht⟩) hS.2.2 dMo_register_35

set_option maxHeartbeats 4000000 in
set_option maxRecDepth 100000 in
theorem cMo_put (l : Launch) (dC : Nat → ClassId) (dI : Nat → Nat → Nat) (ad : Nat → Nat) (ca : Nat → ClassId) (sz : Nat) (S E : Ss) (a b : Int32) : Met l yMo_put (kMo_put :: CW) ({ frames := 1, cells := 0, slots := 0, locals := 23 }) (va_Pc [.ref (ad 0), .int a, .double (eD b)] (gPre (dC, dI) (mT ca) (MW ad ca S E) sz)) (va_Qd (fun (r : UInt64) (u : Ss × Ss) => (oPut S a b).1 = u.2 0 0 ∧ ((oPut S a b).1 = 0 → r = (oPut S a b).2.1) ∧ u.1 = (oPut S a b).2.2) (fun u => gAt (dC, dI) (mT ca) (va_A (MW ad ca S E) sz) (MW ad ca u.1 u.2)) (va_A (MW ad ca S E) sz)) 0 0 (va_A (MW ad ca S E) sz) := by
  refine Met.ofW (cc := bMo_put) (maxL := 6) (ret := (some .double)) (by decide +kernel) rfl ?_
  intro p e s m args below meth c s₁ B hml hv
  obtain ⟨rfl, hsz, hP, hK, hD0⟩ := hv
  have hx := B.exec
  have hb := B.bytes
  have hr := B.returns
  have hts := atoms_spec (ws := kMo_put :: CW) B.pre
  have hc : ∀ w ∈ CW, w.before _ s = true := fun w h => hts w (List.mem_cons_of_mem _ h)
  have hown : s.vm.findClass RMo = some m.cls := findClass_of_methodNamed B.named
  have hlocks := B.notSynchronized
  subst hsz
  have hD := hD0.self (sz := s.heap.size)
  generalize hAe : va_A (MW ad ca S E) s.heap.size = A at hD ⊢
  have hA : ∀ q : Nat, s.heap.size ≤ q → A q := fun q h => by rw [← hAe]; exact Or.inr h
  have hS : va_S A s.heap s.heap [] := va_S.rf
  have hl := lv_entry ([.ref (ad 0), .int a, .double (eD b)]) (n := 6) (Nat.le_of_ble_eq_true rfl)
  rw [lg_entry_eq]
  generalize (lg_sl ([.ref (ad 0), .int a, .double (eD b)]) ++ List.replicate (6 - (lg_sl ([.ref (ad 0), .int a, .double (eD b)])).length) Slot.unset).toArray = ls at hl ⊢
  have hl : lv_has ls 6 [(0, .ref (ad 0)), (1, .int a), (2, .double (eD b))] := hl
  refine lv_aload_n hx hb dMo_put_0 rfl (lv_at hl 0 rfl) ?_
  refine lv_iconst (v := 0) hx hb dMo_put_1 (by decide +kernel) ?_
  refine va_put (D := (dC, dI)) (ci := 4) (v := .int 0) (ty := .int) (C := RMo) (T := TMo) (N := 29) hx hb hc inMo tyMo tyMo_ok nmMo hown hK hP hD hS 0 rfl rfl 0 (by decide) (hc _ w561) (fun _ h9 => h9) rfl (by decide +kernel) rfl rfl (Nat.le_of_ble_eq_true rfl) dMo_put_2 (fun H locs hP hD hS => ?_)
  obtain ⟨E_1, eE_1⟩ : ∃ z9 : Ss, z9 = row E 0 (upd (E 0) 0 0) := ⟨_, rfl⟩
  have hP : va_P (dC, dI) vwCl (MW ad ca S E_1) H := by rw [eE_1]; exact hP
  have hD : va_D A (MW ad ca S E_1) := by rw [eE_1]; exact hD
  refine lv_iload_n hx hb dMo_put_5 rfl (lv_at hl 1 rfl) ?_
  refine lv_iconst (v := 0) hx hb dMo_put_6 (by decide +kernel) ?_
  refine lv_bipush (v := 7) hx hb dMo_put_7 (by decide +kernel) ?_
  refine vp_callSi (va_Run.run (va_runS (As := [.int a, .int 0, .int 7]) (rest := []) ⟨hx, hb, hml, hown, hc⟩ (cMo_in l a 0 7) (va_cwS 3 hc (g_S w658 w659 w5 qMo_in) rfl rfl rfl (by decide +kernel) ⟨Nat.le_of_ble_eq_true rfl, Nat.le_of_ble_eq_true rfl⟩) ⟨tPre_blind, tPre_in⟩ rfl rfl hl.1 rfl (lv_room (Nat.le_of_ble_eq_true rfl)) dMo_put_9 ⟨Nat.zero_le _, Nat.zero_le _⟩)) (fun r_2 hr_2 => ?_)
  refine lv_if_eq (tgt := 22) hx hb dMo_put_12 (by decide) (fun c_2 => ?_) (fun c_2 => ?_)
  · refine lv_aload_n hx hb dMo_put_22 rfl (lv_at hl 0 rfl) ?_
    refine lv_iconst (v := 1) hx hb dMo_put_23 (by decide +kernel) ?_
    refine g_calli (va_runV (As := [.int 1]) (rest := []) ⟨hx, hb, hml, hown, hc⟩ (cMo_raise l dC dI ad ca H.size S E_1 1) (cwV 1 hc (gV w661 w663 s9 w5 qMo_raise) rfl rfl rfl (by decide +kernel) ⟨Nat.le_of_ble_eq_true rfl, Nat.le_of_ble_eq_true rfl⟩) ⟨gPre_blind, va_recv hK hP (ci := 4) (q0 := 0) rfl rfl, (gPre_in hP hK hD)⟩ rfl rfl hl.1 rfl (lv_room (Nat.le_of_ble_eq_true rfl)) dMo_put_24 ⟨Nat.zero_le _, Nat.zero_le _⟩) hD hS hA (fun r_5 u_4 H locs hu_4 hP hD hS => ?_)
    obtain ⟨S_4, E_4⟩ := u_4
    (try dsimp only at hu_4 hP hD)
    obtain ⟨hr9, hS9, hE9⟩ := hu_4
    subst S_4
    refine lv_i2d hx hb dMo_put_27 ?_
    exact W.dret (v := (FP.i2d r_5)) hx hb hr (fun t ht hW => ⟨⟨_, (S, E_4), rfl, (by (try dsimp only) <;> exact (by have hO : oPut S a b = (1, 0, S) := (by unfold oPut; rw [if_pos (fun h => (br_0 hr_2 c_2) h.1)]); rw [hO]; exact ⟨by rw [hE9]; rfl, fun h => absurd (show (1 : Int32) = 0 from h) (by decide), rfl⟩)), by rw [ht]; exact hP, va_K.moved hW.alike hK, hD⟩, hS.F ht⟩) hS.2.2 dMo_put_28
  · refine lv_dload_n hx hb dMo_put_15 rfl (lv_at hl 2 rfl) ?_
    refine vp_callSi (va_Run.run (va_runS (As := [.double (eD b)]) (rest := []) ⟨hx, hb, hml, hown, hc⟩ (cMo_number l b) (va_cwS 1 hc (g_S w669 w670 w5 qMo_number) rfl rfl rfl (by decide +kernel) ⟨Nat.le_of_ble_eq_true rfl, Nat.le_of_ble_eq_true rfl⟩) ⟨tPre_blind, tPre_in⟩ rfl rfl hl.1 rfl (lv_room (Nat.le_of_ble_eq_true rfl)) dMo_put_16 ⟨Nat.zero_le _, Nat.zero_le _⟩)) (fun r_6 hr_6 => ?_)
    refine lv_if_ne (tgt := 29) hx hb dMo_put_19 (by decide) (fun c_6 => ?_) (fun c_6 => ?_)
    · obtain ⟨k, hk, ek⟩ := wi_ex (br_n hr_2 c_2) (n := 7) rfl (by decide)
      subst ek
      refine lv_aload_n hx hb dMo_put_29 rfl (lv_at hl 0 rfl) ?_
      refine va_get (D := (dC, dI)) (ci := 4) (v := .ref (ad 5)) (C := RMo) (T := TMo) (N := 29) hx hb hc inMo hown hK hP 0 rfl rfl 5 (by decide) (hc _ w566) (fun _ h9 => h9) rfl dMo_put_30 ?_
      refine lv_iload_n hx hb dMo_put_33 rfl (lv_at hl 1 rfl) ?_
      refine va_lald hx hb hK hP 5 4 rfl rfl (vp_in_nI (by omega) (by decide)) dMo_put_34 ?_
      refine lv_topl (fun v_8 ev_8 => ?_)
      rw [nI_clamp (by omega)] at ev_8
      have ev_8 : v_8 = (S 5 k).toInt64 := ev_8
      subst v_8
      refine lv_lstore (lv' := [(4, .long ((S 5 k).toInt64)), (0, .ref (ad 0)), (1, .int (nI k)), (2, .double (eD b))]) hx hb dMo_put_35 hl (by decide) rfl (fun ls hl => ?_)
      refine lv_aload_n hx hb dMo_put_37 rfl (lv_at hl 1 rfl) ?_
      refine va_get (D := (dC, dI)) (ci := 4) (v := .ref (ad 5)) (C := RMo) (T := TMo) (N := 29) hx hb hc inMo hown hK hP 0 rfl rfl 5 (by decide) (hc _ w566) (fun _ h9 => h9) rfl dMo_put_38 ?_
      refine lv_iload_n hx hb dMo_put_41 rfl (lv_at hl 2 rfl) ?_
      refine lv_dload_n hx hb dMo_put_42 rfl (lv_at hl 3 rfl) ?_
      refine vp_callSl (va_Run.run (va_runS (As := [.double (eD b)]) (rest := [.int (nI k), .ref (ad 5)]) ⟨hx, hb, hml, hown, hc⟩ (cMo_eighths l b) (va_cwS 1 hc (g_S w678 w679 w5 qMo_eighths) rfl rfl rfl (by decide +kernel) ⟨Nat.le_of_ble_eq_true rfl, Nat.le_of_ble_eq_true rfl⟩) ⟨tPre_blind, tPre_in⟩ rfl rfl hl.1 rfl (lv_room (Nat.le_of_ble_eq_true rfl)) dMo_put_43 ⟨Nat.zero_le _, Nat.zero_le _⟩)) (fun r_9 hr_9 => ?_)
      subst r_9
      refine va_last hx hb hK hP hD hS 5 4 rfl rfl (vp_in_nI (by omega) (by decide)) dMo_put_46 (fun H locs hP hD hS => ?_)
      rw [nI_clamp (by omega)] at hP hD
      rw [updL_i] at hP hD
      obtain ⟨S_10, eS_10⟩ : ∃ z9 : Ss, z9 = row S 5 (upd (S 5) k b) := ⟨_, rfl⟩
      have hP : va_P (dC, dI) vwCl (MW ad ca S_10 E_1) H := by rw [eS_10]; exact hP
      have hD : va_D A (MW ad ca S_10 E_1) := by rw [eS_10]; exact hD
      refine lv_lload hx hb dMo_put_47 (lv_at hl 0 rfl) ?_
      refine lv_l2d hx hb dMo_put_49 ?_
      refine lv_topd (fun v_11 ev_11 => ?_)
      rw [e8_l2d] at ev_11
      subst v_11
      refine lv_ldc2d (v := 4593671619917905920) hx hb hown (hc _ w681) dMo_put_50 ?_
      refine lv_dmul hx hb dMo_put_53 (e8_n (e8_eD (S 5 k))) ?_
      refine W.eq (g2 := F0 m 54 ls [.double (eD (S 5 k))]) rfl ?_
      exact W.dret (v := (eD (S 5 k))) hx hb hr (fun t ht hW => ⟨⟨_, (S_10, E_1), rfl, (by (try dsimp only) <;> exact (by have hO : oPut S (nI k) b = (0, eD (S 5 k), S_10) := (by rw [eS_10]; unfold oPut; rw [if_neg (fun h => h ⟨(br_n hr_2 c_2), (br_n hr_6 c_6)⟩), nI_clamp (by omega)]); rw [hO]; exact ⟨by rw [eE_1]; rfl, fun _ => rfl, rfl⟩)), by rw [ht]; exact hP, va_K.moved hW.alike hK, hD⟩, hS.F ht⟩) hS.2.2 dMo_put_54
    · refine lv_aload_n hx hb dMo_put_22 rfl (lv_at hl 0 rfl) ?_
      refine lv_iconst (v := 1) hx hb dMo_put_23 (by decide +kernel) ?_
      refine g_calli (va_runV (As := [.int 1]) (rest := []) ⟨hx, hb, hml, hown, hc⟩ (cMo_raise l dC dI ad ca H.size S E_1 1) (cwV 1 hc (gV w661 w663 s9 w5 qMo_raise) rfl rfl rfl (by decide +kernel) ⟨Nat.le_of_ble_eq_true rfl, Nat.le_of_ble_eq_true rfl⟩) ⟨gPre_blind, va_recv hK hP (ci := 4) (q0 := 0) rfl rfl, (gPre_in hP hK hD)⟩ rfl rfl hl.1 rfl (lv_room (Nat.le_of_ble_eq_true rfl)) dMo_put_24 ⟨Nat.zero_le _, Nat.zero_le _⟩) hD hS hA (fun r_13 u_12 H locs hu_12 hP hD hS => ?_)
      obtain ⟨S_12, E_12⟩ := u_12
      (try dsimp only at hu_12 hP hD)
      obtain ⟨hr9, hS9, hE9⟩ := hu_12
      subst S_12
      refine lv_i2d hx hb dMo_put_27 ?_
      exact W.dret (v := (FP.i2d r_13)) hx hb hr (fun t ht hW => ⟨⟨_, (S, E_12), rfl, (by (try dsimp only) <;> exact (by have hO : oPut S a b = (1, 0, S) := (by unfold oPut; rw [if_pos (fun h => (br_0 hr_6 c_6) h.2)]); rw [hO]; exact ⟨by rw [hE9]; rfl, fun h => absurd (show (1 : Int32) = 0 from h) (by decide), rfl⟩)), by rw [ht]; exact hP, va_K.moved hW.alike hK, hD⟩, hS.F ht⟩) hS.2.2 dMo_put_28

set_option maxHeartbeats 4000000 in
set_option maxRecDepth 100000 in
theorem cMo_wire (l : Launch) (dC : Nat → ClassId) (dI : Nat → Nat → Nat) (ad : Nat → Nat) (ca : Nat → ClassId) (sz : Nat) (S E : Ss) (a b : Int32) : Met l yMo_wire (kMo_wire :: CW) ({ frames := 1, cells := 0, slots := 0, locals := 22 }) (va_Pc [.ref (ad 0), .int a, .int b] (gPre (dC, dI) (mT ca) (MW ad ca S E) sz)) (va_Qi (fun (r : Int32) (u : Ss × Ss) => (oWire S a b).1 = u.2 0 0 ∧ ((oWire S a b).1 = 0 → r = (oWire S a b).2.1) ∧ u.1 = (oWire S a b).2.2) (fun u => gAt (dC, dI) (mT ca) (va_A (MW ad ca S E) sz) (MW ad ca u.1 u.2)) (va_A (MW ad ca S E) sz)) 0 0 (va_A (MW ad ca S E) sz) := by
  refine Met.ofW (cc := bMo_wire) (maxL := 4) (ret := (some .int)) (by decide +kernel) rfl ?_
  intro p e s m args below meth c s₁ B hml hv
  obtain ⟨rfl, hsz, hP, hK, hD0⟩ := hv
  have hx := B.exec
  have hb := B.bytes
  have hr := B.returns
  have hts := atoms_spec (ws := kMo_wire :: CW) B.pre
  have hc : ∀ w ∈ CW, w.before _ s = true := fun w h => hts w (List.mem_cons_of_mem _ h)
  have hown : s.vm.findClass RMo = some m.cls := findClass_of_methodNamed B.named
  have hlocks := B.notSynchronized
  subst hsz
  have hD := hD0.self (sz := s.heap.size)
  generalize hAe : va_A (MW ad ca S E) s.heap.size = A at hD ⊢
  have hA : ∀ q : Nat, s.heap.size ≤ q → A q := fun q h => by rw [← hAe]; exact Or.inr h
  have hS : va_S A s.heap s.heap [] := va_S.rf
  have hl := lv_entry ([.ref (ad 0), .int a, .int b]) (n := 4) (Nat.le_of_ble_eq_true rfl)
  rw [lg_entry_eq]
  generalize (lg_sl ([.ref (ad 0), .int a, .int b]) ++ List.replicate (4 - (lg_sl ([.ref (ad 0), .int a, .int b])).length) Slot.unset).toArray = ls at hl ⊢
  have hl : lv_has ls 4 [(0, .ref (ad 0)), (1, .int a), (2, .int b)] := hl
  refine lv_aload_n hx hb dMo_wire_0 rfl (lv_at hl 0 rfl) ?_
  refine lv_iconst (v := 0) hx hb dMo_wire_1 (by decide +kernel) ?_
  refine va_put (D := (dC, dI)) (ci := 4) (v := .int 0) (ty := .int) (C := RMo) (T := TMo) (N := 29) hx hb hc inMo tyMo tyMo_ok nmMo hown hK hP hD hS 0 rfl rfl 0 (by decide) (hc _ w561) (fun _ h9 => h9) rfl (by decide +kernel) rfl rfl (Nat.le_of_ble_eq_true rfl) dMo_wire_2 (fun H locs hP hD hS => ?_)
  obtain ⟨E_1, eE_1⟩ : ∃ z9 : Ss, z9 = row E 0 (upd (E 0) 0 0) := ⟨_, rfl⟩
  have hP : va_P (dC, dI) vwCl (MW ad ca S E_1) H := by rw [eE_1]; exact hP
  have hD : va_D A (MW ad ca S E_1) := by rw [eE_1]; exact hD
  refine lv_iload_n hx hb dMo_wire_5 rfl (lv_at hl 1 rfl) ?_
  refine lv_iconst (v := 0) hx hb dMo_wire_6 (by decide +kernel) ?_
  refine lv_bipush (v := 7) hx hb dMo_wire_7 (by decide +kernel) ?_
  refine vp_callSi (va_Run.run (va_runS (As := [.int a, .int 0, .int 7]) (rest := []) ⟨hx, hb, hml, hown, hc⟩ (cMo_in l a 0 7) (va_cwS 3 hc (g_S w658 w659 w5 qMo_in) rfl rfl rfl (by decide +kernel) ⟨Nat.le_of_ble_eq_true rfl, Nat.le_of_ble_eq_true rfl⟩) ⟨tPre_blind, tPre_in⟩ rfl rfl hl.1 rfl (lv_room (Nat.le_of_ble_eq_true rfl)) dMo_wire_9 ⟨Nat.zero_le _, Nat.zero_le _⟩)) (fun r_2 hr_2 => ?_)
  refine lv_if_eq (tgt := 24) hx hb dMo_wire_12 (by decide) (fun c_2 => ?_) (fun c_2 => ?_)
  · refine lv_aload_n hx hb dMo_wire_24 rfl (lv_at hl 0 rfl) ?_
    refine lv_iconst (v := 1) hx hb dMo_wire_25 (by decide +kernel) ?_
    refine g_calli (va_runV (As := [.int 1]) (rest := []) ⟨hx, hb, hml, hown, hc⟩ (cMo_raise l dC dI ad ca H.size S E_1 1) (cwV 1 hc (gV w661 w663 s9 w5 qMo_raise) rfl rfl rfl (by decide +kernel) ⟨Nat.le_of_ble_eq_true rfl, Nat.le_of_ble_eq_true rfl⟩) ⟨gPre_blind, va_recv hK hP (ci := 4) (q0 := 0) rfl rfl, (gPre_in hP hK hD)⟩ rfl rfl hl.1 rfl (lv_room (Nat.le_of_ble_eq_true rfl)) dMo_wire_26 ⟨Nat.zero_le _, Nat.zero_le _⟩) hD hS hA (fun r_5 u_4 H locs hu_4 hP hD hS => ?_)
    obtain ⟨S_4, E_4⟩ := u_4
    (try dsimp only at hu_4 hP hD)
    obtain ⟨hr9, hS9, hE9⟩ := hu_4
    subst S_4
    exact W.iret (v := r_5) hx hb hr (fun t ht hW => ⟨⟨_, (S, E_4), rfl, (by (try dsimp only) <;> exact (by have hO : oWire S a b = (1, 0, S) := (by unfold oWire; rw [if_pos (fun h => (br_0 hr_2 c_2) h.1)]); rw [hO]; exact ⟨by rw [hE9]; rfl, fun h => absurd (show (1 : Int32) = 0 from h) (by decide), rfl⟩)), by rw [ht]; exact hP, va_K.moved hW.alike hK, hD⟩, hS.F ht⟩) hS.2.2 dMo_wire_29
  · refine lv_iload_n hx hb dMo_wire_15 rfl (lv_at hl 2 rfl) ?_
    refine lv_iconst (v := 0) hx hb dMo_wire_16 (by decide +kernel) ?_
    refine lv_iconst (v := 1) hx hb dMo_wire_17 (by decide +kernel) ?_
    refine vp_callSi (va_Run.run (va_runS (As := [.int b, .int 0, .int 1]) (rest := []) ⟨hx, hb, hml, hown, hc⟩ (cMo_in l b 0 1) (va_cwS 3 hc (g_S w658 w659 w5 qMo_in) rfl rfl rfl (by decide +kernel) ⟨Nat.le_of_ble_eq_true rfl, Nat.le_of_ble_eq_true rfl⟩) ⟨tPre_blind, tPre_in⟩ rfl rfl hl.1 rfl (lv_room (Nat.le_of_ble_eq_true rfl)) dMo_wire_18 ⟨Nat.zero_le _, Nat.zero_le _⟩)) (fun r_6 hr_6 => ?_)
    refine lv_if_ne (tgt := 30) hx hb dMo_wire_21 (by decide) (fun c_6 => ?_) (fun c_6 => ?_)
    · obtain ⟨k, hk, ek⟩ := wi_ex (br_n hr_2 c_2) (n := 7) rfl (by decide)
      subst ek
      refine lv_aload_n hx hb dMo_wire_30 rfl (lv_at hl 0 rfl) ?_
      refine va_get (D := (dC, dI)) (ci := 4) (v := .ref (ad 3)) (C := RMo) (T := TMo) (N := 29) hx hb hc inMo hown hK hP 0 rfl rfl 3 (by decide) (hc _ w564) (fun _ h9 => h9) rfl dMo_wire_31 ?_
      refine lv_iload_n hx hb dMo_wire_34 rfl (lv_at hl 1 rfl) ?_
      refine va_iald hx hb hK hP 3 2 rfl rfl (vp_in_nI (by omega) (by decide)) dMo_wire_35 ?_
      refine lv_topi (fun v_8 ev_8 => ?_)
      rw [nI_clamp (by omega)] at ev_8
      subst v_8
      refine lv_istore_n (lv' := [(3, .int (S 3 k)), (0, .ref (ad 0)), (1, .int (nI k)), (2, .int b)]) hx hb dMo_wire_36 rfl hl (by decide) rfl (fun ls hl => ?_)
      refine lv_aload_n hx hb dMo_wire_37 rfl (lv_at hl 1 rfl) ?_
      refine va_get (D := (dC, dI)) (ci := 4) (v := .ref (ad 3)) (C := RMo) (T := TMo) (N := 29) hx hb hc inMo hown hK hP 0 rfl rfl 3 (by decide) (hc _ w564) (fun _ h9 => h9) rfl dMo_wire_38 ?_
      refine lv_iload_n hx hb dMo_wire_41 rfl (lv_at hl 2 rfl) ?_
      refine lv_iload_n hx hb dMo_wire_42 rfl (lv_at hl 3 rfl) ?_
      refine va_iast hx hb hK hP hD hS 3 2 rfl rfl (vp_in_nI (by omega) (by decide)) dMo_wire_43 (fun H locs hP hD hS => ?_)
      rw [nI_clamp (by omega)] at hP hD
      obtain ⟨S_9, eS_9⟩ : ∃ z9 : Ss, z9 = row S 3 (upd (S 3) k b) := ⟨_, rfl⟩
      have hP : va_P (dC, dI) vwCl (MW ad ca S_9 E_1) H := by rw [eS_9]; exact hP
      have hD : va_D A (MW ad ca S_9 E_1) := by rw [eS_9]; exact hD
      refine lv_iload_n hx hb dMo_wire_44 rfl (lv_at hl 0 rfl) ?_
      exact W.iret (v := (S 3 k)) hx hb hr (fun t ht hW => ⟨⟨_, (S_9, E_1), rfl, (by (try dsimp only) <;> exact (by have hO : oWire S (nI k) b = (0, S 3 k, S_9) := (by rw [eS_9]; unfold oWire; rw [if_neg (fun h => h ⟨(br_n hr_2 c_2), (br_n hr_6 c_6)⟩), nI_clamp (by omega)]); rw [hO]; exact ⟨by rw [eE_1]; rfl, fun _ => rfl, rfl⟩)), by rw [ht]; exact hP, va_K.moved hW.alike hK, hD⟩, hS.F ht⟩) hS.2.2 dMo_wire_45
    · refine lv_aload_n hx hb dMo_wire_24 rfl (lv_at hl 0 rfl) ?_
      refine lv_iconst (v := 1) hx hb dMo_wire_25 (by decide +kernel) ?_
      refine g_calli (va_runV (As := [.int 1]) (rest := []) ⟨hx, hb, hml, hown, hc⟩ (cMo_raise l dC dI ad ca H.size S E_1 1) (cwV 1 hc (gV w661 w663 s9 w5 qMo_raise) rfl rfl rfl (by decide +kernel) ⟨Nat.le_of_ble_eq_true rfl, Nat.le_of_ble_eq_true rfl⟩) ⟨gPre_blind, va_recv hK hP (ci := 4) (q0 := 0) rfl rfl, (gPre_in hP hK hD)⟩ rfl rfl hl.1 rfl (lv_room (Nat.le_of_ble_eq_true rfl)) dMo_wire_26 ⟨Nat.zero_le _, Nat.zero_le _⟩) hD hS hA (fun r_11 u_10 H locs hu_10 hP hD hS => ?_)
      obtain ⟨S_10, E_10⟩ := u_10
      (try dsimp only at hu_10 hP hD)
      obtain ⟨hr9, hS9, hE9⟩ := hu_10
      subst S_10
      exact W.iret (v := r_11) hx hb hr (fun t ht hW => ⟨⟨_, (S, E_10), rfl, (by (try dsimp only) <;> exact (by have hO : oWire S a b = (1, 0, S) := (by unfold oWire; rw [if_pos (fun h => (br_0 hr_6 c_6) h.2)]); rw [hO]; exact ⟨by rw [hE9]; rfl, fun h => absurd (show (1 : Int32) = 0 from h) (by decide), rfl⟩)), by rw [ht]; exact hP, va_K.moved hW.alike hK, hD⟩, hS.F ht⟩) hS.2.2 dMo_wire_29

set_option maxHeartbeats 4000000 in
set_option maxRecDepth 100000 in
theorem cMo_force (l : Launch) (dC : Nat → ClassId) (dI : Nat → Nat → Nat) (ad : Nat → Nat) (ca : Nat → ClassId) (sz : Nat) (S E : Ss) (a b : Int32) : Met l yMo_force (kMo_force :: CW) ({ frames := 1, cells := 0, slots := 0, locals := 22 }) (va_Pc [.ref (ad 0), .int a, .int b] (gPre (dC, dI) (mT ca) (MW ad ca S E) sz)) (va_Qi (fun (r : Int32) (u : Ss × Ss) => (oForce S a b).1 = u.2 0 0 ∧ ((oForce S a b).1 = 0 → r = (oForce S a b).2.1) ∧ u.1 = (oForce S a b).2.2) (fun u => gAt (dC, dI) (mT ca) (va_A (MW ad ca S E) sz) (MW ad ca u.1 u.2)) (va_A (MW ad ca S E) sz)) 0 0 (va_A (MW ad ca S E) sz) := by
  refine Met.ofW (cc := bMo_force) (maxL := 4) (ret := (some .int)) (by decide +kernel) rfl ?_
  intro p e s m args below meth c s₁ B hml hv
  obtain ⟨rfl, hsz, hP, hK, hD0⟩ := hv
  have hx := B.exec
  have hb := B.bytes
  have hr := B.returns
  have hts := atoms_spec (ws := kMo_force :: CW) B.pre
  have hc : ∀ w ∈ CW, w.before _ s = true := fun w h => hts w (List.mem_cons_of_mem _ h)
  have hown : s.vm.findClass RMo = some m.cls := findClass_of_methodNamed B.named
  have hlocks := B.notSynchronized
  subst hsz
  have hD := hD0.self (sz := s.heap.size)
  generalize hAe : va_A (MW ad ca S E) s.heap.size = A at hD ⊢
  have hA : ∀ q : Nat, s.heap.size ≤ q → A q := fun q h => by rw [← hAe]; exact Or.inr h
  have hS : va_S A s.heap s.heap [] := va_S.rf
  have hl := lv_entry ([.ref (ad 0), .int a, .int b]) (n := 4) (Nat.le_of_ble_eq_true rfl)
  rw [lg_entry_eq]
  generalize (lg_sl ([.ref (ad 0), .int a, .int b]) ++ List.replicate (4 - (lg_sl ([.ref (ad 0), .int a, .int b])).length) Slot.unset).toArray = ls at hl ⊢
  have hl : lv_has ls 4 [(0, .ref (ad 0)), (1, .int a), (2, .int b)] := hl
  refine lv_aload_n hx hb dMo_force_0 rfl (lv_at hl 0 rfl) ?_
  refine lv_iconst (v := 0) hx hb dMo_force_1 (by decide +kernel) ?_
  refine va_put (D := (dC, dI)) (ci := 4) (v := .int 0) (ty := .int) (C := RMo) (T := TMo) (N := 29) hx hb hc inMo tyMo tyMo_ok nmMo hown hK hP hD hS 0 rfl rfl 0 (by decide) (hc _ w561) (fun _ h9 => h9) rfl (by decide +kernel) rfl rfl (Nat.le_of_ble_eq_true rfl) dMo_force_2 (fun H locs hP hD hS => ?_)
  obtain ⟨E_1, eE_1⟩ : ∃ z9 : Ss, z9 = row E 0 (upd (E 0) 0 0) := ⟨_, rfl⟩
  have hP : va_P (dC, dI) vwCl (MW ad ca S E_1) H := by rw [eE_1]; exact hP
  have hD : va_D A (MW ad ca S E_1) := by rw [eE_1]; exact hD
  refine lv_iload_n hx hb dMo_force_5 rfl (lv_at hl 1 rfl) ?_
  refine lv_iconst (v := 0) hx hb dMo_force_6 (by decide +kernel) ?_
  refine lv_bipush (v := 31) hx hb dMo_force_7 (by decide +kernel) ?_
  refine vp_callSi (va_Run.run (va_runS (As := [.int a, .int 0, .int 31]) (rest := []) ⟨hx, hb, hml, hown, hc⟩ (cMo_in l a 0 31) (va_cwS 3 hc (g_S w658 w659 w5 qMo_in) rfl rfl rfl (by decide +kernel) ⟨Nat.le_of_ble_eq_true rfl, Nat.le_of_ble_eq_true rfl⟩) ⟨tPre_blind, tPre_in⟩ rfl rfl hl.1 rfl (lv_room (Nat.le_of_ble_eq_true rfl)) dMo_force_9 ⟨Nat.zero_le _, Nat.zero_le _⟩)) (fun r_2 hr_2 => ?_)
  refine lv_if_eq (tgt := 24) hx hb dMo_force_12 (by decide) (fun c_2 => ?_) (fun c_2 => ?_)
  · refine lv_aload_n hx hb dMo_force_24 rfl (lv_at hl 0 rfl) ?_
    refine lv_iconst (v := 1) hx hb dMo_force_25 (by decide +kernel) ?_
    refine g_calli (va_runV (As := [.int 1]) (rest := []) ⟨hx, hb, hml, hown, hc⟩ (cMo_raise l dC dI ad ca H.size S E_1 1) (cwV 1 hc (gV w661 w663 s9 w5 qMo_raise) rfl rfl rfl (by decide +kernel) ⟨Nat.le_of_ble_eq_true rfl, Nat.le_of_ble_eq_true rfl⟩) ⟨gPre_blind, va_recv hK hP (ci := 4) (q0 := 0) rfl rfl, (gPre_in hP hK hD)⟩ rfl rfl hl.1 rfl (lv_room (Nat.le_of_ble_eq_true rfl)) dMo_force_26 ⟨Nat.zero_le _, Nat.zero_le _⟩) hD hS hA (fun r_5 u_4 H locs hu_4 hP hD hS => ?_)
    obtain ⟨S_4, E_4⟩ := u_4
    (try dsimp only at hu_4 hP hD)
    obtain ⟨hr9, hS9, hE9⟩ := hu_4
    subst S_4
    exact W.iret (v := r_5) hx hb hr (fun t ht hW => ⟨⟨_, (S, E_4), rfl, (by (try dsimp only) <;> exact (by have hO : oForce S a b = (1, 0, S) := (by unfold oForce; rw [if_pos (fun h => (br_0 hr_2 c_2) h.1)]); rw [hO]; exact ⟨by rw [hE9]; rfl, fun h => absurd (show (1 : Int32) = 0 from h) (by decide), rfl⟩)), by rw [ht]; exact hP, va_K.moved hW.alike hK, hD⟩, hS.F ht⟩) hS.2.2 dMo_force_29
  · refine lv_iload_n hx hb dMo_force_15 rfl (lv_at hl 2 rfl) ?_
    refine lv_iconst (v := (-1)) hx hb dMo_force_16 (by decide +kernel) ?_
    refine lv_iconst (v := 1) hx hb dMo_force_17 (by decide +kernel) ?_
    refine vp_callSi (va_Run.run (va_runS (As := [.int b, .int (-1), .int 1]) (rest := []) ⟨hx, hb, hml, hown, hc⟩ (cMo_in l b (-1) 1) (va_cwS 3 hc (g_S w658 w659 w5 qMo_in) rfl rfl rfl (by decide +kernel) ⟨Nat.le_of_ble_eq_true rfl, Nat.le_of_ble_eq_true rfl⟩) ⟨tPre_blind, tPre_in⟩ rfl rfl hl.1 rfl (lv_room (Nat.le_of_ble_eq_true rfl)) dMo_force_18 ⟨Nat.zero_le _, Nat.zero_le _⟩)) (fun r_6 hr_6 => ?_)
    refine lv_if_ne (tgt := 30) hx hb dMo_force_21 (by decide) (fun c_6 => ?_) (fun c_6 => ?_)
    · obtain ⟨k, hk, ek⟩ := wi_ex (br_n hr_2 c_2) (n := 31) rfl (by decide)
      subst ek
      refine lv_aload_n hx hb dMo_force_30 rfl (lv_at hl 0 rfl) ?_
      refine va_get (D := (dC, dI)) (ci := 4) (v := .ref (ad 2)) (C := RMo) (T := TMo) (N := 29) hx hb hc inMo hown hK hP 0 rfl rfl 2 (by decide) (hc _ w563) (fun _ h9 => h9) rfl dMo_force_31 ?_
      refine lv_iload_n hx hb dMo_force_34 rfl (lv_at hl 1 rfl) ?_
      refine va_iald hx hb hK hP 2 1 rfl rfl (vp_in_nI (by omega) (by decide)) dMo_force_35 ?_
      refine lv_topi (fun v_8 ev_8 => ?_)
      rw [nI_clamp (by omega)] at ev_8
      subst v_8
      refine lv_istore_n (lv' := [(3, .int (S 2 k)), (0, .ref (ad 0)), (1, .int (nI k)), (2, .int b)]) hx hb dMo_force_36 rfl hl (by decide) rfl (fun ls hl => ?_)
      refine lv_aload_n hx hb dMo_force_37 rfl (lv_at hl 1 rfl) ?_
      refine va_get (D := (dC, dI)) (ci := 4) (v := .ref (ad 2)) (C := RMo) (T := TMo) (N := 29) hx hb hc inMo hown hK hP 0 rfl rfl 2 (by decide) (hc _ w563) (fun _ h9 => h9) rfl dMo_force_38 ?_
      refine lv_iload_n hx hb dMo_force_41 rfl (lv_at hl 2 rfl) ?_
      refine lv_iload_n hx hb dMo_force_42 rfl (lv_at hl 3 rfl) ?_
      refine va_iast hx hb hK hP hD hS 2 1 rfl rfl (vp_in_nI (by omega) (by decide)) dMo_force_43 (fun H locs hP hD hS => ?_)
      rw [nI_clamp (by omega)] at hP hD
      obtain ⟨S_9, eS_9⟩ : ∃ z9 : Ss, z9 = row S 2 (upd (S 2) k b) := ⟨_, rfl⟩
      have hP : va_P (dC, dI) vwCl (MW ad ca S_9 E_1) H := by rw [eS_9]; exact hP
      have hD : va_D A (MW ad ca S_9 E_1) := by rw [eS_9]; exact hD
      refine lv_iload_n hx hb dMo_force_44 rfl (lv_at hl 0 rfl) ?_
      exact W.iret (v := (S 2 k)) hx hb hr (fun t ht hW => ⟨⟨_, (S_9, E_1), rfl, (by (try dsimp only) <;> exact (by have hO : oForce S (nI k) b = (0, S 2 k, S_9) := (by rw [eS_9]; unfold oForce; rw [if_neg (fun h => h ⟨(br_n hr_2 c_2), (br_n hr_6 c_6)⟩), nI_clamp (by omega)]); rw [hO]; exact ⟨by rw [eE_1]; rfl, fun _ => rfl, rfl⟩)), by rw [ht]; exact hP, va_K.moved hW.alike hK, hD⟩, hS.F ht⟩) hS.2.2 dMo_force_45
    · refine lv_aload_n hx hb dMo_force_24 rfl (lv_at hl 0 rfl) ?_
      refine lv_iconst (v := 1) hx hb dMo_force_25 (by decide +kernel) ?_
      refine g_calli (va_runV (As := [.int 1]) (rest := []) ⟨hx, hb, hml, hown, hc⟩ (cMo_raise l dC dI ad ca H.size S E_1 1) (cwV 1 hc (gV w661 w663 s9 w5 qMo_raise) rfl rfl rfl (by decide +kernel) ⟨Nat.le_of_ble_eq_true rfl, Nat.le_of_ble_eq_true rfl⟩) ⟨gPre_blind, va_recv hK hP (ci := 4) (q0 := 0) rfl rfl, (gPre_in hP hK hD)⟩ rfl rfl hl.1 rfl (lv_room (Nat.le_of_ble_eq_true rfl)) dMo_force_26 ⟨Nat.zero_le _, Nat.zero_le _⟩) hD hS hA (fun r_11 u_10 H locs hu_10 hP hD hS => ?_)
      obtain ⟨S_10, E_10⟩ := u_10
      (try dsimp only at hu_10 hP hD)
      obtain ⟨hr9, hS9, hE9⟩ := hu_10
      subst S_10
      exact W.iret (v := r_11) hx hb hr (fun t ht hW => ⟨⟨_, (S, E_10), rfl, (by (try dsimp only) <;> exact (by have hO : oForce S a b = (1, 0, S) := (by unfold oForce; rw [if_pos (fun h => (br_0 hr_6 c_6) h.2)]); rw [hO]; exact ⟨by rw [hE9]; rfl, fun h => absurd (show (1 : Int32) = 0 from h) (by decide), rfl⟩)), by rw [ht]; exact hP, va_K.moved hW.alike hK, hD⟩, hS.F ht⟩) hS.2.2 dMo_force_29

set_option maxHeartbeats 4000000 in
set_option maxRecDepth 100000 in
theorem cMo_state (l : Launch) (dC : Nat → ClassId) (dI : Nat → Nat → Nat) (ad : Nat → Nat) (ca : Nat → ClassId) (sz : Nat) (S E : Ss) (a b : Int32) (m0 : Nat) (hm : m0 ≤ 10) (em : S 0 0 = nI m0) : Met l yMo_state (kMo_state :: CW) ({ frames := 1, cells := 0, slots := 0, locals := 22 }) (va_Pc [.ref (ad 0), .int a, .int b] (gPre (dC, dI) (mT ca) (MW ad ca S E) sz)) (va_Qi (fun (r : Int32) (u : Ss × Ss) => (oState S a b).1 = u.2 0 0 ∧ ((oState S a b).1 = 0 → r = (oState S a b).2.1) ∧ u.1 = (oState S a b).2.2) (fun u => gAt (dC, dI) (mT ca) (va_A (MW ad ca S E) sz) (MW ad ca u.1 u.2)) (va_A (MW ad ca S E) sz)) 0 0 (va_A (MW ad ca S E) sz) := by
  refine Met.ofW (cc := bMo_state) (maxL := 3) (ret := (some .int)) (by decide +kernel) rfl ?_
  intro p e s m args below meth c s₁ B hml hv
  obtain ⟨rfl, hsz, hP, hK, hD0⟩ := hv
  have hx := B.exec
  have hb := B.bytes
  have hr := B.returns
  have hts := atoms_spec (ws := kMo_state :: CW) B.pre
  have hc : ∀ w ∈ CW, w.before _ s = true := fun w h => hts w (List.mem_cons_of_mem _ h)
  have hown : s.vm.findClass RMo = some m.cls := findClass_of_methodNamed B.named
  have hlocks := B.notSynchronized
  subst hsz
  have hD := hD0.self (sz := s.heap.size)
  generalize hAe : va_A (MW ad ca S E) s.heap.size = A at hD ⊢
  have hA : ∀ q : Nat, s.heap.size ≤ q → A q := fun q h => by rw [← hAe]; exact Or.inr h
  have hS : va_S A s.heap s.heap [] := va_S.rf
  have hl := lv_entry ([.ref (ad 0), .int a, .int b]) (n := 3) (Nat.le_of_ble_eq_true rfl)
  rw [lg_entry_eq]
  generalize (lg_sl ([.ref (ad 0), .int a, .int b]) ++ List.replicate (3 - (lg_sl ([.ref (ad 0), .int a, .int b])).length) Slot.unset).toArray = ls at hl ⊢
  have hl : lv_has ls 3 [(0, .ref (ad 0)), (1, .int a), (2, .int b)] := hl
  refine lv_aload_n hx hb dMo_state_0 rfl (lv_at hl 0 rfl) ?_
  refine lv_iconst (v := 0) hx hb dMo_state_1 (by decide +kernel) ?_
  refine va_put (D := (dC, dI)) (ci := 4) (v := .int 0) (ty := .int) (C := RMo) (T := TMo) (N := 29) hx hb hc inMo tyMo tyMo_ok nmMo hown hK hP hD hS 0 rfl rfl 0 (by decide) (hc _ w561) (fun _ h9 => h9) rfl (by decide +kernel) rfl rfl (Nat.le_of_ble_eq_true rfl) dMo_state_2 (fun H locs hP hD hS => ?_)
  obtain ⟨E_1, eE_1⟩ : ∃ z9 : Ss, z9 = row E 0 (upd (E 0) 0 0) := ⟨_, rfl⟩
  have hP : va_P (dC, dI) vwCl (MW ad ca S E_1) H := by rw [eE_1]; exact hP
  have hD : va_D A (MW ad ca S E_1) := by rw [eE_1]; exact hD
  refine lv_iload_n hx hb dMo_state_5 rfl (lv_at hl 1 rfl) ?_
  refine lv_iconst (v := 0) hx hb dMo_state_6 (by decide +kernel) ?_
  refine lv_aload_n hx hb dMo_state_7 rfl (lv_at hl 0 rfl) ?_
  refine va_get (D := (dC, dI)) (ci := 4) (v := .int (S 0 0)) (C := RMo) (T := TMo) (N := 29) hx hb hc inMo hown hK hP 0 rfl rfl 14 (by decide) (hc _ w575) (fun _ h9 => h9) rfl dMo_state_8 ?_
  refine lv_iconst (v := 1) hx hb dMo_state_11 (by decide +kernel) ?_
  refine lv_isub hx hb dMo_state_12 ?_
  refine vp_callSi (va_Run.run (va_runS (As := [.int a, .int 0, .int ((S 0 0) - 1)]) (rest := []) ⟨hx, hb, hml, hown, hc⟩ (cMo_in l a 0 ((S 0 0) - 1)) (va_cwS 3 hc (g_S w658 w659 w5 qMo_in) rfl rfl rfl (by decide +kernel) ⟨Nat.le_of_ble_eq_true rfl, Nat.le_of_ble_eq_true rfl⟩) ⟨tPre_blind, tPre_in⟩ rfl rfl hl.1 rfl (lv_room (Nat.le_of_ble_eq_true rfl)) dMo_state_13 ⟨Nat.zero_le _, Nat.zero_le _⟩)) (fun r_2 hr_2 => ?_)
  refine lv_if_ne (tgt := 25) hx hb dMo_state_16 (by decide) (fun c_2 => ?_) (fun c_2 => ?_)
  · obtain ⟨j, hj, ej⟩ := wi_made hm (by rw [← em]; exact br_n hr_2 c_2)
    subst ej
    refine lv_iload_n hx hb dMo_state_25 rfl (lv_at hl 2 rfl) ?_
    by_cases w_3 : b = 0
    · refine lv_tableIn (tgt := 52) hx hb dMo_state_26 (by rw [w_3]; decide) (by rw [w_3]; decide) (by rw [w_3]; rfl) (by decide) ?_
      refine lv_aload_n hx hb dMo_state_52 rfl (lv_at hl 0 rfl) ?_
      refine va_get (D := (dC, dI)) (ci := 4) (v := .ref (ad 6)) (C := RMo) (T := TMo) (N := 29) hx hb hc inMo hown hK hP 0 rfl rfl 6 (by decide) (hc _ w567) (fun _ h9 => h9) rfl dMo_state_53 ?_
      refine lv_iload_n hx hb dMo_state_56 rfl (lv_at hl 1 rfl) ?_
      refine va_iald hx hb hK hP 6 5 rfl rfl (vp_in_nI (by omega) (by decide)) dMo_state_57 ?_
      refine lv_topi (fun v_5 ev_5 => ?_)
      rw [nI_clamp (by omega)] at ev_5
      subst v_5
      exact W.iret (v := (S 14 j)) hx hb hr (fun t ht hW => ⟨⟨_, (S, E_1), rfl, (by (try dsimp only) <;> exact (by have hO : oState S (nI j) b = (0, S 14 j, S) := (by unfold oState; rw [if_neg (fun h => h (br_n hr_2 c_2)), if_pos w_3, nI_clamp (by omega)]); rw [hO]; exact ⟨by rw [eE_1]; rfl, fun _ => rfl, rfl⟩)), by rw [ht]; exact hP, va_K.moved hW.alike hK, hD⟩, hS.F ht⟩) hS.2.2 dMo_state_58
    by_cases w_5 : b = 1
    · refine lv_tableIn (tgt := 59) hx hb dMo_state_26 (by rw [w_5]; decide) (by rw [w_5]; decide) (by rw [w_5]; rfl) (by decide) ?_
      refine lv_aload_n hx hb dMo_state_59 rfl (lv_at hl 0 rfl) ?_
      refine va_get (D := (dC, dI)) (ci := 4) (v := .ref (ad 11)) (C := RMo) (T := TMo) (N := 29) hx hb hc inMo hown hK hP 0 rfl rfl 11 (by decide) (hc _ w572) (fun _ h9 => h9) rfl dMo_state_60 ?_
      refine lv_iload_n hx hb dMo_state_63 rfl (lv_at hl 1 rfl) ?_
      refine va_iald hx hb hK hP 11 10 rfl rfl (vp_in_nI (by omega) (by decide)) dMo_state_64 ?_
      refine lv_topi (fun v_7 ev_7 => ?_)
      rw [nI_clamp (by omega)] at ev_7
      subst v_7
      exact W.iret (v := (S 19 j)) hx hb hr (fun t ht hW => ⟨⟨_, (S, E_1), rfl, (by (try dsimp only) <;> exact (by have hO : oState S (nI j) b = (0, S 19 j, S) := (by unfold oState; rw [if_neg (fun h => h (br_n hr_2 c_2)), if_neg w_3, if_pos w_5, nI_clamp (by omega)]); rw [hO]; exact ⟨by rw [eE_1]; rfl, fun _ => rfl, rfl⟩)), by rw [ht]; exact hP, va_K.moved hW.alike hK, hD⟩, hS.F ht⟩) hS.2.2 dMo_state_65
    by_cases w_7 : b = 2
    · refine lv_tableIn (tgt := 66) hx hb dMo_state_26 (by rw [w_7]; decide) (by rw [w_7]; decide) (by rw [w_7]; rfl) (by decide) ?_
      refine lv_aload_n hx hb dMo_state_66 rfl (lv_at hl 0 rfl) ?_
      refine va_get (D := (dC, dI)) (ci := 4) (v := .ref (ad 12)) (C := RMo) (T := TMo) (N := 29) hx hb hc inMo hown hK hP 0 rfl rfl 12 (by decide) (hc _ w573) (fun _ h9 => h9) rfl dMo_state_67 ?_
      refine lv_iload_n hx hb dMo_state_70 rfl (lv_at hl 1 rfl) ?_
      refine va_iald hx hb hK hP 12 11 rfl rfl (vp_in_nI (by omega) (by decide)) dMo_state_71 ?_
      refine lv_topi (fun v_9 ev_9 => ?_)
      rw [nI_clamp (by omega)] at ev_9
      subst v_9
      exact W.iret (v := (S 20 j)) hx hb hr (fun t ht hW => ⟨⟨_, (S, E_1), rfl, (by (try dsimp only) <;> exact (by have hO : oState S (nI j) b = (0, S 20 j, S) := (by unfold oState; rw [if_neg (fun h => h (br_n hr_2 c_2)), if_neg w_3, if_neg w_5, if_pos w_7, nI_clamp (by omega)]); rw [hO]; exact ⟨by rw [eE_1]; rfl, fun _ => rfl, rfl⟩)), by rw [ht]; exact hP, va_K.moved hW.alike hK, hD⟩, hS.F ht⟩) hS.2.2 dMo_state_72
    have iw_3 : (b : Int32).toInt ≠ 0 := fun z => w_3 (Int32.toInt_inj.mp (by rw [z]; rfl))
    have iw_5 : (b : Int32).toInt ≠ 1 := fun z => w_5 (Int32.toInt_inj.mp (by rw [z]; rfl))
    have iw_7 : (b : Int32).toInt ≠ 2 := fun z => w_7 (Int32.toInt_inj.mp (by rw [z]; rfl))
    refine lv_tableOut (tgt := 73) hx hb dMo_state_26 (by omega) (by decide) ?_
    refine lv_aload_n hx hb dMo_state_73 rfl (lv_at hl 0 rfl) ?_
    refine lv_iconst (v := 2) hx hb dMo_state_74 (by decide +kernel) ?_
    refine g_calli (va_runV (As := [.int 2]) (rest := []) ⟨hx, hb, hml, hown, hc⟩ (cMo_raise l dC dI ad ca H.size S E_1 2) (cwV 1 hc (gV w661 w663 s9 w5 qMo_raise) rfl rfl rfl (by decide +kernel) ⟨Nat.le_of_ble_eq_true rfl, Nat.le_of_ble_eq_true rfl⟩) ⟨gPre_blind, va_recv hK hP (ci := 4) (q0 := 0) rfl rfl, (gPre_in hP hK hD)⟩ rfl rfl hl.1 rfl (lv_room (Nat.le_of_ble_eq_true rfl)) dMo_state_75 ⟨Nat.zero_le _, Nat.zero_le _⟩) hD hS hA (fun r_11 u_10 H locs hu_10 hP hD hS => ?_)
    obtain ⟨S_10, E_10⟩ := u_10
    (try dsimp only at hu_10 hP hD)
    obtain ⟨hr9, hS9, hE9⟩ := hu_10
    subst S_10
    exact W.iret (v := r_11) hx hb hr (fun t ht hW => ⟨⟨_, (S, E_10), rfl, (by (try dsimp only) <;> exact (by have hO : oState S (nI j) b = (2, 0, S) := (by unfold oState; rw [if_neg (fun h => h (br_n hr_2 c_2)), if_neg w_3, if_neg w_5, if_neg w_7]); rw [hO]; exact ⟨by rw [hE9]; rfl, fun h => absurd (show (2 : Int32) = 0 from h) (by decide), rfl⟩)), by rw [ht]; exact hP, va_K.moved hW.alike hK, hD⟩, hS.F ht⟩) hS.2.2 dMo_state_78
  · refine lv_aload_n hx hb dMo_state_19 rfl (lv_at hl 0 rfl) ?_
    refine lv_iconst (v := 1) hx hb dMo_state_20 (by decide +kernel) ?_
    refine g_calli (va_runV (As := [.int 1]) (rest := []) ⟨hx, hb, hml, hown, hc⟩ (cMo_raise l dC dI ad ca H.size S E_1 1) (cwV 1 hc (gV w661 w663 s9 w5 qMo_raise) rfl rfl rfl (by decide +kernel) ⟨Nat.le_of_ble_eq_true rfl, Nat.le_of_ble_eq_true rfl⟩) ⟨gPre_blind, va_recv hK hP (ci := 4) (q0 := 0) rfl rfl, (gPre_in hP hK hD)⟩ rfl rfl hl.1 rfl (lv_room (Nat.le_of_ble_eq_true rfl)) dMo_state_21 ⟨Nat.zero_le _, Nat.zero_le _⟩) hD hS hA (fun r_13 u_12 H locs hu_12 hP hD hS => ?_)
    obtain ⟨S_12, E_12⟩ := u_12
    (try dsimp only at hu_12 hP hD)
    obtain ⟨hr9, hS9, hE9⟩ := hu_12
    subst S_12
    exact W.iret (v := r_13) hx hb hr (fun t ht hW => ⟨⟨_, (S, E_12), rfl, (by (try dsimp only) <;> exact (by have hO : oState S a b = (1, 0, S) := (by unfold oState; rw [if_pos (br_0 hr_2 c_2)]); rw [hO]; exact ⟨by rw [hE9]; rfl, fun h => absurd (show (1 : Int32) = 0 from h) (by decide), rfl⟩)), by rw [ht]; exact hP, va_K.moved hW.alike hK, hD⟩, hS.F ht⟩) hS.2.2 dMo_state_24

set_option maxHeartbeats 4000000 in
set_option maxRecDepth 100000 in
theorem cMo_block (l : Launch) (dC : Nat → ClassId) (dI : Nat → Nat → Nat) (ad : Nat → Nat) (ca : Nat → ClassId) (sz : Nat) (S E : Ss) (a b d : Int32) (m0 : Nat) (hm : m0 ≤ 10) (em : S 0 0 = nI m0) : Met l yMo_block (kMo_block :: CW) ({ frames := 1, cells := 0, slots := 0, locals := 22 }) (va_Pc [.ref (ad 0), .int a, .int b, .int d] (gPre (dC, dI) (mT ca) (MW ad ca S E) sz)) (va_Qi (fun (r : Int32) (u : Ss × Ss) => (oBlock S a b d).1 = u.2 0 0 ∧ ((oBlock S a b d).1 = 0 → r = (oBlock S a b d).2.1) ∧ u.1 = (oBlock S a b d).2.2) (fun u => gAt (dC, dI) (mT ca) (va_A (MW ad ca S E) sz) (MW ad ca u.1 u.2)) (va_A (MW ad ca S E) sz)) 0 0 (va_A (MW ad ca S E) sz) := by
  refine Met.ofW (cc := bMo_block) (maxL := 4) (ret := (some .int)) (by decide +kernel) rfl ?_
  intro p e s m args below meth c s₁ B hml hv
  obtain ⟨rfl, hsz, hP, hK, hD0⟩ := hv
  have hx := B.exec
  have hb := B.bytes
  have hr := B.returns
  have hts := atoms_spec (ws := kMo_block :: CW) B.pre
  have hc : ∀ w ∈ CW, w.before _ s = true := fun w h => hts w (List.mem_cons_of_mem _ h)
  have hown : s.vm.findClass RMo = some m.cls := findClass_of_methodNamed B.named
  have hlocks := B.notSynchronized
  subst hsz
  have hD := hD0.self (sz := s.heap.size)
  generalize hAe : va_A (MW ad ca S E) s.heap.size = A at hD ⊢
  have hA : ∀ q : Nat, s.heap.size ≤ q → A q := fun q h => by rw [← hAe]; exact Or.inr h
  have hS : va_S A s.heap s.heap [] := va_S.rf
  have hl := lv_entry ([.ref (ad 0), .int a, .int b, .int d]) (n := 4) (Nat.le_of_ble_eq_true rfl)
  rw [lg_entry_eq]
  generalize (lg_sl ([.ref (ad 0), .int a, .int b, .int d]) ++ List.replicate (4 - (lg_sl ([.ref (ad 0), .int a, .int b, .int d])).length) Slot.unset).toArray = ls at hl ⊢
  have hl : lv_has ls 4 [(0, .ref (ad 0)), (1, .int a), (2, .int b), (3, .int d)] := hl
  refine lv_aload_n hx hb dMo_block_0 rfl (lv_at hl 0 rfl) ?_
  refine lv_iconst (v := 0) hx hb dMo_block_1 (by decide +kernel) ?_
  refine va_put (D := (dC, dI)) (ci := 4) (v := .int 0) (ty := .int) (C := RMo) (T := TMo) (N := 29) hx hb hc inMo tyMo tyMo_ok nmMo hown hK hP hD hS 0 rfl rfl 0 (by decide) (hc _ w561) (fun _ h9 => h9) rfl (by decide +kernel) rfl rfl (Nat.le_of_ble_eq_true rfl) dMo_block_2 (fun H locs hP hD hS => ?_)
  obtain ⟨E_1, eE_1⟩ : ∃ z9 : Ss, z9 = row E 0 (upd (E 0) 0 0) := ⟨_, rfl⟩
  have hP : va_P (dC, dI) vwCl (MW ad ca S E_1) H := by rw [eE_1]; exact hP
  have hD : va_D A (MW ad ca S E_1) := by rw [eE_1]; exact hD
  refine lv_iload_n hx hb dMo_block_5 rfl (lv_at hl 1 rfl) ?_
  refine lv_iconst (v := 0) hx hb dMo_block_6 (by decide +kernel) ?_
  refine lv_bipush (v := 7) hx hb dMo_block_7 (by decide +kernel) ?_
  refine vp_callSi (va_Run.run (va_runS (As := [.int a, .int 0, .int 7]) (rest := []) ⟨hx, hb, hml, hown, hc⟩ (cMo_in l a 0 7) (va_cwS 3 hc (g_S w658 w659 w5 qMo_in) rfl rfl rfl (by decide +kernel) ⟨Nat.le_of_ble_eq_true rfl, Nat.le_of_ble_eq_true rfl⟩) ⟨tPre_blind, tPre_in⟩ rfl rfl hl.1 rfl (lv_room (Nat.le_of_ble_eq_true rfl)) dMo_block_9 ⟨Nat.zero_le _, Nat.zero_le _⟩)) (fun r_2 hr_2 => ?_)
  refine lv_if_eq (tgt := 45) hx hb dMo_block_12 (by decide) (fun c_2 => ?_) (fun c_2 => ?_)
  · refine lv_aload_n hx hb dMo_block_45 rfl (lv_at hl 0 rfl) ?_
    refine lv_iconst (v := 1) hx hb dMo_block_46 (by decide +kernel) ?_
    refine g_calli (va_runV (As := [.int 1]) (rest := []) ⟨hx, hb, hml, hown, hc⟩ (cMo_raise l dC dI ad ca H.size S E_1 1) (cwV 1 hc (gV w661 w663 s9 w5 qMo_raise) rfl rfl rfl (by decide +kernel) ⟨Nat.le_of_ble_eq_true rfl, Nat.le_of_ble_eq_true rfl⟩) ⟨gPre_blind, va_recv hK hP (ci := 4) (q0 := 0) rfl rfl, (gPre_in hP hK hD)⟩ rfl rfl hl.1 rfl (lv_room (Nat.le_of_ble_eq_true rfl)) dMo_block_47 ⟨Nat.zero_le _, Nat.zero_le _⟩) hD hS hA (fun r_5 u_4 H locs hu_4 hP hD hS => ?_)
    obtain ⟨S_4, E_4⟩ := u_4
    (try dsimp only at hu_4 hP hD)
    obtain ⟨hr9, hS9, hE9⟩ := hu_4
    subst S_4
    exact W.iret (v := r_5) hx hb hr (fun t ht hW => ⟨⟨_, (S, E_4), rfl, (by (try dsimp only) <;> exact (by have hO : oBlock S a b d = (1, 0, S) := (by unfold oBlock; rw [if_pos (by (try simp only [hr_2, b2_0, b2_n, b2_1] at c_2); (try simp only [okB, wi, Int32.lt_iff_toInt_lt, Int32.le_iff_toInt_le, ← Int32.toInt_inj, Int32.reduceToInt] at c_2); (try simp only [okB, wi, Int32.lt_iff_toInt_lt, Int32.le_iff_toInt_le, ← Int32.toInt_inj, Int32.reduceToInt]); omega)]); rw [hO]; exact ⟨by rw [hE9]; rfl, fun h => absurd (show (1 : Int32) = 0 from h) (by decide), rfl⟩)), by rw [ht]; exact hP, va_K.moved hW.alike hK, hD⟩, hS.F ht⟩) hS.2.2 dMo_block_50
  · refine lv_iload_n hx hb dMo_block_15 rfl (lv_at hl 1 rfl) ?_
    refine lv_iconst (v := 3) hx hb dMo_block_16 (by decide +kernel) ?_
    refine lv_icmp_ge (tgt := 30) hx hb dMo_block_17 (by decide) (fun c_5 => ?_) (fun c_5 => ?_)
    · refine lv_iload_n hx hb dMo_block_30 rfl (lv_at hl 1 rfl) ?_
      refine lv_iconst (v := 2) hx hb dMo_block_31 (by decide +kernel) ?_
      refine lv_icmp_ne (tgt := 51) hx hb dMo_block_32 (by decide) (fun c_6 => ?_) (fun c_6 => ?_)
      · refine lv_iload_n hx hb dMo_block_51 rfl (lv_at hl 1 rfl) ?_
        refine lv_iconst (v := 4) hx hb dMo_block_52 (by decide +kernel) ?_
        refine lv_icmp_le (tgt := 82) hx hb dMo_block_53 (by decide) (fun c_7 => ?_) (fun c_7 => ?_)
        · refine lv_aload_n hx hb dMo_block_82 rfl (lv_at hl 0 rfl) ?_
          refine va_get (D := (dC, dI)) (ci := 4) (v := .int (S 0 0)) (C := RMo) (T := TMo) (N := 29) hx hb hc inMo hown hK hP 0 rfl rfl 14 (by decide) (hc _ w575) (fun _ h9 => h9) rfl dMo_block_83 ?_
          refine lv_bipush (v := 10) hx hb dMo_block_86 (by decide +kernel) ?_
          refine lv_icmp_ne (tgt := 97) hx hb dMo_block_88 (by decide) (fun c_8 => ?_) (fun c_8 => ?_)
          · have hlt : m0 < 10 := by rw [em] at c_8; exact Nat.lt_of_le_of_ne hm (fun z => c_8 (by rw [z]; rfl))
            refine lv_aload_n hx hb dMo_block_97 rfl (lv_at hl 0 rfl) ?_
            refine va_get (D := (dC, dI)) (ci := 4) (v := .ref (ad 6)) (C := RMo) (T := TMo) (N := 29) hx hb hc inMo hown hK hP 0 rfl rfl 6 (by decide) (hc _ w567) (fun _ h9 => h9) rfl dMo_block_98 ?_
            refine lv_aload_n hx hb dMo_block_101 rfl (lv_at hl 0 rfl) ?_
            refine va_get (D := (dC, dI)) (ci := 4) (v := .int (S 0 0)) (C := RMo) (T := TMo) (N := 29) hx hb hc inMo hown hK hP 0 rfl rfl 14 (by decide) (hc _ w575) (fun _ h9 => h9) rfl dMo_block_102 ?_
            refine W.eq (g2 := F0 m 105 ls [.int (nI m0), .ref (ad 6)]) (by rw [show S 0 0 = nI m0 from em]) ?_
            refine lv_iload_n hx hb dMo_block_105 rfl (lv_at hl 1 rfl) ?_
            refine va_iast hx hb hK hP hD hS 6 5 rfl rfl (vp_in_nI (by omega) (by decide)) dMo_block_106 (fun H locs hP hD hS => ?_)
            rw [nI_clamp (by omega)] at hP hD
            obtain ⟨S_10, eS_10⟩ : ∃ z9 : Ss, z9 = row S 14 (upd (S 14) m0 a) := ⟨_, rfl⟩
            have hP : va_P (dC, dI) vwCl (MW ad ca S_10 E_1) H := by rw [eS_10]; exact hP
            have hD : va_D A (MW ad ca S_10 E_1) := by rw [eS_10]; exact hD
            refine lv_aload_n hx hb dMo_block_107 rfl (lv_at hl 0 rfl) ?_
            refine va_get (D := (dC, dI)) (ci := 4) (v := .ref (ad 7)) (C := RMo) (T := TMo) (N := 29) hx hb hc inMo hown hK hP 0 rfl rfl 7 (by decide) (hc _ w568) (fun _ h9 => h9) rfl dMo_block_108 ?_
            refine lv_aload_n hx hb dMo_block_111 rfl (lv_at hl 0 rfl) ?_
            refine va_get (D := (dC, dI)) (ci := 4) (v := .int (S_10 0 0)) (C := RMo) (T := TMo) (N := 29) hx hb hc inMo hown hK hP 0 rfl rfl 14 (by decide) (hc _ w575) (fun _ h9 => h9) rfl dMo_block_112 ?_
            refine W.eq (g2 := F0 m 115 ls [.int (nI m0), .ref (ad 7)]) (by rw [show S_10 0 0 = nI m0 from by rw [eS_10]; exact em]) ?_
            refine lv_iload_n hx hb dMo_block_115 rfl (lv_at hl 2 rfl) ?_
            refine va_iast hx hb hK hP hD hS 7 6 rfl rfl (vp_in_nI (by omega) (by decide)) dMo_block_116 (fun H locs hP hD hS => ?_)
            rw [nI_clamp (by omega)] at hP hD
            obtain ⟨S_11, eS_11⟩ : ∃ z9 : Ss, z9 = row S_10 15 (upd (S_10 15) m0 b) := ⟨_, rfl⟩
            have hP : va_P (dC, dI) vwCl (MW ad ca S_11 E_1) H := by rw [eS_11]; exact hP
            have hD : va_D A (MW ad ca S_11 E_1) := by rw [eS_11]; exact hD
            refine lv_aload_n hx hb dMo_block_117 rfl (lv_at hl 0 rfl) ?_
            refine va_get (D := (dC, dI)) (ci := 4) (v := .ref (ad 8)) (C := RMo) (T := TMo) (N := 29) hx hb hc inMo hown hK hP 0 rfl rfl 8 (by decide) (hc _ w569) (fun _ h9 => h9) rfl dMo_block_118 ?_
            refine lv_aload_n hx hb dMo_block_121 rfl (lv_at hl 0 rfl) ?_
            refine va_get (D := (dC, dI)) (ci := 4) (v := .int (S_11 0 0)) (C := RMo) (T := TMo) (N := 29) hx hb hc inMo hown hK hP 0 rfl rfl 14 (by decide) (hc _ w575) (fun _ h9 => h9) rfl dMo_block_122 ?_
            refine W.eq (g2 := F0 m 125 ls [.int (nI m0), .ref (ad 8)]) (by rw [show S_11 0 0 = nI m0 from by rw [eS_11, eS_10]; exact em]) ?_
            refine lv_iload_n hx hb dMo_block_125 rfl (lv_at hl 3 rfl) ?_
            refine va_iast hx hb hK hP hD hS 8 7 rfl rfl (vp_in_nI (by omega) (by decide)) dMo_block_126 (fun H locs hP hD hS => ?_)
            rw [nI_clamp (by omega)] at hP hD
            obtain ⟨S_12, eS_12⟩ : ∃ z9 : Ss, z9 = row S_11 16 (upd (S_11 16) m0 d) := ⟨_, rfl⟩
            have hP : va_P (dC, dI) vwCl (MW ad ca S_12 E_1) H := by rw [eS_12]; exact hP
            have hD : va_D A (MW ad ca S_12 E_1) := by rw [eS_12]; exact hD
            refine lv_aload_n hx hb dMo_block_127 rfl (lv_at hl 0 rfl) ?_
            refine lv_dup hx hb dMo_block_128 rfl ?_
            refine va_get (D := (dC, dI)) (ci := 4) (v := .int (S_12 0 0)) (C := RMo) (T := TMo) (N := 29) hx hb hc inMo hown hK hP 0 rfl rfl 14 (by decide) (hc _ w575) (fun _ h9 => h9) rfl dMo_block_129 ?_
            refine lv_iconst (v := 1) hx hb dMo_block_132 (by decide +kernel) ?_
            refine lv_iadd hx hb dMo_block_133 ?_
            refine va_put (D := (dC, dI)) (ci := 4) (v := .int ((S_12 0 0) + 1)) (ty := .int) (C := RMo) (T := TMo) (N := 29) hx hb hc inMo tyMo tyMo_ok nmMo hown hK hP hD hS 0 rfl rfl 14 (by decide) (hc _ w575) (fun _ h9 => h9) rfl (by decide +kernel) rfl rfl (Nat.le_of_ble_eq_true rfl) dMo_block_134 (fun H locs hP hD hS => ?_)
            obtain ⟨S_13, eS_13⟩ : ∃ z9 : Ss, z9 = row S_12 0 (upd (S_12 0) 0 ((S_12 0 0) + 1)) := ⟨_, rfl⟩
            have hP : va_P (dC, dI) vwCl (MW ad ca S_13 E_1) H := by rw [eS_13]; exact hP
            have hD : va_D A (MW ad ca S_13 E_1) := by rw [eS_13]; exact hD
            refine lv_aload_n hx hb dMo_block_137 rfl (lv_at hl 0 rfl) ?_
            refine va_get (D := (dC, dI)) (ci := 4) (v := .int (S_13 0 0)) (C := RMo) (T := TMo) (N := 29) hx hb hc inMo hown hK hP 0 rfl rfl 14 (by decide) (hc _ w575) (fun _ h9 => h9) rfl dMo_block_138 ?_
            refine lv_iconst (v := 1) hx hb dMo_block_141 (by decide +kernel) ?_
            refine lv_isub hx hb dMo_block_142 ?_
            exact W.iret (v := ((S_13 0 0) - 1)) hx hb hr (fun t ht hW => ⟨⟨_, (S_13, E_1), rfl, (by (try dsimp only) <;> exact (by have hO : oBlock S a b d = (0, (S_13 0 0) - 1, S_13) := (by unfold oBlock; rw [if_neg (fun h => h (by (try simp only [hr_2, b2_0, b2_n, b2_1] at c_2); (try simp only [okB, wi, Int32.lt_iff_toInt_lt, Int32.le_iff_toInt_le, ← Int32.toInt_inj, Int32.reduceToInt] at c_2); (try simp only [hr_2, b2_0, b2_n, b2_1] at c_5); (try simp only [okB, wi, Int32.lt_iff_toInt_lt, Int32.le_iff_toInt_le, ← Int32.toInt_inj, Int32.reduceToInt] at c_5); (try simp only [hr_2, b2_0, b2_n, b2_1] at c_6); (try simp only [okB, wi, Int32.lt_iff_toInt_lt, Int32.le_iff_toInt_le, ← Int32.toInt_inj, Int32.reduceToInt] at c_6); (try simp only [hr_2, b2_0, b2_n, b2_1] at c_7); (try simp only [okB, wi, Int32.lt_iff_toInt_lt, Int32.le_iff_toInt_le, ← Int32.toInt_inj, Int32.reduceToInt] at c_7); (try simp only [okB, wi, Int32.lt_iff_toInt_lt, Int32.le_iff_toInt_le, ← Int32.toInt_inj, Int32.reduceToInt]); omega)), if_neg (Int32.not_le.mpr (by rw [em]; exact nI_lt hlt (by decide))), em, nI_clamp (by omega), eS_13, eS_12, eS_11, eS_10]; exact blk_eq em); rw [hO]; exact ⟨by rw [eE_1]; rfl, fun _ => rfl, rfl⟩)), by rw [ht]; exact hP, va_K.moved hW.alike hK, hD⟩, hS.F ht⟩) hS.2.2 dMo_block_143
          · refine lv_aload_n hx hb dMo_block_91 rfl (lv_at hl 0 rfl) ?_
            refine lv_iconst (v := 2) hx hb dMo_block_92 (by decide +kernel) ?_
            refine g_calli (va_runV (As := [.int 2]) (rest := []) ⟨hx, hb, hml, hown, hc⟩ (cMo_raise l dC dI ad ca H.size S E_1 2) (cwV 1 hc (gV w661 w663 s9 w5 qMo_raise) rfl rfl rfl (by decide +kernel) ⟨Nat.le_of_ble_eq_true rfl, Nat.le_of_ble_eq_true rfl⟩) ⟨gPre_blind, va_recv hK hP (ci := 4) (q0 := 0) rfl rfl, (gPre_in hP hK hD)⟩ rfl rfl hl.1 rfl (lv_room (Nat.le_of_ble_eq_true rfl)) dMo_block_93 ⟨Nat.zero_le _, Nat.zero_le _⟩) hD hS hA (fun r_15 u_14 H locs hu_14 hP hD hS => ?_)
            obtain ⟨S_14, E_14⟩ := u_14
            (try dsimp only at hu_14 hP hD)
            obtain ⟨hr9, hS9, hE9⟩ := hu_14
            subst S_14
            exact W.iret (v := r_15) hx hb hr (fun t ht hW => ⟨⟨_, (S, E_14), rfl, (by (try dsimp only) <;> exact (by have hO : oBlock S a b d = (2, 0, S) := (by unfold oBlock; rw [if_neg (fun h => h (by (try simp only [hr_2, b2_0, b2_n, b2_1] at c_2); (try simp only [okB, wi, Int32.lt_iff_toInt_lt, Int32.le_iff_toInt_le, ← Int32.toInt_inj, Int32.reduceToInt] at c_2); (try simp only [hr_2, b2_0, b2_n, b2_1] at c_5); (try simp only [okB, wi, Int32.lt_iff_toInt_lt, Int32.le_iff_toInt_le, ← Int32.toInt_inj, Int32.reduceToInt] at c_5); (try simp only [hr_2, b2_0, b2_n, b2_1] at c_6); (try simp only [okB, wi, Int32.lt_iff_toInt_lt, Int32.le_iff_toInt_le, ← Int32.toInt_inj, Int32.reduceToInt] at c_6); (try simp only [hr_2, b2_0, b2_n, b2_1] at c_7); (try simp only [okB, wi, Int32.lt_iff_toInt_lt, Int32.le_iff_toInt_le, ← Int32.toInt_inj, Int32.reduceToInt] at c_7); (try simp only [okB, wi, Int32.lt_iff_toInt_lt, Int32.le_iff_toInt_le, ← Int32.toInt_inj, Int32.reduceToInt]); omega)), if_pos (by rw [c_8]; decide)]); rw [hO]; exact ⟨by rw [hE9]; rfl, fun h => absurd (show (2 : Int32) = 0 from h) (by decide), rfl⟩)), by rw [ht]; exact hP, va_K.moved hW.alike hK, hD⟩, hS.F ht⟩) hS.2.2 dMo_block_96
        · refine lv_iload_n hx hb dMo_block_56 rfl (lv_at hl 2 rfl) ?_
          refine lv_iconst (v := 0) hx hb dMo_block_57 (by decide +kernel) ?_
          refine lv_bipush (v := 7) hx hb dMo_block_58 (by decide +kernel) ?_
          refine vp_callSi (va_Run.run (va_runS (As := [.int b, .int 0, .int 7]) (rest := []) ⟨hx, hb, hml, hown, hc⟩ (cMo_in l b 0 7) (va_cwS 3 hc (g_S w658 w659 w5 qMo_in) rfl rfl rfl (by decide +kernel) ⟨Nat.le_of_ble_eq_true rfl, Nat.le_of_ble_eq_true rfl⟩) ⟨tPre_blind, tPre_in⟩ rfl rfl hl.1 rfl (lv_room (Nat.le_of_ble_eq_true rfl)) dMo_block_60 ⟨Nat.zero_le _, Nat.zero_le _⟩)) (fun r_16 hr_16 => ?_)
          refine lv_if_eq (tgt := 76) hx hb dMo_block_63 (by decide) (fun c_16 => ?_) (fun c_16 => ?_)
          · refine lv_aload_n hx hb dMo_block_76 rfl (lv_at hl 0 rfl) ?_
            refine lv_iconst (v := 1) hx hb dMo_block_77 (by decide +kernel) ?_
            refine g_calli (va_runV (As := [.int 1]) (rest := []) ⟨hx, hb, hml, hown, hc⟩ (cMo_raise l dC dI ad ca H.size S E_1 1) (cwV 1 hc (gV w661 w663 s9 w5 qMo_raise) rfl rfl rfl (by decide +kernel) ⟨Nat.le_of_ble_eq_true rfl, Nat.le_of_ble_eq_true rfl⟩) ⟨gPre_blind, va_recv hK hP (ci := 4) (q0 := 0) rfl rfl, (gPre_in hP hK hD)⟩ rfl rfl hl.1 rfl (lv_room (Nat.le_of_ble_eq_true rfl)) dMo_block_78 ⟨Nat.zero_le _, Nat.zero_le _⟩) hD hS hA (fun r_19 u_18 H locs hu_18 hP hD hS => ?_)
            obtain ⟨S_18, E_18⟩ := u_18
            (try dsimp only at hu_18 hP hD)
            obtain ⟨hr9, hS9, hE9⟩ := hu_18
            subst S_18
            exact W.iret (v := r_19) hx hb hr (fun t ht hW => ⟨⟨_, (S, E_18), rfl, (by (try dsimp only) <;> exact (by have hO : oBlock S a b d = (1, 0, S) := (by unfold oBlock; rw [if_pos (by (try simp only [hr_2, hr_16, b2_0, b2_n, b2_1] at c_2); (try simp only [okB, wi, Int32.lt_iff_toInt_lt, Int32.le_iff_toInt_le, ← Int32.toInt_inj, Int32.reduceToInt] at c_2); (try simp only [hr_2, hr_16, b2_0, b2_n, b2_1] at c_5); (try simp only [okB, wi, Int32.lt_iff_toInt_lt, Int32.le_iff_toInt_le, ← Int32.toInt_inj, Int32.reduceToInt] at c_5); (try simp only [hr_2, hr_16, b2_0, b2_n, b2_1] at c_6); (try simp only [okB, wi, Int32.lt_iff_toInt_lt, Int32.le_iff_toInt_le, ← Int32.toInt_inj, Int32.reduceToInt] at c_6); (try simp only [hr_2, hr_16, b2_0, b2_n, b2_1] at c_7); (try simp only [okB, wi, Int32.lt_iff_toInt_lt, Int32.le_iff_toInt_le, ← Int32.toInt_inj, Int32.reduceToInt] at c_7); (try simp only [hr_2, hr_16, b2_0, b2_n, b2_1] at c_16); (try simp only [okB, wi, Int32.lt_iff_toInt_lt, Int32.le_iff_toInt_le, ← Int32.toInt_inj, Int32.reduceToInt] at c_16); (try simp only [okB, wi, Int32.lt_iff_toInt_lt, Int32.le_iff_toInt_le, ← Int32.toInt_inj, Int32.reduceToInt]); omega)]); rw [hO]; exact ⟨by rw [hE9]; rfl, fun h => absurd (show (1 : Int32) = 0 from h) (by decide), rfl⟩)), by rw [ht]; exact hP, va_K.moved hW.alike hK, hD⟩, hS.F ht⟩) hS.2.2 dMo_block_81
          · refine lv_iload_n hx hb dMo_block_66 rfl (lv_at hl 3 rfl) ?_
            refine lv_iconst (v := 0) hx hb dMo_block_67 (by decide +kernel) ?_
            refine lv_bipush (v := 7) hx hb dMo_block_68 (by decide +kernel) ?_
            refine vp_callSi (va_Run.run (va_runS (As := [.int d, .int 0, .int 7]) (rest := []) ⟨hx, hb, hml, hown, hc⟩ (cMo_in l d 0 7) (va_cwS 3 hc (g_S w658 w659 w5 qMo_in) rfl rfl rfl (by decide +kernel) ⟨Nat.le_of_ble_eq_true rfl, Nat.le_of_ble_eq_true rfl⟩) ⟨tPre_blind, tPre_in⟩ rfl rfl hl.1 rfl (lv_room (Nat.le_of_ble_eq_true rfl)) dMo_block_70 ⟨Nat.zero_le _, Nat.zero_le _⟩)) (fun r_20 hr_20 => ?_)
            refine lv_if_ne (tgt := 82) hx hb dMo_block_73 (by decide) (fun c_20 => ?_) (fun c_20 => ?_)
            · refine lv_aload_n hx hb dMo_block_82 rfl (lv_at hl 0 rfl) ?_
              refine va_get (D := (dC, dI)) (ci := 4) (v := .int (S 0 0)) (C := RMo) (T := TMo) (N := 29) hx hb hc inMo hown hK hP 0 rfl rfl 14 (by decide) (hc _ w575) (fun _ h9 => h9) rfl dMo_block_83 ?_
              refine lv_bipush (v := 10) hx hb dMo_block_86 (by decide +kernel) ?_
              refine lv_icmp_ne (tgt := 97) hx hb dMo_block_88 (by decide) (fun c_21 => ?_) (fun c_21 => ?_)
              · have hlt : m0 < 10 := by rw [em] at c_21; exact Nat.lt_of_le_of_ne hm (fun z => c_21 (by rw [z]; rfl))
                refine lv_aload_n hx hb dMo_block_97 rfl (lv_at hl 0 rfl) ?_
                refine va_get (D := (dC, dI)) (ci := 4) (v := .ref (ad 6)) (C := RMo) (T := TMo) (N := 29) hx hb hc inMo hown hK hP 0 rfl rfl 6 (by decide) (hc _ w567) (fun _ h9 => h9) rfl dMo_block_98 ?_
                refine lv_aload_n hx hb dMo_block_101 rfl (lv_at hl 0 rfl) ?_
                refine va_get (D := (dC, dI)) (ci := 4) (v := .int (S 0 0)) (C := RMo) (T := TMo) (N := 29) hx hb hc inMo hown hK hP 0 rfl rfl 14 (by decide) (hc _ w575) (fun _ h9 => h9) rfl dMo_block_102 ?_
                refine W.eq (g2 := F0 m 105 ls [.int (nI m0), .ref (ad 6)]) (by rw [show S 0 0 = nI m0 from em]) ?_
                refine lv_iload_n hx hb dMo_block_105 rfl (lv_at hl 1 rfl) ?_
                refine va_iast hx hb hK hP hD hS 6 5 rfl rfl (vp_in_nI (by omega) (by decide)) dMo_block_106 (fun H locs hP hD hS => ?_)
                rw [nI_clamp (by omega)] at hP hD
                obtain ⟨S_23, eS_23⟩ : ∃ z9 : Ss, z9 = row S 14 (upd (S 14) m0 a) := ⟨_, rfl⟩
                have hP : va_P (dC, dI) vwCl (MW ad ca S_23 E_1) H := by rw [eS_23]; exact hP
                have hD : va_D A (MW ad ca S_23 E_1) := by rw [eS_23]; exact hD
                refine lv_aload_n hx hb dMo_block_107 rfl (lv_at hl 0 rfl) ?_
                refine va_get (D := (dC, dI)) (ci := 4) (v := .ref (ad 7)) (C := RMo) (T := TMo) (N := 29) hx hb hc inMo hown hK hP 0 rfl rfl 7 (by decide) (hc _ w568) (fun _ h9 => h9) rfl dMo_block_108 ?_
                refine lv_aload_n hx hb dMo_block_111 rfl (lv_at hl 0 rfl) ?_
                refine va_get (D := (dC, dI)) (ci := 4) (v := .int (S_23 0 0)) (C := RMo) (T := TMo) (N := 29) hx hb hc inMo hown hK hP 0 rfl rfl 14 (by decide) (hc _ w575) (fun _ h9 => h9) rfl dMo_block_112 ?_
                refine W.eq (g2 := F0 m 115 ls [.int (nI m0), .ref (ad 7)]) (by rw [show S_23 0 0 = nI m0 from by rw [eS_23]; exact em]) ?_
                refine lv_iload_n hx hb dMo_block_115 rfl (lv_at hl 2 rfl) ?_
                refine va_iast hx hb hK hP hD hS 7 6 rfl rfl (vp_in_nI (by omega) (by decide)) dMo_block_116 (fun H locs hP hD hS => ?_)
                rw [nI_clamp (by omega)] at hP hD
                obtain ⟨S_24, eS_24⟩ : ∃ z9 : Ss, z9 = row S_23 15 (upd (S_23 15) m0 b) := ⟨_, rfl⟩
                have hP : va_P (dC, dI) vwCl (MW ad ca S_24 E_1) H := by rw [eS_24]; exact hP
                have hD : va_D A (MW ad ca S_24 E_1) := by rw [eS_24]; exact hD
                refine lv_aload_n hx hb dMo_block_117 rfl (lv_at hl 0 rfl) ?_
                refine va_get (D := (dC, dI)) (ci := 4) (v := .ref (ad 8)) (C := RMo) (T := TMo) (N := 29) hx hb hc inMo hown hK hP 0 rfl rfl 8 (by decide) (hc _ w569) (fun _ h9 => h9) rfl dMo_block_118 ?_
                refine lv_aload_n hx hb dMo_block_121 rfl (lv_at hl 0 rfl) ?_
                refine va_get (D := (dC, dI)) (ci := 4) (v := .int (S_24 0 0)) (C := RMo) (T := TMo) (N := 29) hx hb hc inMo hown hK hP 0 rfl rfl 14 (by decide) (hc _ w575) (fun _ h9 => h9) rfl dMo_block_122 ?_
                refine W.eq (g2 := F0 m 125 ls [.int (nI m0), .ref (ad 8)]) (by rw [show S_24 0 0 = nI m0 from by rw [eS_24, eS_23]; exact em]) ?_
                refine lv_iload_n hx hb dMo_block_125 rfl (lv_at hl 3 rfl) ?_
                refine va_iast hx hb hK hP hD hS 8 7 rfl rfl (vp_in_nI (by omega) (by decide)) dMo_block_126 (fun H locs hP hD hS => ?_)
                rw [nI_clamp (by omega)] at hP hD
                obtain ⟨S_25, eS_25⟩ : ∃ z9 : Ss, z9 = row S_24 16 (upd (S_24 16) m0 d) := ⟨_, rfl⟩
                have hP : va_P (dC, dI) vwCl (MW ad ca S_25 E_1) H := by rw [eS_25]; exact hP
                have hD : va_D A (MW ad ca S_25 E_1) := by rw [eS_25]; exact hD
                refine lv_aload_n hx hb dMo_block_127 rfl (lv_at hl 0 rfl) ?_
                refine lv_dup hx hb dMo_block_128 rfl ?_
                refine va_get (D := (dC, dI)) (ci := 4) (v := .int (S_25 0 0)) (C := RMo) (T := TMo) (N := 29) hx hb hc inMo hown hK hP 0 rfl rfl 14 (by decide) (hc _ w575) (fun _ h9 => h9) rfl dMo_block_129 ?_
                refine lv_iconst (v := 1) hx hb dMo_block_132 (by decide +kernel) ?_
                refine lv_iadd hx hb dMo_block_133 ?_
                refine va_put (D := (dC, dI)) (ci := 4) (v := .int ((S_25 0 0) + 1)) (ty := .int) (C := RMo) (T := TMo) (N := 29) hx hb hc inMo tyMo tyMo_ok nmMo hown hK hP hD hS 0 rfl rfl 14 (by decide) (hc _ w575) (fun _ h9 => h9) rfl (by decide +kernel) rfl rfl (Nat.le_of_ble_eq_true rfl) dMo_block_134 (fun H locs hP hD hS => ?_)
                obtain ⟨S_26, eS_26⟩ : ∃ z9 : Ss, z9 = row S_25 0 (upd (S_25 0) 0 ((S_25 0 0) + 1)) := ⟨_, rfl⟩
                have hP : va_P (dC, dI) vwCl (MW ad ca S_26 E_1) H := by rw [eS_26]; exact hP
                have hD : va_D A (MW ad ca S_26 E_1) := by rw [eS_26]; exact hD
                refine lv_aload_n hx hb dMo_block_137 rfl (lv_at hl 0 rfl) ?_
                refine va_get (D := (dC, dI)) (ci := 4) (v := .int (S_26 0 0)) (C := RMo) (T := TMo) (N := 29) hx hb hc inMo hown hK hP 0 rfl rfl 14 (by decide) (hc _ w575) (fun _ h9 => h9) rfl dMo_block_138 ?_
                refine lv_iconst (v := 1) hx hb dMo_block_141 (by decide +kernel) ?_
                refine lv_isub hx hb dMo_block_142 ?_
                exact W.iret (v := ((S_26 0 0) - 1)) hx hb hr (fun t ht hW => ⟨⟨_, (S_26, E_1), rfl, (by (try dsimp only) <;> exact (by have hO : oBlock S a b d = (0, (S_26 0 0) - 1, S_26) := (by unfold oBlock; rw [if_neg (fun h => h (by (try simp only [hr_2, hr_16, hr_20, b2_0, b2_n, b2_1] at c_2); (try simp only [okB, wi, Int32.lt_iff_toInt_lt, Int32.le_iff_toInt_le, ← Int32.toInt_inj, Int32.reduceToInt] at c_2); (try simp only [hr_2, hr_16, hr_20, b2_0, b2_n, b2_1] at c_5); (try simp only [okB, wi, Int32.lt_iff_toInt_lt, Int32.le_iff_toInt_le, ← Int32.toInt_inj, Int32.reduceToInt] at c_5); (try simp only [hr_2, hr_16, hr_20, b2_0, b2_n, b2_1] at c_6); (try simp only [okB, wi, Int32.lt_iff_toInt_lt, Int32.le_iff_toInt_le, ← Int32.toInt_inj, Int32.reduceToInt] at c_6); (try simp only [hr_2, hr_16, hr_20, b2_0, b2_n, b2_1] at c_7); (try simp only [okB, wi, Int32.lt_iff_toInt_lt, Int32.le_iff_toInt_le, ← Int32.toInt_inj, Int32.reduceToInt] at c_7); (try simp only [hr_2, hr_16, hr_20, b2_0, b2_n, b2_1] at c_16); (try simp only [okB, wi, Int32.lt_iff_toInt_lt, Int32.le_iff_toInt_le, ← Int32.toInt_inj, Int32.reduceToInt] at c_16); (try simp only [hr_2, hr_16, hr_20, b2_0, b2_n, b2_1] at c_20); (try simp only [okB, wi, Int32.lt_iff_toInt_lt, Int32.le_iff_toInt_le, ← Int32.toInt_inj, Int32.reduceToInt] at c_20); (try simp only [okB, wi, Int32.lt_iff_toInt_lt, Int32.le_iff_toInt_le, ← Int32.toInt_inj, Int32.reduceToInt]); omega)), if_neg (Int32.not_le.mpr (by rw [em]; exact nI_lt hlt (by decide))), em, nI_clamp (by omega), eS_26, eS_25, eS_24, eS_23]; exact blk_eq em); rw [hO]; exact ⟨by rw [eE_1]; rfl, fun _ => rfl, rfl⟩)), by rw [ht]; exact hP, va_K.moved hW.alike hK, hD⟩, hS.F ht⟩) hS.2.2 dMo_block_143
              · refine lv_aload_n hx hb dMo_block_91 rfl (lv_at hl 0 rfl) ?_
                refine lv_iconst (v := 2) hx hb dMo_block_92 (by decide +kernel) ?_
                refine g_calli (va_runV (As := [.int 2]) (rest := []) ⟨hx, hb, hml, hown, hc⟩ (cMo_raise l dC dI ad ca H.size S E_1 2) (cwV 1 hc (gV w661 w663 s9 w5 qMo_raise) rfl rfl rfl (by decide +kernel) ⟨Nat.le_of_ble_eq_true rfl, Nat.le_of_ble_eq_true rfl⟩) ⟨gPre_blind, va_recv hK hP (ci := 4) (q0 := 0) rfl rfl, (gPre_in hP hK hD)⟩ rfl rfl hl.1 rfl (lv_room (Nat.le_of_ble_eq_true rfl)) dMo_block_93 ⟨Nat.zero_le _, Nat.zero_le _⟩) hD hS hA (fun r_28 u_27 H locs hu_27 hP hD hS => ?_)
                obtain ⟨S_27, E_27⟩ := u_27
                (try dsimp only at hu_27 hP hD)
                obtain ⟨hr9, hS9, hE9⟩ := hu_27
                subst S_27
                exact W.iret (v := r_28) hx hb hr (fun t ht hW => ⟨⟨_, (S, E_27), rfl, (by (try dsimp only) <;> exact (by have hO : oBlock S a b d = (2, 0, S) := (by unfold oBlock; rw [if_neg (fun h => h (by (try simp only [hr_2, hr_16, hr_20, b2_0, b2_n, b2_1] at c_2); (try simp only [okB, wi, Int32.lt_iff_toInt_lt, Int32.le_iff_toInt_le, ← Int32.toInt_inj, Int32.reduceToInt] at c_2); (try simp only [hr_2, hr_16, hr_20, b2_0, b2_n, b2_1] at c_5); (try simp only [okB, wi, Int32.lt_iff_toInt_lt, Int32.le_iff_toInt_le, ← Int32.toInt_inj, Int32.reduceToInt] at c_5); (try simp only [hr_2, hr_16, hr_20, b2_0, b2_n, b2_1] at c_6); (try simp only [okB, wi, Int32.lt_iff_toInt_lt, Int32.le_iff_toInt_le, ← Int32.toInt_inj, Int32.reduceToInt] at c_6); (try simp only [hr_2, hr_16, hr_20, b2_0, b2_n, b2_1] at c_7); (try simp only [okB, wi, Int32.lt_iff_toInt_lt, Int32.le_iff_toInt_le, ← Int32.toInt_inj, Int32.reduceToInt] at c_7); (try simp only [hr_2, hr_16, hr_20, b2_0, b2_n, b2_1] at c_16); (try simp only [okB, wi, Int32.lt_iff_toInt_lt, Int32.le_iff_toInt_le, ← Int32.toInt_inj, Int32.reduceToInt] at c_16); (try simp only [hr_2, hr_16, hr_20, b2_0, b2_n, b2_1] at c_20); (try simp only [okB, wi, Int32.lt_iff_toInt_lt, Int32.le_iff_toInt_le, ← Int32.toInt_inj, Int32.reduceToInt] at c_20); (try simp only [okB, wi, Int32.lt_iff_toInt_lt, Int32.le_iff_toInt_le, ← Int32.toInt_inj, Int32.reduceToInt]); omega)), if_pos (by rw [c_21]; decide)]); rw [hO]; exact ⟨by rw [hE9]; rfl, fun h => absurd (show (2 : Int32) = 0 from h) (by decide), rfl⟩)), by rw [ht]; exact hP, va_K.moved hW.alike hK, hD⟩, hS.F ht⟩) hS.2.2 dMo_block_96
            · refine lv_aload_n hx hb dMo_block_76 rfl (lv_at hl 0 rfl) ?_
              refine lv_iconst (v := 1) hx hb dMo_block_77 (by decide +kernel) ?_
              refine g_calli (va_runV (As := [.int 1]) (rest := []) ⟨hx, hb, hml, hown, hc⟩ (cMo_raise l dC dI ad ca H.size S E_1 1) (cwV 1 hc (gV w661 w663 s9 w5 qMo_raise) rfl rfl rfl (by decide +kernel) ⟨Nat.le_of_ble_eq_true rfl, Nat.le_of_ble_eq_true rfl⟩) ⟨gPre_blind, va_recv hK hP (ci := 4) (q0 := 0) rfl rfl, (gPre_in hP hK hD)⟩ rfl rfl hl.1 rfl (lv_room (Nat.le_of_ble_eq_true rfl)) dMo_block_78 ⟨Nat.zero_le _, Nat.zero_le _⟩) hD hS hA (fun r_30 u_29 H locs hu_29 hP hD hS => ?_)
              obtain ⟨S_29, E_29⟩ := u_29
              (try dsimp only at hu_29 hP hD)
              obtain ⟨hr9, hS9, hE9⟩ := hu_29
              subst S_29
              exact W.iret (v := r_30) hx hb hr (fun t ht hW => ⟨⟨_, (S, E_29), rfl, (by (try dsimp only) <;> exact (by have hO : oBlock S a b d = (1, 0, S) := (by unfold oBlock; rw [if_pos (by (try simp only [hr_2, hr_16, hr_20, b2_0, b2_n, b2_1] at c_2); (try simp only [okB, wi, Int32.lt_iff_toInt_lt, Int32.le_iff_toInt_le, ← Int32.toInt_inj, Int32.reduceToInt] at c_2); (try simp only [hr_2, hr_16, hr_20, b2_0, b2_n, b2_1] at c_5); (try simp only [okB, wi, Int32.lt_iff_toInt_lt, Int32.le_iff_toInt_le, ← Int32.toInt_inj, Int32.reduceToInt] at c_5); (try simp only [hr_2, hr_16, hr_20, b2_0, b2_n, b2_1] at c_6); (try simp only [okB, wi, Int32.lt_iff_toInt_lt, Int32.le_iff_toInt_le, ← Int32.toInt_inj, Int32.reduceToInt] at c_6); (try simp only [hr_2, hr_16, hr_20, b2_0, b2_n, b2_1] at c_7); (try simp only [okB, wi, Int32.lt_iff_toInt_lt, Int32.le_iff_toInt_le, ← Int32.toInt_inj, Int32.reduceToInt] at c_7); (try simp only [hr_2, hr_16, hr_20, b2_0, b2_n, b2_1] at c_16); (try simp only [okB, wi, Int32.lt_iff_toInt_lt, Int32.le_iff_toInt_le, ← Int32.toInt_inj, Int32.reduceToInt] at c_16); (try simp only [hr_2, hr_16, hr_20, b2_0, b2_n, b2_1] at c_20); (try simp only [okB, wi, Int32.lt_iff_toInt_lt, Int32.le_iff_toInt_le, ← Int32.toInt_inj, Int32.reduceToInt] at c_20); (try simp only [okB, wi, Int32.lt_iff_toInt_lt, Int32.le_iff_toInt_le, ← Int32.toInt_inj, Int32.reduceToInt]); omega)]); rw [hO]; exact ⟨by rw [hE9]; rfl, fun h => absurd (show (1 : Int32) = 0 from h) (by decide), rfl⟩)), by rw [ht]; exact hP, va_K.moved hW.alike hK, hD⟩, hS.F ht⟩) hS.2.2 dMo_block_81
      · refine lv_iload_n hx hb dMo_block_35 rfl (lv_at hl 3 rfl) ?_
        refine lv_iconst (v := 0) hx hb dMo_block_36 (by decide +kernel) ?_
        refine lv_bipush (v := 31) hx hb dMo_block_37 (by decide +kernel) ?_
        refine vp_callSi (va_Run.run (va_runS (As := [.int d, .int 0, .int 31]) (rest := []) ⟨hx, hb, hml, hown, hc⟩ (cMo_in l d 0 31) (va_cwS 3 hc (g_S w658 w659 w5 qMo_in) rfl rfl rfl (by decide +kernel) ⟨Nat.le_of_ble_eq_true rfl, Nat.le_of_ble_eq_true rfl⟩) ⟨tPre_blind, tPre_in⟩ rfl rfl hl.1 rfl (lv_room (Nat.le_of_ble_eq_true rfl)) dMo_block_39 ⟨Nat.zero_le _, Nat.zero_le _⟩)) (fun r_31 hr_31 => ?_)
        refine lv_if_ne (tgt := 51) hx hb dMo_block_42 (by decide) (fun c_31 => ?_) (fun c_31 => ?_)
        · refine lv_iload_n hx hb dMo_block_51 rfl (lv_at hl 1 rfl) ?_
          refine lv_iconst (v := 4) hx hb dMo_block_52 (by decide +kernel) ?_
          refine lv_icmp_le (tgt := 82) hx hb dMo_block_53 (by decide) (fun c_32 => ?_) (fun c_32 => ?_)
          · refine lv_aload_n hx hb dMo_block_82 rfl (lv_at hl 0 rfl) ?_
            refine va_get (D := (dC, dI)) (ci := 4) (v := .int (S 0 0)) (C := RMo) (T := TMo) (N := 29) hx hb hc inMo hown hK hP 0 rfl rfl 14 (by decide) (hc _ w575) (fun _ h9 => h9) rfl dMo_block_83 ?_
            refine lv_bipush (v := 10) hx hb dMo_block_86 (by decide +kernel) ?_
            refine lv_icmp_ne (tgt := 97) hx hb dMo_block_88 (by decide) (fun c_33 => ?_) (fun c_33 => ?_)
            · have hlt : m0 < 10 := by rw [em] at c_33; exact Nat.lt_of_le_of_ne hm (fun z => c_33 (by rw [z]; rfl))
              refine lv_aload_n hx hb dMo_block_97 rfl (lv_at hl 0 rfl) ?_
              refine va_get (D := (dC, dI)) (ci := 4) (v := .ref (ad 6)) (C := RMo) (T := TMo) (N := 29) hx hb hc inMo hown hK hP 0 rfl rfl 6 (by decide) (hc _ w567) (fun _ h9 => h9) rfl dMo_block_98 ?_
              refine lv_aload_n hx hb dMo_block_101 rfl (lv_at hl 0 rfl) ?_
              refine va_get (D := (dC, dI)) (ci := 4) (v := .int (S 0 0)) (C := RMo) (T := TMo) (N := 29) hx hb hc inMo hown hK hP 0 rfl rfl 14 (by decide) (hc _ w575) (fun _ h9 => h9) rfl dMo_block_102 ?_
              refine W.eq (g2 := F0 m 105 ls [.int (nI m0), .ref (ad 6)]) (by rw [show S 0 0 = nI m0 from em]) ?_
              refine lv_iload_n hx hb dMo_block_105 rfl (lv_at hl 1 rfl) ?_
              refine va_iast hx hb hK hP hD hS 6 5 rfl rfl (vp_in_nI (by omega) (by decide)) dMo_block_106 (fun H locs hP hD hS => ?_)
              rw [nI_clamp (by omega)] at hP hD
              obtain ⟨S_35, eS_35⟩ : ∃ z9 : Ss, z9 = row S 14 (upd (S 14) m0 a) := ⟨_, rfl⟩
              have hP : va_P (dC, dI) vwCl (MW ad ca S_35 E_1) H := by rw [eS_35]; exact hP
              have hD : va_D A (MW ad ca S_35 E_1) := by rw [eS_35]; exact hD
              refine lv_aload_n hx hb dMo_block_107 rfl (lv_at hl 0 rfl) ?_
              refine va_get (D := (dC, dI)) (ci := 4) (v := .ref (ad 7)) (C := RMo) (T := TMo) (N := 29) hx hb hc inMo hown hK hP 0 rfl rfl 7 (by decide) (hc _ w568) (fun _ h9 => h9) rfl dMo_block_108 ?_
              refine lv_aload_n hx hb dMo_block_111 rfl (lv_at hl 0 rfl) ?_
              refine va_get (D := (dC, dI)) (ci := 4) (v := .int (S_35 0 0)) (C := RMo) (T := TMo) (N := 29) hx hb hc inMo hown hK hP 0 rfl rfl 14 (by decide) (hc _ w575) (fun _ h9 => h9) rfl dMo_block_112 ?_
              refine W.eq (g2 := F0 m 115 ls [.int (nI m0), .ref (ad 7)]) (by rw [show S_35 0 0 = nI m0 from by rw [eS_35]; exact em]) ?_
              refine lv_iload_n hx hb dMo_block_115 rfl (lv_at hl 2 rfl) ?_
              refine va_iast hx hb hK hP hD hS 7 6 rfl rfl (vp_in_nI (by omega) (by decide)) dMo_block_116 (fun H locs hP hD hS => ?_)
              rw [nI_clamp (by omega)] at hP hD
              obtain ⟨S_36, eS_36⟩ : ∃ z9 : Ss, z9 = row S_35 15 (upd (S_35 15) m0 b) := ⟨_, rfl⟩
              have hP : va_P (dC, dI) vwCl (MW ad ca S_36 E_1) H := by rw [eS_36]; exact hP
              have hD : va_D A (MW ad ca S_36 E_1) := by rw [eS_36]; exact hD
              refine lv_aload_n hx hb dMo_block_117 rfl (lv_at hl 0 rfl) ?_
              refine va_get (D := (dC, dI)) (ci := 4) (v := .ref (ad 8)) (C := RMo) (T := TMo) (N := 29) hx hb hc inMo hown hK hP 0 rfl rfl 8 (by decide) (hc _ w569) (fun _ h9 => h9) rfl dMo_block_118 ?_
              refine lv_aload_n hx hb dMo_block_121 rfl (lv_at hl 0 rfl) ?_
              refine va_get (D := (dC, dI)) (ci := 4) (v := .int (S_36 0 0)) (C := RMo) (T := TMo) (N := 29) hx hb hc inMo hown hK hP 0 rfl rfl 14 (by decide) (hc _ w575) (fun _ h9 => h9) rfl dMo_block_122 ?_
              refine W.eq (g2 := F0 m 125 ls [.int (nI m0), .ref (ad 8)]) (by rw [show S_36 0 0 = nI m0 from by rw [eS_36, eS_35]; exact em]) ?_
              refine lv_iload_n hx hb dMo_block_125 rfl (lv_at hl 3 rfl) ?_
              refine va_iast hx hb hK hP hD hS 8 7 rfl rfl (vp_in_nI (by omega) (by decide)) dMo_block_126 (fun H locs hP hD hS => ?_)
              rw [nI_clamp (by omega)] at hP hD
              obtain ⟨S_37, eS_37⟩ : ∃ z9 : Ss, z9 = row S_36 16 (upd (S_36 16) m0 d) := ⟨_, rfl⟩
              have hP : va_P (dC, dI) vwCl (MW ad ca S_37 E_1) H := by rw [eS_37]; exact hP
              have hD : va_D A (MW ad ca S_37 E_1) := by rw [eS_37]; exact hD
              refine lv_aload_n hx hb dMo_block_127 rfl (lv_at hl 0 rfl) ?_
              refine lv_dup hx hb dMo_block_128 rfl ?_
              refine va_get (D := (dC, dI)) (ci := 4) (v := .int (S_37 0 0)) (C := RMo) (T := TMo) (N := 29) hx hb hc inMo hown hK hP 0 rfl rfl 14 (by decide) (hc _ w575) (fun _ h9 => h9) rfl dMo_block_129 ?_
              refine lv_iconst (v := 1) hx hb dMo_block_132 (by decide +kernel) ?_
              refine lv_iadd hx hb dMo_block_133 ?_
              refine va_put (D := (dC, dI)) (ci := 4) (v := .int ((S_37 0 0) + 1)) (ty := .int) (C := RMo) (T := TMo) (N := 29) hx hb hc inMo tyMo tyMo_ok nmMo hown hK hP hD hS 0 rfl rfl 14 (by decide) (hc _ w575) (fun _ h9 => h9) rfl (by decide +kernel) rfl rfl (Nat.le_of_ble_eq_true rfl) dMo_block_134 (fun H locs hP hD hS => ?_)
              obtain ⟨S_38, eS_38⟩ : ∃ z9 : Ss, z9 = row S_37 0 (upd (S_37 0) 0 ((S_37 0 0) + 1)) := ⟨_, rfl⟩
              have hP : va_P (dC, dI) vwCl (MW ad ca S_38 E_1) H := by rw [eS_38]; exact hP
              have hD : va_D A (MW ad ca S_38 E_1) := by rw [eS_38]; exact hD
              refine lv_aload_n hx hb dMo_block_137 rfl (lv_at hl 0 rfl) ?_
              refine va_get (D := (dC, dI)) (ci := 4) (v := .int (S_38 0 0)) (C := RMo) (T := TMo) (N := 29) hx hb hc inMo hown hK hP 0 rfl rfl 14 (by decide) (hc _ w575) (fun _ h9 => h9) rfl dMo_block_138 ?_
              refine lv_iconst (v := 1) hx hb dMo_block_141 (by decide +kernel) ?_
              refine lv_isub hx hb dMo_block_142 ?_
              exact W.iret (v := ((S_38 0 0) - 1)) hx hb hr (fun t ht hW => ⟨⟨_, (S_38, E_1), rfl, (by (try dsimp only) <;> exact (by have hO : oBlock S a b d = (0, (S_38 0 0) - 1, S_38) := (by unfold oBlock; rw [if_neg (fun h => h (by (try simp only [hr_2, hr_31, b2_0, b2_n, b2_1] at c_2); (try simp only [okB, wi, Int32.lt_iff_toInt_lt, Int32.le_iff_toInt_le, ← Int32.toInt_inj, Int32.reduceToInt] at c_2); (try simp only [hr_2, hr_31, b2_0, b2_n, b2_1] at c_5); (try simp only [okB, wi, Int32.lt_iff_toInt_lt, Int32.le_iff_toInt_le, ← Int32.toInt_inj, Int32.reduceToInt] at c_5); (try simp only [hr_2, hr_31, b2_0, b2_n, b2_1] at c_6); (try simp only [okB, wi, Int32.lt_iff_toInt_lt, Int32.le_iff_toInt_le, ← Int32.toInt_inj, Int32.reduceToInt] at c_6); (try simp only [hr_2, hr_31, b2_0, b2_n, b2_1] at c_31); (try simp only [okB, wi, Int32.lt_iff_toInt_lt, Int32.le_iff_toInt_le, ← Int32.toInt_inj, Int32.reduceToInt] at c_31); (try simp only [hr_2, hr_31, b2_0, b2_n, b2_1] at c_32); (try simp only [okB, wi, Int32.lt_iff_toInt_lt, Int32.le_iff_toInt_le, ← Int32.toInt_inj, Int32.reduceToInt] at c_32); (try simp only [okB, wi, Int32.lt_iff_toInt_lt, Int32.le_iff_toInt_le, ← Int32.toInt_inj, Int32.reduceToInt]); omega)), if_neg (Int32.not_le.mpr (by rw [em]; exact nI_lt hlt (by decide))), em, nI_clamp (by omega), eS_38, eS_37, eS_36, eS_35]; exact blk_eq em); rw [hO]; exact ⟨by rw [eE_1]; rfl, fun _ => rfl, rfl⟩)), by rw [ht]; exact hP, va_K.moved hW.alike hK, hD⟩, hS.F ht⟩) hS.2.2 dMo_block_143
            · refine lv_aload_n hx hb dMo_block_91 rfl (lv_at hl 0 rfl) ?_
              refine lv_iconst (v := 2) hx hb dMo_block_92 (by decide +kernel) ?_
              refine g_calli (va_runV (As := [.int 2]) (rest := []) ⟨hx, hb, hml, hown, hc⟩ (cMo_raise l dC dI ad ca H.size S E_1 2) (cwV 1 hc (gV w661 w663 s9 w5 qMo_raise) rfl rfl rfl (by decide +kernel) ⟨Nat.le_of_ble_eq_true rfl, Nat.le_of_ble_eq_true rfl⟩) ⟨gPre_blind, va_recv hK hP (ci := 4) (q0 := 0) rfl rfl, (gPre_in hP hK hD)⟩ rfl rfl hl.1 rfl (lv_room (Nat.le_of_ble_eq_true rfl)) dMo_block_93 ⟨Nat.zero_le _, Nat.zero_le _⟩) hD hS hA (fun r_40 u_39 H locs hu_39 hP hD hS => ?_)
              obtain ⟨S_39, E_39⟩ := u_39
              (try dsimp only at hu_39 hP hD)
              obtain ⟨hr9, hS9, hE9⟩ := hu_39
              subst S_39
              exact W.iret (v := r_40) hx hb hr (fun t ht hW => ⟨⟨_, (S, E_39), rfl, (by (try dsimp only) <;> exact (by have hO : oBlock S a b d = (2, 0, S) := (by unfold oBlock; rw [if_neg (fun h => h (by (try simp only [hr_2, hr_31, b2_0, b2_n, b2_1] at c_2); (try simp only [okB, wi, Int32.lt_iff_toInt_lt, Int32.le_iff_toInt_le, ← Int32.toInt_inj, Int32.reduceToInt] at c_2); (try simp only [hr_2, hr_31, b2_0, b2_n, b2_1] at c_5); (try simp only [okB, wi, Int32.lt_iff_toInt_lt, Int32.le_iff_toInt_le, ← Int32.toInt_inj, Int32.reduceToInt] at c_5); (try simp only [hr_2, hr_31, b2_0, b2_n, b2_1] at c_6); (try simp only [okB, wi, Int32.lt_iff_toInt_lt, Int32.le_iff_toInt_le, ← Int32.toInt_inj, Int32.reduceToInt] at c_6); (try simp only [hr_2, hr_31, b2_0, b2_n, b2_1] at c_31); (try simp only [okB, wi, Int32.lt_iff_toInt_lt, Int32.le_iff_toInt_le, ← Int32.toInt_inj, Int32.reduceToInt] at c_31); (try simp only [hr_2, hr_31, b2_0, b2_n, b2_1] at c_32); (try simp only [okB, wi, Int32.lt_iff_toInt_lt, Int32.le_iff_toInt_le, ← Int32.toInt_inj, Int32.reduceToInt] at c_32); (try simp only [okB, wi, Int32.lt_iff_toInt_lt, Int32.le_iff_toInt_le, ← Int32.toInt_inj, Int32.reduceToInt]); omega)), if_pos (by rw [c_33]; decide)]); rw [hO]; exact ⟨by rw [hE9]; rfl, fun h => absurd (show (2 : Int32) = 0 from h) (by decide), rfl⟩)), by rw [ht]; exact hP, va_K.moved hW.alike hK, hD⟩, hS.F ht⟩) hS.2.2 dMo_block_96
          · refine lv_iload_n hx hb dMo_block_56 rfl (lv_at hl 2 rfl) ?_
            refine lv_iconst (v := 0) hx hb dMo_block_57 (by decide +kernel) ?_
            refine lv_bipush (v := 7) hx hb dMo_block_58 (by decide +kernel) ?_
            refine vp_callSi (va_Run.run (va_runS (As := [.int b, .int 0, .int 7]) (rest := []) ⟨hx, hb, hml, hown, hc⟩ (cMo_in l b 0 7) (va_cwS 3 hc (g_S w658 w659 w5 qMo_in) rfl rfl rfl (by decide +kernel) ⟨Nat.le_of_ble_eq_true rfl, Nat.le_of_ble_eq_true rfl⟩) ⟨tPre_blind, tPre_in⟩ rfl rfl hl.1 rfl (lv_room (Nat.le_of_ble_eq_true rfl)) dMo_block_60 ⟨Nat.zero_le _, Nat.zero_le _⟩)) (fun r_41 hr_41 => ?_)
            refine lv_if_eq (tgt := 76) hx hb dMo_block_63 (by decide) (fun c_41 => ?_) (fun c_41 => ?_)
            · refine lv_aload_n hx hb dMo_block_76 rfl (lv_at hl 0 rfl) ?_
              refine lv_iconst (v := 1) hx hb dMo_block_77 (by decide +kernel) ?_
              refine g_calli (va_runV (As := [.int 1]) (rest := []) ⟨hx, hb, hml, hown, hc⟩ (cMo_raise l dC dI ad ca H.size S E_1 1) (cwV 1 hc (gV w661 w663 s9 w5 qMo_raise) rfl rfl rfl (by decide +kernel) ⟨Nat.le_of_ble_eq_true rfl, Nat.le_of_ble_eq_true rfl⟩) ⟨gPre_blind, va_recv hK hP (ci := 4) (q0 := 0) rfl rfl, (gPre_in hP hK hD)⟩ rfl rfl hl.1 rfl (lv_room (Nat.le_of_ble_eq_true rfl)) dMo_block_78 ⟨Nat.zero_le _, Nat.zero_le _⟩) hD hS hA (fun r_44 u_43 H locs hu_43 hP hD hS => ?_)
              obtain ⟨S_43, E_43⟩ := u_43
              (try dsimp only at hu_43 hP hD)
              obtain ⟨hr9, hS9, hE9⟩ := hu_43
              subst S_43
              exact W.iret (v := r_44) hx hb hr (fun t ht hW => ⟨⟨_, (S, E_43), rfl, (by (try dsimp only) <;> exact (by have hO : oBlock S a b d = (1, 0, S) := (by unfold oBlock; rw [if_pos (by (try simp only [hr_2, hr_31, hr_41, b2_0, b2_n, b2_1] at c_2); (try simp only [okB, wi, Int32.lt_iff_toInt_lt, Int32.le_iff_toInt_le, ← Int32.toInt_inj, Int32.reduceToInt] at c_2); (try simp only [hr_2, hr_31, hr_41, b2_0, b2_n, b2_1] at c_5); (try simp only [okB, wi, Int32.lt_iff_toInt_lt, Int32.le_iff_toInt_le, ← Int32.toInt_inj, Int32.reduceToInt] at c_5); (try simp only [hr_2, hr_31, hr_41, b2_0, b2_n, b2_1] at c_6); (try simp only [okB, wi, Int32.lt_iff_toInt_lt, Int32.le_iff_toInt_le, ← Int32.toInt_inj, Int32.reduceToInt] at c_6); (try simp only [hr_2, hr_31, hr_41, b2_0, b2_n, b2_1] at c_31); (try simp only [okB, wi, Int32.lt_iff_toInt_lt, Int32.le_iff_toInt_le, ← Int32.toInt_inj, Int32.reduceToInt] at c_31); (try simp only [hr_2, hr_31, hr_41, b2_0, b2_n, b2_1] at c_32); (try simp only [okB, wi, Int32.lt_iff_toInt_lt, Int32.le_iff_toInt_le, ← Int32.toInt_inj, Int32.reduceToInt] at c_32); (try simp only [hr_2, hr_31, hr_41, b2_0, b2_n, b2_1] at c_41); (try simp only [okB, wi, Int32.lt_iff_toInt_lt, Int32.le_iff_toInt_le, ← Int32.toInt_inj, Int32.reduceToInt] at c_41); (try simp only [okB, wi, Int32.lt_iff_toInt_lt, Int32.le_iff_toInt_le, ← Int32.toInt_inj, Int32.reduceToInt]); omega)]); rw [hO]; exact ⟨by rw [hE9]; rfl, fun h => absurd (show (1 : Int32) = 0 from h) (by decide), rfl⟩)), by rw [ht]; exact hP, va_K.moved hW.alike hK, hD⟩, hS.F ht⟩) hS.2.2 dMo_block_81
            · refine lv_iload_n hx hb dMo_block_66 rfl (lv_at hl 3 rfl) ?_
              refine lv_iconst (v := 0) hx hb dMo_block_67 (by decide +kernel) ?_
              refine lv_bipush (v := 7) hx hb dMo_block_68 (by decide +kernel) ?_
              refine vp_callSi (va_Run.run (va_runS (As := [.int d, .int 0, .int 7]) (rest := []) ⟨hx, hb, hml, hown, hc⟩ (cMo_in l d 0 7) (va_cwS 3 hc (g_S w658 w659 w5 qMo_in) rfl rfl rfl (by decide +kernel) ⟨Nat.le_of_ble_eq_true rfl, Nat.le_of_ble_eq_true rfl⟩) ⟨tPre_blind, tPre_in⟩ rfl rfl hl.1 rfl (lv_room (Nat.le_of_ble_eq_true rfl)) dMo_block_70 ⟨Nat.zero_le _, Nat.zero_le _⟩)) (fun r_45 hr_45 => ?_)
              refine lv_if_ne (tgt := 82) hx hb dMo_block_73 (by decide) (fun c_45 => ?_) (fun c_45 => ?_)
              · refine lv_aload_n hx hb dMo_block_82 rfl (lv_at hl 0 rfl) ?_
                refine va_get (D := (dC, dI)) (ci := 4) (v := .int (S 0 0)) (C := RMo) (T := TMo) (N := 29) hx hb hc inMo hown hK hP 0 rfl rfl 14 (by decide) (hc _ w575) (fun _ h9 => h9) rfl dMo_block_83 ?_
                refine lv_bipush (v := 10) hx hb dMo_block_86 (by decide +kernel) ?_
                refine lv_icmp_ne (tgt := 97) hx hb dMo_block_88 (by decide) (fun c_46 => ?_) (fun c_46 => ?_)
                · have hlt : m0 < 10 := by rw [em] at c_46; exact Nat.lt_of_le_of_ne hm (fun z => c_46 (by rw [z]; rfl))
                  refine lv_aload_n hx hb dMo_block_97 rfl (lv_at hl 0 rfl) ?_
                  refine va_get (D := (dC, dI)) (ci := 4) (v := .ref (ad 6)) (C := RMo) (T := TMo) (N := 29) hx hb hc inMo hown hK hP 0 rfl rfl 6 (by decide) (hc _ w567) (fun _ h9 => h9) rfl dMo_block_98 ?_
                  refine lv_aload_n hx hb dMo_block_101 rfl (lv_at hl 0 rfl) ?_
                  refine va_get (D := (dC, dI)) (ci := 4) (v := .int (S 0 0)) (C := RMo) (T := TMo) (N := 29) hx hb hc inMo hown hK hP 0 rfl rfl 14 (by decide) (hc _ w575) (fun _ h9 => h9) rfl dMo_block_102 ?_
                  refine W.eq (g2 := F0 m 105 ls [.int (nI m0), .ref (ad 6)]) (by rw [show S 0 0 = nI m0 from em]) ?_
                  refine lv_iload_n hx hb dMo_block_105 rfl (lv_at hl 1 rfl) ?_
                  refine va_iast hx hb hK hP hD hS 6 5 rfl rfl (vp_in_nI (by omega) (by decide)) dMo_block_106 (fun H locs hP hD hS => ?_)
                  rw [nI_clamp (by omega)] at hP hD
                  obtain ⟨S_48, eS_48⟩ : ∃ z9 : Ss, z9 = row S 14 (upd (S 14) m0 a) := ⟨_, rfl⟩
                  have hP : va_P (dC, dI) vwCl (MW ad ca S_48 E_1) H := by rw [eS_48]; exact hP
                  have hD : va_D A (MW ad ca S_48 E_1) := by rw [eS_48]; exact hD
                  refine lv_aload_n hx hb dMo_block_107 rfl (lv_at hl 0 rfl) ?_
                  refine va_get (D := (dC, dI)) (ci := 4) (v := .ref (ad 7)) (C := RMo) (T := TMo) (N := 29) hx hb hc inMo hown hK hP 0 rfl rfl 7 (by decide) (hc _ w568) (fun _ h9 => h9) rfl dMo_block_108 ?_
                  refine lv_aload_n hx hb dMo_block_111 rfl (lv_at hl 0 rfl) ?_
                  refine va_get (D := (dC, dI)) (ci := 4) (v := .int (S_48 0 0)) (C := RMo) (T := TMo) (N := 29) hx hb hc inMo hown hK hP 0 rfl rfl 14 (by decide) (hc _ w575) (fun _ h9 => h9) rfl dMo_block_112 ?_
                  refine W.eq (g2 := F0 m 115 ls [.int (nI m0), .ref (ad 7)]) (by rw [show S_48 0 0 = nI m0 from by rw [eS_48]; exact em]) ?_
                  refine lv_iload_n hx hb dMo_block_115 rfl (lv_at hl 2 rfl) ?_
                  refine va_iast hx hb hK hP hD hS 7 6 rfl rfl (vp_in_nI (by omega) (by decide)) dMo_block_116 (fun H locs hP hD hS => ?_)
                  rw [nI_clamp (by omega)] at hP hD
                  obtain ⟨S_49, eS_49⟩ : ∃ z9 : Ss, z9 = row S_48 15 (upd (S_48 15) m0 b) := ⟨_, rfl⟩
                  have hP : va_P (dC, dI) vwCl (MW ad ca S_49 E_1) H := by rw [eS_49]; exact hP
                  have hD : va_D A (MW ad ca S_49 E_1) := by rw [eS_49]; exact hD
                  refine lv_aload_n hx hb dMo_block_117 rfl (lv_at hl 0 rfl) ?_
                  refine va_get (D := (dC, dI)) (ci := 4) (v := .ref (ad 8)) (C := RMo) (T := TMo) (N := 29) hx hb hc inMo hown hK hP 0 rfl rfl 8 (by decide) (hc _ w569) (fun _ h9 => h9) rfl dMo_block_118 ?_
                  refine lv_aload_n hx hb dMo_block_121 rfl (lv_at hl 0 rfl) ?_
                  refine va_get (D := (dC, dI)) (ci := 4) (v := .int (S_49 0 0)) (C := RMo) (T := TMo) (N := 29) hx hb hc inMo hown hK hP 0 rfl rfl 14 (by decide) (hc _ w575) (fun _ h9 => h9) rfl dMo_block_122 ?_
                  refine W.eq (g2 := F0 m 125 ls [.int (nI m0), .ref (ad 8)]) (by rw [show S_49 0 0 = nI m0 from by rw [eS_49, eS_48]; exact em]) ?_
                  refine lv_iload_n hx hb dMo_block_125 rfl (lv_at hl 3 rfl) ?_
                  refine va_iast hx hb hK hP hD hS 8 7 rfl rfl (vp_in_nI (by omega) (by decide)) dMo_block_126 (fun H locs hP hD hS => ?_)
                  rw [nI_clamp (by omega)] at hP hD
                  obtain ⟨S_50, eS_50⟩ : ∃ z9 : Ss, z9 = row S_49 16 (upd (S_49 16) m0 d) := ⟨_, rfl⟩
                  have hP : va_P (dC, dI) vwCl (MW ad ca S_50 E_1) H := by rw [eS_50]; exact hP
                  have hD : va_D A (MW ad ca S_50 E_1) := by rw [eS_50]; exact hD
                  refine lv_aload_n hx hb dMo_block_127 rfl (lv_at hl 0 rfl) ?_
                  refine lv_dup hx hb dMo_block_128 rfl ?_
                  refine va_get (D := (dC, dI)) (ci := 4) (v := .int (S_50 0 0)) (C := RMo) (T := TMo) (N := 29) hx hb hc inMo hown hK hP 0 rfl rfl 14 (by decide) (hc _ w575) (fun _ h9 => h9) rfl dMo_block_129 ?_
                  refine lv_iconst (v := 1) hx hb dMo_block_132 (by decide +kernel) ?_
                  refine lv_iadd hx hb dMo_block_133 ?_
                  refine va_put (D := (dC, dI)) (ci := 4) (v := .int ((S_50 0 0) + 1)) (ty := .int) (C := RMo) (T := TMo) (N := 29) hx hb hc inMo tyMo tyMo_ok nmMo hown hK hP hD hS 0 rfl rfl 14 (by decide) (hc _ w575) (fun _ h9 => h9) rfl (by decide +kernel) rfl rfl (Nat.le_of_ble_eq_true rfl) dMo_block_134 (fun H locs hP hD hS => ?_)
                  obtain ⟨S_51, eS_51⟩ : ∃ z9 : Ss, z9 = row S_50 0 (upd (S_50 0) 0 ((S_50 0 0) + 1)) := ⟨_, rfl⟩
                  have hP : va_P (dC, dI) vwCl (MW ad ca S_51 E_1) H := by rw [eS_51]; exact hP
                  have hD : va_D A (MW ad ca S_51 E_1) := by rw [eS_51]; exact hD
                  refine lv_aload_n hx hb dMo_block_137 rfl (lv_at hl 0 rfl) ?_
                  refine va_get (D := (dC, dI)) (ci := 4) (v := .int (S_51 0 0)) (C := RMo) (T := TMo) (N := 29) hx hb hc inMo hown hK hP 0 rfl rfl 14 (by decide) (hc _ w575) (fun _ h9 => h9) rfl dMo_block_138 ?_
                  refine lv_iconst (v := 1) hx hb dMo_block_141 (by decide +kernel) ?_
                  refine lv_isub hx hb dMo_block_142 ?_
                  exact W.iret (v := ((S_51 0 0) - 1)) hx hb hr (fun t ht hW => ⟨⟨_, (S_51, E_1), rfl, (by (try dsimp only) <;> exact (by have hO : oBlock S a b d = (0, (S_51 0 0) - 1, S_51) := (by unfold oBlock; rw [if_neg (fun h => h (by (try simp only [hr_2, hr_31, hr_41, hr_45, b2_0, b2_n, b2_1] at c_2); (try simp only [okB, wi, Int32.lt_iff_toInt_lt, Int32.le_iff_toInt_le, ← Int32.toInt_inj, Int32.reduceToInt] at c_2); (try simp only [hr_2, hr_31, hr_41, hr_45, b2_0, b2_n, b2_1] at c_5); (try simp only [okB, wi, Int32.lt_iff_toInt_lt, Int32.le_iff_toInt_le, ← Int32.toInt_inj, Int32.reduceToInt] at c_5); (try simp only [hr_2, hr_31, hr_41, hr_45, b2_0, b2_n, b2_1] at c_6); (try simp only [okB, wi, Int32.lt_iff_toInt_lt, Int32.le_iff_toInt_le, ← Int32.toInt_inj, Int32.reduceToInt] at c_6); (try simp only [hr_2, hr_31, hr_41, hr_45, b2_0, b2_n, b2_1] at c_31); (try simp only [okB, wi, Int32.lt_iff_toInt_lt, Int32.le_iff_toInt_le, ← Int32.toInt_inj, Int32.reduceToInt] at c_31); (try simp only [hr_2, hr_31, hr_41, hr_45, b2_0, b2_n, b2_1] at c_32); (try simp only [okB, wi, Int32.lt_iff_toInt_lt, Int32.le_iff_toInt_le, ← Int32.toInt_inj, Int32.reduceToInt] at c_32); (try simp only [hr_2, hr_31, hr_41, hr_45, b2_0, b2_n, b2_1] at c_41); (try simp only [okB, wi, Int32.lt_iff_toInt_lt, Int32.le_iff_toInt_le, ← Int32.toInt_inj, Int32.reduceToInt] at c_41); (try simp only [hr_2, hr_31, hr_41, hr_45, b2_0, b2_n, b2_1] at c_45); (try simp only [okB, wi, Int32.lt_iff_toInt_lt, Int32.le_iff_toInt_le, ← Int32.toInt_inj, Int32.reduceToInt] at c_45); (try simp only [okB, wi, Int32.lt_iff_toInt_lt, Int32.le_iff_toInt_le, ← Int32.toInt_inj, Int32.reduceToInt]); omega)), if_neg (Int32.not_le.mpr (by rw [em]; exact nI_lt hlt (by decide))), em, nI_clamp (by omega), eS_51, eS_50, eS_49, eS_48]; exact blk_eq em); rw [hO]; exact ⟨by rw [eE_1]; rfl, fun _ => rfl, rfl⟩)), by rw [ht]; exact hP, va_K.moved hW.alike hK, hD⟩, hS.F ht⟩) hS.2.2 dMo_block_143
                · refine lv_aload_n hx hb dMo_block_91 rfl (lv_at hl 0 rfl) ?_
                  refine lv_iconst (v := 2) hx hb dMo_block_92 (by decide +kernel) ?_
                  refine g_calli (va_runV (As := [.int 2]) (rest := []) ⟨hx, hb, hml, hown, hc⟩ (cMo_raise l dC dI ad ca H.size S E_1 2) (cwV 1 hc (gV w661 w663 s9 w5 qMo_raise) rfl rfl rfl (by decide +kernel) ⟨Nat.le_of_ble_eq_true rfl, Nat.le_of_ble_eq_true rfl⟩) ⟨gPre_blind, va_recv hK hP (ci := 4) (q0 := 0) rfl rfl, (gPre_in hP hK hD)⟩ rfl rfl hl.1 rfl (lv_room (Nat.le_of_ble_eq_true rfl)) dMo_block_93 ⟨Nat.zero_le _, Nat.zero_le _⟩) hD hS hA (fun r_53 u_52 H locs hu_52 hP hD hS => ?_)
                  obtain ⟨S_52, E_52⟩ := u_52
                  (try dsimp only at hu_52 hP hD)
                  obtain ⟨hr9, hS9, hE9⟩ := hu_52
                  subst S_52
                  exact W.iret (v := r_53) hx hb hr (fun t ht hW => ⟨⟨_, (S, E_52), rfl, (by (try dsimp only) <;> exact (by have hO : oBlock S a b d = (2, 0, S) := (by unfold oBlock; rw [if_neg (fun h => h (by (try simp only [hr_2, hr_31, hr_41, hr_45, b2_0, b2_n, b2_1] at c_2); (try simp only [okB, wi, Int32.lt_iff_toInt_lt, Int32.le_iff_toInt_le, ← Int32.toInt_inj, Int32.reduceToInt] at c_2); (try simp only [hr_2, hr_31, hr_41, hr_45, b2_0, b2_n, b2_1] at c_5); (try simp only [okB, wi, Int32.lt_iff_toInt_lt, Int32.le_iff_toInt_le, ← Int32.toInt_inj, Int32.reduceToInt] at c_5); (try simp only [hr_2, hr_31, hr_41, hr_45, b2_0, b2_n, b2_1] at c_6); (try simp only [okB, wi, Int32.lt_iff_toInt_lt, Int32.le_iff_toInt_le, ← Int32.toInt_inj, Int32.reduceToInt] at c_6); (try simp only [hr_2, hr_31, hr_41, hr_45, b2_0, b2_n, b2_1] at c_31); (try simp only [okB, wi, Int32.lt_iff_toInt_lt, Int32.le_iff_toInt_le, ← Int32.toInt_inj, Int32.reduceToInt] at c_31); (try simp only [hr_2, hr_31, hr_41, hr_45, b2_0, b2_n, b2_1] at c_32); (try simp only [okB, wi, Int32.lt_iff_toInt_lt, Int32.le_iff_toInt_le, ← Int32.toInt_inj, Int32.reduceToInt] at c_32); (try simp only [hr_2, hr_31, hr_41, hr_45, b2_0, b2_n, b2_1] at c_41); (try simp only [okB, wi, Int32.lt_iff_toInt_lt, Int32.le_iff_toInt_le, ← Int32.toInt_inj, Int32.reduceToInt] at c_41); (try simp only [hr_2, hr_31, hr_41, hr_45, b2_0, b2_n, b2_1] at c_45); (try simp only [okB, wi, Int32.lt_iff_toInt_lt, Int32.le_iff_toInt_le, ← Int32.toInt_inj, Int32.reduceToInt] at c_45); (try simp only [okB, wi, Int32.lt_iff_toInt_lt, Int32.le_iff_toInt_le, ← Int32.toInt_inj, Int32.reduceToInt]); omega)), if_pos (by rw [c_46]; decide)]); rw [hO]; exact ⟨by rw [hE9]; rfl, fun h => absurd (show (2 : Int32) = 0 from h) (by decide), rfl⟩)), by rw [ht]; exact hP, va_K.moved hW.alike hK, hD⟩, hS.F ht⟩) hS.2.2 dMo_block_96
              · refine lv_aload_n hx hb dMo_block_76 rfl (lv_at hl 0 rfl) ?_
                refine lv_iconst (v := 1) hx hb dMo_block_77 (by decide +kernel) ?_
                refine g_calli (va_runV (As := [.int 1]) (rest := []) ⟨hx, hb, hml, hown, hc⟩ (cMo_raise l dC dI ad ca H.size S E_1 1) (cwV 1 hc (gV w661 w663 s9 w5 qMo_raise) rfl rfl rfl (by decide +kernel) ⟨Nat.le_of_ble_eq_true rfl, Nat.le_of_ble_eq_true rfl⟩) ⟨gPre_blind, va_recv hK hP (ci := 4) (q0 := 0) rfl rfl, (gPre_in hP hK hD)⟩ rfl rfl hl.1 rfl (lv_room (Nat.le_of_ble_eq_true rfl)) dMo_block_78 ⟨Nat.zero_le _, Nat.zero_le _⟩) hD hS hA (fun r_55 u_54 H locs hu_54 hP hD hS => ?_)
                obtain ⟨S_54, E_54⟩ := u_54
                (try dsimp only at hu_54 hP hD)
                obtain ⟨hr9, hS9, hE9⟩ := hu_54
                subst S_54
                exact W.iret (v := r_55) hx hb hr (fun t ht hW => ⟨⟨_, (S, E_54), rfl, (by (try dsimp only) <;> exact (by have hO : oBlock S a b d = (1, 0, S) := (by unfold oBlock; rw [if_pos (by (try simp only [hr_2, hr_31, hr_41, hr_45, b2_0, b2_n, b2_1] at c_2); (try simp only [okB, wi, Int32.lt_iff_toInt_lt, Int32.le_iff_toInt_le, ← Int32.toInt_inj, Int32.reduceToInt] at c_2); (try simp only [hr_2, hr_31, hr_41, hr_45, b2_0, b2_n, b2_1] at c_5); (try simp only [okB, wi, Int32.lt_iff_toInt_lt, Int32.le_iff_toInt_le, ← Int32.toInt_inj, Int32.reduceToInt] at c_5); (try simp only [hr_2, hr_31, hr_41, hr_45, b2_0, b2_n, b2_1] at c_6); (try simp only [okB, wi, Int32.lt_iff_toInt_lt, Int32.le_iff_toInt_le, ← Int32.toInt_inj, Int32.reduceToInt] at c_6); (try simp only [hr_2, hr_31, hr_41, hr_45, b2_0, b2_n, b2_1] at c_31); (try simp only [okB, wi, Int32.lt_iff_toInt_lt, Int32.le_iff_toInt_le, ← Int32.toInt_inj, Int32.reduceToInt] at c_31); (try simp only [hr_2, hr_31, hr_41, hr_45, b2_0, b2_n, b2_1] at c_32); (try simp only [okB, wi, Int32.lt_iff_toInt_lt, Int32.le_iff_toInt_le, ← Int32.toInt_inj, Int32.reduceToInt] at c_32); (try simp only [hr_2, hr_31, hr_41, hr_45, b2_0, b2_n, b2_1] at c_41); (try simp only [okB, wi, Int32.lt_iff_toInt_lt, Int32.le_iff_toInt_le, ← Int32.toInt_inj, Int32.reduceToInt] at c_41); (try simp only [hr_2, hr_31, hr_41, hr_45, b2_0, b2_n, b2_1] at c_45); (try simp only [okB, wi, Int32.lt_iff_toInt_lt, Int32.le_iff_toInt_le, ← Int32.toInt_inj, Int32.reduceToInt] at c_45); (try simp only [okB, wi, Int32.lt_iff_toInt_lt, Int32.le_iff_toInt_le, ← Int32.toInt_inj, Int32.reduceToInt]); omega)]); rw [hO]; exact ⟨by rw [hE9]; rfl, fun h => absurd (show (1 : Int32) = 0 from h) (by decide), rfl⟩)), by rw [ht]; exact hP, va_K.moved hW.alike hK, hD⟩, hS.F ht⟩) hS.2.2 dMo_block_81
        · refine lv_aload_n hx hb dMo_block_45 rfl (lv_at hl 0 rfl) ?_
          refine lv_iconst (v := 1) hx hb dMo_block_46 (by decide +kernel) ?_
          refine g_calli (va_runV (As := [.int 1]) (rest := []) ⟨hx, hb, hml, hown, hc⟩ (cMo_raise l dC dI ad ca H.size S E_1 1) (cwV 1 hc (gV w661 w663 s9 w5 qMo_raise) rfl rfl rfl (by decide +kernel) ⟨Nat.le_of_ble_eq_true rfl, Nat.le_of_ble_eq_true rfl⟩) ⟨gPre_blind, va_recv hK hP (ci := 4) (q0 := 0) rfl rfl, (gPre_in hP hK hD)⟩ rfl rfl hl.1 rfl (lv_room (Nat.le_of_ble_eq_true rfl)) dMo_block_47 ⟨Nat.zero_le _, Nat.zero_le _⟩) hD hS hA (fun r_57 u_56 H locs hu_56 hP hD hS => ?_)
          obtain ⟨S_56, E_56⟩ := u_56
          (try dsimp only at hu_56 hP hD)
          obtain ⟨hr9, hS9, hE9⟩ := hu_56
          subst S_56
          exact W.iret (v := r_57) hx hb hr (fun t ht hW => ⟨⟨_, (S, E_56), rfl, (by (try dsimp only) <;> exact (by have hO : oBlock S a b d = (1, 0, S) := (by unfold oBlock; rw [if_pos (by (try simp only [hr_2, hr_31, b2_0, b2_n, b2_1] at c_2); (try simp only [okB, wi, Int32.lt_iff_toInt_lt, Int32.le_iff_toInt_le, ← Int32.toInt_inj, Int32.reduceToInt] at c_2); (try simp only [hr_2, hr_31, b2_0, b2_n, b2_1] at c_5); (try simp only [okB, wi, Int32.lt_iff_toInt_lt, Int32.le_iff_toInt_le, ← Int32.toInt_inj, Int32.reduceToInt] at c_5); (try simp only [hr_2, hr_31, b2_0, b2_n, b2_1] at c_6); (try simp only [okB, wi, Int32.lt_iff_toInt_lt, Int32.le_iff_toInt_le, ← Int32.toInt_inj, Int32.reduceToInt] at c_6); (try simp only [hr_2, hr_31, b2_0, b2_n, b2_1] at c_31); (try simp only [okB, wi, Int32.lt_iff_toInt_lt, Int32.le_iff_toInt_le, ← Int32.toInt_inj, Int32.reduceToInt] at c_31); (try simp only [okB, wi, Int32.lt_iff_toInt_lt, Int32.le_iff_toInt_le, ← Int32.toInt_inj, Int32.reduceToInt]); omega)]); rw [hO]; exact ⟨by rw [hE9]; rfl, fun h => absurd (show (1 : Int32) = 0 from h) (by decide), rfl⟩)), by rw [ht]; exact hP, va_K.moved hW.alike hK, hD⟩, hS.F ht⟩) hS.2.2 dMo_block_50
    · refine lv_iload_n hx hb dMo_block_20 rfl (lv_at hl 2 rfl) ?_
      refine lv_iconst (v := 1) hx hb dMo_block_21 (by decide +kernel) ?_
      refine lv_bipush (v := 100) hx hb dMo_block_22 (by decide +kernel) ?_
      refine vp_callSi (va_Run.run (va_runS (As := [.int b, .int 1, .int 100]) (rest := []) ⟨hx, hb, hml, hown, hc⟩ (cMo_in l b 1 100) (va_cwS 3 hc (g_S w658 w659 w5 qMo_in) rfl rfl rfl (by decide +kernel) ⟨Nat.le_of_ble_eq_true rfl, Nat.le_of_ble_eq_true rfl⟩) ⟨tPre_blind, tPre_in⟩ rfl rfl hl.1 rfl (lv_room (Nat.le_of_ble_eq_true rfl)) dMo_block_24 ⟨Nat.zero_le _, Nat.zero_le _⟩)) (fun r_58 hr_58 => ?_)
      refine lv_if_eq (tgt := 45) hx hb dMo_block_27 (by decide) (fun c_58 => ?_) (fun c_58 => ?_)
      · refine lv_aload_n hx hb dMo_block_45 rfl (lv_at hl 0 rfl) ?_
        refine lv_iconst (v := 1) hx hb dMo_block_46 (by decide +kernel) ?_
        refine g_calli (va_runV (As := [.int 1]) (rest := []) ⟨hx, hb, hml, hown, hc⟩ (cMo_raise l dC dI ad ca H.size S E_1 1) (cwV 1 hc (gV w661 w663 s9 w5 qMo_raise) rfl rfl rfl (by decide +kernel) ⟨Nat.le_of_ble_eq_true rfl, Nat.le_of_ble_eq_true rfl⟩) ⟨gPre_blind, va_recv hK hP (ci := 4) (q0 := 0) rfl rfl, (gPre_in hP hK hD)⟩ rfl rfl hl.1 rfl (lv_room (Nat.le_of_ble_eq_true rfl)) dMo_block_47 ⟨Nat.zero_le _, Nat.zero_le _⟩) hD hS hA (fun r_61 u_60 H locs hu_60 hP hD hS => ?_)
        obtain ⟨S_60, E_60⟩ := u_60
        (try dsimp only at hu_60 hP hD)
        obtain ⟨hr9, hS9, hE9⟩ := hu_60
        subst S_60
        exact W.iret (v := r_61) hx hb hr (fun t ht hW => ⟨⟨_, (S, E_60), rfl, (by (try dsimp only) <;> exact (by have hO : oBlock S a b d = (1, 0, S) := (by unfold oBlock; rw [if_pos (by (try simp only [hr_2, hr_58, b2_0, b2_n, b2_1] at c_2); (try simp only [okB, wi, Int32.lt_iff_toInt_lt, Int32.le_iff_toInt_le, ← Int32.toInt_inj, Int32.reduceToInt] at c_2); (try simp only [hr_2, hr_58, b2_0, b2_n, b2_1] at c_5); (try simp only [okB, wi, Int32.lt_iff_toInt_lt, Int32.le_iff_toInt_le, ← Int32.toInt_inj, Int32.reduceToInt] at c_5); (try simp only [hr_2, hr_58, b2_0, b2_n, b2_1] at c_58); (try simp only [okB, wi, Int32.lt_iff_toInt_lt, Int32.le_iff_toInt_le, ← Int32.toInt_inj, Int32.reduceToInt] at c_58); (try simp only [okB, wi, Int32.lt_iff_toInt_lt, Int32.le_iff_toInt_le, ← Int32.toInt_inj, Int32.reduceToInt]); omega)]); rw [hO]; exact ⟨by rw [hE9]; rfl, fun h => absurd (show (1 : Int32) = 0 from h) (by decide), rfl⟩)), by rw [ht]; exact hP, va_K.moved hW.alike hK, hD⟩, hS.F ht⟩) hS.2.2 dMo_block_50
      · refine lv_iload_n hx hb dMo_block_30 rfl (lv_at hl 1 rfl) ?_
        refine lv_iconst (v := 2) hx hb dMo_block_31 (by decide +kernel) ?_
        refine lv_icmp_ne (tgt := 51) hx hb dMo_block_32 (by decide) (fun c_61 => ?_) (fun c_61 => ?_)
        · refine lv_iload_n hx hb dMo_block_51 rfl (lv_at hl 1 rfl) ?_
          refine lv_iconst (v := 4) hx hb dMo_block_52 (by decide +kernel) ?_
          refine lv_icmp_le (tgt := 82) hx hb dMo_block_53 (by decide) (fun c_62 => ?_) (fun c_62 => ?_)
          · refine lv_aload_n hx hb dMo_block_82 rfl (lv_at hl 0 rfl) ?_
            refine va_get (D := (dC, dI)) (ci := 4) (v := .int (S 0 0)) (C := RMo) (T := TMo) (N := 29) hx hb hc inMo hown hK hP 0 rfl rfl 14 (by decide) (hc _ w575) (fun _ h9 => h9) rfl dMo_block_83 ?_
            refine lv_bipush (v := 10) hx hb dMo_block_86 (by decide +kernel) ?_
            refine lv_icmp_ne (tgt := 97) hx hb dMo_block_88 (by decide) (fun c_63 => ?_) (fun c_63 => ?_)
            · have hlt : m0 < 10 := by rw [em] at c_63; exact Nat.lt_of_le_of_ne hm (fun z => c_63 (by rw [z]; rfl))
              refine lv_aload_n hx hb dMo_block_97 rfl (lv_at hl 0 rfl) ?_
              refine va_get (D := (dC, dI)) (ci := 4) (v := .ref (ad 6)) (C := RMo) (T := TMo) (N := 29) hx hb hc inMo hown hK hP 0 rfl rfl 6 (by decide) (hc _ w567) (fun _ h9 => h9) rfl dMo_block_98 ?_
              refine lv_aload_n hx hb dMo_block_101 rfl (lv_at hl 0 rfl) ?_
              refine va_get (D := (dC, dI)) (ci := 4) (v := .int (S 0 0)) (C := RMo) (T := TMo) (N := 29) hx hb hc inMo hown hK hP 0 rfl rfl 14 (by decide) (hc _ w575) (fun _ h9 => h9) rfl dMo_block_102 ?_
              refine W.eq (g2 := F0 m 105 ls [.int (nI m0), .ref (ad 6)]) (by rw [show S 0 0 = nI m0 from em]) ?_
              refine lv_iload_n hx hb dMo_block_105 rfl (lv_at hl 1 rfl) ?_
              refine va_iast hx hb hK hP hD hS 6 5 rfl rfl (vp_in_nI (by omega) (by decide)) dMo_block_106 (fun H locs hP hD hS => ?_)
              rw [nI_clamp (by omega)] at hP hD
              obtain ⟨S_65, eS_65⟩ : ∃ z9 : Ss, z9 = row S 14 (upd (S 14) m0 a) := ⟨_, rfl⟩
              have hP : va_P (dC, dI) vwCl (MW ad ca S_65 E_1) H := by rw [eS_65]; exact hP
              have hD : va_D A (MW ad ca S_65 E_1) := by rw [eS_65]; exact hD
              refine lv_aload_n hx hb dMo_block_107 rfl (lv_at hl 0 rfl) ?_
              refine va_get (D := (dC, dI)) (ci := 4) (v := .ref (ad 7)) (C := RMo) (T := TMo) (N := 29) hx hb hc inMo hown hK hP 0 rfl rfl 7 (by decide) (hc _ w568) (fun _ h9 => h9) rfl dMo_block_108 ?_
              refine lv_aload_n hx hb dMo_block_111 rfl (lv_at hl 0 rfl) ?_
              refine va_get (D := (dC, dI)) (ci := 4) (v := .int (S_65 0 0)) (C := RMo) (T := TMo) (N := 29) hx hb hc inMo hown hK hP 0 rfl rfl 14 (by decide) (hc _ w575) (fun _ h9 => h9) rfl dMo_block_112 ?_
              refine W.eq (g2 := F0 m 115 ls [.int (nI m0), .ref (ad 7)]) (by rw [show S_65 0 0 = nI m0 from by rw [eS_65]; exact em]) ?_
              refine lv_iload_n hx hb dMo_block_115 rfl (lv_at hl 2 rfl) ?_
              refine va_iast hx hb hK hP hD hS 7 6 rfl rfl (vp_in_nI (by omega) (by decide)) dMo_block_116 (fun H locs hP hD hS => ?_)
              rw [nI_clamp (by omega)] at hP hD
              obtain ⟨S_66, eS_66⟩ : ∃ z9 : Ss, z9 = row S_65 15 (upd (S_65 15) m0 b) := ⟨_, rfl⟩
              have hP : va_P (dC, dI) vwCl (MW ad ca S_66 E_1) H := by rw [eS_66]; exact hP
              have hD : va_D A (MW ad ca S_66 E_1) := by rw [eS_66]; exact hD
              refine lv_aload_n hx hb dMo_block_117 rfl (lv_at hl 0 rfl) ?_
              refine va_get (D := (dC, dI)) (ci := 4) (v := .ref (ad 8)) (C := RMo) (T := TMo) (N := 29) hx hb hc inMo hown hK hP 0 rfl rfl 8 (by decide) (hc _ w569) (fun _ h9 => h9) rfl dMo_block_118 ?_
              refine lv_aload_n hx hb dMo_block_121 rfl (lv_at hl 0 rfl) ?_
              refine va_get (D := (dC, dI)) (ci := 4) (v := .int (S_66 0 0)) (C := RMo) (T := TMo) (N := 29) hx hb hc inMo hown hK hP 0 rfl rfl 14 (by decide) (hc _ w575) (fun _ h9 => h9) rfl dMo_block_122 ?_
              refine W.eq (g2 := F0 m 125 ls [.int (nI m0), .ref (ad 8)]) (by rw [show S_66 0 0 = nI m0 from by rw [eS_66, eS_65]; exact em]) ?_
              refine lv_iload_n hx hb dMo_block_125 rfl (lv_at hl 3 rfl) ?_
              refine va_iast hx hb hK hP hD hS 8 7 rfl rfl (vp_in_nI (by omega) (by decide)) dMo_block_126 (fun H locs hP hD hS => ?_)
              rw [nI_clamp (by omega)] at hP hD
              obtain ⟨S_67, eS_67⟩ : ∃ z9 : Ss, z9 = row S_66 16 (upd (S_66 16) m0 d) := ⟨_, rfl⟩
              have hP : va_P (dC, dI) vwCl (MW ad ca S_67 E_1) H := by rw [eS_67]; exact hP
              have hD : va_D A (MW ad ca S_67 E_1) := by rw [eS_67]; exact hD
              refine lv_aload_n hx hb dMo_block_127 rfl (lv_at hl 0 rfl) ?_
              refine lv_dup hx hb dMo_block_128 rfl ?_
              refine va_get (D := (dC, dI)) (ci := 4) (v := .int (S_67 0 0)) (C := RMo) (T := TMo) (N := 29) hx hb hc inMo hown hK hP 0 rfl rfl 14 (by decide) (hc _ w575) (fun _ h9 => h9) rfl dMo_block_129 ?_
              refine lv_iconst (v := 1) hx hb dMo_block_132 (by decide +kernel) ?_
              refine lv_iadd hx hb dMo_block_133 ?_
              refine va_put (D := (dC, dI)) (ci := 4) (v := .int ((S_67 0 0) + 1)) (ty := .int) (C := RMo) (T := TMo) (N := 29) hx hb hc inMo tyMo tyMo_ok nmMo hown hK hP hD hS 0 rfl rfl 14 (by decide) (hc _ w575) (fun _ h9 => h9) rfl (by decide +kernel) rfl rfl (Nat.le_of_ble_eq_true rfl) dMo_block_134 (fun H locs hP hD hS => ?_)
              obtain ⟨S_68, eS_68⟩ : ∃ z9 : Ss, z9 = row S_67 0 (upd (S_67 0) 0 ((S_67 0 0) + 1)) := ⟨_, rfl⟩
              have hP : va_P (dC, dI) vwCl (MW ad ca S_68 E_1) H := by rw [eS_68]; exact hP
              have hD : va_D A (MW ad ca S_68 E_1) := by rw [eS_68]; exact hD
              refine lv_aload_n hx hb dMo_block_137 rfl (lv_at hl 0 rfl) ?_
              refine va_get (D := (dC, dI)) (ci := 4) (v := .int (S_68 0 0)) (C := RMo) (T := TMo) (N := 29) hx hb hc inMo hown hK hP 0 rfl rfl 14 (by decide) (hc _ w575) (fun _ h9 => h9) rfl dMo_block_138 ?_
              refine lv_iconst (v := 1) hx hb dMo_block_141 (by decide +kernel) ?_
              refine lv_isub hx hb dMo_block_142 ?_
              exact W.iret (v := ((S_68 0 0) - 1)) hx hb hr (fun t ht hW => ⟨⟨_, (S_68, E_1), rfl, (by (try dsimp only) <;> exact (by have hO : oBlock S a b d = (0, (S_68 0 0) - 1, S_68) := (by unfold oBlock; rw [if_neg (fun h => h (by (try simp only [hr_2, hr_58, b2_0, b2_n, b2_1] at c_2); (try simp only [okB, wi, Int32.lt_iff_toInt_lt, Int32.le_iff_toInt_le, ← Int32.toInt_inj, Int32.reduceToInt] at c_2); (try simp only [hr_2, hr_58, b2_0, b2_n, b2_1] at c_5); (try simp only [okB, wi, Int32.lt_iff_toInt_lt, Int32.le_iff_toInt_le, ← Int32.toInt_inj, Int32.reduceToInt] at c_5); (try simp only [hr_2, hr_58, b2_0, b2_n, b2_1] at c_58); (try simp only [okB, wi, Int32.lt_iff_toInt_lt, Int32.le_iff_toInt_le, ← Int32.toInt_inj, Int32.reduceToInt] at c_58); (try simp only [hr_2, hr_58, b2_0, b2_n, b2_1] at c_61); (try simp only [okB, wi, Int32.lt_iff_toInt_lt, Int32.le_iff_toInt_le, ← Int32.toInt_inj, Int32.reduceToInt] at c_61); (try simp only [hr_2, hr_58, b2_0, b2_n, b2_1] at c_62); (try simp only [okB, wi, Int32.lt_iff_toInt_lt, Int32.le_iff_toInt_le, ← Int32.toInt_inj, Int32.reduceToInt] at c_62); (try simp only [okB, wi, Int32.lt_iff_toInt_lt, Int32.le_iff_toInt_le, ← Int32.toInt_inj, Int32.reduceToInt]); omega)), if_neg (Int32.not_le.mpr (by rw [em]; exact nI_lt hlt (by decide))), em, nI_clamp (by omega), eS_68, eS_67, eS_66, eS_65]; exact blk_eq em); rw [hO]; exact ⟨by rw [eE_1]; rfl, fun _ => rfl, rfl⟩)), by rw [ht]; exact hP, va_K.moved hW.alike hK, hD⟩, hS.F ht⟩) hS.2.2 dMo_block_143
            · refine lv_aload_n hx hb dMo_block_91 rfl (lv_at hl 0 rfl) ?_
              refine lv_iconst (v := 2) hx hb dMo_block_92 (by decide +kernel) ?_
              refine g_calli (va_runV (As := [.int 2]) (rest := []) ⟨hx, hb, hml, hown, hc⟩ (cMo_raise l dC dI ad ca H.size S E_1 2) (cwV 1 hc (gV w661 w663 s9 w5 qMo_raise) rfl rfl rfl (by decide +kernel) ⟨Nat.le_of_ble_eq_true rfl, Nat.le_of_ble_eq_true rfl⟩) ⟨gPre_blind, va_recv hK hP (ci := 4) (q0 := 0) rfl rfl, (gPre_in hP hK hD)⟩ rfl rfl hl.1 rfl (lv_room (Nat.le_of_ble_eq_true rfl)) dMo_block_93 ⟨Nat.zero_le _, Nat.zero_le _⟩) hD hS hA (fun r_70 u_69 H locs hu_69 hP hD hS => ?_)
              obtain ⟨S_69, E_69⟩ := u_69
              (try dsimp only at hu_69 hP hD)
              obtain ⟨hr9, hS9, hE9⟩ := hu_69
              subst S_69
              exact W.iret (v := r_70) hx hb hr (fun t ht hW => ⟨⟨_, (S, E_69), rfl, (by (try dsimp only) <;> exact (by have hO : oBlock S a b d = (2, 0, S) := (by unfold oBlock; rw [if_neg (fun h => h (by (try simp only [hr_2, hr_58, b2_0, b2_n, b2_1] at c_2); (try simp only [okB, wi, Int32.lt_iff_toInt_lt, Int32.le_iff_toInt_le, ← Int32.toInt_inj, Int32.reduceToInt] at c_2); (try simp only [hr_2, hr_58, b2_0, b2_n, b2_1] at c_5); (try simp only [okB, wi, Int32.lt_iff_toInt_lt, Int32.le_iff_toInt_le, ← Int32.toInt_inj, Int32.reduceToInt] at c_5); (try simp only [hr_2, hr_58, b2_0, b2_n, b2_1] at c_58); (try simp only [okB, wi, Int32.lt_iff_toInt_lt, Int32.le_iff_toInt_le, ← Int32.toInt_inj, Int32.reduceToInt] at c_58); (try simp only [hr_2, hr_58, b2_0, b2_n, b2_1] at c_61); (try simp only [okB, wi, Int32.lt_iff_toInt_lt, Int32.le_iff_toInt_le, ← Int32.toInt_inj, Int32.reduceToInt] at c_61); (try simp only [hr_2, hr_58, b2_0, b2_n, b2_1] at c_62); (try simp only [okB, wi, Int32.lt_iff_toInt_lt, Int32.le_iff_toInt_le, ← Int32.toInt_inj, Int32.reduceToInt] at c_62); (try simp only [okB, wi, Int32.lt_iff_toInt_lt, Int32.le_iff_toInt_le, ← Int32.toInt_inj, Int32.reduceToInt]); omega)), if_pos (by rw [c_63]; decide)]); rw [hO]; exact ⟨by rw [hE9]; rfl, fun h => absurd (show (2 : Int32) = 0 from h) (by decide), rfl⟩)), by rw [ht]; exact hP, va_K.moved hW.alike hK, hD⟩, hS.F ht⟩) hS.2.2 dMo_block_96
          · refine lv_iload_n hx hb dMo_block_56 rfl (lv_at hl 2 rfl) ?_
            refine lv_iconst (v := 0) hx hb dMo_block_57 (by decide +kernel) ?_
            refine lv_bipush (v := 7) hx hb dMo_block_58 (by decide +kernel) ?_
            refine vp_callSi (va_Run.run (va_runS (As := [.int b, .int 0, .int 7]) (rest := []) ⟨hx, hb, hml, hown, hc⟩ (cMo_in l b 0 7) (va_cwS 3 hc (g_S w658 w659 w5 qMo_in) rfl rfl rfl (by decide +kernel) ⟨Nat.le_of_ble_eq_true rfl, Nat.le_of_ble_eq_true rfl⟩) ⟨tPre_blind, tPre_in⟩ rfl rfl hl.1 rfl (lv_room (Nat.le_of_ble_eq_true rfl)) dMo_block_60 ⟨Nat.zero_le _, Nat.zero_le _⟩)) (fun r_71 hr_71 => ?_)
            refine lv_if_eq (tgt := 76) hx hb dMo_block_63 (by decide) (fun c_71 => ?_) (fun c_71 => ?_)
            · refine lv_aload_n hx hb dMo_block_76 rfl (lv_at hl 0 rfl) ?_
              refine lv_iconst (v := 1) hx hb dMo_block_77 (by decide +kernel) ?_
              refine g_calli (va_runV (As := [.int 1]) (rest := []) ⟨hx, hb, hml, hown, hc⟩ (cMo_raise l dC dI ad ca H.size S E_1 1) (cwV 1 hc (gV w661 w663 s9 w5 qMo_raise) rfl rfl rfl (by decide +kernel) ⟨Nat.le_of_ble_eq_true rfl, Nat.le_of_ble_eq_true rfl⟩) ⟨gPre_blind, va_recv hK hP (ci := 4) (q0 := 0) rfl rfl, (gPre_in hP hK hD)⟩ rfl rfl hl.1 rfl (lv_room (Nat.le_of_ble_eq_true rfl)) dMo_block_78 ⟨Nat.zero_le _, Nat.zero_le _⟩) hD hS hA (fun r_74 u_73 H locs hu_73 hP hD hS => ?_)
              obtain ⟨S_73, E_73⟩ := u_73
              (try dsimp only at hu_73 hP hD)
              obtain ⟨hr9, hS9, hE9⟩ := hu_73
              subst S_73
              exact W.iret (v := r_74) hx hb hr (fun t ht hW => ⟨⟨_, (S, E_73), rfl, (by (try dsimp only) <;> exact (by have hO : oBlock S a b d = (1, 0, S) := (by unfold oBlock; rw [if_pos (by (try simp only [hr_2, hr_58, hr_71, b2_0, b2_n, b2_1] at c_2); (try simp only [okB, wi, Int32.lt_iff_toInt_lt, Int32.le_iff_toInt_le, ← Int32.toInt_inj, Int32.reduceToInt] at c_2); (try simp only [hr_2, hr_58, hr_71, b2_0, b2_n, b2_1] at c_5); (try simp only [okB, wi, Int32.lt_iff_toInt_lt, Int32.le_iff_toInt_le, ← Int32.toInt_inj, Int32.reduceToInt] at c_5); (try simp only [hr_2, hr_58, hr_71, b2_0, b2_n, b2_1] at c_58); (try simp only [okB, wi, Int32.lt_iff_toInt_lt, Int32.le_iff_toInt_le, ← Int32.toInt_inj, Int32.reduceToInt] at c_58); (try simp only [hr_2, hr_58, hr_71, b2_0, b2_n, b2_1] at c_61); (try simp only [okB, wi, Int32.lt_iff_toInt_lt, Int32.le_iff_toInt_le, ← Int32.toInt_inj, Int32.reduceToInt] at c_61); (try simp only [hr_2, hr_58, hr_71, b2_0, b2_n, b2_1] at c_62); (try simp only [okB, wi, Int32.lt_iff_toInt_lt, Int32.le_iff_toInt_le, ← Int32.toInt_inj, Int32.reduceToInt] at c_62); (try simp only [hr_2, hr_58, hr_71, b2_0, b2_n, b2_1] at c_71); (try simp only [okB, wi, Int32.lt_iff_toInt_lt, Int32.le_iff_toInt_le, ← Int32.toInt_inj, Int32.reduceToInt] at c_71); (try simp only [okB, wi, Int32.lt_iff_toInt_lt, Int32.le_iff_toInt_le, ← Int32.toInt_inj, Int32.reduceToInt]); omega)]); rw [hO]; exact ⟨by rw [hE9]; rfl, fun h => absurd (show (1 : Int32) = 0 from h) (by decide), rfl⟩)), by rw [ht]; exact hP, va_K.moved hW.alike hK, hD⟩, hS.F ht⟩) hS.2.2 dMo_block_81
            · refine lv_iload_n hx hb dMo_block_66 rfl (lv_at hl 3 rfl) ?_
              refine lv_iconst (v := 0) hx hb dMo_block_67 (by decide +kernel) ?_
              refine lv_bipush (v := 7) hx hb dMo_block_68 (by decide +kernel) ?_
              refine vp_callSi (va_Run.run (va_runS (As := [.int d, .int 0, .int 7]) (rest := []) ⟨hx, hb, hml, hown, hc⟩ (cMo_in l d 0 7) (va_cwS 3 hc (g_S w658 w659 w5 qMo_in) rfl rfl rfl (by decide +kernel) ⟨Nat.le_of_ble_eq_true rfl, Nat.le_of_ble_eq_true rfl⟩) ⟨tPre_blind, tPre_in⟩ rfl rfl hl.1 rfl (lv_room (Nat.le_of_ble_eq_true rfl)) dMo_block_70 ⟨Nat.zero_le _, Nat.zero_le _⟩)) (fun r_75 hr_75 => ?_)
              refine lv_if_ne (tgt := 82) hx hb dMo_block_73 (by decide) (fun c_75 => ?_) (fun c_75 => ?_)
              · refine lv_aload_n hx hb dMo_block_82 rfl (lv_at hl 0 rfl) ?_
                refine va_get (D := (dC, dI)) (ci := 4) (v := .int (S 0 0)) (C := RMo) (T := TMo) (N := 29) hx hb hc inMo hown hK hP 0 rfl rfl 14 (by decide) (hc _ w575) (fun _ h9 => h9) rfl dMo_block_83 ?_
                refine lv_bipush (v := 10) hx hb dMo_block_86 (by decide +kernel) ?_
                refine lv_icmp_ne (tgt := 97) hx hb dMo_block_88 (by decide) (fun c_76 => ?_) (fun c_76 => ?_)
                · have hlt : m0 < 10 := by rw [em] at c_76; exact Nat.lt_of_le_of_ne hm (fun z => c_76 (by rw [z]; rfl))
                  refine lv_aload_n hx hb dMo_block_97 rfl (lv_at hl 0 rfl) ?_
                  refine va_get (D := (dC, dI)) (ci := 4) (v := .ref (ad 6)) (C := RMo) (T := TMo) (N := 29) hx hb hc inMo hown hK hP 0 rfl rfl 6 (by decide) (hc _ w567) (fun _ h9 => h9) rfl dMo_block_98 ?_
                  refine lv_aload_n hx hb dMo_block_101 rfl (lv_at hl 0 rfl) ?_
                  refine va_get (D := (dC, dI)) (ci := 4) (v := .int (S 0 0)) (C := RMo) (T := TMo) (N := 29) hx hb hc inMo hown hK hP 0 rfl rfl 14 (by decide) (hc _ w575) (fun _ h9 => h9) rfl dMo_block_102 ?_
                  refine W.eq (g2 := F0 m 105 ls [.int (nI m0), .ref (ad 6)]) (by rw [show S 0 0 = nI m0 from em]) ?_
                  refine lv_iload_n hx hb dMo_block_105 rfl (lv_at hl 1 rfl) ?_
                  refine va_iast hx hb hK hP hD hS 6 5 rfl rfl (vp_in_nI (by omega) (by decide)) dMo_block_106 (fun H locs hP hD hS => ?_)
                  rw [nI_clamp (by omega)] at hP hD
                  obtain ⟨S_78, eS_78⟩ : ∃ z9 : Ss, z9 = row S 14 (upd (S 14) m0 a) := ⟨_, rfl⟩
                  have hP : va_P (dC, dI) vwCl (MW ad ca S_78 E_1) H := by rw [eS_78]; exact hP
                  have hD : va_D A (MW ad ca S_78 E_1) := by rw [eS_78]; exact hD
                  refine lv_aload_n hx hb dMo_block_107 rfl (lv_at hl 0 rfl) ?_
                  refine va_get (D := (dC, dI)) (ci := 4) (v := .ref (ad 7)) (C := RMo) (T := TMo) (N := 29) hx hb hc inMo hown hK hP 0 rfl rfl 7 (by decide) (hc _ w568) (fun _ h9 => h9) rfl dMo_block_108 ?_
                  refine lv_aload_n hx hb dMo_block_111 rfl (lv_at hl 0 rfl) ?_
                  refine va_get (D := (dC, dI)) (ci := 4) (v := .int (S_78 0 0)) (C := RMo) (T := TMo) (N := 29) hx hb hc inMo hown hK hP 0 rfl rfl 14 (by decide) (hc _ w575) (fun _ h9 => h9) rfl dMo_block_112 ?_
                  refine W.eq (g2 := F0 m 115 ls [.int (nI m0), .ref (ad 7)]) (by rw [show S_78 0 0 = nI m0 from by rw [eS_78]; exact em]) ?_
                  refine lv_iload_n hx hb dMo_block_115 rfl (lv_at hl 2 rfl) ?_
                  refine va_iast hx hb hK hP hD hS 7 6 rfl rfl (vp_in_nI (by omega) (by decide)) dMo_block_116 (fun H locs hP hD hS => ?_)
                  rw [nI_clamp (by omega)] at hP hD
                  obtain ⟨S_79, eS_79⟩ : ∃ z9 : Ss, z9 = row S_78 15 (upd (S_78 15) m0 b) := ⟨_, rfl⟩
                  have hP : va_P (dC, dI) vwCl (MW ad ca S_79 E_1) H := by rw [eS_79]; exact hP
                  have hD : va_D A (MW ad ca S_79 E_1) := by rw [eS_79]; exact hD
                  refine lv_aload_n hx hb dMo_block_117 rfl (lv_at hl 0 rfl) ?_
                  refine va_get (D := (dC, dI)) (ci := 4) (v := .ref (ad 8)) (C := RMo) (T := TMo) (N := 29) hx hb hc inMo hown hK hP 0 rfl rfl 8 (by decide) (hc _ w569) (fun _ h9 => h9) rfl dMo_block_118 ?_
                  refine lv_aload_n hx hb dMo_block_121 rfl (lv_at hl 0 rfl) ?_
                  refine va_get (D := (dC, dI)) (ci := 4) (v := .int (S_79 0 0)) (C := RMo) (T := TMo) (N := 29) hx hb hc inMo hown hK hP 0 rfl rfl 14 (by decide) (hc _ w575) (fun _ h9 => h9) rfl dMo_block_122 ?_
                  refine W.eq (g2 := F0 m 125 ls [.int (nI m0), .ref (ad 8)]) (by rw [show S_79 0 0 = nI m0 from by rw [eS_79, eS_78]; exact em]) ?_
                  refine lv_iload_n hx hb dMo_block_125 rfl (lv_at hl 3 rfl) ?_
                  refine va_iast hx hb hK hP hD hS 8 7 rfl rfl (vp_in_nI (by omega) (by decide)) dMo_block_126 (fun H locs hP hD hS => ?_)
                  rw [nI_clamp (by omega)] at hP hD
                  obtain ⟨S_80, eS_80⟩ : ∃ z9 : Ss, z9 = row S_79 16 (upd (S_79 16) m0 d) := ⟨_, rfl⟩
                  have hP : va_P (dC, dI) vwCl (MW ad ca S_80 E_1) H := by rw [eS_80]; exact hP
                  have hD : va_D A (MW ad ca S_80 E_1) := by rw [eS_80]; exact hD
                  refine lv_aload_n hx hb dMo_block_127 rfl (lv_at hl 0 rfl) ?_
                  refine lv_dup hx hb dMo_block_128 rfl ?_
                  refine va_get (D := (dC, dI)) (ci := 4) (v := .int (S_80 0 0)) (C := RMo) (T := TMo) (N := 29) hx hb hc inMo hown hK hP 0 rfl rfl 14 (by decide) (hc _ w575) (fun _ h9 => h9) rfl dMo_block_129 ?_
                  refine lv_iconst (v := 1) hx hb dMo_block_132 (by decide +kernel) ?_
                  refine lv_iadd hx hb dMo_block_133 ?_
                  refine va_put (D := (dC, dI)) (ci := 4) (v := .int ((S_80 0 0) + 1)) (ty := .int) (C := RMo) (T := TMo) (N := 29) hx hb hc inMo tyMo tyMo_ok nmMo hown hK hP hD hS 0 rfl rfl 14 (by decide) (hc _ w575) (fun _ h9 => h9) rfl (by decide +kernel) rfl rfl (Nat.le_of_ble_eq_true rfl) dMo_block_134 (fun H locs hP hD hS => ?_)
                  obtain ⟨S_81, eS_81⟩ : ∃ z9 : Ss, z9 = row S_80 0 (upd (S_80 0) 0 ((S_80 0 0) + 1)) := ⟨_, rfl⟩
                  have hP : va_P (dC, dI) vwCl (MW ad ca S_81 E_1) H := by rw [eS_81]; exact hP
                  have hD : va_D A (MW ad ca S_81 E_1) := by rw [eS_81]; exact hD
                  refine lv_aload_n hx hb dMo_block_137 rfl (lv_at hl 0 rfl) ?_
                  refine va_get (D := (dC, dI)) (ci := 4) (v := .int (S_81 0 0)) (C := RMo) (T := TMo) (N := 29) hx hb hc inMo hown hK hP 0 rfl rfl 14 (by decide) (hc _ w575) (fun _ h9 => h9) rfl dMo_block_138 ?_
                  refine lv_iconst (v := 1) hx hb dMo_block_141 (by decide +kernel) ?_
                  refine lv_isub hx hb dMo_block_142 ?_
                  exact W.iret (v := ((S_81 0 0) - 1)) hx hb hr (fun t ht hW => ⟨⟨_, (S_81, E_1), rfl, (by (try dsimp only) <;> exact (by have hO : oBlock S a b d = (0, (S_81 0 0) - 1, S_81) := (by unfold oBlock; rw [if_neg (fun h => h (by (try simp only [hr_2, hr_58, hr_71, hr_75, b2_0, b2_n, b2_1] at c_2); (try simp only [okB, wi, Int32.lt_iff_toInt_lt, Int32.le_iff_toInt_le, ← Int32.toInt_inj, Int32.reduceToInt] at c_2); (try simp only [hr_2, hr_58, hr_71, hr_75, b2_0, b2_n, b2_1] at c_5); (try simp only [okB, wi, Int32.lt_iff_toInt_lt, Int32.le_iff_toInt_le, ← Int32.toInt_inj, Int32.reduceToInt] at c_5); (try simp only [hr_2, hr_58, hr_71, hr_75, b2_0, b2_n, b2_1] at c_58); (try simp only [okB, wi, Int32.lt_iff_toInt_lt, Int32.le_iff_toInt_le, ← Int32.toInt_inj, Int32.reduceToInt] at c_58); (try simp only [hr_2, hr_58, hr_71, hr_75, b2_0, b2_n, b2_1] at c_61); (try simp only [okB, wi, Int32.lt_iff_toInt_lt, Int32.le_iff_toInt_le, ← Int32.toInt_inj, Int32.reduceToInt] at c_61); (try simp only [hr_2, hr_58, hr_71, hr_75, b2_0, b2_n, b2_1] at c_62); (try simp only [okB, wi, Int32.lt_iff_toInt_lt, Int32.le_iff_toInt_le, ← Int32.toInt_inj, Int32.reduceToInt] at c_62); (try simp only [hr_2, hr_58, hr_71, hr_75, b2_0, b2_n, b2_1] at c_71); (try simp only [okB, wi, Int32.lt_iff_toInt_lt, Int32.le_iff_toInt_le, ← Int32.toInt_inj, Int32.reduceToInt] at c_71); (try simp only [hr_2, hr_58, hr_71, hr_75, b2_0, b2_n, b2_1] at c_75); (try simp only [okB, wi, Int32.lt_iff_toInt_lt, Int32.le_iff_toInt_le, ← Int32.toInt_inj, Int32.reduceToInt] at c_75); (try simp only [okB, wi, Int32.lt_iff_toInt_lt, Int32.le_iff_toInt_le, ← Int32.toInt_inj, Int32.reduceToInt]); omega)), if_neg (Int32.not_le.mpr (by rw [em]; exact nI_lt hlt (by decide))), em, nI_clamp (by omega), eS_81, eS_80, eS_79, eS_78]; exact blk_eq em); rw [hO]; exact ⟨by rw [eE_1]; rfl, fun _ => rfl, rfl⟩)), by rw [ht]; exact hP, va_K.moved hW.alike hK, hD⟩, hS.F ht⟩) hS.2.2 dMo_block_143
                · refine lv_aload_n hx hb dMo_block_91 rfl (lv_at hl 0 rfl) ?_
                  refine lv_iconst (v := 2) hx hb dMo_block_92 (by decide +kernel) ?_
                  refine g_calli (va_runV (As := [.int 2]) (rest := []) ⟨hx, hb, hml, hown, hc⟩ (cMo_raise l dC dI ad ca H.size S E_1 2) (cwV 1 hc (gV w661 w663 s9 w5 qMo_raise) rfl rfl rfl (by decide +kernel) ⟨Nat.le_of_ble_eq_true rfl, Nat.le_of_ble_eq_true rfl⟩) ⟨gPre_blind, va_recv hK hP (ci := 4) (q0 := 0) rfl rfl, (gPre_in hP hK hD)⟩ rfl rfl hl.1 rfl (lv_room (Nat.le_of_ble_eq_true rfl)) dMo_block_93 ⟨Nat.zero_le _, Nat.zero_le _⟩) hD hS hA (fun r_83 u_82 H locs hu_82 hP hD hS => ?_)
                  obtain ⟨S_82, E_82⟩ := u_82
                  (try dsimp only at hu_82 hP hD)
                  obtain ⟨hr9, hS9, hE9⟩ := hu_82
                  subst S_82
                  exact W.iret (v := r_83) hx hb hr (fun t ht hW => ⟨⟨_, (S, E_82), rfl, (by (try dsimp only) <;> exact (by have hO : oBlock S a b d = (2, 0, S) := (by unfold oBlock; rw [if_neg (fun h => h (by (try simp only [hr_2, hr_58, hr_71, hr_75, b2_0, b2_n, b2_1] at c_2); (try simp only [okB, wi, Int32.lt_iff_toInt_lt, Int32.le_iff_toInt_le, ← Int32.toInt_inj, Int32.reduceToInt] at c_2); (try simp only [hr_2, hr_58, hr_71, hr_75, b2_0, b2_n, b2_1] at c_5); (try simp only [okB, wi, Int32.lt_iff_toInt_lt, Int32.le_iff_toInt_le, ← Int32.toInt_inj, Int32.reduceToInt] at c_5); (try simp only [hr_2, hr_58, hr_71, hr_75, b2_0, b2_n, b2_1] at c_58); (try simp only [okB, wi, Int32.lt_iff_toInt_lt, Int32.le_iff_toInt_le, ← Int32.toInt_inj, Int32.reduceToInt] at c_58); (try simp only [hr_2, hr_58, hr_71, hr_75, b2_0, b2_n, b2_1] at c_61); (try simp only [okB, wi, Int32.lt_iff_toInt_lt, Int32.le_iff_toInt_le, ← Int32.toInt_inj, Int32.reduceToInt] at c_61); (try simp only [hr_2, hr_58, hr_71, hr_75, b2_0, b2_n, b2_1] at c_62); (try simp only [okB, wi, Int32.lt_iff_toInt_lt, Int32.le_iff_toInt_le, ← Int32.toInt_inj, Int32.reduceToInt] at c_62); (try simp only [hr_2, hr_58, hr_71, hr_75, b2_0, b2_n, b2_1] at c_71); (try simp only [okB, wi, Int32.lt_iff_toInt_lt, Int32.le_iff_toInt_le, ← Int32.toInt_inj, Int32.reduceToInt] at c_71); (try simp only [hr_2, hr_58, hr_71, hr_75, b2_0, b2_n, b2_1] at c_75); (try simp only [okB, wi, Int32.lt_iff_toInt_lt, Int32.le_iff_toInt_le, ← Int32.toInt_inj, Int32.reduceToInt] at c_75); (try simp only [okB, wi, Int32.lt_iff_toInt_lt, Int32.le_iff_toInt_le, ← Int32.toInt_inj, Int32.reduceToInt]); omega)), if_pos (by rw [c_76]; decide)]); rw [hO]; exact ⟨by rw [hE9]; rfl, fun h => absurd (show (2 : Int32) = 0 from h) (by decide), rfl⟩)), by rw [ht]; exact hP, va_K.moved hW.alike hK, hD⟩, hS.F ht⟩) hS.2.2 dMo_block_96
              · refine lv_aload_n hx hb dMo_block_76 rfl (lv_at hl 0 rfl) ?_
                refine lv_iconst (v := 1) hx hb dMo_block_77 (by decide +kernel) ?_
                refine g_calli (va_runV (As := [.int 1]) (rest := []) ⟨hx, hb, hml, hown, hc⟩ (cMo_raise l dC dI ad ca H.size S E_1 1) (cwV 1 hc (gV w661 w663 s9 w5 qMo_raise) rfl rfl rfl (by decide +kernel) ⟨Nat.le_of_ble_eq_true rfl, Nat.le_of_ble_eq_true rfl⟩) ⟨gPre_blind, va_recv hK hP (ci := 4) (q0 := 0) rfl rfl, (gPre_in hP hK hD)⟩ rfl rfl hl.1 rfl (lv_room (Nat.le_of_ble_eq_true rfl)) dMo_block_78 ⟨Nat.zero_le _, Nat.zero_le _⟩) hD hS hA (fun r_85 u_84 H locs hu_84 hP hD hS => ?_)
                obtain ⟨S_84, E_84⟩ := u_84
                (try dsimp only at hu_84 hP hD)
                obtain ⟨hr9, hS9, hE9⟩ := hu_84
                subst S_84
                exact W.iret (v := r_85) hx hb hr (fun t ht hW => ⟨⟨_, (S, E_84), rfl, (by (try dsimp only) <;> exact (by have hO : oBlock S a b d = (1, 0, S) := (by unfold oBlock; rw [if_pos (by (try simp only [hr_2, hr_58, hr_71, hr_75, b2_0, b2_n, b2_1] at c_2); (try simp only [okB, wi, Int32.lt_iff_toInt_lt, Int32.le_iff_toInt_le, ← Int32.toInt_inj, Int32.reduceToInt] at c_2); (try simp only [hr_2, hr_58, hr_71, hr_75, b2_0, b2_n, b2_1] at c_5); (try simp only [okB, wi, Int32.lt_iff_toInt_lt, Int32.le_iff_toInt_le, ← Int32.toInt_inj, Int32.reduceToInt] at c_5); (try simp only [hr_2, hr_58, hr_71, hr_75, b2_0, b2_n, b2_1] at c_58); (try simp only [okB, wi, Int32.lt_iff_toInt_lt, Int32.le_iff_toInt_le, ← Int32.toInt_inj, Int32.reduceToInt] at c_58); (try simp only [hr_2, hr_58, hr_71, hr_75, b2_0, b2_n, b2_1] at c_61); (try simp only [okB, wi, Int32.lt_iff_toInt_lt, Int32.le_iff_toInt_le, ← Int32.toInt_inj, Int32.reduceToInt] at c_61); (try simp only [hr_2, hr_58, hr_71, hr_75, b2_0, b2_n, b2_1] at c_62); (try simp only [okB, wi, Int32.lt_iff_toInt_lt, Int32.le_iff_toInt_le, ← Int32.toInt_inj, Int32.reduceToInt] at c_62); (try simp only [hr_2, hr_58, hr_71, hr_75, b2_0, b2_n, b2_1] at c_71); (try simp only [okB, wi, Int32.lt_iff_toInt_lt, Int32.le_iff_toInt_le, ← Int32.toInt_inj, Int32.reduceToInt] at c_71); (try simp only [hr_2, hr_58, hr_71, hr_75, b2_0, b2_n, b2_1] at c_75); (try simp only [okB, wi, Int32.lt_iff_toInt_lt, Int32.le_iff_toInt_le, ← Int32.toInt_inj, Int32.reduceToInt] at c_75); (try simp only [okB, wi, Int32.lt_iff_toInt_lt, Int32.le_iff_toInt_le, ← Int32.toInt_inj, Int32.reduceToInt]); omega)]); rw [hO]; exact ⟨by rw [hE9]; rfl, fun h => absurd (show (1 : Int32) = 0 from h) (by decide), rfl⟩)), by rw [ht]; exact hP, va_K.moved hW.alike hK, hD⟩, hS.F ht⟩) hS.2.2 dMo_block_81
        · refine lv_iload_n hx hb dMo_block_35 rfl (lv_at hl 3 rfl) ?_
          refine lv_iconst (v := 0) hx hb dMo_block_36 (by decide +kernel) ?_
          refine lv_bipush (v := 31) hx hb dMo_block_37 (by decide +kernel) ?_
          refine vp_callSi (va_Run.run (va_runS (As := [.int d, .int 0, .int 31]) (rest := []) ⟨hx, hb, hml, hown, hc⟩ (cMo_in l d 0 31) (va_cwS 3 hc (g_S w658 w659 w5 qMo_in) rfl rfl rfl (by decide +kernel) ⟨Nat.le_of_ble_eq_true rfl, Nat.le_of_ble_eq_true rfl⟩) ⟨tPre_blind, tPre_in⟩ rfl rfl hl.1 rfl (lv_room (Nat.le_of_ble_eq_true rfl)) dMo_block_39 ⟨Nat.zero_le _, Nat.zero_le _⟩)) (fun r_86 hr_86 => ?_)
          refine lv_if_ne (tgt := 51) hx hb dMo_block_42 (by decide) (fun c_86 => ?_) (fun c_86 => ?_)
          · refine lv_iload_n hx hb dMo_block_51 rfl (lv_at hl 1 rfl) ?_
            refine lv_iconst (v := 4) hx hb dMo_block_52 (by decide +kernel) ?_
            refine lv_icmp_le (tgt := 82) hx hb dMo_block_53 (by decide) (fun c_87 => ?_) (fun c_87 => ?_)
            · refine lv_aload_n hx hb dMo_block_82 rfl (lv_at hl 0 rfl) ?_
              refine va_get (D := (dC, dI)) (ci := 4) (v := .int (S 0 0)) (C := RMo) (T := TMo) (N := 29) hx hb hc inMo hown hK hP 0 rfl rfl 14 (by decide) (hc _ w575) (fun _ h9 => h9) rfl dMo_block_83 ?_
              refine lv_bipush (v := 10) hx hb dMo_block_86 (by decide +kernel) ?_
              refine lv_icmp_ne (tgt := 97) hx hb dMo_block_88 (by decide) (fun c_88 => ?_) (fun c_88 => ?_)
              · have hlt : m0 < 10 := by rw [em] at c_88; exact Nat.lt_of_le_of_ne hm (fun z => c_88 (by rw [z]; rfl))
                refine lv_aload_n hx hb dMo_block_97 rfl (lv_at hl 0 rfl) ?_
                refine va_get (D := (dC, dI)) (ci := 4) (v := .ref (ad 6)) (C := RMo) (T := TMo) (N := 29) hx hb hc inMo hown hK hP 0 rfl rfl 6 (by decide) (hc _ w567) (fun _ h9 => h9) rfl dMo_block_98 ?_
                refine lv_aload_n hx hb dMo_block_101 rfl (lv_at hl 0 rfl) ?_
                refine va_get (D := (dC, dI)) (ci := 4) (v := .int (S 0 0)) (C := RMo) (T := TMo) (N := 29) hx hb hc inMo hown hK hP 0 rfl rfl 14 (by decide) (hc _ w575) (fun _ h9 => h9) rfl dMo_block_102 ?_
                refine W.eq (g2 := F0 m 105 ls [.int (nI m0), .ref (ad 6)]) (by rw [show S 0 0 = nI m0 from em]) ?_
                refine lv_iload_n hx hb dMo_block_105 rfl (lv_at hl 1 rfl) ?_
                refine va_iast hx hb hK hP hD hS 6 5 rfl rfl (vp_in_nI (by omega) (by decide)) dMo_block_106 (fun H locs hP hD hS => ?_)
                rw [nI_clamp (by omega)] at hP hD
                obtain ⟨S_90, eS_90⟩ : ∃ z9 : Ss, z9 = row S 14 (upd (S 14) m0 a) := ⟨_, rfl⟩
                have hP : va_P (dC, dI) vwCl (MW ad ca S_90 E_1) H := by rw [eS_90]; exact hP
                have hD : va_D A (MW ad ca S_90 E_1) := by rw [eS_90]; exact hD
                refine lv_aload_n hx hb dMo_block_107 rfl (lv_at hl 0 rfl) ?_
                refine va_get (D := (dC, dI)) (ci := 4) (v := .ref (ad 7)) (C := RMo) (T := TMo) (N := 29) hx hb hc inMo hown hK hP 0 rfl rfl 7 (by decide) (hc _ w568) (fun _ h9 => h9) rfl dMo_block_108 ?_
                refine lv_aload_n hx hb dMo_block_111 rfl (lv_at hl 0 rfl) ?_
                refine va_get (D := (dC, dI)) (ci := 4) (v := .int (S_90 0 0)) (C := RMo) (T := TMo) (N := 29) hx hb hc inMo hown hK hP 0 rfl rfl 14 (by decide) (hc _ w575) (fun _ h9 => h9) rfl dMo_block_112 ?_
                refine W.eq (g2 := F0 m 115 ls [.int (nI m0), .ref (ad 7)]) (by rw [show S_90 0 0 = nI m0 from by rw [eS_90]; exact em]) ?_
                refine lv_iload_n hx hb dMo_block_115 rfl (lv_at hl 2 rfl) ?_
                refine va_iast hx hb hK hP hD hS 7 6 rfl rfl (vp_in_nI (by omega) (by decide)) dMo_block_116 (fun H locs hP hD hS => ?_)
                rw [nI_clamp (by omega)] at hP hD
                obtain ⟨S_91, eS_91⟩ : ∃ z9 : Ss, z9 = row S_90 15 (upd (S_90 15) m0 b) := ⟨_, rfl⟩
                have hP : va_P (dC, dI) vwCl (MW ad ca S_91 E_1) H := by rw [eS_91]; exact hP
                have hD : va_D A (MW ad ca S_91 E_1) := by rw [eS_91]; exact hD
                refine lv_aload_n hx hb dMo_block_117 rfl (lv_at hl 0 rfl) ?_
                refine va_get (D := (dC, dI)) (ci := 4) (v := .ref (ad 8)) (C := RMo) (T := TMo) (N := 29) hx hb hc inMo hown hK hP 0 rfl rfl 8 (by decide) (hc _ w569) (fun _ h9 => h9) rfl dMo_block_118 ?_
                refine lv_aload_n hx hb dMo_block_121 rfl (lv_at hl 0 rfl) ?_
                refine va_get (D := (dC, dI)) (ci := 4) (v := .int (S_91 0 0)) (C := RMo) (T := TMo) (N := 29) hx hb hc inMo hown hK hP 0 rfl rfl 14 (by decide) (hc _ w575) (fun _ h9 => h9) rfl dMo_block_122 ?_
                refine W.eq (g2 := F0 m 125 ls [.int (nI m0), .ref (ad 8)]) (by rw [show S_91 0 0 = nI m0 from by rw [eS_91, eS_90]; exact em]) ?_
                refine lv_iload_n hx hb dMo_block_125 rfl (lv_at hl 3 rfl) ?_
                refine va_iast hx hb hK hP hD hS 8 7 rfl rfl (vp_in_nI (by omega) (by decide)) dMo_block_126 (fun H locs hP hD hS => ?_)
                rw [nI_clamp (by omega)] at hP hD
                obtain ⟨S_92, eS_92⟩ : ∃ z9 : Ss, z9 = row S_91 16 (upd (S_91 16) m0 d) := ⟨_, rfl⟩
                have hP : va_P (dC, dI) vwCl (MW ad ca S_92 E_1) H := by rw [eS_92]; exact hP
                have hD : va_D A (MW ad ca S_92 E_1) := by rw [eS_92]; exact hD
                refine lv_aload_n hx hb dMo_block_127 rfl (lv_at hl 0 rfl) ?_
                refine lv_dup hx hb dMo_block_128 rfl ?_
                refine va_get (D := (dC, dI)) (ci := 4) (v := .int (S_92 0 0)) (C := RMo) (T := TMo) (N := 29) hx hb hc inMo hown hK hP 0 rfl rfl 14 (by decide) (hc _ w575) (fun _ h9 => h9) rfl dMo_block_129 ?_
                refine lv_iconst (v := 1) hx hb dMo_block_132 (by decide +kernel) ?_
                refine lv_iadd hx hb dMo_block_133 ?_
                refine va_put (D := (dC, dI)) (ci := 4) (v := .int ((S_92 0 0) + 1)) (ty := .int) (C := RMo) (T := TMo) (N := 29) hx hb hc inMo tyMo tyMo_ok nmMo hown hK hP hD hS 0 rfl rfl 14 (by decide) (hc _ w575) (fun _ h9 => h9) rfl (by decide +kernel) rfl rfl (Nat.le_of_ble_eq_true rfl) dMo_block_134 (fun H locs hP hD hS => ?_)
                obtain ⟨S_93, eS_93⟩ : ∃ z9 : Ss, z9 = row S_92 0 (upd (S_92 0) 0 ((S_92 0 0) + 1)) := ⟨_, rfl⟩
                have hP : va_P (dC, dI) vwCl (MW ad ca S_93 E_1) H := by rw [eS_93]; exact hP
                have hD : va_D A (MW ad ca S_93 E_1) := by rw [eS_93]; exact hD
                refine lv_aload_n hx hb dMo_block_137 rfl (lv_at hl 0 rfl) ?_
                refine va_get (D := (dC, dI)) (ci := 4) (v := .int (S_93 0 0)) (C := RMo) (T := TMo) (N := 29) hx hb hc inMo hown hK hP 0 rfl rfl 14 (by decide) (hc _ w575) (fun _ h9 => h9) rfl dMo_block_138 ?_
                refine lv_iconst (v := 1) hx hb dMo_block_141 (by decide +kernel) ?_
                refine lv_isub hx hb dMo_block_142 ?_
                exact W.iret (v := ((S_93 0 0) - 1)) hx hb hr (fun t ht hW => ⟨⟨_, (S_93, E_1), rfl, (by (try dsimp only) <;> exact (by have hO : oBlock S a b d = (0, (S_93 0 0) - 1, S_93) := (by unfold oBlock; rw [if_neg (fun h => h (by (try simp only [hr_2, hr_58, hr_86, b2_0, b2_n, b2_1] at c_2); (try simp only [okB, wi, Int32.lt_iff_toInt_lt, Int32.le_iff_toInt_le, ← Int32.toInt_inj, Int32.reduceToInt] at c_2); (try simp only [hr_2, hr_58, hr_86, b2_0, b2_n, b2_1] at c_5); (try simp only [okB, wi, Int32.lt_iff_toInt_lt, Int32.le_iff_toInt_le, ← Int32.toInt_inj, Int32.reduceToInt] at c_5); (try simp only [hr_2, hr_58, hr_86, b2_0, b2_n, b2_1] at c_58); (try simp only [okB, wi, Int32.lt_iff_toInt_lt, Int32.le_iff_toInt_le, ← Int32.toInt_inj, Int32.reduceToInt] at c_58); (try simp only [hr_2, hr_58, hr_86, b2_0, b2_n, b2_1] at c_61); (try simp only [okB, wi, Int32.lt_iff_toInt_lt, Int32.le_iff_toInt_le, ← Int32.toInt_inj, Int32.reduceToInt] at c_61); (try simp only [hr_2, hr_58, hr_86, b2_0, b2_n, b2_1] at c_86); (try simp only [okB, wi, Int32.lt_iff_toInt_lt, Int32.le_iff_toInt_le, ← Int32.toInt_inj, Int32.reduceToInt] at c_86); (try simp only [hr_2, hr_58, hr_86, b2_0, b2_n, b2_1] at c_87); (try simp only [okB, wi, Int32.lt_iff_toInt_lt, Int32.le_iff_toInt_le, ← Int32.toInt_inj, Int32.reduceToInt] at c_87); (try simp only [okB, wi, Int32.lt_iff_toInt_lt, Int32.le_iff_toInt_le, ← Int32.toInt_inj, Int32.reduceToInt]); omega)), if_neg (Int32.not_le.mpr (by rw [em]; exact nI_lt hlt (by decide))), em, nI_clamp (by omega), eS_93, eS_92, eS_91, eS_90]; exact blk_eq em); rw [hO]; exact ⟨by rw [eE_1]; rfl, fun _ => rfl, rfl⟩)), by rw [ht]; exact hP, va_K.moved hW.alike hK, hD⟩, hS.F ht⟩) hS.2.2 dMo_block_143
              · refine lv_aload_n hx hb dMo_block_91 rfl (lv_at hl 0 rfl) ?_
                refine lv_iconst (v := 2) hx hb dMo_block_92 (by decide +kernel) ?_
                refine g_calli (va_runV (As := [.int 2]) (rest := []) ⟨hx, hb, hml, hown, hc⟩ (cMo_raise l dC dI ad ca H.size S E_1 2) (cwV 1 hc (gV w661 w663 s9 w5 qMo_raise) rfl rfl rfl (by decide +kernel) ⟨Nat.le_of_ble_eq_true rfl, Nat.le_of_ble_eq_true rfl⟩) ⟨gPre_blind, va_recv hK hP (ci := 4) (q0 := 0) rfl rfl, (gPre_in hP hK hD)⟩ rfl rfl hl.1 rfl (lv_room (Nat.le_of_ble_eq_true rfl)) dMo_block_93 ⟨Nat.zero_le _, Nat.zero_le _⟩) hD hS hA (fun r_95 u_94 H locs hu_94 hP hD hS => ?_)
                obtain ⟨S_94, E_94⟩ := u_94
                (try dsimp only at hu_94 hP hD)
                obtain ⟨hr9, hS9, hE9⟩ := hu_94
                subst S_94
                exact W.iret (v := r_95) hx hb hr (fun t ht hW => ⟨⟨_, (S, E_94), rfl, (by (try dsimp only) <;> exact (by have hO : oBlock S a b d = (2, 0, S) := (by unfold oBlock; rw [if_neg (fun h => h (by (try simp only [hr_2, hr_58, hr_86, b2_0, b2_n, b2_1] at c_2); (try simp only [okB, wi, Int32.lt_iff_toInt_lt, Int32.le_iff_toInt_le, ← Int32.toInt_inj, Int32.reduceToInt] at c_2); (try simp only [hr_2, hr_58, hr_86, b2_0, b2_n, b2_1] at c_5); (try simp only [okB, wi, Int32.lt_iff_toInt_lt, Int32.le_iff_toInt_le, ← Int32.toInt_inj, Int32.reduceToInt] at c_5); (try simp only [hr_2, hr_58, hr_86, b2_0, b2_n, b2_1] at c_58); (try simp only [okB, wi, Int32.lt_iff_toInt_lt, Int32.le_iff_toInt_le, ← Int32.toInt_inj, Int32.reduceToInt] at c_58); (try simp only [hr_2, hr_58, hr_86, b2_0, b2_n, b2_1] at c_61); (try simp only [okB, wi, Int32.lt_iff_toInt_lt, Int32.le_iff_toInt_le, ← Int32.toInt_inj, Int32.reduceToInt] at c_61); (try simp only [hr_2, hr_58, hr_86, b2_0, b2_n, b2_1] at c_86); (try simp only [okB, wi, Int32.lt_iff_toInt_lt, Int32.le_iff_toInt_le, ← Int32.toInt_inj, Int32.reduceToInt] at c_86); (try simp only [hr_2, hr_58, hr_86, b2_0, b2_n, b2_1] at c_87); (try simp only [okB, wi, Int32.lt_iff_toInt_lt, Int32.le_iff_toInt_le, ← Int32.toInt_inj, Int32.reduceToInt] at c_87); (try simp only [okB, wi, Int32.lt_iff_toInt_lt, Int32.le_iff_toInt_le, ← Int32.toInt_inj, Int32.reduceToInt]); omega)), if_pos (by rw [c_88]; decide)]); rw [hO]; exact ⟨by rw [hE9]; rfl, fun h => absurd (show (2 : Int32) = 0 from h) (by decide), rfl⟩)), by rw [ht]; exact hP, va_K.moved hW.alike hK, hD⟩, hS.F ht⟩) hS.2.2 dMo_block_96
            · refine lv_iload_n hx hb dMo_block_56 rfl (lv_at hl 2 rfl) ?_
              refine lv_iconst (v := 0) hx hb dMo_block_57 (by decide +kernel) ?_
              refine lv_bipush (v := 7) hx hb dMo_block_58 (by decide +kernel) ?_
              refine vp_callSi (va_Run.run (va_runS (As := [.int b, .int 0, .int 7]) (rest := []) ⟨hx, hb, hml, hown, hc⟩ (cMo_in l b 0 7) (va_cwS 3 hc (g_S w658 w659 w5 qMo_in) rfl rfl rfl (by decide +kernel) ⟨Nat.le_of_ble_eq_true rfl, Nat.le_of_ble_eq_true rfl⟩) ⟨tPre_blind, tPre_in⟩ rfl rfl hl.1 rfl (lv_room (Nat.le_of_ble_eq_true rfl)) dMo_block_60 ⟨Nat.zero_le _, Nat.zero_le _⟩)) (fun r_96 hr_96 => ?_)
              refine lv_if_eq (tgt := 76) hx hb dMo_block_63 (by decide) (fun c_96 => ?_) (fun c_96 => ?_)
              · refine lv_aload_n hx hb dMo_block_76 rfl (lv_at hl 0 rfl) ?_
                refine lv_iconst (v := 1) hx hb dMo_block_77 (by decide +kernel) ?_
                refine g_calli (va_runV (As := [.int 1]) (rest := []) ⟨hx, hb, hml, hown, hc⟩ (cMo_raise l dC dI ad ca H.size S E_1 1) (cwV 1 hc (gV w661 w663 s9 w5 qMo_raise) rfl rfl rfl (by decide +kernel) ⟨Nat.le_of_ble_eq_true rfl, Nat.le_of_ble_eq_true rfl⟩) ⟨gPre_blind, va_recv hK hP (ci := 4) (q0 := 0) rfl rfl, (gPre_in hP hK hD)⟩ rfl rfl hl.1 rfl (lv_room (Nat.le_of_ble_eq_true rfl)) dMo_block_78 ⟨Nat.zero_le _, Nat.zero_le _⟩) hD hS hA (fun r_99 u_98 H locs hu_98 hP hD hS => ?_)
                obtain ⟨S_98, E_98⟩ := u_98
                (try dsimp only at hu_98 hP hD)
                obtain ⟨hr9, hS9, hE9⟩ := hu_98
                subst S_98
                exact W.iret (v := r_99) hx hb hr (fun t ht hW => ⟨⟨_, (S, E_98), rfl, (by (try dsimp only) <;> exact (by have hO : oBlock S a b d = (1, 0, S) := (by unfold oBlock; rw [if_pos (by (try simp only [hr_2, hr_58, hr_86, hr_96, b2_0, b2_n, b2_1] at c_2); (try simp only [okB, wi, Int32.lt_iff_toInt_lt, Int32.le_iff_toInt_le, ← Int32.toInt_inj, Int32.reduceToInt] at c_2); (try simp only [hr_2, hr_58, hr_86, hr_96, b2_0, b2_n, b2_1] at c_5); (try simp only [okB, wi, Int32.lt_iff_toInt_lt, Int32.le_iff_toInt_le, ← Int32.toInt_inj, Int32.reduceToInt] at c_5); (try simp only [hr_2, hr_58, hr_86, hr_96, b2_0, b2_n, b2_1] at c_58); (try simp only [okB, wi, Int32.lt_iff_toInt_lt, Int32.le_iff_toInt_le, ← Int32.toInt_inj, Int32.reduceToInt] at c_58); (try simp only [hr_2, hr_58, hr_86, hr_96, b2_0, b2_n, b2_1] at c_61); (try simp only [okB, wi, Int32.lt_iff_toInt_lt, Int32.le_iff_toInt_le, ← Int32.toInt_inj, Int32.reduceToInt] at c_61); (try simp only [hr_2, hr_58, hr_86, hr_96, b2_0, b2_n, b2_1] at c_86); (try simp only [okB, wi, Int32.lt_iff_toInt_lt, Int32.le_iff_toInt_le, ← Int32.toInt_inj, Int32.reduceToInt] at c_86); (try simp only [hr_2, hr_58, hr_86, hr_96, b2_0, b2_n, b2_1] at c_87); (try simp only [okB, wi, Int32.lt_iff_toInt_lt, Int32.le_iff_toInt_le, ← Int32.toInt_inj, Int32.reduceToInt] at c_87); (try simp only [hr_2, hr_58, hr_86, hr_96, b2_0, b2_n, b2_1] at c_96); (try simp only [okB, wi, Int32.lt_iff_toInt_lt, Int32.le_iff_toInt_le, ← Int32.toInt_inj, Int32.reduceToInt] at c_96); (try simp only [okB, wi, Int32.lt_iff_toInt_lt, Int32.le_iff_toInt_le, ← Int32.toInt_inj, Int32.reduceToInt]); omega)]); rw [hO]; exact ⟨by rw [hE9]; rfl, fun h => absurd (show (1 : Int32) = 0 from h) (by decide), rfl⟩)), by rw [ht]; exact hP, va_K.moved hW.alike hK, hD⟩, hS.F ht⟩) hS.2.2 dMo_block_81
              · refine lv_iload_n hx hb dMo_block_66 rfl (lv_at hl 3 rfl) ?_
                refine lv_iconst (v := 0) hx hb dMo_block_67 (by decide +kernel) ?_
                refine lv_bipush (v := 7) hx hb dMo_block_68 (by decide +kernel) ?_
                refine vp_callSi (va_Run.run (va_runS (As := [.int d, .int 0, .int 7]) (rest := []) ⟨hx, hb, hml, hown, hc⟩ (cMo_in l d 0 7) (va_cwS 3 hc (g_S w658 w659 w5 qMo_in) rfl rfl rfl (by decide +kernel) ⟨Nat.le_of_ble_eq_true rfl, Nat.le_of_ble_eq_true rfl⟩) ⟨tPre_blind, tPre_in⟩ rfl rfl hl.1 rfl (lv_room (Nat.le_of_ble_eq_true rfl)) dMo_block_70 ⟨Nat.zero_le _, Nat.zero_le _⟩)) (fun r_100 hr_100 => ?_)
                refine lv_if_ne (tgt := 82) hx hb dMo_block_73 (by decide) (fun c_100 => ?_) (fun c_100 => ?_)
                · refine lv_aload_n hx hb dMo_block_82 rfl (lv_at hl 0 rfl) ?_
                  refine va_get (D := (dC, dI)) (ci := 4) (v := .int (S 0 0)) (C := RMo) (T := TMo) (N := 29) hx hb hc inMo hown hK hP 0 rfl rfl 14 (by decide) (hc _ w575) (fun _ h9 => h9) rfl dMo_block_83 ?_
                  refine lv_bipush (v := 10) hx hb dMo_block_86 (by decide +kernel) ?_
                  refine lv_icmp_ne (tgt := 97) hx hb dMo_block_88 (by decide) (fun c_101 => ?_) (fun c_101 => ?_)
                  · have hlt : m0 < 10 := by rw [em] at c_101; exact Nat.lt_of_le_of_ne hm (fun z => c_101 (by rw [z]; rfl))
                    refine lv_aload_n hx hb dMo_block_97 rfl (lv_at hl 0 rfl) ?_
                    refine va_get (D := (dC, dI)) (ci := 4) (v := .ref (ad 6)) (C := RMo) (T := TMo) (N := 29) hx hb hc inMo hown hK hP 0 rfl rfl 6 (by decide) (hc _ w567) (fun _ h9 => h9) rfl dMo_block_98 ?_
                    refine lv_aload_n hx hb dMo_block_101 rfl (lv_at hl 0 rfl) ?_
                    refine va_get (D := (dC, dI)) (ci := 4) (v := .int (S 0 0)) (C := RMo) (T := TMo) (N := 29) hx hb hc inMo hown hK hP 0 rfl rfl 14 (by decide) (hc _ w575) (fun _ h9 => h9) rfl dMo_block_102 ?_
                    refine W.eq (g2 := F0 m 105 ls [.int (nI m0), .ref (ad 6)]) (by rw [show S 0 0 = nI m0 from em]) ?_
                    refine lv_iload_n hx hb dMo_block_105 rfl (lv_at hl 1 rfl) ?_
                    refine va_iast hx hb hK hP hD hS 6 5 rfl rfl (vp_in_nI (by omega) (by decide)) dMo_block_106 (fun H locs hP hD hS => ?_)
                    rw [nI_clamp (by omega)] at hP hD
                    obtain ⟨S_103, eS_103⟩ : ∃ z9 : Ss, z9 = row S 14 (upd (S 14) m0 a) := ⟨_, rfl⟩
                    have hP : va_P (dC, dI) vwCl (MW ad ca S_103 E_1) H := by rw [eS_103]; exact hP
                    have hD : va_D A (MW ad ca S_103 E_1) := by rw [eS_103]; exact hD
                    refine lv_aload_n hx hb dMo_block_107 rfl (lv_at hl 0 rfl) ?_
                    refine va_get (D := (dC, dI)) (ci := 4) (v := .ref (ad 7)) (C := RMo) (T := TMo) (N := 29) hx hb hc inMo hown hK hP 0 rfl rfl 7 (by decide) (hc _ w568) (fun _ h9 => h9) rfl dMo_block_108 ?_
                    refine lv_aload_n hx hb dMo_block_111 rfl (lv_at hl 0 rfl) ?_
                    refine va_get (D := (dC, dI)) (ci := 4) (v := .int (S_103 0 0)) (C := RMo) (T := TMo) (N := 29) hx hb hc inMo hown hK hP 0 rfl rfl 14 (by decide) (hc _ w575) (fun _ h9 => h9) rfl dMo_block_112 ?_
                    refine W.eq (g2 := F0 m 115 ls [.int (nI m0), .ref (ad 7)]) (by rw [show S_103 0 0 = nI m0 from by rw [eS_103]; exact em]) ?_
                    refine lv_iload_n hx hb dMo_block_115 rfl (lv_at hl 2 rfl) ?_
                    refine va_iast hx hb hK hP hD hS 7 6 rfl rfl (vp_in_nI (by omega) (by decide)) dMo_block_116 (fun H locs hP hD hS => ?_)
                    rw [nI_clamp (by omega)] at hP hD
                    obtain ⟨S_104, eS_104⟩ : ∃ z9 : Ss, z9 = row S_103 15 (upd (S_103 15) m0 b) := ⟨_, rfl⟩
                    have hP : va_P (dC, dI) vwCl (MW ad ca S_104 E_1) H := by rw [eS_104]; exact hP
                    have hD : va_D A (MW ad ca S_104 E_1) := by rw [eS_104]; exact hD
                    refine lv_aload_n hx hb dMo_block_117 rfl (lv_at hl 0 rfl) ?_
                    refine va_get (D := (dC, dI)) (ci := 4) (v := .ref (ad 8)) (C := RMo) (T := TMo) (N := 29) hx hb hc inMo hown hK hP 0 rfl rfl 8 (by decide) (hc _ w569) (fun _ h9 => h9) rfl dMo_block_118 ?_
                    refine lv_aload_n hx hb dMo_block_121 rfl (lv_at hl 0 rfl) ?_
                    refine va_get (D := (dC, dI)) (ci := 4) (v := .int (S_104 0 0)) (C := RMo) (T := TMo) (N := 29) hx hb hc inMo hown hK hP 0 rfl rfl 14 (by decide) (hc _ w575) (fun _ h9 => h9) rfl dMo_block_122 ?_
                    refine W.eq (g2 := F0 m 125 ls [.int (nI m0), .ref (ad 8)]) (by rw [show S_104 0 0 = nI m0 from by rw [eS_104, eS_103]; exact em]) ?_
                    refine lv_iload_n hx hb dMo_block_125 rfl (lv_at hl 3 rfl) ?_
                    refine va_iast hx hb hK hP hD hS 8 7 rfl rfl (vp_in_nI (by omega) (by decide)) dMo_block_126 (fun H locs hP hD hS => ?_)
                    rw [nI_clamp (by omega)] at hP hD
                    obtain ⟨S_105, eS_105⟩ : ∃ z9 : Ss, z9 = row S_104 16 (upd (S_104 16) m0 d) := ⟨_, rfl⟩
                    have hP : va_P (dC, dI) vwCl (MW ad ca S_105 E_1) H := by rw [eS_105]; exact hP
                    have hD : va_D A (MW ad ca S_105 E_1) := by rw [eS_105]; exact hD
                    refine lv_aload_n hx hb dMo_block_127 rfl (lv_at hl 0 rfl) ?_
                    refine lv_dup hx hb dMo_block_128 rfl ?_
                    refine va_get (D := (dC, dI)) (ci := 4) (v := .int (S_105 0 0)) (C := RMo) (T := TMo) (N := 29) hx hb hc inMo hown hK hP 0 rfl rfl 14 (by decide) (hc _ w575) (fun _ h9 => h9) rfl dMo_block_129 ?_
                    refine lv_iconst (v := 1) hx hb dMo_block_132 (by decide +kernel) ?_
                    refine lv_iadd hx hb dMo_block_133 ?_
                    refine va_put (D := (dC, dI)) (ci := 4) (v := .int ((S_105 0 0) + 1)) (ty := .int) (C := RMo) (T := TMo) (N := 29) hx hb hc inMo tyMo tyMo_ok nmMo hown hK hP hD hS 0 rfl rfl 14 (by decide) (hc _ w575) (fun _ h9 => h9) rfl (by decide +kernel) rfl rfl (Nat.le_of_ble_eq_true rfl) dMo_block_134 (fun H locs hP hD hS => ?_)
                    obtain ⟨S_106, eS_106⟩ : ∃ z9 : Ss, z9 = row S_105 0 (upd (S_105 0) 0 ((S_105 0 0) + 1)) := ⟨_, rfl⟩
                    have hP : va_P (dC, dI) vwCl (MW ad ca S_106 E_1) H := by rw [eS_106]; exact hP
                    have hD : va_D A (MW ad ca S_106 E_1) := by rw [eS_106]; exact hD
                    refine lv_aload_n hx hb dMo_block_137 rfl (lv_at hl 0 rfl) ?_
                    refine va_get (D := (dC, dI)) (ci := 4) (v := .int (S_106 0 0)) (C := RMo) (T := TMo) (N := 29) hx hb hc inMo hown hK hP 0 rfl rfl 14 (by decide) (hc _ w575) (fun _ h9 => h9) rfl dMo_block_138 ?_
                    refine lv_iconst (v := 1) hx hb dMo_block_141 (by decide +kernel) ?_
                    refine lv_isub hx hb dMo_block_142 ?_
                    exact W.iret (v := ((S_106 0 0) - 1)) hx hb hr (fun t ht hW => ⟨⟨_, (S_106, E_1), rfl, (by (try dsimp only) <;> exact (by have hO : oBlock S a b d = (0, (S_106 0 0) - 1, S_106) := (by unfold oBlock; rw [if_neg (fun h => h (by (try simp only [hr_2, hr_58, hr_86, hr_96, hr_100, b2_0, b2_n, b2_1] at c_2); (try simp only [okB, wi, Int32.lt_iff_toInt_lt, Int32.le_iff_toInt_le, ← Int32.toInt_inj, Int32.reduceToInt] at c_2); (try simp only [hr_2, hr_58, hr_86, hr_96, hr_100, b2_0, b2_n, b2_1] at c_5); (try simp only [okB, wi, Int32.lt_iff_toInt_lt, Int32.le_iff_toInt_le, ← Int32.toInt_inj, Int32.reduceToInt] at c_5); (try simp only [hr_2, hr_58, hr_86, hr_96, hr_100, b2_0, b2_n, b2_1] at c_58); (try simp only [okB, wi, Int32.lt_iff_toInt_lt, Int32.le_iff_toInt_le, ← Int32.toInt_inj, Int32.reduceToInt] at c_58); (try simp only [hr_2, hr_58, hr_86, hr_96, hr_100, b2_0, b2_n, b2_1] at c_61); (try simp only [okB, wi, Int32.lt_iff_toInt_lt, Int32.le_iff_toInt_le, ← Int32.toInt_inj, Int32.reduceToInt] at c_61); (try simp only [hr_2, hr_58, hr_86, hr_96, hr_100, b2_0, b2_n, b2_1] at c_86); (try simp only [okB, wi, Int32.lt_iff_toInt_lt, Int32.le_iff_toInt_le, ← Int32.toInt_inj, Int32.reduceToInt] at c_86); (try simp only [hr_2, hr_58, hr_86, hr_96, hr_100, b2_0, b2_n, b2_1] at c_87); (try simp only [okB, wi, Int32.lt_iff_toInt_lt, Int32.le_iff_toInt_le, ← Int32.toInt_inj, Int32.reduceToInt] at c_87); (try simp only [hr_2, hr_58, hr_86, hr_96, hr_100, b2_0, b2_n, b2_1] at c_96); (try simp only [okB, wi, Int32.lt_iff_toInt_lt, Int32.le_iff_toInt_le, ← Int32.toInt_inj, Int32.reduceToInt] at c_96); (try simp only [hr_2, hr_58, hr_86, hr_96, hr_100, b2_0, b2_n, b2_1] at c_100); (try simp only [okB, wi, Int32.lt_iff_toInt_lt, Int32.le_iff_toInt_le, ← Int32.toInt_inj, Int32.reduceToInt] at c_100); (try simp only [okB, wi, Int32.lt_iff_toInt_lt, Int32.le_iff_toInt_le, ← Int32.toInt_inj, Int32.reduceToInt]); omega)), if_neg (Int32.not_le.mpr (by rw [em]; exact nI_lt hlt (by decide))), em, nI_clamp (by omega), eS_106, eS_105, eS_104, eS_103]; exact blk_eq em); rw [hO]; exact ⟨by rw [eE_1]; rfl, fun _ => rfl, rfl⟩)), by rw [ht]; exact hP, va_K.moved hW.alike hK, hD⟩, hS.F ht⟩) hS.2.2 dMo_block_143
                  · refine lv_aload_n hx hb dMo_block_91 rfl (lv_at hl 0 rfl) ?_
                    refine lv_iconst (v := 2) hx hb dMo_block_92 (by decide +kernel) ?_
                    refine g_calli (va_runV (As := [.int 2]) (rest := []) ⟨hx, hb, hml, hown, hc⟩ (cMo_raise l dC dI ad ca H.size S E_1 2) (cwV 1 hc (gV w661 w663 s9 w5 qMo_raise) rfl rfl rfl (by decide +kernel) ⟨Nat.le_of_ble_eq_true rfl, Nat.le_of_ble_eq_true rfl⟩) ⟨gPre_blind, va_recv hK hP (ci := 4) (q0 := 0) rfl rfl, (gPre_in hP hK hD)⟩ rfl rfl hl.1 rfl (lv_room (Nat.le_of_ble_eq_true rfl)) dMo_block_93 ⟨Nat.zero_le _, Nat.zero_le _⟩) hD hS hA (fun r_108 u_107 H locs hu_107 hP hD hS => ?_)
                    obtain ⟨S_107, E_107⟩ := u_107
                    (try dsimp only at hu_107 hP hD)
                    obtain ⟨hr9, hS9, hE9⟩ := hu_107
                    subst S_107
                    exact W.iret (v := r_108) hx hb hr (fun t ht hW => ⟨⟨_, (S, E_107), rfl, (by (try dsimp only) <;> exact (by have hO : oBlock S a b d = (2, 0, S) := (by unfold oBlock; rw [if_neg (fun h => h (by (try simp only [hr_2, hr_58, hr_86, hr_96, hr_100, b2_0, b2_n, b2_1] at c_2); (try simp only [okB, wi, Int32.lt_iff_toInt_lt, Int32.le_iff_toInt_le, ← Int32.toInt_inj, Int32.reduceToInt] at c_2); (try simp only [hr_2, hr_58, hr_86, hr_96, hr_100, b2_0, b2_n, b2_1] at c_5); (try simp only [okB, wi, Int32.lt_iff_toInt_lt, Int32.le_iff_toInt_le, ← Int32.toInt_inj, Int32.reduceToInt] at c_5); (try simp only [hr_2, hr_58, hr_86, hr_96, hr_100, b2_0, b2_n, b2_1] at c_58); (try simp only [okB, wi, Int32.lt_iff_toInt_lt, Int32.le_iff_toInt_le, ← Int32.toInt_inj, Int32.reduceToInt] at c_58); (try simp only [hr_2, hr_58, hr_86, hr_96, hr_100, b2_0, b2_n, b2_1] at c_61); (try simp only [okB, wi, Int32.lt_iff_toInt_lt, Int32.le_iff_toInt_le, ← Int32.toInt_inj, Int32.reduceToInt] at c_61); (try simp only [hr_2, hr_58, hr_86, hr_96, hr_100, b2_0, b2_n, b2_1] at c_86); (try simp only [okB, wi, Int32.lt_iff_toInt_lt, Int32.le_iff_toInt_le, ← Int32.toInt_inj, Int32.reduceToInt] at c_86); (try simp only [hr_2, hr_58, hr_86, hr_96, hr_100, b2_0, b2_n, b2_1] at c_87); (try simp only [okB, wi, Int32.lt_iff_toInt_lt, Int32.le_iff_toInt_le, ← Int32.toInt_inj, Int32.reduceToInt] at c_87); (try simp only [hr_2, hr_58, hr_86, hr_96, hr_100, b2_0, b2_n, b2_1] at c_96); (try simp only [okB, wi, Int32.lt_iff_toInt_lt, Int32.le_iff_toInt_le, ← Int32.toInt_inj, Int32.reduceToInt] at c_96); (try simp only [hr_2, hr_58, hr_86, hr_96, hr_100, b2_0, b2_n, b2_1] at c_100); (try simp only [okB, wi, Int32.lt_iff_toInt_lt, Int32.le_iff_toInt_le, ← Int32.toInt_inj, Int32.reduceToInt] at c_100); (try simp only [okB, wi, Int32.lt_iff_toInt_lt, Int32.le_iff_toInt_le, ← Int32.toInt_inj, Int32.reduceToInt]); omega)), if_pos (by rw [c_101]; decide)]); rw [hO]; exact ⟨by rw [hE9]; rfl, fun h => absurd (show (2 : Int32) = 0 from h) (by decide), rfl⟩)), by rw [ht]; exact hP, va_K.moved hW.alike hK, hD⟩, hS.F ht⟩) hS.2.2 dMo_block_96
                · refine lv_aload_n hx hb dMo_block_76 rfl (lv_at hl 0 rfl) ?_
                  refine lv_iconst (v := 1) hx hb dMo_block_77 (by decide +kernel) ?_
                  refine g_calli (va_runV (As := [.int 1]) (rest := []) ⟨hx, hb, hml, hown, hc⟩ (cMo_raise l dC dI ad ca H.size S E_1 1) (cwV 1 hc (gV w661 w663 s9 w5 qMo_raise) rfl rfl rfl (by decide +kernel) ⟨Nat.le_of_ble_eq_true rfl, Nat.le_of_ble_eq_true rfl⟩) ⟨gPre_blind, va_recv hK hP (ci := 4) (q0 := 0) rfl rfl, (gPre_in hP hK hD)⟩ rfl rfl hl.1 rfl (lv_room (Nat.le_of_ble_eq_true rfl)) dMo_block_78 ⟨Nat.zero_le _, Nat.zero_le _⟩) hD hS hA (fun r_110 u_109 H locs hu_109 hP hD hS => ?_)
                  obtain ⟨S_109, E_109⟩ := u_109
                  (try dsimp only at hu_109 hP hD)
                  obtain ⟨hr9, hS9, hE9⟩ := hu_109
                  subst S_109
                  exact W.iret (v := r_110) hx hb hr (fun t ht hW => ⟨⟨_, (S, E_109), rfl, (by (try dsimp only) <;> exact (by have hO : oBlock S a b d = (1, 0, S) := (by unfold oBlock; rw [if_pos (by (try simp only [hr_2, hr_58, hr_86, hr_96, hr_100, b2_0, b2_n, b2_1] at c_2); (try simp only [okB, wi, Int32.lt_iff_toInt_lt, Int32.le_iff_toInt_le, ← Int32.toInt_inj, Int32.reduceToInt] at c_2); (try simp only [hr_2, hr_58, hr_86, hr_96, hr_100, b2_0, b2_n, b2_1] at c_5); (try simp only [okB, wi, Int32.lt_iff_toInt_lt, Int32.le_iff_toInt_le, ← Int32.toInt_inj, Int32.reduceToInt] at c_5); (try simp only [hr_2, hr_58, hr_86, hr_96, hr_100, b2_0, b2_n, b2_1] at c_58); (try simp only [okB, wi, Int32.lt_iff_toInt_lt, Int32.le_iff_toInt_le, ← Int32.toInt_inj, Int32.reduceToInt] at c_58); (try simp only [hr_2, hr_58, hr_86, hr_96, hr_100, b2_0, b2_n, b2_1] at c_61); (try simp only [okB, wi, Int32.lt_iff_toInt_lt, Int32.le_iff_toInt_le, ← Int32.toInt_inj, Int32.reduceToInt] at c_61); (try simp only [hr_2, hr_58, hr_86, hr_96, hr_100, b2_0, b2_n, b2_1] at c_86); (try simp only [okB, wi, Int32.lt_iff_toInt_lt, Int32.le_iff_toInt_le, ← Int32.toInt_inj, Int32.reduceToInt] at c_86); (try simp only [hr_2, hr_58, hr_86, hr_96, hr_100, b2_0, b2_n, b2_1] at c_87); (try simp only [okB, wi, Int32.lt_iff_toInt_lt, Int32.le_iff_toInt_le, ← Int32.toInt_inj, Int32.reduceToInt] at c_87); (try simp only [hr_2, hr_58, hr_86, hr_96, hr_100, b2_0, b2_n, b2_1] at c_96); (try simp only [okB, wi, Int32.lt_iff_toInt_lt, Int32.le_iff_toInt_le, ← Int32.toInt_inj, Int32.reduceToInt] at c_96); (try simp only [hr_2, hr_58, hr_86, hr_96, hr_100, b2_0, b2_n, b2_1] at c_100); (try simp only [okB, wi, Int32.lt_iff_toInt_lt, Int32.le_iff_toInt_le, ← Int32.toInt_inj, Int32.reduceToInt] at c_100); (try simp only [okB, wi, Int32.lt_iff_toInt_lt, Int32.le_iff_toInt_le, ← Int32.toInt_inj, Int32.reduceToInt]); omega)]); rw [hO]; exact ⟨by rw [hE9]; rfl, fun h => absurd (show (1 : Int32) = 0 from h) (by decide), rfl⟩)), by rw [ht]; exact hP, va_K.moved hW.alike hK, hD⟩, hS.F ht⟩) hS.2.2 dMo_block_81
          · refine lv_aload_n hx hb dMo_block_45 rfl (lv_at hl 0 rfl) ?_
            refine lv_iconst (v := 1) hx hb dMo_block_46 (by decide +kernel) ?_
            refine g_calli (va_runV (As := [.int 1]) (rest := []) ⟨hx, hb, hml, hown, hc⟩ (cMo_raise l dC dI ad ca H.size S E_1 1) (cwV 1 hc (gV w661 w663 s9 w5 qMo_raise) rfl rfl rfl (by decide +kernel) ⟨Nat.le_of_ble_eq_true rfl, Nat.le_of_ble_eq_true rfl⟩) ⟨gPre_blind, va_recv hK hP (ci := 4) (q0 := 0) rfl rfl, (gPre_in hP hK hD)⟩ rfl rfl hl.1 rfl (lv_room (Nat.le_of_ble_eq_true rfl)) dMo_block_47 ⟨Nat.zero_le _, Nat.zero_le _⟩) hD hS hA (fun r_112 u_111 H locs hu_111 hP hD hS => ?_)
            obtain ⟨S_111, E_111⟩ := u_111
            (try dsimp only at hu_111 hP hD)
            obtain ⟨hr9, hS9, hE9⟩ := hu_111
            subst S_111
            exact W.iret (v := r_112) hx hb hr (fun t ht hW => ⟨⟨_, (S, E_111), rfl, (by (try dsimp only) <;> exact (by have hO : oBlock S a b d = (1, 0, S) := (by unfold oBlock; rw [if_pos (by (try simp only [hr_2, hr_58, hr_86, b2_0, b2_n, b2_1] at c_2); (try simp only [okB, wi, Int32.lt_iff_toInt_lt, Int32.le_iff_toInt_le, ← Int32.toInt_inj, Int32.reduceToInt] at c_2); (try simp only [hr_2, hr_58, hr_86, b2_0, b2_n, b2_1] at c_5); (try simp only [okB, wi, Int32.lt_iff_toInt_lt, Int32.le_iff_toInt_le, ← Int32.toInt_inj, Int32.reduceToInt] at c_5); (try simp only [hr_2, hr_58, hr_86, b2_0, b2_n, b2_1] at c_58); (try simp only [okB, wi, Int32.lt_iff_toInt_lt, Int32.le_iff_toInt_le, ← Int32.toInt_inj, Int32.reduceToInt] at c_58); (try simp only [hr_2, hr_58, hr_86, b2_0, b2_n, b2_1] at c_61); (try simp only [okB, wi, Int32.lt_iff_toInt_lt, Int32.le_iff_toInt_le, ← Int32.toInt_inj, Int32.reduceToInt] at c_61); (try simp only [hr_2, hr_58, hr_86, b2_0, b2_n, b2_1] at c_86); (try simp only [okB, wi, Int32.lt_iff_toInt_lt, Int32.le_iff_toInt_le, ← Int32.toInt_inj, Int32.reduceToInt] at c_86); (try simp only [okB, wi, Int32.lt_iff_toInt_lt, Int32.le_iff_toInt_le, ← Int32.toInt_inj, Int32.reduceToInt]); omega)]); rw [hO]; exact ⟨by rw [hE9]; rfl, fun h => absurd (show (1 : Int32) = 0 from h) (by decide), rfl⟩)), by rw [ht]; exact hP, va_K.moved hW.alike hK, hD⟩, hS.F ht⟩) hS.2.2 dMo_block_50
