set_option maxHeartbeats 4000000 in
set_option maxRecDepth 100000 in
theorem cX_erase (l : Launch) (hl9 : l.stackTraces = false) (dC : Nat → ClassId) (dI : Nat → Nat → Nat) (ad : Nat → Nat) (ca : Nat → ClassId) (sz : Nat) (S : Ss) (a : Int32) : vx_Met l yX_erase (kX_erase :: CW) ({ frames := 6, cells := 1, slots := 6, locals := 91 }) (va_Pc [.ref (ad 0), .int a] (tPre (dC, dI) (xT ca) (XW ad ca S) sz)) (va_Qi (fun (r : Int32) (u : Ss) => oErase S a = (0, r, u)) (fun u => gAt (dC, dI) (xT ca) (va_A (XW ad ca S) sz) (XW ad ca u)) (va_A (XW ad ca S) sz)) (vx_X (fun _ : Ss => True) (fun E u t => (E = eA ∧ oErase S a = (1, 0, u)) ∧ gAt (dC, dI) (xT ca) (va_A (XW ad ca S) sz) (XW ad ca u) t) (va_A (XW ad ca S) sz)) 1 6 (va_A (XW ad ca S) sz) := by
  refine vx_ofW (cc := bX_erase) (maxL := 2) (ret := (some .int)) (by decide +kernel) rfl ?_
  intro p e s m args below meth c s₁ B hml hex hv
  obtain ⟨rfl, ⟨hsz, hP, hK, hD0⟩, hU, hN⟩ := hv
  have hx := B.exec
  have hb := B.bytes
  have hr := B.returns
  have hts := atoms_spec (ws := kX_erase :: CW) B.pre
  have hc : ∀ w ∈ CW, w.before _ s = true := fun w h => hts w (List.mem_cons_of_mem _ h)
  have hown : s.vm.findClass RX = some m.cls := findClass_of_methodNamed B.named
  have hlocks := B.notSynchronized
  subst hsz
  have hD := hD0.self (sz := s.heap.size)
  generalize hAe : va_A (XW ad ca S) s.heap.size = A at hD hU ⊢
  have hA : ∀ q : Nat, s.heap.size ≤ q → A q := fun q h => by rw [← hAe]; exact Or.inr h
  have hS : va_S A s.heap s.heap [] := va_S.rf
  have hl := lv_entry ([.ref (ad 0), .int a]) (n := 2) (Nat.le_of_ble_eq_true rfl)
  rw [lg_entry_eq]
  generalize (lg_sl ([.ref (ad 0), .int a]) ++ List.replicate (2 - (lg_sl ([.ref (ad 0), .int a])).length) Slot.unset).toArray = ls at hl ⊢
  have hl : lv_has ls 2 [(0, .ref (ad 0)), (1, .int a)] := hl
  refine lv_iload_n hx hb dX_erase_0 rfl (lv_at hl 1 rfl) ?_
  refine vp_callSi (va_Run.run (va_runS (As := [.int a]) (rest := []) ⟨hx, hb, hml, hown, hc⟩ (cX_isRung l a) (va_cwS 1 hc (g_S w345 w346 w1 qX_isRung) rfl rfl rfl (by decide +kernel) ⟨Nat.le_of_ble_eq_true rfl, Nat.le_of_ble_eq_true rfl⟩) ⟨tPre_blind, tPre_in⟩ rfl rfl hl.1 rfl (lv_room (Nat.le_of_ble_eq_true rfl)) dX_erase_1 ⟨Nat.zero_le _, Nat.zero_le _⟩)) (fun r_1 hr_1 => ?_)
  refine lv_if_ne (tgt := 15) hx hb dX_erase_4 (by decide) (fun c_1 => ?_) (fun c_1 => ?_)
  · obtain ⟨k, hk, ek⟩ := wi_ex (br_n hr_1 c_1) (n := 11) rfl (by decide)
    subst ek
    refine lv_aload_n hx hb dX_erase_15 rfl (lv_at hl 0 rfl) ?_
    refine va_get (D := (dC, dI)) (ci := 0) (v := .ref (ad 8)) (C := RX) (T := TX) (N := 8) hx hb hc inX hown hK hP 0 rfl rfl 2 (by decide) (hc _ w113) (fun _ h9 => h9) rfl dX_erase_16 ?_
    refine lv_iload_n hx hb dX_erase_19 rfl (lv_at hl 1 rfl) ?_
    refine g_calli (va_runV (As := [.int (nI k)]) (rest := []) ⟨hx, hb, hml, hown, hc⟩ (cLa_empty l dC dI ad ca s.heap.size S k (by omega)) (cwV 1 hc (gV w383 w384 w385 w3 qLa_empty) rfl rfl rfl (by decide +kernel) ⟨Nat.le_of_ble_eq_true rfl, Nat.le_of_ble_eq_true rfl⟩) ⟨gPre_blind, va_recv hK hP (ci := 3) (q0 := 8) rfl rfl, (gPre_in hP hK hD)⟩ rfl rfl hl.1 rfl (lv_room (Nat.le_of_ble_eq_true rfl)) dX_erase_20 ⟨Nat.zero_le _, Nat.zero_le _⟩) hD hS hA (fun r_4 u_3 H locs hu_3 hP hD hS => ?_)
    refine W.widen (k := 1) (n := 6) (by decide) (by decide) ?_
    refine vx_ret ?_
    exact W.iret (v := r_4) hx hb hr (fun t ht hW => ⟨⟨_, u_3, rfl, (by (try dsimp only); exact (by unfold oErase; rw [if_neg (fun h => h (br_n hr_1 c_1)), nI_clamp (by omega), hu_3.1, hu_3.2])), by rw [ht]; exact hP, va_K.moved hW.alike hK, hD⟩, hS.F ht⟩) hS.2.2 dX_erase_23
  · exact vx_throw0 (rest := []) (cls := eA) (names := nms) (ik := 51) (ic := 53) (mc := 1) (ms := 6) hx hb hl9 hown (by decide +kernel) (by decide +kernel) (hc _ w196) (hc _ w9) (th_hat th_eA hc hN) tg_eA hU.1 hU.2 hS (by rw [hml]; exact hl.1) dX_erase_7 dX_erase_10 dX_erase_11 dX_erase_14 (fun x h => (hex x h).elim) (Nat.le_of_ble_eq_true rfl) (Nat.le_of_ble_eq_true rfl) (Nat.le_of_ble_eq_true rfl) (Nat.le_of_ble_eq_true rfl) hlocks (fun t ha hz hk => ⟨S, trivial, ⟨by (try dsimp only); exact ⟨rfl, by unfold oErase; rw [if_pos (br_0 hr_1 c_1)]⟩, (x_thrown hP hK hD hS ha hz hk).1⟩, (x_thrown hP hK hD hS ha hz hk).2⟩) hS.2.2 (Nat.le_refl _) (Nat.le_refl _)

set_option maxHeartbeats 4000000 in
set_option maxRecDepth 100000 in
theorem cX_bit (l : Launch) (hl9 : l.stackTraces = false) (dC : Nat → ClassId) (dI : Nat → Nat → Nat) (ad : Nat → Nat) (ca : Nat → ClassId) (sz : Nat) (S : Ss) (a : Int32) : vx_Met l yX_bit (kX_bit :: CW) ({ frames := 6, cells := 1, slots := 6, locals := 91 }) (va_Pc [.ref (ad 0), .int a] (tPre (dC, dI) (xT ca) (XW ad ca S) sz)) (va_Qi (fun (r : Int32) (u : Ss) => oBit S a = (0, r, u)) (fun u => gAt (dC, dI) (xT ca) (va_A (XW ad ca S) sz) (XW ad ca u)) (va_A (XW ad ca S) sz)) (vx_X (fun _ : Ss => True) (fun E u t => (E = eA ∧ oBit S a = (1, 0, u)) ∧ gAt (dC, dI) (xT ca) (va_A (XW ad ca S) sz) (XW ad ca u) t) (va_A (XW ad ca S) sz)) 1 6 (va_A (XW ad ca S) sz) := by
  refine vx_ofW (cc := bX_bit) (maxL := 2) (ret := (some .int)) (by decide +kernel) rfl ?_
  intro p e s m args below meth c s₁ B hml hex hv
  obtain ⟨rfl, ⟨hsz, hP, hK, hD0⟩, hU, hN⟩ := hv
  have hx := B.exec
  have hb := B.bytes
  have hr := B.returns
  have hts := atoms_spec (ws := kX_bit :: CW) B.pre
  have hc : ∀ w ∈ CW, w.before _ s = true := fun w h => hts w (List.mem_cons_of_mem _ h)
  have hown : s.vm.findClass RX = some m.cls := findClass_of_methodNamed B.named
  have hlocks := B.notSynchronized
  subst hsz
  have hD := hD0.self (sz := s.heap.size)
  generalize hAe : va_A (XW ad ca S) s.heap.size = A at hD hU ⊢
  have hA : ∀ q : Nat, s.heap.size ≤ q → A q := fun q h => by rw [← hAe]; exact Or.inr h
  have hS : va_S A s.heap s.heap [] := va_S.rf
  have hl := lv_entry ([.ref (ad 0), .int a]) (n := 2) (Nat.le_of_ble_eq_true rfl)
  rw [lg_entry_eq]
  generalize (lg_sl ([.ref (ad 0), .int a]) ++ List.replicate (2 - (lg_sl ([.ref (ad 0), .int a])).length) Slot.unset).toArray = ls at hl ⊢
  have hl : lv_has ls 2 [(0, .ref (ad 0)), (1, .int a)] := hl
  refine lv_iload_n hx hb dX_bit_0 rfl (lv_at hl 1 rfl) ?_
  refine vp_callSi (va_Run.run (va_runS (As := [.int a]) (rest := []) ⟨hx, hb, hml, hown, hc⟩ (cX_isBit l a) (va_cwS 1 hc (g_S w190 w191 w1 qX_isBit) rfl rfl rfl (by decide +kernel) ⟨Nat.le_of_ble_eq_true rfl, Nat.le_of_ble_eq_true rfl⟩) ⟨tPre_blind, tPre_in⟩ rfl rfl hl.1 rfl (lv_room (Nat.le_of_ble_eq_true rfl)) dX_bit_1 ⟨Nat.zero_le _, Nat.zero_le _⟩)) (fun r_1 hr_1 => ?_)
  refine lv_if_ne (tgt := 15) hx hb dX_bit_4 (by decide) (fun c_1 => ?_) (fun c_1 => ?_)
  · obtain ⟨k, hk, ek⟩ := wi_ex (br_n hr_1 c_1) (n := 31) rfl (by decide)
    subst ek
    refine lv_aload_n hx hb dX_bit_15 rfl (lv_at hl 0 rfl) ?_
    refine va_get (D := (dC, dI)) (ci := 0) (v := .ref (ad 1)) (C := RX) (T := TX) (N := 8) hx hb hc inX hown hK hP 0 rfl rfl 0 (by decide) (hc _ w111) (fun _ h9 => h9) rfl dX_bit_16 ?_
    refine lv_iload_n hx hb dX_bit_19 rfl (lv_at hl 1 rfl) ?_
    refine vp_callSi (va_Run.run (va_runV (As := [.int (nI k)]) (rest := []) ⟨hx, hb, hml, hown, hc⟩ (cMe_read l dC dI ad ca s.heap.size S k (by omega)) (cwV 1 hc (gV w487 w447 w448 w2 qMe_read) rfl rfl rfl (by decide +kernel) ⟨Nat.le_of_ble_eq_true rfl, Nat.le_of_ble_eq_true rfl⟩) ⟨gPre_blind, va_recv hK hP (ci := 1) (q0 := 1) rfl rfl, (gPre_in hP hK hD)⟩ rfl rfl hl.1 rfl (lv_room (Nat.le_of_ble_eq_true rfl)) dX_bit_20 ⟨Nat.zero_le _, Nat.zero_le _⟩)) (fun r_3 hr_3 => ?_)
    refine W.widen (k := 1) (n := 6) (by decide) (by decide) ?_
    refine vx_ret ?_
    exact W.iret (v := r_3) hx hb hr (fun t ht hW => ⟨⟨_, S, rfl, (by (try dsimp only); exact (by unfold oBit; rw [if_neg (fun h => h (br_n hr_1 c_1)), nI_clamp (by omega), hr_3])), by rw [ht]; exact hP, va_K.moved hW.alike hK, hD⟩, hS.F ht⟩) hS.2.2 dX_bit_23
  · exact vx_throw0 (rest := []) (cls := eA) (names := nms) (ik := 51) (ic := 53) (mc := 1) (ms := 6) hx hb hl9 hown (by decide +kernel) (by decide +kernel) (hc _ w196) (hc _ w9) (th_hat th_eA hc hN) tg_eA hU.1 hU.2 hS (by rw [hml]; exact hl.1) dX_bit_7 dX_bit_10 dX_bit_11 dX_bit_14 (fun x h => (hex x h).elim) (Nat.le_of_ble_eq_true rfl) (Nat.le_of_ble_eq_true rfl) (Nat.le_of_ble_eq_true rfl) (Nat.le_of_ble_eq_true rfl) hlocks (fun t ha hz hk => ⟨S, trivial, ⟨by (try dsimp only); exact ⟨rfl, by unfold oBit; rw [if_pos (br_0 hr_1 c_1)]⟩, (x_thrown hP hK hD hS ha hz hk).1⟩, (x_thrown hP hK hD hS ha hz hk).2⟩) hS.2.2 (Nat.le_refl _) (Nat.le_refl _)

set_option maxHeartbeats 4000000 in
set_option maxRecDepth 100000 in
theorem cX_register (l : Launch) (hl9 : l.stackTraces = false) (dC : Nat → ClassId) (dI : Nat → Nat → Nat) (ad : Nat → Nat) (ca : Nat → ClassId) (sz : Nat) (S : Ss) (a : Int32) : vx_Met l yX_register (kX_register :: CW) ({ frames := 6, cells := 1, slots := 6, locals := 91 }) (va_Pc [.ref (ad 0), .int a] (tPre (dC, dI) (xT ca) (XW ad ca S) sz)) (va_Qd (fun (r : UInt64) (u : Ss) => oReg S a = (0, r, u)) (fun u => gAt (dC, dI) (xT ca) (va_A (XW ad ca S) sz) (XW ad ca u)) (va_A (XW ad ca S) sz)) (vx_X (fun _ : Ss => True) (fun E u t => (E = eA ∧ oReg S a = (1, 0, u)) ∧ gAt (dC, dI) (xT ca) (va_A (XW ad ca S) sz) (XW ad ca u) t) (va_A (XW ad ca S) sz)) 1 6 (va_A (XW ad ca S) sz) := by
  refine vx_ofW (cc := bX_register) (maxL := 2) (ret := (some .double)) (by decide +kernel) rfl ?_
  intro p e s m args below meth c s₁ B hml hex hv
  obtain ⟨rfl, ⟨hsz, hP, hK, hD0⟩, hU, hN⟩ := hv
  have hx := B.exec
  have hb := B.bytes
  have hr := B.returns
  have hts := atoms_spec (ws := kX_register :: CW) B.pre
  have hc : ∀ w ∈ CW, w.before _ s = true := fun w h => hts w (List.mem_cons_of_mem _ h)
  have hown : s.vm.findClass RX = some m.cls := findClass_of_methodNamed B.named
  have hlocks := B.notSynchronized
  subst hsz
  have hD := hD0.self (sz := s.heap.size)
  generalize hAe : va_A (XW ad ca S) s.heap.size = A at hD hU ⊢
  have hA : ∀ q : Nat, s.heap.size ≤ q → A q := fun q h => by rw [← hAe]; exact Or.inr h
  have hS : va_S A s.heap s.heap [] := va_S.rf
  have hl := lv_entry ([.ref (ad 0), .int a]) (n := 2) (Nat.le_of_ble_eq_true rfl)
  rw [lg_entry_eq]
  generalize (lg_sl ([.ref (ad 0), .int a]) ++ List.replicate (2 - (lg_sl ([.ref (ad 0), .int a])).length) Slot.unset).toArray = ls at hl ⊢
  have hl : lv_has ls 2 [(0, .ref (ad 0)), (1, .int a)] := hl
  refine lv_iload_n hx hb dX_register_0 rfl (lv_at hl 1 rfl) ?_
  refine vp_callSi (va_Run.run (va_runS (As := [.int a]) (rest := []) ⟨hx, hb, hml, hown, hc⟩ (cX_isRegister l a) (va_cwS 1 hc (g_S w193 w194 w1 qX_isRegister) rfl rfl rfl (by decide +kernel) ⟨Nat.le_of_ble_eq_true rfl, Nat.le_of_ble_eq_true rfl⟩) ⟨tPre_blind, tPre_in⟩ rfl rfl hl.1 rfl (lv_room (Nat.le_of_ble_eq_true rfl)) dX_register_1 ⟨Nat.zero_le _, Nat.zero_le _⟩)) (fun r_1 hr_1 => ?_)
  refine lv_if_ne (tgt := 15) hx hb dX_register_4 (by decide) (fun c_1 => ?_) (fun c_1 => ?_)
  · obtain ⟨k, hk, ek⟩ := wi_ex (br_n hr_1 c_1) (n := 7) rfl (by decide)
    subst ek
    refine lv_aload_n hx hb dX_register_15 rfl (lv_at hl 0 rfl) ?_
    refine va_get (D := (dC, dI)) (ci := 0) (v := .ref (ad 1)) (C := RX) (T := TX) (N := 8) hx hb hc inX hown hK hP 0 rfl rfl 0 (by decide) (hc _ w111) (fun _ h9 => h9) rfl dX_register_16 ?_
    refine va_get (D := (dC, dI)) (ci := 1) (v := .ref (ad 6)) (C := RMe) (T := TMe) (N := 5) hx hb hc inMe hown hK hP 1 rfl rfl 4 (by decide) (hc _ w39) (fun _ h9 => h9) rfl dX_register_19 ?_
    refine lv_iload_n hx hb dX_register_22 rfl (lv_at hl 1 rfl) ?_
    refine va_iald hx hb hK hP 6 4 rfl rfl (vp_in_nI (by omega) (by decide)) dX_register_23 ?_
    refine lv_topi (fun v_3 ev_3 => ?_)
    rw [nI_clamp (by omega)] at ev_3
    subst v_3
    refine vp_callSd (va_Run.run (va_runS (As := [.int (S 5 k)]) (rest := []) ⟨hx, hb, hml, hown, hc⟩ (cX_numberOf l (S 5 k)) (va_cwS 1 hc (g_S w335 w336 w1 qX_numberOf) rfl rfl rfl (by decide +kernel) ⟨Nat.le_of_ble_eq_true rfl, Nat.le_of_ble_eq_true rfl⟩) ⟨tPre_blind, tPre_in⟩ rfl rfl hl.1 rfl (lv_room (Nat.le_of_ble_eq_true rfl)) dX_register_24 ⟨Nat.zero_le _, Nat.zero_le _⟩)) (fun r_4 hr_4 => ?_)
    refine W.widen (k := 1) (n := 6) (by decide) (by decide) ?_
    refine vx_ret ?_
    exact W.dret (v := r_4) hx hb hr (fun t ht hW => ⟨⟨_, S, rfl, (by (try dsimp only); exact (by unfold oReg; rw [if_neg (fun h => h (br_n hr_1 c_1)), nI_clamp (by omega), hr_4])), by rw [ht]; exact hP, va_K.moved hW.alike hK, hD⟩, hS.F ht⟩) hS.2.2 dX_register_27
  · exact vx_throw0 (rest := []) (cls := eA) (names := nms) (ik := 51) (ic := 53) (mc := 1) (ms := 6) hx hb hl9 hown (by decide +kernel) (by decide +kernel) (hc _ w196) (hc _ w9) (th_hat th_eA hc hN) tg_eA hU.1 hU.2 hS (by rw [hml]; exact hl.1) dX_register_7 dX_register_10 dX_register_11 dX_register_14 (fun x h => (hex x h).elim) (Nat.le_of_ble_eq_true rfl) (Nat.le_of_ble_eq_true rfl) (Nat.le_of_ble_eq_true rfl) (Nat.le_of_ble_eq_true rfl) hlocks (fun t ha hz hk => ⟨S, trivial, ⟨by (try dsimp only); exact ⟨rfl, by unfold oReg; rw [if_pos (br_0 hr_1 c_1)]⟩, (x_thrown hP hK hD hS ha hz hk).1⟩, (x_thrown hP hK hD hS ha hz hk).2⟩) hS.2.2 (Nat.le_refl _) (Nat.le_refl _)

set_option maxHeartbeats 4000000 in
set_option maxRecDepth 100000 in
theorem cX_out (l : Launch) (hl9 : l.stackTraces = false) (dC : Nat → ClassId) (dI : Nat → Nat → Nat) (ad : Nat → Nat) (ca : Nat → ClassId) (sz : Nat) (S : Ss) (a : Int32) : vx_Met l yX_out (kX_out :: CW) ({ frames := 6, cells := 1, slots := 6, locals := 91 }) (va_Pc [.ref (ad 0), .int a] (tPre (dC, dI) (xT ca) (XW ad ca S) sz)) (va_Qi (fun (r : Int32) (u : Ss) => oOut S a = (0, r, u)) (fun u => gAt (dC, dI) (xT ca) (va_A (XW ad ca S) sz) (XW ad ca u)) (va_A (XW ad ca S) sz)) (vx_X (fun _ : Ss => True) (fun E u t => (E = eA ∧ oOut S a = (1, 0, u)) ∧ gAt (dC, dI) (xT ca) (va_A (XW ad ca S) sz) (XW ad ca u) t) (va_A (XW ad ca S) sz)) 1 6 (va_A (XW ad ca S) sz) := by
  refine vx_ofW (cc := bX_out) (maxL := 2) (ret := (some .int)) (by decide +kernel) rfl ?_
  intro p e s m args below meth c s₁ B hml hex hv
  obtain ⟨rfl, ⟨hsz, hP, hK, hD0⟩, hU, hN⟩ := hv
  have hx := B.exec
  have hb := B.bytes
  have hr := B.returns
  have hts := atoms_spec (ws := kX_out :: CW) B.pre
  have hc : ∀ w ∈ CW, w.before _ s = true := fun w h => hts w (List.mem_cons_of_mem _ h)
  have hown : s.vm.findClass RX = some m.cls := findClass_of_methodNamed B.named
  have hlocks := B.notSynchronized
  subst hsz
  have hD := hD0.self (sz := s.heap.size)
  generalize hAe : va_A (XW ad ca S) s.heap.size = A at hD hU ⊢
  have hA : ∀ q : Nat, s.heap.size ≤ q → A q := fun q h => by rw [← hAe]; exact Or.inr h
  have hS : va_S A s.heap s.heap [] := va_S.rf
  have hl := lv_entry ([.ref (ad 0), .int a]) (n := 2) (Nat.le_of_ble_eq_true rfl)
  rw [lg_entry_eq]
  generalize (lg_sl ([.ref (ad 0), .int a]) ++ List.replicate (2 - (lg_sl ([.ref (ad 0), .int a])).length) Slot.unset).toArray = ls at hl ⊢
  have hl : lv_has ls 2 [(0, .ref (ad 0)), (1, .int a)] := hl
  refine lv_iload_n hx hb dX_out_0 rfl (lv_at hl 1 rfl) ?_
  refine lv_bipush (v := 8) hx hb dX_out_1 (by decide +kernel) ?_
  refine lv_bipush (v := 15) hx hb dX_out_3 (by decide +kernel) ?_
  refine vp_callSi (va_Run.run (va_runS (As := [.int a, .int 8, .int 15]) (rest := []) ⟨hx, hb, hml, hown, hc⟩ (cX_isWithin l a 8 15) (va_cwS 3 hc (g_S w187 w188 w1 qX_isWithin) rfl rfl rfl (by decide +kernel) ⟨Nat.le_of_ble_eq_true rfl, Nat.le_of_ble_eq_true rfl⟩) ⟨tPre_blind, tPre_in⟩ rfl rfl hl.1 rfl (lv_room (Nat.le_of_ble_eq_true rfl)) dX_out_5 ⟨Nat.zero_le _, Nat.zero_le _⟩)) (fun r_1 hr_1 => ?_)
  refine lv_if_ne (tgt := 19) hx hb dX_out_8 (by decide) (fun c_1 => ?_) (fun c_1 => ?_)
  · obtain ⟨k, hk, ek⟩ := wi_815 (br_n hr_1 c_1)
    subst ek
    refine lv_aload_n hx hb dX_out_19 rfl (lv_at hl 0 rfl) ?_
    refine va_get (D := (dC, dI)) (ci := 0) (v := .ref (ad 1)) (C := RX) (T := TX) (N := 8) hx hb hc inX hown hK hP 0 rfl rfl 0 (by decide) (hc _ w111) (fun _ h9 => h9) rfl dX_out_20 ?_
    refine va_get (D := (dC, dI)) (ci := 1) (v := .ref (ad 5)) (C := RMe) (T := TMe) (N := 5) hx hb hc inMe hown hK hP 1 rfl rfl 3 (by decide) (hc _ w36) (fun _ h9 => h9) rfl dX_out_23 ?_
    refine lv_iload_n hx hb dX_out_26 rfl (lv_at hl 1 rfl) ?_
    refine lv_bipush (v := 8) hx hb dX_out_27 (by decide +kernel) ?_
    refine lv_isub hx hb dX_out_29 ?_
    refine lv_topi (fun v_3 ev_3 => ?_)
    rw [show nI (8 + k) - 8 = nI k from sub8 k] at ev_3
    subst v_3
    refine va_iald hx hb hK hP 5 3 rfl rfl (vp_in_nI (by omega) (by decide)) dX_out_30 ?_
    refine lv_topi (fun v_4 ev_4 => ?_)
    rw [nI_clamp (by omega)] at ev_4
    subst v_4
    refine W.widen (k := 1) (n := 6) (by decide) (by decide) ?_
    refine vx_ret ?_
    exact W.iret (v := (S 4 k)) hx hb hr (fun t ht hW => ⟨⟨_, S, rfl, (by (try dsimp only); exact (by unfold oOut; rw [if_neg (fun h => h (br_n hr_1 c_1)), nI_clamp (by omega), show 8 + k - 8 = k by omega])), by rw [ht]; exact hP, va_K.moved hW.alike hK, hD⟩, hS.F ht⟩) hS.2.2 dX_out_31
  · exact vx_throw0 (rest := []) (cls := eA) (names := nms) (ik := 51) (ic := 53) (mc := 1) (ms := 6) hx hb hl9 hown (by decide +kernel) (by decide +kernel) (hc _ w196) (hc _ w9) (th_hat th_eA hc hN) tg_eA hU.1 hU.2 hS (by rw [hml]; exact hl.1) dX_out_11 dX_out_14 dX_out_15 dX_out_18 (fun x h => (hex x h).elim) (Nat.le_of_ble_eq_true rfl) (Nat.le_of_ble_eq_true rfl) (Nat.le_of_ble_eq_true rfl) (Nat.le_of_ble_eq_true rfl) hlocks (fun t ha hz hk => ⟨S, trivial, ⟨by (try dsimp only); exact ⟨rfl, by unfold oOut; rw [if_pos (br_0 hr_1 c_1)]⟩, (x_thrown hP hK hD hS ha hz hk).1⟩, (x_thrown hP hK hD hS ha hz hk).2⟩) hS.2.2 (Nat.le_refl _) (Nat.le_refl _)

set_option maxHeartbeats 4000000 in
set_option maxRecDepth 100000 in
theorem cX_wire (l : Launch) (hl9 : l.stackTraces = false) (dC : Nat → ClassId) (dI : Nat → Nat → Nat) (ad : Nat → Nat) (ca : Nat → ClassId) (sz : Nat) (S : Ss) (a b : Int32) : vx_Met l yX_wire (kX_wire :: CW) ({ frames := 6, cells := 1, slots := 6, locals := 91 }) (va_Pc [.ref (ad 0), .int a, .int b] (tPre (dC, dI) (xT ca) (XW ad ca S) sz)) (va_Qi (fun (r : Int32) (u : Ss) => oWire S a b = (0, r, u)) (fun u => gAt (dC, dI) (xT ca) (va_A (XW ad ca S) sz) (XW ad ca u)) (va_A (XW ad ca S) sz)) (vx_X (fun _ : Ss => True) (fun E u t => (E = eA ∧ oWire S a b = (1, 0, u)) ∧ gAt (dC, dI) (xT ca) (va_A (XW ad ca S) sz) (XW ad ca u) t) (va_A (XW ad ca S) sz)) 1 6 (va_A (XW ad ca S) sz) := by
  refine vx_ofW (cc := bX_wire) (maxL := 4) (ret := (some .int)) (by decide +kernel) rfl ?_
  intro p e s m args below meth c s₁ B hml hex hv
  obtain ⟨rfl, ⟨hsz, hP, hK, hD0⟩, hU, hN⟩ := hv
  have hx := B.exec
  have hb := B.bytes
  have hr := B.returns
  have hts := atoms_spec (ws := kX_wire :: CW) B.pre
  have hc : ∀ w ∈ CW, w.before _ s = true := fun w h => hts w (List.mem_cons_of_mem _ h)
  have hown : s.vm.findClass RX = some m.cls := findClass_of_methodNamed B.named
  have hlocks := B.notSynchronized
  subst hsz
  have hD := hD0.self (sz := s.heap.size)
  generalize hAe : va_A (XW ad ca S) s.heap.size = A at hD hU ⊢
  have hA : ∀ q : Nat, s.heap.size ≤ q → A q := fun q h => by rw [← hAe]; exact Or.inr h
  have hS : va_S A s.heap s.heap [] := va_S.rf
  have hl := lv_entry ([.ref (ad 0), .int a, .int b]) (n := 4) (Nat.le_of_ble_eq_true rfl)
  rw [lg_entry_eq]
  generalize (lg_sl ([.ref (ad 0), .int a, .int b]) ++ List.replicate (4 - (lg_sl ([.ref (ad 0), .int a, .int b])).length) Slot.unset).toArray = ls at hl ⊢
  have hl : lv_has ls 4 [(0, .ref (ad 0)), (1, .int a), (2, .int b)] := hl
  refine lv_iload_n hx hb dX_wire_0 rfl (lv_at hl 1 rfl) ?_
  refine lv_iconst (v := 0) hx hb dX_wire_1 (by decide +kernel) ?_
  refine lv_bipush (v := 7) hx hb dX_wire_2 (by decide +kernel) ?_
  refine vp_callSi (va_Run.run (va_runS (As := [.int a, .int 0, .int 7]) (rest := []) ⟨hx, hb, hml, hown, hc⟩ (cX_isWithin l a 0 7) (va_cwS 3 hc (g_S w187 w188 w1 qX_isWithin) rfl rfl rfl (by decide +kernel) ⟨Nat.le_of_ble_eq_true rfl, Nat.le_of_ble_eq_true rfl⟩) ⟨tPre_blind, tPre_in⟩ rfl rfl hl.1 rfl (lv_room (Nat.le_of_ble_eq_true rfl)) dX_wire_4 ⟨Nat.zero_le _, Nat.zero_le _⟩)) (fun r_1 hr_1 => ?_)
  refine lv_if_eq (tgt := 19) hx hb dX_wire_7 (by decide) (fun c_1 => ?_) (fun c_1 => ?_)
  · exact vx_throw0 (rest := []) (cls := eA) (names := nms) (ik := 51) (ic := 53) (mc := 1) (ms := 6) hx hb hl9 hown (by decide +kernel) (by decide +kernel) (hc _ w196) (hc _ w9) (th_hat th_eA hc hN) tg_eA hU.1 hU.2 hS (by rw [hml]; exact hl.1) dX_wire_19 dX_wire_22 dX_wire_23 dX_wire_26 (fun x h => (hex x h).elim) (Nat.le_of_ble_eq_true rfl) (Nat.le_of_ble_eq_true rfl) (Nat.le_of_ble_eq_true rfl) (Nat.le_of_ble_eq_true rfl) hlocks (fun t ha hz hk => ⟨S, trivial, ⟨by (try dsimp only); exact ⟨rfl, by unfold oWire; rw [if_pos (fun h => (br_0 hr_1 c_1) h.1)]⟩, (x_thrown hP hK hD hS ha hz hk).1⟩, (x_thrown hP hK hD hS ha hz hk).2⟩) hS.2.2 (Nat.le_refl _) (Nat.le_refl _)
  · refine lv_iload_n hx hb dX_wire_10 rfl (lv_at hl 2 rfl) ?_
    refine lv_iconst (v := 0) hx hb dX_wire_11 (by decide +kernel) ?_
    refine lv_iconst (v := 1) hx hb dX_wire_12 (by decide +kernel) ?_
    refine vp_callSi (va_Run.run (va_runS (As := [.int b, .int 0, .int 1]) (rest := []) ⟨hx, hb, hml, hown, hc⟩ (cX_isWithin l b 0 1) (va_cwS 3 hc (g_S w187 w188 w1 qX_isWithin) rfl rfl rfl (by decide +kernel) ⟨Nat.le_of_ble_eq_true rfl, Nat.le_of_ble_eq_true rfl⟩) ⟨tPre_blind, tPre_in⟩ rfl rfl hl.1 rfl (lv_room (Nat.le_of_ble_eq_true rfl)) dX_wire_13 ⟨Nat.zero_le _, Nat.zero_le _⟩)) (fun r_3 hr_3 => ?_)
    refine lv_if_ne (tgt := 27) hx hb dX_wire_16 (by decide) (fun c_3 => ?_) (fun c_3 => ?_)
    · obtain ⟨k, hk, ek⟩ := wi_ex (br_n hr_1 c_1) (n := 7) rfl (by decide)
      subst ek
      refine lv_aload_n hx hb dX_wire_27 rfl (lv_at hl 0 rfl) ?_
      refine va_get (D := (dC, dI)) (ci := 0) (v := .ref (ad 1)) (C := RX) (T := TX) (N := 8) hx hb hc inX hown hK hP 0 rfl rfl 0 (by decide) (hc _ w111) (fun _ h9 => h9) rfl dX_wire_28 ?_
      refine va_get (D := (dC, dI)) (ci := 1) (v := .ref (ad 4)) (C := RMe) (T := TMe) (N := 5) hx hb hc inMe hown hK hP 1 rfl rfl 2 (by decide) (hc _ w34) (fun _ h9 => h9) rfl dX_wire_31 ?_
      refine lv_iload_n hx hb dX_wire_34 rfl (lv_at hl 1 rfl) ?_
      refine va_iald hx hb hK hP 4 2 rfl rfl (vp_in_nI (by omega) (by decide)) dX_wire_35 ?_
      refine lv_topi (fun v_5 ev_5 => ?_)
      rw [nI_clamp (by omega)] at ev_5
      subst v_5
      refine lv_istore_n (lv' := [(3, .int (S 3 k)), (0, .ref (ad 0)), (1, .int (nI k)), (2, .int b)]) hx hb dX_wire_36 rfl hl (by decide) rfl (fun ls hl => ?_)
      refine lv_aload_n hx hb dX_wire_37 rfl (lv_at hl 1 rfl) ?_
      refine va_get (D := (dC, dI)) (ci := 0) (v := .ref (ad 1)) (C := RX) (T := TX) (N := 8) hx hb hc inX hown hK hP 0 rfl rfl 0 (by decide) (hc _ w111) (fun _ h9 => h9) rfl dX_wire_38 ?_
      refine va_get (D := (dC, dI)) (ci := 1) (v := .ref (ad 4)) (C := RMe) (T := TMe) (N := 5) hx hb hc inMe hown hK hP 1 rfl rfl 2 (by decide) (hc _ w34) (fun _ h9 => h9) rfl dX_wire_41 ?_
      refine lv_iload_n hx hb dX_wire_44 rfl (lv_at hl 2 rfl) ?_
      refine lv_iload_n hx hb dX_wire_45 rfl (lv_at hl 3 rfl) ?_
      refine va_iast hx hb hK hP hD hS 4 2 rfl rfl (vp_in_nI (by omega) (by decide)) dX_wire_46 (fun H locs hP hD hS => ?_)
      rw [nI_clamp (by omega)] at hP hD
      obtain ⟨S_6, eS_6⟩ : ∃ z9 : Ss, z9 = row S 3 (upd (S 3) k b) := ⟨_, rfl⟩
      have hP : va_P (dC, dI) vwCl (XW ad ca S_6) H := by rw [eS_6]; exact hP
      have hD : va_D A (XW ad ca S_6) := by rw [eS_6]; exact hD
      refine lv_iload_n hx hb dX_wire_47 rfl (lv_at hl 0 rfl) ?_
      refine W.widen (k := 1) (n := 6) (by decide) (by decide) ?_
      refine vx_ret ?_
      exact W.iret (v := (S 3 k)) hx hb hr (fun t ht hW => ⟨⟨_, S_6, rfl, (by (try dsimp only); exact (by unfold oWire; rw [if_neg (fun h => h ⟨(br_n hr_1 c_1), (br_n hr_3 c_3)⟩), nI_clamp (by omega), eS_6])), by rw [ht]; exact hP, va_K.moved hW.alike hK, hD⟩, hS.F ht⟩) hS.2.2 dX_wire_48
    · exact vx_throw0 (rest := []) (cls := eA) (names := nms) (ik := 51) (ic := 53) (mc := 1) (ms := 6) hx hb hl9 hown (by decide +kernel) (by decide +kernel) (hc _ w196) (hc _ w9) (th_hat th_eA hc hN) tg_eA hU.1 hU.2 hS (by rw [hml]; exact hl.1) dX_wire_19 dX_wire_22 dX_wire_23 dX_wire_26 (fun x h => (hex x h).elim) (Nat.le_of_ble_eq_true rfl) (Nat.le_of_ble_eq_true rfl) (Nat.le_of_ble_eq_true rfl) (Nat.le_of_ble_eq_true rfl) hlocks (fun t ha hz hk => ⟨S, trivial, ⟨by (try dsimp only); exact ⟨rfl, by unfold oWire; rw [if_pos (fun h => (br_0 hr_3 c_3) h.2)]⟩, (x_thrown hP hK hD hS ha hz hk).1⟩, (x_thrown hP hK hD hS ha hz hk).2⟩) hS.2.2 (Nat.le_refl _) (Nat.le_refl _)

set_option maxHeartbeats 4000000 in
set_option maxRecDepth 100000 in
theorem cX_force (l : Launch) (hl9 : l.stackTraces = false) (dC : Nat → ClassId) (dI : Nat → Nat → Nat) (ad : Nat → Nat) (ca : Nat → ClassId) (sz : Nat) (S : Ss) (a b : Int32) : vx_Met l yX_force (kX_force :: CW) ({ frames := 6, cells := 1, slots := 6, locals := 91 }) (va_Pc [.ref (ad 0), .int a, .int b] (tPre (dC, dI) (xT ca) (XW ad ca S) sz)) (va_Qi (fun (r : Int32) (u : Ss) => oForce S a b = (0, r, u)) (fun u => gAt (dC, dI) (xT ca) (va_A (XW ad ca S) sz) (XW ad ca u)) (va_A (XW ad ca S) sz)) (vx_X (fun _ : Ss => True) (fun E u t => (E = eA ∧ oForce S a b = (1, 0, u)) ∧ gAt (dC, dI) (xT ca) (va_A (XW ad ca S) sz) (XW ad ca u) t) (va_A (XW ad ca S) sz)) 1 6 (va_A (XW ad ca S) sz) := by
  refine vx_ofW (cc := bX_force) (maxL := 4) (ret := (some .int)) (by decide +kernel) rfl ?_
  intro p e s m args below meth c s₁ B hml hex hv
  obtain ⟨rfl, ⟨hsz, hP, hK, hD0⟩, hU, hN⟩ := hv
  have hx := B.exec
  have hb := B.bytes
  have hr := B.returns
  have hts := atoms_spec (ws := kX_force :: CW) B.pre
  have hc : ∀ w ∈ CW, w.before _ s = true := fun w h => hts w (List.mem_cons_of_mem _ h)
  have hown : s.vm.findClass RX = some m.cls := findClass_of_methodNamed B.named
  have hlocks := B.notSynchronized
  subst hsz
  have hD := hD0.self (sz := s.heap.size)
  generalize hAe : va_A (XW ad ca S) s.heap.size = A at hD hU ⊢
  have hA : ∀ q : Nat, s.heap.size ≤ q → A q := fun q h => by rw [← hAe]; exact Or.inr h
  have hS : va_S A s.heap s.heap [] := va_S.rf
  have hl := lv_entry ([.ref (ad 0), .int a, .int b]) (n := 4) (Nat.le_of_ble_eq_true rfl)
  rw [lg_entry_eq]
  generalize (lg_sl ([.ref (ad 0), .int a, .int b]) ++ List.replicate (4 - (lg_sl ([.ref (ad 0), .int a, .int b])).length) Slot.unset).toArray = ls at hl ⊢
  have hl : lv_has ls 4 [(0, .ref (ad 0)), (1, .int a), (2, .int b)] := hl
  refine lv_iload_n hx hb dX_force_0 rfl (lv_at hl 1 rfl) ?_
  refine vp_callSi (va_Run.run (va_runS (As := [.int a]) (rest := []) ⟨hx, hb, hml, hown, hc⟩ (cX_isBit l a) (va_cwS 1 hc (g_S w190 w191 w1 qX_isBit) rfl rfl rfl (by decide +kernel) ⟨Nat.le_of_ble_eq_true rfl, Nat.le_of_ble_eq_true rfl⟩) ⟨tPre_blind, tPre_in⟩ rfl rfl hl.1 rfl (lv_room (Nat.le_of_ble_eq_true rfl)) dX_force_1 ⟨Nat.zero_le _, Nat.zero_le _⟩)) (fun r_1 hr_1 => ?_)
  refine lv_if_eq (tgt := 16) hx hb dX_force_4 (by decide) (fun c_1 => ?_) (fun c_1 => ?_)
  · exact vx_throw0 (rest := []) (cls := eA) (names := nms) (ik := 51) (ic := 53) (mc := 1) (ms := 6) hx hb hl9 hown (by decide +kernel) (by decide +kernel) (hc _ w196) (hc _ w9) (th_hat th_eA hc hN) tg_eA hU.1 hU.2 hS (by rw [hml]; exact hl.1) dX_force_16 dX_force_19 dX_force_20 dX_force_23 (fun x h => (hex x h).elim) (Nat.le_of_ble_eq_true rfl) (Nat.le_of_ble_eq_true rfl) (Nat.le_of_ble_eq_true rfl) (Nat.le_of_ble_eq_true rfl) hlocks (fun t ha hz hk => ⟨S, trivial, ⟨by (try dsimp only); exact ⟨rfl, by unfold oForce; rw [if_pos (fun h => (br_0 hr_1 c_1) h.1)]⟩, (x_thrown hP hK hD hS ha hz hk).1⟩, (x_thrown hP hK hD hS ha hz hk).2⟩) hS.2.2 (Nat.le_refl _) (Nat.le_refl _)
  · refine lv_iload_n hx hb dX_force_7 rfl (lv_at hl 2 rfl) ?_
    refine lv_iconst (v := (-1)) hx hb dX_force_8 (by decide +kernel) ?_
    refine lv_iconst (v := 1) hx hb dX_force_9 (by decide +kernel) ?_
    refine vp_callSi (va_Run.run (va_runS (As := [.int b, .int (-1), .int 1]) (rest := []) ⟨hx, hb, hml, hown, hc⟩ (cX_isWithin l b (-1) 1) (va_cwS 3 hc (g_S w187 w188 w1 qX_isWithin) rfl rfl rfl (by decide +kernel) ⟨Nat.le_of_ble_eq_true rfl, Nat.le_of_ble_eq_true rfl⟩) ⟨tPre_blind, tPre_in⟩ rfl rfl hl.1 rfl (lv_room (Nat.le_of_ble_eq_true rfl)) dX_force_10 ⟨Nat.zero_le _, Nat.zero_le _⟩)) (fun r_3 hr_3 => ?_)
    refine lv_if_ne (tgt := 24) hx hb dX_force_13 (by decide) (fun c_3 => ?_) (fun c_3 => ?_)
    · obtain ⟨k, hk, ek⟩ := wi_ex (br_n hr_1 c_1) (n := 31) rfl (by decide)
      subst ek
      refine lv_aload_n hx hb dX_force_24 rfl (lv_at hl 0 rfl) ?_
      refine va_get (D := (dC, dI)) (ci := 0) (v := .ref (ad 1)) (C := RX) (T := TX) (N := 8) hx hb hc inX hown hK hP 0 rfl rfl 0 (by decide) (hc _ w111) (fun _ h9 => h9) rfl dX_force_25 ?_
      refine va_get (D := (dC, dI)) (ci := 1) (v := .ref (ad 3)) (C := RMe) (T := TMe) (N := 5) hx hb hc inMe hown hK hP 1 rfl rfl 1 (by decide) (hc _ w32) (fun _ h9 => h9) rfl dX_force_28 ?_
      refine lv_iload_n hx hb dX_force_31 rfl (lv_at hl 1 rfl) ?_
      refine va_iald hx hb hK hP 3 1 rfl rfl (vp_in_nI (by omega) (by decide)) dX_force_32 ?_
      refine lv_topi (fun v_5 ev_5 => ?_)
      rw [nI_clamp (by omega)] at ev_5
      subst v_5
      refine lv_istore_n (lv' := [(3, .int (S 2 k)), (0, .ref (ad 0)), (1, .int (nI k)), (2, .int b)]) hx hb dX_force_33 rfl hl (by decide) rfl (fun ls hl => ?_)
      refine lv_aload_n hx hb dX_force_34 rfl (lv_at hl 1 rfl) ?_
      refine va_get (D := (dC, dI)) (ci := 0) (v := .ref (ad 1)) (C := RX) (T := TX) (N := 8) hx hb hc inX hown hK hP 0 rfl rfl 0 (by decide) (hc _ w111) (fun _ h9 => h9) rfl dX_force_35 ?_
      refine va_get (D := (dC, dI)) (ci := 1) (v := .ref (ad 3)) (C := RMe) (T := TMe) (N := 5) hx hb hc inMe hown hK hP 1 rfl rfl 1 (by decide) (hc _ w32) (fun _ h9 => h9) rfl dX_force_38 ?_
      refine lv_iload_n hx hb dX_force_41 rfl (lv_at hl 2 rfl) ?_
      refine lv_iload_n hx hb dX_force_42 rfl (lv_at hl 3 rfl) ?_
      refine va_iast hx hb hK hP hD hS 3 1 rfl rfl (vp_in_nI (by omega) (by decide)) dX_force_43 (fun H locs hP hD hS => ?_)
      rw [nI_clamp (by omega)] at hP hD
      obtain ⟨S_6, eS_6⟩ : ∃ z9 : Ss, z9 = row S 2 (upd (S 2) k b) := ⟨_, rfl⟩
      have hP : va_P (dC, dI) vwCl (XW ad ca S_6) H := by rw [eS_6]; exact hP
      have hD : va_D A (XW ad ca S_6) := by rw [eS_6]; exact hD
      refine lv_iload_n hx hb dX_force_44 rfl (lv_at hl 0 rfl) ?_
      refine W.widen (k := 1) (n := 6) (by decide) (by decide) ?_
      refine vx_ret ?_
      exact W.iret (v := (S 2 k)) hx hb hr (fun t ht hW => ⟨⟨_, S_6, rfl, (by (try dsimp only); exact (by unfold oForce; rw [if_neg (fun h => h ⟨(br_n hr_1 c_1), (br_n hr_3 c_3)⟩), nI_clamp (by omega), eS_6])), by rw [ht]; exact hP, va_K.moved hW.alike hK, hD⟩, hS.F ht⟩) hS.2.2 dX_force_45
    · exact vx_throw0 (rest := []) (cls := eA) (names := nms) (ik := 51) (ic := 53) (mc := 1) (ms := 6) hx hb hl9 hown (by decide +kernel) (by decide +kernel) (hc _ w196) (hc _ w9) (th_hat th_eA hc hN) tg_eA hU.1 hU.2 hS (by rw [hml]; exact hl.1) dX_force_16 dX_force_19 dX_force_20 dX_force_23 (fun x h => (hex x h).elim) (Nat.le_of_ble_eq_true rfl) (Nat.le_of_ble_eq_true rfl) (Nat.le_of_ble_eq_true rfl) (Nat.le_of_ble_eq_true rfl) hlocks (fun t ha hz hk => ⟨S, trivial, ⟨by (try dsimp only); exact ⟨rfl, by unfold oForce; rw [if_pos (fun h => (br_0 hr_3 c_3) h.2)]⟩, (x_thrown hP hK hD hS ha hz hk).1⟩, (x_thrown hP hK hD hS ha hz hk).2⟩) hS.2.2 (Nat.le_refl _) (Nat.le_refl _)

set_option maxHeartbeats 4000000 in
set_option maxRecDepth 100000 in
theorem cX_put (l : Launch) (hl9 : l.stackTraces = false) (dC : Nat → ClassId) (dI : Nat → Nat → Nat) (ad : Nat → Nat) (ca : Nat → ClassId) (sz : Nat) (S : Ss) (a b : Int32) : vx_Met l yX_put (kX_put :: CW) ({ frames := 6, cells := 1, slots := 6, locals := 91 }) (va_Pc [.ref (ad 0), .int a, .double (eD b)] (tPre (dC, dI) (xT ca) (XW ad ca S) sz)) (va_Qd (fun (r : UInt64) (u : Ss) => oPut S a b = (0, r, u)) (fun u => gAt (dC, dI) (xT ca) (va_A (XW ad ca S) sz) (XW ad ca u)) (va_A (XW ad ca S) sz)) (vx_X (fun _ : Ss => True) (fun E u t => (E = eA ∧ oPut S a b = (1, 0, u)) ∧ gAt (dC, dI) (xT ca) (va_A (XW ad ca S) sz) (XW ad ca u) t) (va_A (XW ad ca S) sz)) 1 6 (va_A (XW ad ca S) sz) := by
  refine vx_ofW (cc := bX_put) (maxL := 6) (ret := (some .double)) (by decide +kernel) rfl ?_
  intro p e s m args below meth c s₁ B hml hex hv
  obtain ⟨rfl, ⟨hsz, hP, hK, hD0⟩, hU, hN⟩ := hv
  have hx := B.exec
  have hb := B.bytes
  have hr := B.returns
  have hts := atoms_spec (ws := kX_put :: CW) B.pre
  have hc : ∀ w ∈ CW, w.before _ s = true := fun w h => hts w (List.mem_cons_of_mem _ h)
  have hown : s.vm.findClass RX = some m.cls := findClass_of_methodNamed B.named
  have hlocks := B.notSynchronized
  subst hsz
  have hD := hD0.self (sz := s.heap.size)
  generalize hAe : va_A (XW ad ca S) s.heap.size = A at hD hU ⊢
  have hA : ∀ q : Nat, s.heap.size ≤ q → A q := fun q h => by rw [← hAe]; exact Or.inr h
  have hS : va_S A s.heap s.heap [] := va_S.rf
  have hl := lv_entry ([.ref (ad 0), .int a, .double (eD b)]) (n := 6) (Nat.le_of_ble_eq_true rfl)
  rw [lg_entry_eq]
  generalize (lg_sl ([.ref (ad 0), .int a, .double (eD b)]) ++ List.replicate (6 - (lg_sl ([.ref (ad 0), .int a, .double (eD b)])).length) Slot.unset).toArray = ls at hl ⊢
  have hl : lv_has ls 6 [(0, .ref (ad 0)), (1, .int a), (2, .double (eD b))] := hl
  refine lv_iload_n hx hb dX_put_0 rfl (lv_at hl 1 rfl) ?_
  refine vp_callSi (va_Run.run (va_runS (As := [.int a]) (rest := []) ⟨hx, hb, hml, hown, hc⟩ (cX_isRegister l a) (va_cwS 1 hc (g_S w193 w194 w1 qX_isRegister) rfl rfl rfl (by decide +kernel) ⟨Nat.le_of_ble_eq_true rfl, Nat.le_of_ble_eq_true rfl⟩) ⟨tPre_blind, tPre_in⟩ rfl rfl hl.1 rfl (lv_room (Nat.le_of_ble_eq_true rfl)) dX_put_1 ⟨Nat.zero_le _, Nat.zero_le _⟩)) (fun r_1 hr_1 => ?_)
  refine lv_if_eq (tgt := 14) hx hb dX_put_4 (by decide) (fun c_1 => ?_) (fun c_1 => ?_)
  · exact vx_throw0 (rest := []) (cls := eA) (names := nms) (ik := 51) (ic := 53) (mc := 1) (ms := 6) hx hb hl9 hown (by decide +kernel) (by decide +kernel) (hc _ w196) (hc _ w9) (th_hat th_eA hc hN) tg_eA hU.1 hU.2 hS (by rw [hml]; exact hl.1) dX_put_14 dX_put_17 dX_put_18 dX_put_21 (fun x h => (hex x h).elim) (Nat.le_of_ble_eq_true rfl) (Nat.le_of_ble_eq_true rfl) (Nat.le_of_ble_eq_true rfl) (Nat.le_of_ble_eq_true rfl) hlocks (fun t ha hz hk => ⟨S, trivial, ⟨by (try dsimp only); exact ⟨rfl, by unfold oPut; rw [if_pos (fun h => (br_0 hr_1 c_1) h.1)]⟩, (x_thrown hP hK hD hS ha hz hk).1⟩, (x_thrown hP hK hD hS ha hz hk).2⟩) hS.2.2 (Nat.le_refl _) (Nat.le_refl _)
  · refine lv_dload_n hx hb dX_put_7 rfl (lv_at hl 2 rfl) ?_
    refine vp_callSi (va_Run.run (va_runS (As := [.double (eD b)]) (rest := []) ⟨hx, hb, hml, hown, hc⟩ (cX_isInRange l b) (va_cwS 1 hc (g_S w326 w327 w1 qX_isInRange) rfl rfl rfl (by decide +kernel) ⟨Nat.le_of_ble_eq_true rfl, Nat.le_of_ble_eq_true rfl⟩) ⟨tPre_blind, tPre_in⟩ rfl rfl hl.1 rfl (lv_room (Nat.le_of_ble_eq_true rfl)) dX_put_8 ⟨Nat.zero_le _, Nat.zero_le _⟩)) (fun r_3 hr_3 => ?_)
    refine lv_if_ne (tgt := 22) hx hb dX_put_11 (by decide) (fun c_3 => ?_) (fun c_3 => ?_)
    · obtain ⟨k, hk, ek⟩ := wi_ex (br_n hr_1 c_1) (n := 7) rfl (by decide)
      subst ek
      refine lv_aload_n hx hb dX_put_22 rfl (lv_at hl 0 rfl) ?_
      refine va_get (D := (dC, dI)) (ci := 0) (v := .ref (ad 1)) (C := RX) (T := TX) (N := 8) hx hb hc inX hown hK hP 0 rfl rfl 0 (by decide) (hc _ w111) (fun _ h9 => h9) rfl dX_put_23 ?_
      refine va_get (D := (dC, dI)) (ci := 1) (v := .ref (ad 6)) (C := RMe) (T := TMe) (N := 5) hx hb hc inMe hown hK hP 1 rfl rfl 4 (by decide) (hc _ w39) (fun _ h9 => h9) rfl dX_put_26 ?_
      refine lv_iload_n hx hb dX_put_29 rfl (lv_at hl 1 rfl) ?_
      refine va_iald hx hb hK hP 6 4 rfl rfl (vp_in_nI (by omega) (by decide)) dX_put_30 ?_
      refine lv_topi (fun v_5 ev_5 => ?_)
      rw [nI_clamp (by omega)] at ev_5
      subst v_5
      refine vp_callSd (va_Run.run (va_runS (As := [.int (S 5 k)]) (rest := []) ⟨hx, hb, hml, hown, hc⟩ (cX_numberOf l (S 5 k)) (va_cwS 1 hc (g_S w335 w336 w1 qX_numberOf) rfl rfl rfl (by decide +kernel) ⟨Nat.le_of_ble_eq_true rfl, Nat.le_of_ble_eq_true rfl⟩) ⟨tPre_blind, tPre_in⟩ rfl rfl hl.1 rfl (lv_room (Nat.le_of_ble_eq_true rfl)) dX_put_31 ⟨Nat.zero_le _, Nat.zero_le _⟩)) (fun r_6 hr_6 => ?_)
      refine lv_dstore (lv' := [(4, .double r_6), (0, .ref (ad 0)), (1, .int (nI k)), (2, .double (eD b))]) hx hb dX_put_34 hl (by decide) rfl (fun ls hl => ?_)
      refine lv_aload_n hx hb dX_put_36 rfl (lv_at hl 1 rfl) ?_
      refine va_get (D := (dC, dI)) (ci := 0) (v := .ref (ad 1)) (C := RX) (T := TX) (N := 8) hx hb hc inX hown hK hP 0 rfl rfl 0 (by decide) (hc _ w111) (fun _ h9 => h9) rfl dX_put_37 ?_
      refine va_get (D := (dC, dI)) (ci := 1) (v := .ref (ad 6)) (C := RMe) (T := TMe) (N := 5) hx hb hc inMe hown hK hP 1 rfl rfl 4 (by decide) (hc _ w39) (fun _ h9 => h9) rfl dX_put_40 ?_
      refine lv_iload_n hx hb dX_put_43 rfl (lv_at hl 2 rfl) ?_
      refine lv_dload_n hx hb dX_put_44 rfl (lv_at hl 3 rfl) ?_
      refine vp_callSi (va_Run.run (va_runS (As := [.double (eD b)]) (rest := [.int (nI k), .ref (ad 6)]) ⟨hx, hb, hml, hown, hc⟩ (cX_eighthsAtMost l b) (va_cwS 1 hc (g_S w331 w332 w1 qX_eighthsAtMost) rfl rfl rfl (by decide +kernel) ⟨Nat.le_of_ble_eq_true rfl, Nat.le_of_ble_eq_true rfl⟩) ⟨tPre_blind, tPre_in⟩ rfl rfl hl.1 rfl (lv_room (Nat.le_of_ble_eq_true rfl)) dX_put_45 ⟨Nat.zero_le _, Nat.zero_le _⟩)) (fun r_7 hr_7 => ?_)
      subst r_7
      refine va_iast hx hb hK hP hD hS 6 4 rfl rfl (vp_in_nI (by omega) (by decide)) dX_put_48 (fun H locs hP hD hS => ?_)
      rw [nI_clamp (by omega)] at hP hD
      obtain ⟨S_8, eS_8⟩ : ∃ z9 : Ss, z9 = row S 5 (upd (S 5) k b) := ⟨_, rfl⟩
      have hP : va_P (dC, dI) vwCl (XW ad ca S_8) H := by rw [eS_8]; exact hP
      have hD : va_D A (XW ad ca S_8) := by rw [eS_8]; exact hD
      refine lv_dload hx hb dX_put_49 (lv_at hl 0 rfl) ?_
      refine W.widen (k := 1) (n := 6) (by decide) (by decide) ?_
      refine vx_ret ?_
      exact W.dret (v := r_6) hx hb hr (fun t ht hW => ⟨⟨_, S_8, rfl, (by (try dsimp only); exact (by unfold oPut; rw [if_neg (fun h => h ⟨(br_n hr_1 c_1), (br_n hr_3 c_3)⟩), nI_clamp (by omega), eS_8, hr_6])), by rw [ht]; exact hP, va_K.moved hW.alike hK, hD⟩, hS.F ht⟩) hS.2.2 dX_put_51
    · exact vx_throw0 (rest := []) (cls := eA) (names := nms) (ik := 51) (ic := 53) (mc := 1) (ms := 6) hx hb hl9 hown (by decide +kernel) (by decide +kernel) (hc _ w196) (hc _ w9) (th_hat th_eA hc hN) tg_eA hU.1 hU.2 hS (by rw [hml]; exact hl.1) dX_put_14 dX_put_17 dX_put_18 dX_put_21 (fun x h => (hex x h).elim) (Nat.le_of_ble_eq_true rfl) (Nat.le_of_ble_eq_true rfl) (Nat.le_of_ble_eq_true rfl) (Nat.le_of_ble_eq_true rfl) hlocks (fun t ha hz hk => ⟨S, trivial, ⟨by (try dsimp only); exact ⟨rfl, by unfold oPut; rw [if_pos (fun h => (br_0 hr_3 c_3) h.2)]⟩, (x_thrown hP hK hD hS ha hz hk).1⟩, (x_thrown hP hK hD hS ha hz hk).2⟩) hS.2.2 (Nat.le_refl _) (Nat.le_refl _)

set_option maxHeartbeats 4000000 in
set_option maxRecDepth 100000 in
theorem cX_state (l : Launch) (hl9 : l.stackTraces = false) (dC : Nat → ClassId) (dI : Nat → Nat → Nat) (ad : Nat → Nat) (ca : Nat → ClassId) (sz : Nat) (S : Ss) (a b : Int32) (m0 : Nat) (hm : m0 ≤ 10) (em : S 0 0 = nI m0) : vx_Met l yX_state (kX_state :: CW) ({ frames := 6, cells := 1, slots := 6, locals := 91 }) (va_Pc [.ref (ad 0), .int a, .int b] (tPre (dC, dI) (xT ca) (XW ad ca S) sz)) (va_Qi (fun (r : Int32) (u : Ss) => oState S a b = (0, r, u)) (fun u => gAt (dC, dI) (xT ca) (va_A (XW ad ca S) sz) (XW ad ca u)) (va_A (XW ad ca S) sz)) (vx_X (fun _ : Ss => True) (fun E u t => ((E = eN ∧ oState S a b = (1, 0, u)) ∨ (E = eA ∧ oState S a b = (2, 0, u))) ∧ gAt (dC, dI) (xT ca) (va_A (XW ad ca S) sz) (XW ad ca u) t) (va_A (XW ad ca S) sz)) 1 6 (va_A (XW ad ca S) sz) := by
  refine vx_ofW (cc := bX_state) (maxL := 3) (ret := (some .int)) (by decide +kernel) rfl ?_
  intro p e s m args below meth c s₁ B hml hex hv
  obtain ⟨rfl, ⟨hsz, hP, hK, hD0⟩, hU, hN⟩ := hv
  have hx := B.exec
  have hb := B.bytes
  have hr := B.returns
  have hts := atoms_spec (ws := kX_state :: CW) B.pre
  have hc : ∀ w ∈ CW, w.before _ s = true := fun w h => hts w (List.mem_cons_of_mem _ h)
  have hown : s.vm.findClass RX = some m.cls := findClass_of_methodNamed B.named
  have hlocks := B.notSynchronized
  subst hsz
  have hD := hD0.self (sz := s.heap.size)
  generalize hAe : va_A (XW ad ca S) s.heap.size = A at hD hU ⊢
  have hA : ∀ q : Nat, s.heap.size ≤ q → A q := fun q h => by rw [← hAe]; exact Or.inr h
  have hS : va_S A s.heap s.heap [] := va_S.rf
  have hl := lv_entry ([.ref (ad 0), .int a, .int b]) (n := 3) (Nat.le_of_ble_eq_true rfl)
  rw [lg_entry_eq]
  generalize (lg_sl ([.ref (ad 0), .int a, .int b]) ++ List.replicate (3 - (lg_sl ([.ref (ad 0), .int a, .int b])).length) Slot.unset).toArray = ls at hl ⊢
  have hl : lv_has ls 3 [(0, .ref (ad 0)), (1, .int a), (2, .int b)] := hl
  refine lv_aload_n hx hb dX_state_0 rfl (lv_at hl 0 rfl) ?_
  refine lv_iload_n hx hb dX_state_1 rfl (lv_at hl 1 rfl) ?_
  refine vp_callSi (va_Run.run (va_runV (As := [.int a]) (rest := []) ⟨hx, hb, hml, hown, hc⟩ (cX_isMade l dC dI ad ca s.heap.size S a) (cwV 1 hc (gV w289 w291 s1 w1 qX_isMade) rfl rfl rfl (by decide +kernel) ⟨Nat.le_of_ble_eq_true rfl, Nat.le_of_ble_eq_true rfl⟩) ⟨gPre_blind, va_recv hK hP (ci := 0) (q0 := 0) rfl rfl, (gPre_in hP hK hD)⟩ rfl rfl hl.1 rfl (lv_room (Nat.le_of_ble_eq_true rfl)) dX_state_2 ⟨Nat.zero_le _, Nat.zero_le _⟩)) (fun r_1 hr_1 => ?_)
  refine lv_if_ne (tgt := 16) hx hb dX_state_5 (by decide) (fun c_1 => ?_) (fun c_1 => ?_)
  · obtain ⟨j, hj, ej⟩ := wi_made hm (by rw [← em]; exact br_n hr_1 c_1)
    subst ej
    refine lv_iload_n hx hb dX_state_16 rfl (lv_at hl 2 rfl) ?_
    by_cases w_2 : b = 0
    · refine lv_tableIn (tgt := 44) hx hb dX_state_17 (by rw [w_2]; decide) (by rw [w_2]; decide) (by rw [w_2]; rfl) (by decide) ?_
      refine lv_aload_n hx hb dX_state_44 rfl (lv_at hl 0 rfl) ?_
      refine va_get (D := (dC, dI)) (ci := 0) (v := .ref (ad 7)) (C := RX) (T := TX) (N := 8) hx hb hc inX hown hK hP 0 rfl rfl 1 (by decide) (hc _ w112) (fun _ h9 => h9) rfl dX_state_45 ?_
      refine lv_iload_n hx hb dX_state_48 rfl (lv_at hl 1 rfl) ?_
      refine va_aldq hx hb hK hP 7 5 rfl rfl (vp_in_nI (by omega) (by decide)) dX_state_49 ?_
      refine W.eq (g2 := F0 m 50 ls [.ref (ad (18 + j))]) (by rw [xb_at (by omega)]) ?_
      refine va_get (D := (dC, dI)) (ci := 2) (v := .int (S 14 j)) (C := RBl) (T := TBl) (N := 8) hx hb hc inBl hown hK hP (18 + j) (xb_cell (by omega)) rfl 0 (by decide) (hc _ w82) (fun _ h9 => h9) rfl dX_state_50 ?_
      refine W.widen (k := 1) (n := 6) (by decide) (by decide) ?_
      refine vx_ret ?_
      exact W.iret (v := (S 14 j)) hx hb hr (fun t ht hW => ⟨⟨_, S, rfl, (by (try dsimp only); exact (by unfold oState; rw [if_neg (fun h => h (br_n hr_1 c_1)), if_pos w_2, nI_clamp (by omega)])), by rw [ht]; exact hP, va_K.moved hW.alike hK, hD⟩, hS.F ht⟩) hS.2.2 dX_state_53
    by_cases w_3 : b = 1
    · refine lv_tableIn (tgt := 54) hx hb dX_state_17 (by rw [w_3]; decide) (by rw [w_3]; decide) (by rw [w_3]; rfl) (by decide) ?_
      refine lv_aload_n hx hb dX_state_54 rfl (lv_at hl 0 rfl) ?_
      refine va_get (D := (dC, dI)) (ci := 0) (v := .ref (ad 7)) (C := RX) (T := TX) (N := 8) hx hb hc inX hown hK hP 0 rfl rfl 1 (by decide) (hc _ w112) (fun _ h9 => h9) rfl dX_state_55 ?_
      refine lv_iload_n hx hb dX_state_58 rfl (lv_at hl 1 rfl) ?_
      refine va_aldq hx hb hK hP 7 5 rfl rfl (vp_in_nI (by omega) (by decide)) dX_state_59 ?_
      refine W.eq (g2 := F0 m 60 ls [.ref (ad (18 + j))]) (by rw [xb_at (by omega)]) ?_
      refine va_get (D := (dC, dI)) (ci := 2) (v := .int (S 19 j)) (C := RBl) (T := TBl) (N := 8) hx hb hc inBl hown hK hP (18 + j) (xb_cell (by omega)) rfl 5 (by decide) (hc _ w90) (fun _ h9 => h9) rfl dX_state_60 ?_
      refine W.widen (k := 1) (n := 6) (by decide) (by decide) ?_
      refine vx_ret ?_
      exact W.iret (v := (S 19 j)) hx hb hr (fun t ht hW => ⟨⟨_, S, rfl, (by (try dsimp only); exact (by unfold oState; rw [if_neg (fun h => h (br_n hr_1 c_1)), if_neg w_2, if_pos w_3, nI_clamp (by omega)])), by rw [ht]; exact hP, va_K.moved hW.alike hK, hD⟩, hS.F ht⟩) hS.2.2 dX_state_63
    by_cases w_4 : b = 2
    · refine lv_tableIn (tgt := 64) hx hb dX_state_17 (by rw [w_4]; decide) (by rw [w_4]; decide) (by rw [w_4]; rfl) (by decide) ?_
      refine lv_aload_n hx hb dX_state_64 rfl (lv_at hl 0 rfl) ?_
      refine va_get (D := (dC, dI)) (ci := 0) (v := .ref (ad 7)) (C := RX) (T := TX) (N := 8) hx hb hc inX hown hK hP 0 rfl rfl 1 (by decide) (hc _ w112) (fun _ h9 => h9) rfl dX_state_65 ?_
      refine lv_iload_n hx hb dX_state_68 rfl (lv_at hl 1 rfl) ?_
      refine va_aldq hx hb hK hP 7 5 rfl rfl (vp_in_nI (by omega) (by decide)) dX_state_69 ?_
      refine W.eq (g2 := F0 m 70 ls [.ref (ad (18 + j))]) (by rw [xb_at (by omega)]) ?_
      refine va_get (D := (dC, dI)) (ci := 2) (v := .int (S 20 j)) (C := RBl) (T := TBl) (N := 8) hx hb hc inBl hown hK hP (18 + j) (xb_cell (by omega)) rfl 6 (by decide) (hc _ w92) (fun _ h9 => h9) rfl dX_state_70 ?_
      refine W.widen (k := 1) (n := 6) (by decide) (by decide) ?_
      refine vx_ret ?_
      exact W.iret (v := (S 20 j)) hx hb hr (fun t ht hW => ⟨⟨_, S, rfl, (by (try dsimp only); exact (by unfold oState; rw [if_neg (fun h => h (br_n hr_1 c_1)), if_neg w_2, if_neg w_3, if_pos w_4, nI_clamp (by omega)])), by rw [ht]; exact hP, va_K.moved hW.alike hK, hD⟩, hS.F ht⟩) hS.2.2 dX_state_73
    have iw_2 : (b : Int32).toInt ≠ 0 := fun z => w_2 (Int32.toInt_inj.mp (by rw [z]; rfl))
    have iw_3 : (b : Int32).toInt ≠ 1 := fun z => w_3 (Int32.toInt_inj.mp (by rw [z]; rfl))
    have iw_4 : (b : Int32).toInt ≠ 2 := fun z => w_4 (Int32.toInt_inj.mp (by rw [z]; rfl))
    refine lv_tableOut (tgt := 74) hx hb dX_state_17 (by omega) (by decide) ?_
    exact vx_throw0 (rest := []) (cls := eA) (names := nms) (ik := 51) (ic := 53) (mc := 1) (ms := 6) hx hb hl9 hown (by decide +kernel) (by decide +kernel) (hc _ w196) (hc _ w9) (th_hat th_eA hc hN) tg_eA hU.1 hU.2 hS (by rw [hml]; exact hl.1) dX_state_74 dX_state_77 dX_state_78 dX_state_81 (fun x h => (hex x h).elim) (Nat.le_of_ble_eq_true rfl) (Nat.le_of_ble_eq_true rfl) (Nat.le_of_ble_eq_true rfl) (Nat.le_of_ble_eq_true rfl) hlocks (fun t ha hz hk => ⟨S, trivial, ⟨by (try dsimp only); exact Or.inr ⟨rfl, by unfold oState; rw [if_neg (fun h => h (br_n hr_1 c_1)), if_neg w_2, if_neg w_3, if_neg w_4]⟩, (x_thrown hP hK hD hS ha hz hk).1⟩, (x_thrown hP hK hD hS ha hz hk).2⟩) hS.2.2 (Nat.le_refl _) (Nat.le_refl _)
  · exact vx_throw0 (rest := []) (cls := eN) (names := nms) (ik := 65) (ic := 67) (mc := 1) (ms := 6) hx hb hl9 hown (by decide +kernel) (by decide +kernel) (hc _ w293) (hc _ w11) (th_hat th_eN hc hN) tg_eN hU.1 hU.2 hS (by rw [hml]; exact hl.1) dX_state_8 dX_state_11 dX_state_12 dX_state_15 (fun x h => (hex x h).elim) (Nat.le_of_ble_eq_true rfl) (Nat.le_of_ble_eq_true rfl) (Nat.le_of_ble_eq_true rfl) (Nat.le_of_ble_eq_true rfl) hlocks (fun t ha hz hk => ⟨S, trivial, ⟨by (try dsimp only); exact Or.inl ⟨rfl, by unfold oState; rw [if_pos (br_0 hr_1 c_1)]⟩, (x_thrown hP hK hD hS ha hz hk).1⟩, (x_thrown hP hK hD hS ha hz hk).2⟩) hS.2.2 (Nat.le_refl _) (Nat.le_refl _)

set_option maxHeartbeats 4000000 in
set_option maxRecDepth 100000 in
theorem cX_count (l : Launch) (hl9 : l.stackTraces = false) (dC : Nat → ClassId) (dI : Nat → Nat → Nat) (ad : Nat → Nat) (ca : Nat → ClassId) (sz : Nat) (S : Ss) (a : Int32) : vx_Met l yX_count (kX_count :: CW) ({ frames := 6, cells := 1, slots := 6, locals := 91 }) (va_Pc [.ref (ad 0), .int a] (tPre (dC, dI) (xT ca) (XW ad ca S) sz)) (va_Qi (fun (r : Int32) (u : Ss) => oCount S a = (0, r, u)) (fun u => gAt (dC, dI) (xT ca) (va_A (XW ad ca S) sz) (XW ad ca u)) (va_A (XW ad ca S) sz)) (vx_X (fun _ : Ss => True) (fun E u t => (E = eA ∧ oCount S a = (1, 0, u)) ∧ gAt (dC, dI) (xT ca) (va_A (XW ad ca S) sz) (XW ad ca u) t) (va_A (XW ad ca S) sz)) 1 6 (va_A (XW ad ca S) sz) := by
  refine vx_ofW (cc := bX_count) (maxL := 2) (ret := (some .int)) (by decide +kernel) rfl ?_
  intro p e s m args below meth c s₁ B hml hex hv
  obtain ⟨rfl, ⟨hsz, hP, hK, hD0⟩, hU, hN⟩ := hv
  have hx := B.exec
  have hb := B.bytes
  have hr := B.returns
  have hts := atoms_spec (ws := kX_count :: CW) B.pre
  have hc : ∀ w ∈ CW, w.before _ s = true := fun w h => hts w (List.mem_cons_of_mem _ h)
  have hown : s.vm.findClass RX = some m.cls := findClass_of_methodNamed B.named
  have hlocks := B.notSynchronized
  subst hsz
  have hD := hD0.self (sz := s.heap.size)
  generalize hAe : va_A (XW ad ca S) s.heap.size = A at hD hU ⊢
  have hA : ∀ q : Nat, s.heap.size ≤ q → A q := fun q h => by rw [← hAe]; exact Or.inr h
  have hS : va_S A s.heap s.heap [] := va_S.rf
  have hl := lv_entry ([.ref (ad 0), .int a]) (n := 2) (Nat.le_of_ble_eq_true rfl)
  rw [lg_entry_eq]
  generalize (lg_sl ([.ref (ad 0), .int a]) ++ List.replicate (2 - (lg_sl ([.ref (ad 0), .int a])).length) Slot.unset).toArray = ls at hl ⊢
  have hl : lv_has ls 2 [(0, .ref (ad 0)), (1, .int a)] := hl
  refine lv_iload_n hx hb dX_count_0 rfl (lv_at hl 1 rfl) ?_
  by_cases w_0 : a = 0
  · refine lv_tableIn (tgt := 40) hx hb dX_count_1 (by rw [w_0]; decide) (by rw [w_0]; decide) (by rw [w_0]; rfl) (by decide) ?_
    refine lv_aload_n hx hb dX_count_40 rfl (lv_at hl 0 rfl) ?_
    refine va_get (D := (dC, dI)) (ci := 0) (v := .int (S 0 1)) (C := RX) (T := TX) (N := 8) hx hb hc inX hown hK hP 0 rfl rfl 5 (by decide) (hc _ w116) (fun _ h9 => h9) rfl dX_count_41 ?_
    refine W.widen (k := 1) (n := 6) (by decide) (by decide) ?_
    refine vx_ret ?_
    exact W.iret (v := (S 0 1)) hx hb hr (fun t ht hW => ⟨⟨_, S, rfl, (by (try dsimp only); exact (by unfold oCount; rw [if_pos w_0])), by rw [ht]; exact hP, va_K.moved hW.alike hK, hD⟩, hS.F ht⟩) hS.2.2 dX_count_44
  by_cases w_1 : a = 1
  · refine lv_tableIn (tgt := 45) hx hb dX_count_1 (by rw [w_1]; decide) (by rw [w_1]; decide) (by rw [w_1]; rfl) (by decide) ?_
    refine lv_aload_n hx hb dX_count_45 rfl (lv_at hl 0 rfl) ?_
    refine va_get (D := (dC, dI)) (ci := 0) (v := .int (S 0 2)) (C := RX) (T := TX) (N := 8) hx hb hc inX hown hK hP 0 rfl rfl 6 (by decide) (hc _ w117) (fun _ h9 => h9) rfl dX_count_46 ?_
    refine W.widen (k := 1) (n := 6) (by decide) (by decide) ?_
    refine vx_ret ?_
    exact W.iret (v := (S 0 2)) hx hb hr (fun t ht hW => ⟨⟨_, S, rfl, (by (try dsimp only); exact (by unfold oCount; rw [if_neg w_0, if_pos w_1])), by rw [ht]; exact hP, va_K.moved hW.alike hK, hD⟩, hS.F ht⟩) hS.2.2 dX_count_49
  by_cases w_2 : a = 2
  · refine lv_tableIn (tgt := 50) hx hb dX_count_1 (by rw [w_2]; decide) (by rw [w_2]; decide) (by rw [w_2]; rfl) (by decide) ?_
    refine lv_aload_n hx hb dX_count_50 rfl (lv_at hl 0 rfl) ?_
    refine va_get (D := (dC, dI)) (ci := 0) (v := .int (S 0 3)) (C := RX) (T := TX) (N := 8) hx hb hc inX hown hK hP 0 rfl rfl 7 (by decide) (hc _ w118) (fun _ h9 => h9) rfl dX_count_51 ?_
    refine lv_if_eq (tgt := 61) hx hb dX_count_54 (by decide) (fun c_3 => ?_) (fun c_3 => ?_)
    · refine lv_iconst (v := 0) hx hb dX_count_61 (by decide +kernel) ?_
      refine W.widen (k := 1) (n := 6) (by decide) (by decide) ?_
      refine vx_ret ?_
      exact W.iret (v := 0) hx hb hr (fun t ht hW => ⟨⟨_, S, rfl, (by (try dsimp only); exact (by unfold oCount; rw [if_neg w_0, if_neg w_1, if_pos w_2]; first | rw [if_pos c_3] | rw [if_neg c_3])), by rw [ht]; exact hP, va_K.moved hW.alike hK, hD⟩, hS.F ht⟩) hS.2.2 dX_count_62
    · refine lv_iconst (v := 1) hx hb dX_count_57 (by decide +kernel) ?_
      refine lv_goto (tgt := 62) hx hb dX_count_58 (by decide) ?_
      refine W.widen (k := 1) (n := 6) (by decide) (by decide) ?_
      refine vx_ret ?_
      exact W.iret (v := 1) hx hb hr (fun t ht hW => ⟨⟨_, S, rfl, (by (try dsimp only); exact (by unfold oCount; rw [if_neg w_0, if_neg w_1, if_pos w_2]; first | rw [if_pos c_3] | rw [if_neg c_3])), by rw [ht]; exact hP, va_K.moved hW.alike hK, hD⟩, hS.F ht⟩) hS.2.2 dX_count_62
  by_cases w_4 : a = 3
  · refine lv_tableIn (tgt := 63) hx hb dX_count_1 (by rw [w_4]; decide) (by rw [w_4]; decide) (by rw [w_4]; rfl) (by decide) ?_
    refine lv_aload_n hx hb dX_count_63 rfl (lv_at hl 0 rfl) ?_
    refine va_get (D := (dC, dI)) (ci := 0) (v := .int (S 0 0)) (C := RX) (T := TX) (N := 8) hx hb hc inX hown hK hP 0 rfl rfl 4 (by decide) (hc _ w115) (fun _ h9 => h9) rfl dX_count_64 ?_
    refine W.widen (k := 1) (n := 6) (by decide) (by decide) ?_
    refine vx_ret ?_
    exact W.iret (v := (S 0 0)) hx hb hr (fun t ht hW => ⟨⟨_, S, rfl, (by (try dsimp only); exact (by unfold oCount; rw [if_neg w_0, if_neg w_1, if_neg w_2, if_pos w_4])), by rw [ht]; exact hP, va_K.moved hW.alike hK, hD⟩, hS.F ht⟩) hS.2.2 dX_count_67
  by_cases w_5 : a = 4
  · refine lv_tableIn (tgt := 68) hx hb dX_count_1 (by rw [w_5]; decide) (by rw [w_5]; decide) (by rw [w_5]; rfl) (by decide) ?_
    refine lv_aload_n hx hb dX_count_68 rfl (lv_at hl 0 rfl) ?_
    refine va_get (D := (dC, dI)) (ci := 0) (v := .ref (ad 13)) (C := RX) (T := TX) (N := 8) hx hb hc inX hown hK hP 0 rfl rfl 3 (by decide) (hc _ w114) (fun _ h9 => h9) rfl dX_count_69 ?_
    refine vp_callSi (va_Run.run (va_runV (As := []) (rest := []) ⟨hx, hb, hml, hown, hc⟩ (cLa_size l dC dI ad ca s.heap.size S ) (cwV 0 hc (gV w147 w148 w149 w3 qLa_size) rfl rfl rfl (by decide +kernel) ⟨Nat.le_of_ble_eq_true rfl, Nat.le_of_ble_eq_true rfl⟩) ⟨gPre_blind, va_recv hK hP (ci := 3) (q0 := 13) rfl rfl, (gPre_in hP hK hD)⟩ rfl rfl hl.1 rfl (lv_room (Nat.le_of_ble_eq_true rfl)) dX_count_72 ⟨Nat.zero_le _, Nat.zero_le _⟩)) (fun r_7 hr_7 => ?_)
    refine W.widen (k := 1) (n := 6) (by decide) (by decide) ?_
    refine vx_ret ?_
    exact W.iret (v := r_7) hx hb hr (fun t ht hW => ⟨⟨_, S, rfl, (by (try dsimp only); exact (by unfold oCount; rw [if_neg w_0, if_neg w_1, if_neg w_2, if_neg w_4, if_pos w_5]; rw [hr_7])), by rw [ht]; exact hP, va_K.moved hW.alike hK, hD⟩, hS.F ht⟩) hS.2.2 dX_count_75
  by_cases w_7 : a = 5
  · refine lv_tableIn (tgt := 76) hx hb dX_count_1 (by rw [w_7]; decide) (by rw [w_7]; decide) (by rw [w_7]; rfl) (by decide) ?_
    refine lv_aload_n hx hb dX_count_76 rfl (lv_at hl 0 rfl) ?_
    refine va_get (D := (dC, dI)) (ci := 0) (v := .ref (ad 1)) (C := RX) (T := TX) (N := 8) hx hb hc inX hown hK hP 0 rfl rfl 0 (by decide) (hc _ w111) (fun _ h9 => h9) rfl dX_count_77 ?_
    refine vp_callSi (va_Run.run (va_runV (As := []) (rest := []) ⟨hx, hb, hml, hown, hc⟩ (cMe_forcedBits l dC dI ad ca s.heap.size S ) (cwV 0 hc (gV w551 w552 w553 w2 qMe_forcedBits) rfl rfl rfl (by decide +kernel) ⟨Nat.le_of_ble_eq_true rfl, Nat.le_of_ble_eq_true rfl⟩) ⟨gPre_blind, va_recv hK hP (ci := 1) (q0 := 1) rfl rfl, (gPre_in hP hK hD)⟩ rfl rfl hl.1 rfl (lv_room (Nat.le_of_ble_eq_true rfl)) dX_count_80 ⟨Nat.zero_le _, Nat.zero_le _⟩)) (fun r_9 hr_9 => ?_)
    refine W.widen (k := 1) (n := 6) (by decide) (by decide) ?_
    refine vx_ret ?_
    exact W.iret (v := r_9) hx hb hr (fun t ht hW => ⟨⟨_, S, rfl, (by (try dsimp only); exact (by unfold oCount; rw [if_neg w_0, if_neg w_1, if_neg w_2, if_neg w_4, if_neg w_5, if_pos w_7]; rw [hr_9])), by rw [ht]; exact hP, va_K.moved hW.alike hK, hD⟩, hS.F ht⟩) hS.2.2 dX_count_83
  have iw_0 : (a : Int32).toInt ≠ 0 := fun z => w_0 (Int32.toInt_inj.mp (by rw [z]; rfl))
  have iw_1 : (a : Int32).toInt ≠ 1 := fun z => w_1 (Int32.toInt_inj.mp (by rw [z]; rfl))
  have iw_2 : (a : Int32).toInt ≠ 2 := fun z => w_2 (Int32.toInt_inj.mp (by rw [z]; rfl))
  have iw_4 : (a : Int32).toInt ≠ 3 := fun z => w_4 (Int32.toInt_inj.mp (by rw [z]; rfl))
  have iw_5 : (a : Int32).toInt ≠ 4 := fun z => w_5 (Int32.toInt_inj.mp (by rw [z]; rfl))
  have iw_7 : (a : Int32).toInt ≠ 5 := fun z => w_7 (Int32.toInt_inj.mp (by rw [z]; rfl))
  refine lv_tableOut (tgt := 84) hx hb dX_count_1 (by omega) (by decide) ?_
  exact vx_throw0 (rest := []) (cls := eA) (names := nms) (ik := 51) (ic := 53) (mc := 1) (ms := 6) hx hb hl9 hown (by decide +kernel) (by decide +kernel) (hc _ w196) (hc _ w9) (th_hat th_eA hc hN) tg_eA hU.1 hU.2 hS (by rw [hml]; exact hl.1) dX_count_84 dX_count_87 dX_count_88 dX_count_91 (fun x h => (hex x h).elim) (Nat.le_of_ble_eq_true rfl) (Nat.le_of_ble_eq_true rfl) (Nat.le_of_ble_eq_true rfl) (Nat.le_of_ble_eq_true rfl) hlocks (fun t ha hz hk => ⟨S, trivial, ⟨by (try dsimp only); exact ⟨rfl, by unfold oCount; rw [if_neg w_0, if_neg w_1, if_neg w_2, if_neg w_4, if_neg w_5, if_neg w_7]⟩, (x_thrown hP hK hD hS ha hz hk).1⟩, (x_thrown hP hK hD hS ha hz hk).2⟩) hS.2.2 (Nat.le_refl _) (Nat.le_refl _)

set_option maxHeartbeats 4000000 in
set_option maxRecDepth 100000 in
theorem cX_block (l : Launch) (hl9 : l.stackTraces = false) (dC : Nat → ClassId) (dI : Nat → Nat → Nat) (ad : Nat → Nat) (ca : Nat → ClassId) (sz : Nat) (S : Ss) (a b d : Int32) (m0 : Nat) (hm : m0 ≤ 10) (em : S 0 0 = nI m0) : vx_Met l yX_block (kX_block :: CW) ({ frames := 6, cells := 1, slots := 6, locals := 91 }) (va_Pc [.ref (ad 0), .int a, .int b, .int d] (tPre (dC, dI) (xT ca) (XW ad ca S) sz)) (va_Qi (fun (r : Int32) (u : Ss) => oBlock S a b d = (0, r, u)) (fun u => gAt (dC, dI) (xT ca) (va_A (XW ad ca S) sz) (XW ad ca u)) (va_A (XW ad ca S) sz)) (vx_X (fun _ : Ss => True) (fun E u t => ((E = eA ∧ oBlock S a b d = (1, 0, u)) ∨ (E = eS ∧ oBlock S a b d = (2, 0, u))) ∧ gAt (dC, dI) (xT ca) (va_A (XW ad ca S) sz) (XW ad ca u) t) (va_A (XW ad ca S) sz)) 1 6 (va_A (XW ad ca S) sz) := by
  refine vx_ofW (cc := bX_block) (maxL := 4) (ret := (some .int)) (by decide +kernel) rfl ?_
  intro p e s m args below meth c s₁ B hml hex hv
  obtain ⟨rfl, ⟨hsz, hP, hK, hD0⟩, hU, hN⟩ := hv
  have hx := B.exec
  have hb := B.bytes
  have hr := B.returns
  have hts := atoms_spec (ws := kX_block :: CW) B.pre
  have hc : ∀ w ∈ CW, w.before _ s = true := fun w h => hts w (List.mem_cons_of_mem _ h)
  have hown : s.vm.findClass RX = some m.cls := findClass_of_methodNamed B.named
  have hlocks := B.notSynchronized
  subst hsz
  have hD := hD0.self (sz := s.heap.size)
  generalize hAe : va_A (XW ad ca S) s.heap.size = A at hD hU ⊢
  have hA : ∀ q : Nat, s.heap.size ≤ q → A q := fun q h => by rw [← hAe]; exact Or.inr h
  have hS : va_S A s.heap s.heap [] := va_S.rf
  have hl := lv_entry ([.ref (ad 0), .int a, .int b, .int d]) (n := 4) (Nat.le_of_ble_eq_true rfl)
  rw [lg_entry_eq]
  generalize (lg_sl ([.ref (ad 0), .int a, .int b, .int d]) ++ List.replicate (4 - (lg_sl ([.ref (ad 0), .int a, .int b, .int d])).length) Slot.unset).toArray = ls at hl ⊢
  have hl : lv_has ls 4 [(0, .ref (ad 0)), (1, .int a), (2, .int b), (3, .int d)] := hl
  refine lv_iload_n hx hb dX_block_0 rfl (lv_at hl 1 rfl) ?_
  refine lv_iload_n hx hb dX_block_1 rfl (lv_at hl 2 rfl) ?_
  refine lv_iload_n hx hb dX_block_2 rfl (lv_at hl 3 rfl) ?_
  refine vp_callSi (va_Run.run (va_runS (As := [.int a, .int b, .int d]) (rest := []) ⟨hx, hb, hml, hown, hc⟩ (cX_isBlock l a b d) (va_cwS 3 hc (g_S w184 w185 w1 qX_isBlock) rfl rfl rfl (by decide +kernel) ⟨Nat.le_of_ble_eq_true rfl, Nat.le_of_ble_eq_true rfl⟩) ⟨tPre_blind, tPre_in⟩ rfl rfl hl.1 rfl (lv_room (Nat.le_of_ble_eq_true rfl)) dX_block_3 ⟨Nat.zero_le _, Nat.zero_le _⟩)) (fun r_1 hr_1 => ?_)
  refine lv_if_ne (tgt := 17) hx hb dX_block_6 (by decide) (fun c_1 => ?_) (fun c_1 => ?_)
  · refine lv_aload_n hx hb dX_block_17 rfl (lv_at hl 0 rfl) ?_
    refine va_get (D := (dC, dI)) (ci := 0) (v := .int (S 0 0)) (C := RX) (T := TX) (N := 8) hx hb hc inX hown hK hP 0 rfl rfl 4 (by decide) (hc _ w115) (fun _ h9 => h9) rfl dX_block_18 ?_
    refine lv_bipush (v := 10) hx hb dX_block_21 (by decide +kernel) ?_
    refine lv_icmp_lt (tgt := 34) hx hb dX_block_23 (by decide) (fun c_2 => ?_) (fun c_2 => ?_)
    · have hlt : m0 < 10 := by rw [em] at c_2; exact (nI_ltI (a := m0) (b := 10) (by omega) (by decide)).mp c_2
      refine lv_aload_n hx hb dX_block_34 rfl (lv_at hl 0 rfl) ?_
      refine va_get (D := (dC, dI)) (ci := 0) (v := .ref (ad 7)) (C := RX) (T := TX) (N := 8) hx hb hc inX hown hK hP 0 rfl rfl 1 (by decide) (hc _ w112) (fun _ h9 => h9) rfl dX_block_35 ?_
      refine lv_aload_n hx hb dX_block_38 rfl (lv_at hl 0 rfl) ?_
      refine va_get (D := (dC, dI)) (ci := 0) (v := .int (S 0 0)) (C := RX) (T := TX) (N := 8) hx hb hc inX hown hK hP 0 rfl rfl 4 (by decide) (hc _ w115) (fun _ h9 => h9) rfl dX_block_39 ?_
      refine W.eq (g2 := F0 m 42 ls [.int (nI m0), .ref (ad 7)]) (by rw [em]) ?_
      refine va_aldq hx hb hK hP 7 5 rfl rfl (vp_in_nI (by omega) (by decide)) dX_block_42 ?_
      refine W.eq (g2 := F0 m 43 ls [.ref (ad (18 + m0))]) (by rw [xb_at (by omega)]) ?_
      refine lv_iload_n hx hb dX_block_43 rfl (lv_at hl 1 rfl) ?_
      refine lv_iload_n hx hb dX_block_44 rfl (lv_at hl 2 rfl) ?_
      refine lv_iload_n hx hb dX_block_45 rfl (lv_at hl 3 rfl) ?_
      refine g_callv (va_runV (As := [.int a, .int b, .int d]) (rest := []) ⟨hx, hb, hml, hown, hc⟩ (cBl_become l dC dI ad ca s.heap.size S m0 (by omega) a b d) (cwV 3 hc (gV w276 w277 w278 w4 qBl_become) rfl rfl rfl (by decide +kernel) ⟨Nat.le_of_ble_eq_true rfl, Nat.le_of_ble_eq_true rfl⟩) ⟨gPre_blind, va_recv hK hP (ci := 2) (q0 := (18 + m0)) rfl (xb_cell (by omega)), (gPre_in hP hK hD)⟩ rfl rfl hl.1 rfl (lv_room (Nat.le_of_ble_eq_true rfl)) dX_block_46 ⟨Nat.zero_le _, Nat.zero_le _⟩) hD hS hA (fun u_4 H locs hu_4 hP hD hS => ?_)
      subst u_4
      refine lv_aload_n hx hb dX_block_49 rfl (lv_at hl 0 rfl) ?_
      refine lv_dup hx hb dX_block_50 rfl ?_
      refine va_get (D := (dC, dI)) (ci := 0) (v := .int ((row (row (row S 14 (upd (S 14) m0 a)) 15 (upd (S 15) m0 b)) 16 (upd (S 16) m0 d)) 0 0)) (C := RX) (T := TX) (N := 8) hx hb hc inX hown hK hP 0 rfl rfl 4 (by decide) (hc _ w115) (fun _ h9 => h9) rfl dX_block_51 ?_
      refine lv_iconst (v := 1) hx hb dX_block_54 (by decide +kernel) ?_
      refine lv_iadd hx hb dX_block_55 ?_
      refine va_put (D := (dC, dI)) (ci := 0) (v := .int (((row (row (row S 14 (upd (S 14) m0 a)) 15 (upd (S 15) m0 b)) 16 (upd (S 16) m0 d)) 0 0) + 1)) (ty := .int) (C := RX) (T := TX) (N := 8) hx hb hc inX tyX tyX_ok nmX hown hK hP hD hS 0 rfl rfl 4 (by decide) (hc _ w115) (fun _ h9 => h9) rfl (by decide +kernel) rfl rfl (Nat.le_of_ble_eq_true rfl) dX_block_56 (fun H locs hP hD hS => ?_)
      obtain ⟨S_5, eS_5⟩ : ∃ z9 : Ss, z9 = row (row (row (row S 14 (upd (S 14) m0 a)) 15 (upd (S 15) m0 b)) 16 (upd (S 16) m0 d)) 0 (upd ((row (row (row S 14 (upd (S 14) m0 a)) 15 (upd (S 15) m0 b)) 16 (upd (S 16) m0 d)) 0) 0 (((row (row (row S 14 (upd (S 14) m0 a)) 15 (upd (S 15) m0 b)) 16 (upd (S 16) m0 d)) 0 0) + 1)) := ⟨_, rfl⟩
      have hP : va_P (dC, dI) vwCl (XW ad ca S_5) H := by rw [eS_5]; exact hP
      have hD : va_D A (XW ad ca S_5) := by rw [eS_5]; exact hD
      refine lv_aload_n hx hb dX_block_59 rfl (lv_at hl 0 rfl) ?_
      refine va_get (D := (dC, dI)) (ci := 0) (v := .int (S_5 0 0)) (C := RX) (T := TX) (N := 8) hx hb hc inX hown hK hP 0 rfl rfl 4 (by decide) (hc _ w115) (fun _ h9 => h9) rfl dX_block_60 ?_
      refine lv_iconst (v := 1) hx hb dX_block_63 (by decide +kernel) ?_
      refine lv_isub hx hb dX_block_64 ?_
      refine W.widen (k := 1) (n := 6) (by decide) (by decide) ?_
      refine vx_ret ?_
      exact W.iret (v := ((S_5 0 0) - 1)) hx hb hr (fun t ht hW => ⟨⟨_, S_5, rfl, (by (try dsimp only); exact (by subst S_5; unfold oBlock; rw [if_neg (fun h => h (br_n hr_1 c_1)), if_neg (Int32.not_le.mpr (by rw [em]; exact nI_lt hlt (by decide))), em, nI_clamp (by omega)]; exact blk_eq em)), by rw [ht]; exact hP, va_K.moved hW.alike hK, hD⟩, hS.F ht⟩) hS.2.2 dX_block_65
    · exact vx_throw0 (rest := []) (cls := eS) (names := nms) (ik := 54) (ic := 56) (mc := 1) (ms := 6) hx hb hl9 hown (by decide +kernel) (by decide +kernel) (hc _ w261) (hc _ w10) (th_hat th_eS hc hN) tg_eS hU.1 hU.2 hS (by rw [hml]; exact hl.1) dX_block_26 dX_block_29 dX_block_30 dX_block_33 (fun x h => (hex x h).elim) (Nat.le_of_ble_eq_true rfl) (Nat.le_of_ble_eq_true rfl) (Nat.le_of_ble_eq_true rfl) (Nat.le_of_ble_eq_true rfl) hlocks (fun t ha hz hk => ⟨S, trivial, ⟨by (try dsimp only); exact Or.inr ⟨rfl, by unfold oBlock; rw [if_neg (fun h => h (br_n hr_1 c_1)), if_pos (Int32.not_lt.mp c_2)]⟩, (x_thrown hP hK hD hS ha hz hk).1⟩, (x_thrown hP hK hD hS ha hz hk).2⟩) hS.2.2 (Nat.le_refl _) (Nat.le_refl _)
  · exact vx_throw0 (rest := []) (cls := eA) (names := nms) (ik := 51) (ic := 53) (mc := 1) (ms := 6) hx hb hl9 hown (by decide +kernel) (by decide +kernel) (hc _ w196) (hc _ w9) (th_hat th_eA hc hN) tg_eA hU.1 hU.2 hS (by rw [hml]; exact hl.1) dX_block_9 dX_block_12 dX_block_13 dX_block_16 (fun x h => (hex x h).elim) (Nat.le_of_ble_eq_true rfl) (Nat.le_of_ble_eq_true rfl) (Nat.le_of_ble_eq_true rfl) (Nat.le_of_ble_eq_true rfl) hlocks (fun t ha hz hk => ⟨S, trivial, ⟨by (try dsimp only); exact Or.inl ⟨rfl, by unfold oBlock; rw [if_pos (br_0 hr_1 c_1)]⟩, (x_thrown hP hK hD hS ha hz hk).1⟩, (x_thrown hP hK hD hS ha hz hk).2⟩) hS.2.2 (Nat.le_refl _) (Nat.le_refl _)
