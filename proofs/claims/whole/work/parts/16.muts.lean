set_option maxHeartbeats 4000000 in
set_option maxRecDepth 100000 in
theorem cMe_takeInputs (l : Launch) (dC : Nat → ClassId) (dI : Nat → Nat → Nat) (ad : Nat → Nat) (ca : Nat → ClassId) (sz : Nat) (S : Ss) : Met l yMe_takeInputs (kMe_takeInputs :: CW) ({ frames := 0, cells := 0, slots := 0, locals := 0 }) (va_Pc [.ref (ad 1)] (gPre (dC, dI) (xT ca) (XW ad ca S) sz)) (va_Qv (fun (u : Ss) => u = tin S) (fun u => gAt (dC, dI) (xT ca) (va_A (XW ad ca S) sz) (XW ad ca u)) (va_A (XW ad ca S) sz)) 0 0 (va_A (XW ad ca S) sz) := by
  refine Met.ofW (cc := bMe_takeInputs) (maxL := 2) (ret := none) (by decide +kernel) rfl ?_
  intro p e s m args below meth c s₁ B hml hv
  obtain ⟨rfl, hsz, hP, hK, hD0⟩ := hv
  have hx := B.exec
  have hb := B.bytes
  have hr := B.returns
  have hts := atoms_spec (ws := kMe_takeInputs :: CW) B.pre
  have hc : ∀ w ∈ CW, w.before _ s = true := fun w h => hts w (List.mem_cons_of_mem _ h)
  have hown : s.vm.findClass RMe = some m.cls := findClass_of_methodNamed B.named
  have hlocks := B.notSynchronized
  subst hsz
  have hD := hD0.self (sz := s.heap.size)
  generalize hAe : va_A (XW ad ca S) s.heap.size = A at hD ⊢
  have hA : ∀ q : Nat, s.heap.size ≤ q → A q := fun q h => by rw [← hAe]; exact Or.inr h
  have hS : va_S A s.heap s.heap [] := va_S.rf
  have hl := lv_entry ([.ref (ad 1)]) (n := 2) (Nat.le_of_ble_eq_true rfl)
  rw [lg_entry_eq]
  generalize (lg_sl ([.ref (ad 1)]) ++ List.replicate (2 - (lg_sl ([.ref (ad 1)])).length) Slot.unset).toArray = ls at hl ⊢
  have hl : lv_has ls 2 [(0, .ref (ad 1))] := hl
  refine lv_iconst (v := 0) hx hb dMe_takeInputs_0 (by decide +kernel) ?_
  refine lv_istore_n (lv' := [(1, .int 0), (0, .ref (ad 1))]) hx hb dMe_takeInputs_1 rfl hl (by decide) rfl (fun ls hl => ?_)
  refine g_loop (fun n H locs ls => ∃ (i : Nat), ∃ (S1 : Ss), n = 8 - i ∧ i ≤ 8 ∧ S1 = row S 1 (fillN (S 1) (S 3) i) ∧ va_P (dC, dI) vwCl (XW ad ca S1) H ∧ va_D A (XW ad ca S1) ∧ va_S A s.heap H locs ∧ lv_has ls 2 [(0, .ref (ad 1)), (1, .int (nI i))]) ?_ _ _ _ _ ⟨0, S, rfl, Nat.zero_le _, (frow_0 S 1 (S 3)).symm, hP, hD, hS, lv_sub hl [1, 0] rfl⟩
  clear hP hD hS
  rintro n H locs ls ⟨i, S1, en_2, hi, eS1, hP, hD, hS, hl⟩ ih_2
  refine lv_iload_n hx hb dMe_takeInputs_2 rfl (lv_at hl 1 rfl) ?_
  refine lv_bipush (v := 8) hx hb dMe_takeInputs_3 (by decide +kernel) ?_
  refine lv_icmp_ge (tgt := 26) hx hb dMe_takeInputs_5 (by decide) (fun c_0 => ?_) (fun c_0 => ?_)
  · have p_5 : 8 ≤ i := (nI_leI (a := 8) (b := i) (by omega) (by omega)).mp c_0
    exact W.vret hx hb hr (fun t ht hW => ⟨⟨S1, rfl, (by (try dsimp only); exact (by rw [eS1, tin_fill, show i = 8 by omega])), by rw [ht]; exact hP, va_K.moved hW.alike hK, hD⟩, hS.F ht⟩) hS.2.2 dMe_takeInputs_26
  · have p_5 : i < 8 := by have := mt (nI_leI (a := 8) (b := i) (by omega) (by omega)).mpr c_0; omega
    refine lv_aload_n hx hb dMe_takeInputs_8 rfl (lv_at hl 0 rfl) ?_
    refine va_get (D := (dC, dI)) (ci := 1) (v := .ref (ad 2)) (C := RMe) (T := TMe) (N := 5) hx hb hc inMe hown hK hP 1 rfl rfl 0 (by decide) (hc _ w30) (fun _ h9 => h9) rfl dMe_takeInputs_9 ?_
    refine lv_iload_n hx hb dMe_takeInputs_12 rfl (lv_at hl 1 rfl) ?_
    refine lv_aload_n hx hb dMe_takeInputs_13 rfl (lv_at hl 0 rfl) ?_
    refine va_get (D := (dC, dI)) (ci := 1) (v := .ref (ad 4)) (C := RMe) (T := TMe) (N := 5) hx hb hc inMe hown hK hP 1 rfl rfl 2 (by decide) (hc _ w33) (fun _ h9 => h9) rfl dMe_takeInputs_14 ?_
    refine lv_iload_n hx hb dMe_takeInputs_17 rfl (lv_at hl 1 rfl) ?_
    refine va_iald hx hb hK hP 4 2 rfl rfl (vp_in_nI (by omega) (by decide)) dMe_takeInputs_18 ?_
    refine lv_topi (fun v_2 ev_2 => ?_)
    rw [nI_clamp (by omega)] at ev_2
    subst v_2
    refine va_iast hx hb hK hP hD hS 2 0 rfl rfl (vp_in_nI (by omega) (by decide)) dMe_takeInputs_19 (fun H locs hP hD hS => ?_)
    rw [nI_clamp (by omega)] at hP hD
    obtain ⟨S_3, eS_3⟩ : ∃ z9 : Ss, z9 = row S1 1 (upd (S1 1) i (S1 3 i)) := ⟨_, rfl⟩
    have hP : va_P (dC, dI) vwCl (XW ad ca S_3) H := by rw [eS_3]; exact hP
    have hD : va_D A (XW ad ca S_3) := by rw [eS_3]; exact hD
    obtain ⟨v_4, ev_4⟩ : ∃ y : Int32, y = (nI i) + 1 := ⟨_, rfl⟩
    refine lv_iinc (v := v_4) (lv' := [(1, .int v_4), (0, .ref (ad 1))]) hx hb dMe_takeInputs_20 hl (k := 1) rfl (by rw [ev_4]; rfl) (by decide) rfl (fun ls hl => ?_)
    refine lv_goto (tgt := 2) hx hb dMe_takeInputs_23 (by decide) ?_
    have gv_4 : v_4 = nI (i + 1) := (by rw [ev_4]; exact nI_1 i)
    clear ev_4
    subst v_4
    exact ih_2 _ _ _ _ (by omega) ⟨(i + 1), S_3, rfl, (by omega), (by rw [eS_3, eS1]; exact frow_s (by rw [row_n (by decide)])), hP, hD, hS, lv_sub hl [1, 0] rfl⟩

set_option maxHeartbeats 4000000 in
set_option maxRecDepth 100000 in
theorem cMe_sendOutputs (l : Launch) (dC : Nat → ClassId) (dI : Nat → Nat → Nat) (ad : Nat → Nat) (ca : Nat → ClassId) (sz : Nat) (S : Ss) : Met l yMe_sendOutputs (kMe_sendOutputs :: CW) ({ frames := 1, cells := 0, slots := 0, locals := 21 }) (va_Pc [.ref (ad 1)] (gPre (dC, dI) (xT ca) (XW ad ca S) sz)) (va_Qv (fun (u : Ss) => u = sout S) (fun u => gAt (dC, dI) (xT ca) (va_A (XW ad ca S) sz) (XW ad ca u)) (va_A (XW ad ca S) sz)) 0 0 (va_A (XW ad ca S) sz) := by
  refine Met.ofW (cc := bMe_sendOutputs) (maxL := 2) (ret := none) (by decide +kernel) rfl ?_
  intro p e s m args below meth c s₁ B hml hv
  obtain ⟨rfl, hsz, hP, hK, hD0⟩ := hv
  have hx := B.exec
  have hb := B.bytes
  have hr := B.returns
  have hts := atoms_spec (ws := kMe_sendOutputs :: CW) B.pre
  have hc : ∀ w ∈ CW, w.before _ s = true := fun w h => hts w (List.mem_cons_of_mem _ h)
  have hown : s.vm.findClass RMe = some m.cls := findClass_of_methodNamed B.named
  have hlocks := B.notSynchronized
  subst hsz
  have hD := hD0.self (sz := s.heap.size)
  generalize hAe : va_A (XW ad ca S) s.heap.size = A at hD ⊢
  have hA : ∀ q : Nat, s.heap.size ≤ q → A q := fun q h => by rw [← hAe]; exact Or.inr h
  have hS : va_S A s.heap s.heap [] := va_S.rf
  have hl := lv_entry ([.ref (ad 1)]) (n := 2) (Nat.le_of_ble_eq_true rfl)
  rw [lg_entry_eq]
  generalize (lg_sl ([.ref (ad 1)]) ++ List.replicate (2 - (lg_sl ([.ref (ad 1)])).length) Slot.unset).toArray = ls at hl ⊢
  have hl : lv_has ls 2 [(0, .ref (ad 1))] := hl
  refine lv_iconst (v := 0) hx hb dMe_sendOutputs_0 (by decide +kernel) ?_
  refine lv_istore_n (lv' := [(1, .int 0), (0, .ref (ad 1))]) hx hb dMe_sendOutputs_1 rfl hl (by decide) rfl (fun ls hl => ?_)
  refine g_loop (fun n H locs ls => ∃ (i : Nat), ∃ (S1 : Ss), n = 8 - i ∧ i ≤ 8 ∧ S1 = row S 4 (fillN (S 4) (fun k => rd S (8 + k)) i) ∧ va_P (dC, dI) vwCl (XW ad ca S1) H ∧ va_D A (XW ad ca S1) ∧ va_S A s.heap H locs ∧ lv_has ls 2 [(0, .ref (ad 1)), (1, .int (nI i))]) ?_ _ _ _ _ ⟨0, S, rfl, Nat.zero_le _, (frow_0 S 4 (fun k => rd S (8 + k))).symm, hP, hD, hS, lv_sub hl [1, 0] rfl⟩
  clear hP hD hS
  rintro n H locs ls ⟨i, S1, en_2, hi, eS1, hP, hD, hS, hl⟩ ih_2
  refine lv_iload_n hx hb dMe_sendOutputs_2 rfl (lv_at hl 1 rfl) ?_
  refine lv_bipush (v := 8) hx hb dMe_sendOutputs_3 (by decide +kernel) ?_
  refine lv_icmp_ge (tgt := 28) hx hb dMe_sendOutputs_5 (by decide) (fun c_0 => ?_) (fun c_0 => ?_)
  · have p_5 : 8 ≤ i := (nI_leI (a := 8) (b := i) (by omega) (by omega)).mp c_0
    exact W.vret hx hb hr (fun t ht hW => ⟨⟨S1, rfl, (by (try dsimp only); exact (by rw [eS1, sout_fill, show i = 8 by omega])), by rw [ht]; exact hP, va_K.moved hW.alike hK, hD⟩, hS.F ht⟩) hS.2.2 dMe_sendOutputs_28
  · have p_5 : i < 8 := by have := mt (nI_leI (a := 8) (b := i) (by omega) (by omega)).mpr c_0; omega
    refine lv_aload_n hx hb dMe_sendOutputs_8 rfl (lv_at hl 0 rfl) ?_
    refine va_get (D := (dC, dI)) (ci := 1) (v := .ref (ad 5)) (C := RMe) (T := TMe) (N := 5) hx hb hc inMe hown hK hP 1 rfl rfl 3 (by decide) (hc _ w35) (fun _ h9 => h9) rfl dMe_sendOutputs_9 ?_
    refine lv_iload_n hx hb dMe_sendOutputs_12 rfl (lv_at hl 1 rfl) ?_
    refine lv_aload_n hx hb dMe_sendOutputs_13 rfl (lv_at hl 0 rfl) ?_
    refine lv_bipush (v := 8) hx hb dMe_sendOutputs_14 (by decide +kernel) ?_
    refine lv_iload_n hx hb dMe_sendOutputs_16 rfl (lv_at hl 1 rfl) ?_
    refine lv_iadd hx hb dMe_sendOutputs_17 ?_
    refine lv_topi (fun v_2 ev_2 => ?_)
    rw [show (8 : Int32) + nI i = nI (8 + i) from nI_add 8 i] at ev_2
    subst v_2
    refine vp_callSi (va_Run.run (va_runV (As := [.int (nI (8 + i))]) (rest := [.int (nI i), .ref (ad 5)]) ⟨hx, hb, hml, hown, hc⟩ (cMe_read l dC dI ad ca H.size S1 (8 + i) (by omega)) (cwV 1 hc (gV w500 w447 w448 w2 qMe_read) rfl rfl rfl (by decide +kernel) ⟨Nat.le_of_ble_eq_true rfl, Nat.le_of_ble_eq_true rfl⟩) ⟨gPre_blind, va_recv hK hP (ci := 1) (q0 := 1) rfl rfl, (gPre_in hP hK hD)⟩ rfl rfl hl.1 rfl (lv_room (Nat.le_of_ble_eq_true rfl)) dMe_sendOutputs_18 ⟨Nat.zero_le _, Nat.zero_le _⟩)) (fun r_3 hr_3 => ?_)
    refine va_iast hx hb hK hP hD hS 5 3 rfl rfl (vp_in_nI (by omega) (by decide)) dMe_sendOutputs_21 (fun H locs hP hD hS => ?_)
    rw [nI_clamp (by omega)] at hP hD
    obtain ⟨S_4, eS_4⟩ : ∃ z9 : Ss, z9 = row S1 4 (upd (S1 4) i r_3) := ⟨_, rfl⟩
    have hP : va_P (dC, dI) vwCl (XW ad ca S_4) H := by rw [eS_4]; exact hP
    have hD : va_D A (XW ad ca S_4) := by rw [eS_4]; exact hD
    obtain ⟨v_5, ev_5⟩ : ∃ y : Int32, y = (nI i) + 1 := ⟨_, rfl⟩
    refine lv_iinc (v := v_5) (lv' := [(1, .int v_5), (0, .ref (ad 1))]) hx hb dMe_sendOutputs_22 hl (k := 1) rfl (by rw [ev_5]; rfl) (by decide) rfl (fun ls hl => ?_)
    refine lv_goto (tgt := 2) hx hb dMe_sendOutputs_25 (by decide) ?_
    have gv_5 : v_5 = nI (i + 1) := (by rw [ev_5]; exact nI_1 i)
    clear ev_5
    subst v_5
    exact ih_2 _ _ _ _ (by omega) ⟨(i + 1), S_4, rfl, (by omega), (by rw [eS_4, eS1]; exact frow_s (by rw [hr_3, eS1, rd_row (by decide) (by decide)])), hP, hD, hS, lv_sub hl [1, 0] rfl⟩

set_option maxHeartbeats 4000000 in
set_option maxRecDepth 100000 in
theorem cMe_clearOutputWires (l : Launch) (dC : Nat → ClassId) (dI : Nat → Nat → Nat) (ad : Nat → Nat) (ca : Nat → ClassId) (sz : Nat) (S : Ss) : Met l yMe_clearOutputWires (kMe_clearOutputWires :: CW) ({ frames := 0, cells := 0, slots := 0, locals := 0 }) (va_Pc [.ref (ad 1)] (gPre (dC, dI) (xT ca) (XW ad ca S) sz)) (va_Qv (fun (u : Ss) => u = cout S) (fun u => gAt (dC, dI) (xT ca) (va_A (XW ad ca S) sz) (XW ad ca u)) (va_A (XW ad ca S) sz)) 0 0 (va_A (XW ad ca S) sz) := by
  refine Met.ofW (cc := bMe_clearOutputWires) (maxL := 2) (ret := none) (by decide +kernel) rfl ?_
  intro p e s m args below meth c s₁ B hml hv
  obtain ⟨rfl, hsz, hP, hK, hD0⟩ := hv
  have hx := B.exec
  have hb := B.bytes
  have hr := B.returns
  have hts := atoms_spec (ws := kMe_clearOutputWires :: CW) B.pre
  have hc : ∀ w ∈ CW, w.before _ s = true := fun w h => hts w (List.mem_cons_of_mem _ h)
  have hown : s.vm.findClass RMe = some m.cls := findClass_of_methodNamed B.named
  have hlocks := B.notSynchronized
  subst hsz
  have hD := hD0.self (sz := s.heap.size)
  generalize hAe : va_A (XW ad ca S) s.heap.size = A at hD ⊢
  have hA : ∀ q : Nat, s.heap.size ≤ q → A q := fun q h => by rw [← hAe]; exact Or.inr h
  have hS : va_S A s.heap s.heap [] := va_S.rf
  have hl := lv_entry ([.ref (ad 1)]) (n := 2) (Nat.le_of_ble_eq_true rfl)
  rw [lg_entry_eq]
  generalize (lg_sl ([.ref (ad 1)]) ++ List.replicate (2 - (lg_sl ([.ref (ad 1)])).length) Slot.unset).toArray = ls at hl ⊢
  have hl : lv_has ls 2 [(0, .ref (ad 1))] := hl
  refine lv_iconst (v := 0) hx hb dMe_clearOutputWires_0 (by decide +kernel) ?_
  refine lv_istore_n (lv' := [(1, .int 0), (0, .ref (ad 1))]) hx hb dMe_clearOutputWires_1 rfl hl (by decide) rfl (fun ls hl => ?_)
  refine g_loop (fun n H locs ls => ∃ (i : Nat), ∃ (S1 : Ss), n = 8 - i ∧ i ≤ 8 ∧ S1 = row S 4 (fillN (S 4) (fun _ => 0) i) ∧ va_P (dC, dI) vwCl (XW ad ca S1) H ∧ va_D A (XW ad ca S1) ∧ va_S A s.heap H locs ∧ lv_has ls 2 [(0, .ref (ad 1)), (1, .int (nI i))]) ?_ _ _ _ _ ⟨0, S, rfl, Nat.zero_le _, (frow_0 S 4 (fun _ => 0)).symm, hP, hD, hS, lv_sub hl [1, 0] rfl⟩
  clear hP hD hS
  rintro n H locs ls ⟨i, S1, en_2, hi, eS1, hP, hD, hS, hl⟩ ih_2
  refine lv_iload_n hx hb dMe_clearOutputWires_2 rfl (lv_at hl 1 rfl) ?_
  refine lv_bipush (v := 8) hx hb dMe_clearOutputWires_3 (by decide +kernel) ?_
  refine lv_icmp_ge (tgt := 21) hx hb dMe_clearOutputWires_5 (by decide) (fun c_0 => ?_) (fun c_0 => ?_)
  · have p_5 : 8 ≤ i := (nI_leI (a := 8) (b := i) (by omega) (by omega)).mp c_0
    exact W.vret hx hb hr (fun t ht hW => ⟨⟨S1, rfl, (by (try dsimp only); exact (by rw [eS1, cout_fill, show i = 8 by omega])), by rw [ht]; exact hP, va_K.moved hW.alike hK, hD⟩, hS.F ht⟩) hS.2.2 dMe_clearOutputWires_21
  · have p_5 : i < 8 := by have := mt (nI_leI (a := 8) (b := i) (by omega) (by omega)).mpr c_0; omega
    refine lv_aload_n hx hb dMe_clearOutputWires_8 rfl (lv_at hl 0 rfl) ?_
    refine va_get (D := (dC, dI)) (ci := 1) (v := .ref (ad 5)) (C := RMe) (T := TMe) (N := 5) hx hb hc inMe hown hK hP 1 rfl rfl 3 (by decide) (hc _ w35) (fun _ h9 => h9) rfl dMe_clearOutputWires_9 ?_
    refine lv_iload_n hx hb dMe_clearOutputWires_12 rfl (lv_at hl 1 rfl) ?_
    refine lv_iconst (v := 0) hx hb dMe_clearOutputWires_13 (by decide +kernel) ?_
    refine va_iast hx hb hK hP hD hS 5 3 rfl rfl (vp_in_nI (by omega) (by decide)) dMe_clearOutputWires_14 (fun H locs hP hD hS => ?_)
    rw [nI_clamp (by omega)] at hP hD
    obtain ⟨S_2, eS_2⟩ : ∃ z9 : Ss, z9 = row S1 4 (upd (S1 4) i 0) := ⟨_, rfl⟩
    have hP : va_P (dC, dI) vwCl (XW ad ca S_2) H := by rw [eS_2]; exact hP
    have hD : va_D A (XW ad ca S_2) := by rw [eS_2]; exact hD
    obtain ⟨v_3, ev_3⟩ : ∃ y : Int32, y = (nI i) + 1 := ⟨_, rfl⟩
    refine lv_iinc (v := v_3) (lv' := [(1, .int v_3), (0, .ref (ad 1))]) hx hb dMe_clearOutputWires_15 hl (k := 1) rfl (by rw [ev_3]; rfl) (by decide) rfl (fun ls hl => ?_)
    refine lv_goto (tgt := 2) hx hb dMe_clearOutputWires_18 (by decide) ?_
    have gv_3 : v_3 = nI (i + 1) := (by rw [ev_3]; exact nI_1 i)
    clear ev_3
    subst v_3
    exact ih_2 _ _ _ _ (by omega) ⟨(i + 1), S_2, rfl, (by omega), (by rw [eS_2, eS1]; exact frow_s rfl), hP, hD, hS, lv_sub hl [1, 0] rfl⟩

set_option maxHeartbeats 4000000 in
set_option maxRecDepth 100000 in
theorem cMe_losePower (l : Launch) (dC : Nat → ClassId) (dI : Nat → Nat → Nat) (ad : Nat → Nat) (ca : Nat → ClassId) (sz : Nat) (S : Ss) : Met l yMe_losePower (kMe_losePower :: CW) ({ frames := 1, cells := 0, slots := 0, locals := 21 }) (va_Pc [.ref (ad 1)] (gPre (dC, dI) (xT ca) (XW ad ca S) sz)) (va_Qv (fun (u : Ss) => u = lpM S) (fun u => gAt (dC, dI) (xT ca) (va_A (XW ad ca S) sz) (XW ad ca u)) (va_A (XW ad ca S) sz)) 0 0 (va_A (XW ad ca S) sz) := by
  refine Met.ofW (cc := bMe_losePower) (maxL := 2) (ret := none) (by decide +kernel) rfl ?_
  intro p e s m args below meth c s₁ B hml hv
  obtain ⟨rfl, hsz, hP, hK, hD0⟩ := hv
  have hx := B.exec
  have hb := B.bytes
  have hr := B.returns
  have hts := atoms_spec (ws := kMe_losePower :: CW) B.pre
  have hc : ∀ w ∈ CW, w.before _ s = true := fun w h => hts w (List.mem_cons_of_mem _ h)
  have hown : s.vm.findClass RMe = some m.cls := findClass_of_methodNamed B.named
  have hlocks := B.notSynchronized
  subst hsz
  have hD := hD0.self (sz := s.heap.size)
  generalize hAe : va_A (XW ad ca S) s.heap.size = A at hD ⊢
  have hA : ∀ q : Nat, s.heap.size ≤ q → A q := fun q h => by rw [← hAe]; exact Or.inr h
  have hS : va_S A s.heap s.heap [] := va_S.rf
  have hl := lv_entry ([.ref (ad 1)]) (n := 2) (Nat.le_of_ble_eq_true rfl)
  rw [lg_entry_eq]
  generalize (lg_sl ([.ref (ad 1)]) ++ List.replicate (2 - (lg_sl ([.ref (ad 1)])).length) Slot.unset).toArray = ls at hl ⊢
  have hl : lv_has ls 2 [(0, .ref (ad 1))] := hl
  refine lv_iconst (v := 0) hx hb dMe_losePower_0 (by decide +kernel) ?_
  refine lv_istore_n (lv' := [(1, .int 0), (0, .ref (ad 1))]) hx hb dMe_losePower_1 rfl hl (by decide) rfl (fun ls hl => ?_)
  refine g_loop (fun n H locs ls => ∃ (i : Nat), ∃ (S1 : Ss), n = 24 - i ∧ i ≤ 24 ∧ S1 = row S 1 (fillN (S 1) (fun _ => 0) i) ∧ va_P (dC, dI) vwCl (XW ad ca S1) H ∧ va_D A (XW ad ca S1) ∧ va_S A s.heap H locs ∧ lv_has ls 2 [(0, .ref (ad 1)), (1, .int (nI i))]) ?_ _ _ _ _ ⟨0, S, rfl, Nat.zero_le _, (frow_0 S 1 (fun _ => 0)).symm, hP, hD, hS, lv_sub hl [1, 0] rfl⟩
  clear hP hD hS
  rintro n H locs ls ⟨i, S1, en_2, hi, eS1, hP, hD, hS, hl⟩ ih_2
  refine lv_iload_n hx hb dMe_losePower_2 rfl (lv_at hl 1 rfl) ?_
  refine lv_bipush (v := 24) hx hb dMe_losePower_3 (by decide +kernel) ?_
  refine lv_icmp_ge (tgt := 21) hx hb dMe_losePower_5 (by decide) (fun c_0 => ?_) (fun c_0 => ?_)
  · have p_5 : 24 ≤ i := (nI_leI (a := 24) (b := i) (by omega) (by omega)).mp c_0
    refine lv_aload_n hx hb dMe_losePower_21 rfl (lv_at hl 0 rfl) ?_
    refine g_callv (va_runV (As := []) (rest := []) ⟨hx, hb, hml, hown, hc⟩ (cMe_clearOutputWires l dC dI ad ca H.size S1 ) (cwV 0 hc (gV w163 w164 w165 w2 qMe_clearOutputWires) rfl rfl rfl (by decide +kernel) ⟨Nat.le_of_ble_eq_true rfl, Nat.le_of_ble_eq_true rfl⟩) ⟨gPre_blind, va_recv hK hP (ci := 1) (q0 := 1) rfl rfl, (gPre_in hP hK hD)⟩ rfl rfl hl.1 rfl (lv_room (Nat.le_of_ble_eq_true rfl)) dMe_losePower_22 ⟨Nat.zero_le _, Nat.zero_le _⟩) hD hS hA (fun u_2 H locs hu_2 hP hD hS => ?_)
    exact W.vret hx hb hr (fun t ht hW => ⟨⟨u_2, rfl, (by (try dsimp only); exact (by rw [hu_2, eS1, show i = 24 by omega]; rfl)), by rw [ht]; exact hP, va_K.moved hW.alike hK, hD⟩, hS.F ht⟩) hS.2.2 dMe_losePower_25
  · have p_5 : i < 24 := by have := mt (nI_leI (a := 24) (b := i) (by omega) (by omega)).mpr c_0; omega
    refine lv_aload_n hx hb dMe_losePower_8 rfl (lv_at hl 0 rfl) ?_
    refine va_get (D := (dC, dI)) (ci := 1) (v := .ref (ad 2)) (C := RMe) (T := TMe) (N := 5) hx hb hc inMe hown hK hP 1 rfl rfl 0 (by decide) (hc _ w30) (fun _ h9 => h9) rfl dMe_losePower_9 ?_
    refine lv_iload_n hx hb dMe_losePower_12 rfl (lv_at hl 1 rfl) ?_
    refine lv_iconst (v := 0) hx hb dMe_losePower_13 (by decide +kernel) ?_
    refine va_iast hx hb hK hP hD hS 2 0 rfl rfl (vp_in_nI (by omega) (by decide)) dMe_losePower_14 (fun H locs hP hD hS => ?_)
    rw [nI_clamp (by omega)] at hP hD
    obtain ⟨S_3, eS_3⟩ : ∃ z9 : Ss, z9 = row S1 1 (upd (S1 1) i 0) := ⟨_, rfl⟩
    have hP : va_P (dC, dI) vwCl (XW ad ca S_3) H := by rw [eS_3]; exact hP
    have hD : va_D A (XW ad ca S_3) := by rw [eS_3]; exact hD
    obtain ⟨v_4, ev_4⟩ : ∃ y : Int32, y = (nI i) + 1 := ⟨_, rfl⟩
    refine lv_iinc (v := v_4) (lv' := [(1, .int v_4), (0, .ref (ad 1))]) hx hb dMe_losePower_15 hl (k := 1) rfl (by rw [ev_4]; rfl) (by decide) rfl (fun ls hl => ?_)
    refine lv_goto (tgt := 2) hx hb dMe_losePower_18 (by decide) ?_
    have gv_4 : v_4 = nI (i + 1) := (by rw [ev_4]; exact nI_1 i)
    clear ev_4
    subst v_4
    exact ih_2 _ _ _ _ (by omega) ⟨(i + 1), S_3, rfl, (by omega), (by rw [eS_3, eS1]; exact frow_s rfl), hP, hD, hS, lv_sub hl [1, 0] rfl⟩

set_option maxHeartbeats 4000000 in
set_option maxRecDepth 100000 in
theorem cMe_assign (l : Launch) (dC : Nat → ClassId) (dI : Nat → Nat → Nat) (ad : Nat → Nat) (ca : Nat → ClassId) (sz : Nat) (S : Ss) (a x : Int32) (k : Nat) (hk : k < 32) : Met l yMe_assign (kMe_assign :: CW) ({ frames := 0, cells := 0, slots := 0, locals := 0 }) (va_Pc [.ref (ad 1), .int a, .int (nI k), .int x] (gPre (dC, dI) (xT ca) (XW ad ca S) sz)) (va_Qv (fun (u : Ss) => u = asg S a k x) (fun u => gAt (dC, dI) (xT ca) (va_A (XW ad ca S) sz) (XW ad ca u)) (va_A (XW ad ca S) sz)) 0 0 (va_A (XW ad ca S) sz) := by
  refine Met.ofW (cc := bMe_assign) (maxL := 4) (ret := none) (by decide +kernel) rfl ?_
  intro p e s m args below meth c s₁ B hml hv
  obtain ⟨rfl, hsz, hP, hK, hD0⟩ := hv
  have hx := B.exec
  have hb := B.bytes
  have hr := B.returns
  have hts := atoms_spec (ws := kMe_assign :: CW) B.pre
  have hc : ∀ w ∈ CW, w.before _ s = true := fun w h => hts w (List.mem_cons_of_mem _ h)
  have hown : s.vm.findClass RMe = some m.cls := findClass_of_methodNamed B.named
  have hlocks := B.notSynchronized
  subst hsz
  have hD := hD0.self (sz := s.heap.size)
  generalize hAe : va_A (XW ad ca S) s.heap.size = A at hD ⊢
  have hA : ∀ q : Nat, s.heap.size ≤ q → A q := fun q h => by rw [← hAe]; exact Or.inr h
  have hS : va_S A s.heap s.heap [] := va_S.rf
  have hl := lv_entry ([.ref (ad 1), .int a, .int (nI k), .int x]) (n := 4) (Nat.le_of_ble_eq_true rfl)
  rw [lg_entry_eq]
  generalize (lg_sl ([.ref (ad 1), .int a, .int (nI k), .int x]) ++ List.replicate (4 - (lg_sl ([.ref (ad 1), .int a, .int (nI k), .int x])).length) Slot.unset).toArray = ls at hl ⊢
  have hl : lv_has ls 4 [(0, .ref (ad 1)), (1, .int a), (2, .int (nI k)), (3, .int x)] := hl
  refine lv_iload_n hx hb dMe_assign_0 rfl (lv_at hl 1 rfl) ?_
  refine lv_bipush (v := 10) hx hb dMe_assign_1 (by decide +kernel) ?_
  refine lv_icmp_ne (tgt := 16) hx hb dMe_assign_3 (by decide) (fun c_0 => ?_) (fun c_0 => ?_)
  · refine lv_iload_n hx hb dMe_assign_16 rfl (lv_at hl 3 rfl) ?_
    refine lv_iconst (v := 1) hx hb dMe_assign_17 (by decide +kernel) ?_
    refine lv_icmp_ne (tgt := 38) hx hb dMe_assign_18 (by decide) (fun c_1 => ?_) (fun c_1 => ?_)
    · exact W.vret hx hb hr (fun t ht hW => ⟨⟨S, rfl, (by (try dsimp only); exact (by unfold asg; rw [if_neg c_0, if_neg c_1])), by rw [ht]; exact hP, va_K.moved hW.alike hK, hD⟩, hS.F ht⟩) hS.2.2 dMe_assign_38
    · refine lv_aload_n hx hb dMe_assign_21 rfl (lv_at hl 0 rfl) ?_
      refine va_get (D := (dC, dI)) (ci := 1) (v := .ref (ad 2)) (C := RMe) (T := TMe) (N := 5) hx hb hc inMe hown hK hP 1 rfl rfl 0 (by decide) (hc _ w30) (fun _ h9 => h9) rfl dMe_assign_22 ?_
      refine lv_iload_n hx hb dMe_assign_25 rfl (lv_at hl 2 rfl) ?_
      refine lv_iload_n hx hb dMe_assign_26 rfl (lv_at hl 1 rfl) ?_
      refine lv_bipush (v := 11) hx hb dMe_assign_27 (by decide +kernel) ?_
      refine lv_icmp_ne (tgt := 36) hx hb dMe_assign_29 (by decide) (fun c_2 => ?_) (fun c_2 => ?_)
      · refine lv_iconst (v := 0) hx hb dMe_assign_36 (by decide +kernel) ?_
        refine va_iast hx hb hK hP hD hS 2 0 rfl rfl (vp_in_nI (by omega) (by decide)) dMe_assign_37 (fun H locs hP hD hS => ?_)
        rw [nI_clamp (by omega)] at hP hD
        obtain ⟨S_4, eS_4⟩ : ∃ z9 : Ss, z9 = row S 1 (upd (S 1) k 0) := ⟨_, rfl⟩
        have hP : va_P (dC, dI) vwCl (XW ad ca S_4) H := by rw [eS_4]; exact hP
        have hD : va_D A (XW ad ca S_4) := by rw [eS_4]; exact hD
        exact W.vret hx hb hr (fun t ht hW => ⟨⟨S_4, rfl, (by (try dsimp only); exact (by rw [eS_4]; unfold asg; rw [if_neg c_0, if_pos c_1]; first | rw [b2_t c_2] | rw [b2_f c_2])), by rw [ht]; exact hP, va_K.moved hW.alike hK, hD⟩, hS.F ht⟩) hS.2.2 dMe_assign_38
      · refine lv_iconst (v := 1) hx hb dMe_assign_32 (by decide +kernel) ?_
        refine lv_goto (tgt := 37) hx hb dMe_assign_33 (by decide) ?_
        refine va_iast hx hb hK hP hD hS 2 0 rfl rfl (vp_in_nI (by omega) (by decide)) dMe_assign_37 (fun H locs hP hD hS => ?_)
        rw [nI_clamp (by omega)] at hP hD
        obtain ⟨S_5, eS_5⟩ : ∃ z9 : Ss, z9 = row S 1 (upd (S 1) k 1) := ⟨_, rfl⟩
        have hP : va_P (dC, dI) vwCl (XW ad ca S_5) H := by rw [eS_5]; exact hP
        have hD : va_D A (XW ad ca S_5) := by rw [eS_5]; exact hD
        exact W.vret hx hb hr (fun t ht hW => ⟨⟨S_5, rfl, (by (try dsimp only); exact (by rw [eS_5]; unfold asg; rw [if_neg c_0, if_pos c_1]; first | rw [b2_t c_2] | rw [b2_f c_2])), by rw [ht]; exact hP, va_K.moved hW.alike hK, hD⟩, hS.F ht⟩) hS.2.2 dMe_assign_38
  · refine lv_aload_n hx hb dMe_assign_6 rfl (lv_at hl 0 rfl) ?_
    refine va_get (D := (dC, dI)) (ci := 1) (v := .ref (ad 2)) (C := RMe) (T := TMe) (N := 5) hx hb hc inMe hown hK hP 1 rfl rfl 0 (by decide) (hc _ w30) (fun _ h9 => h9) rfl dMe_assign_7 ?_
    refine lv_iload_n hx hb dMe_assign_10 rfl (lv_at hl 2 rfl) ?_
    refine lv_iload_n hx hb dMe_assign_11 rfl (lv_at hl 3 rfl) ?_
    refine va_iast hx hb hK hP hD hS 2 0 rfl rfl (vp_in_nI (by omega) (by decide)) dMe_assign_12 (fun H locs hP hD hS => ?_)
    rw [nI_clamp (by omega)] at hP hD
    obtain ⟨S_6, eS_6⟩ : ∃ z9 : Ss, z9 = row S 1 (upd (S 1) k x) := ⟨_, rfl⟩
    have hP : va_P (dC, dI) vwCl (XW ad ca S_6) H := by rw [eS_6]; exact hP
    have hD : va_D A (XW ad ca S_6) := by rw [eS_6]; exact hD
    refine lv_goto (tgt := 38) hx hb dMe_assign_13 (by decide) ?_
    exact W.vret hx hb hr (fun t ht hW => ⟨⟨S_6, rfl, (by (try dsimp only); exact (by rw [eS_6]; unfold asg; rw [if_pos c_0])), by rw [ht]; exact hP, va_K.moved hW.alike hK, hD⟩, hS.F ht⟩) hS.2.2 dMe_assign_38

set_option maxHeartbeats 4000000 in
set_option maxRecDepth 100000 in
theorem cBl_become (l : Launch) (dC : Nat → ClassId) (dI : Nat → Nat → Nat) (ad : Nat → Nat) (ca : Nat → ClassId) (sz : Nat) (S : Ss) (j : Nat) (hj : j < 10) (x y z : Int32) : Met l yBl_become (kBl_become :: CW) ({ frames := 0, cells := 0, slots := 0, locals := 0 }) (va_Pc [.ref (ad (18 + j)), .int x, .int y, .int z] (gPre (dC, dI) (xT ca) (XW ad ca S) sz)) (va_Qv (fun (u : Ss) => u = row (row (row S 14 (upd (S 14) j x)) 15 (upd (S 15) j y)) 16 (upd (S 16) j z)) (fun u => gAt (dC, dI) (xT ca) (va_A (XW ad ca S) sz) (XW ad ca u)) (va_A (XW ad ca S) sz)) 0 0 (va_A (XW ad ca S) sz) := by
  refine Met.ofW (cc := bBl_become) (maxL := 4) (ret := none) (by decide +kernel) rfl ?_
  intro p e s m args below meth c s₁ B hml hv
  obtain ⟨rfl, hsz, hP, hK, hD0⟩ := hv
  have hx := B.exec
  have hb := B.bytes
  have hr := B.returns
  have hts := atoms_spec (ws := kBl_become :: CW) B.pre
  have hc : ∀ w ∈ CW, w.before _ s = true := fun w h => hts w (List.mem_cons_of_mem _ h)
  have hown : s.vm.findClass RBl = some m.cls := findClass_of_methodNamed B.named
  have hlocks := B.notSynchronized
  subst hsz
  have hD := hD0.self (sz := s.heap.size)
  generalize hAe : va_A (XW ad ca S) s.heap.size = A at hD ⊢
  have hA : ∀ q : Nat, s.heap.size ≤ q → A q := fun q h => by rw [← hAe]; exact Or.inr h
  have hS : va_S A s.heap s.heap [] := va_S.rf
  have hl := lv_entry ([.ref (ad (18 + j)), .int x, .int y, .int z]) (n := 4) (Nat.le_of_ble_eq_true rfl)
  rw [lg_entry_eq]
  generalize (lg_sl ([.ref (ad (18 + j)), .int x, .int y, .int z]) ++ List.replicate (4 - (lg_sl ([.ref (ad (18 + j)), .int x, .int y, .int z])).length) Slot.unset).toArray = ls at hl ⊢
  have hl : lv_has ls 4 [(0, .ref (ad (18 + j))), (1, .int x), (2, .int y), (3, .int z)] := hl
  refine lv_aload_n hx hb dBl_become_0 rfl (lv_at hl 0 rfl) ?_
  refine lv_iload_n hx hb dBl_become_1 rfl (lv_at hl 1 rfl) ?_
  refine va_put (D := (dC, dI)) (ci := 2) (v := .int x) (ty := .int) (C := RBl) (T := TBl) (N := 8) hx hb hc inBl tyBl tyBl_ok nmBl hown hK hP hD hS (18 + j) (xb_cell (by omega)) rfl 0 (by decide) (hc _ w81) (fun _ h9 => h9) rfl (by decide +kernel) rfl rfl (Nat.le_of_ble_eq_true rfl) dBl_become_2 (fun H locs hP hD hS => ?_)
  obtain ⟨S_1, eS_1⟩ : ∃ z9 : Ss, z9 = row S 14 (upd (S 14) j x) := ⟨_, rfl⟩
  rw [xb_set (by omega) 0 (by decide)] at hP hD
  have hP : va_P (dC, dI) vwCl (XW ad ca S_1) H := by rw [eS_1]; exact hP
  have hD : va_D A (XW ad ca S_1) := by rw [eS_1]; exact hD
  refine lv_aload_n hx hb dBl_become_5 rfl (lv_at hl 0 rfl) ?_
  refine lv_iload_n hx hb dBl_become_6 rfl (lv_at hl 2 rfl) ?_
  refine va_put (D := (dC, dI)) (ci := 2) (v := .int y) (ty := .int) (C := RBl) (T := TBl) (N := 8) hx hb hc inBl tyBl tyBl_ok nmBl hown hK hP hD hS (18 + j) (xb_cell (by omega)) rfl 1 (by decide) (hc _ w83) (fun _ h9 => h9) rfl (by decide +kernel) rfl rfl (Nat.le_of_ble_eq_true rfl) dBl_become_7 (fun H locs hP hD hS => ?_)
  obtain ⟨S_2, eS_2⟩ : ∃ z9 : Ss, z9 = row S_1 15 (upd (S_1 15) j y) := ⟨_, rfl⟩
  rw [xb_set (by omega) 1 (by decide)] at hP hD
  have hP : va_P (dC, dI) vwCl (XW ad ca S_2) H := by rw [eS_2]; exact hP
  have hD : va_D A (XW ad ca S_2) := by rw [eS_2]; exact hD
  refine lv_aload_n hx hb dBl_become_10 rfl (lv_at hl 0 rfl) ?_
  refine lv_iload_n hx hb dBl_become_11 rfl (lv_at hl 3 rfl) ?_
  refine va_put (D := (dC, dI)) (ci := 2) (v := .int z) (ty := .int) (C := RBl) (T := TBl) (N := 8) hx hb hc inBl tyBl tyBl_ok nmBl hown hK hP hD hS (18 + j) (xb_cell (by omega)) rfl 2 (by decide) (hc _ w84) (fun _ h9 => h9) rfl (by decide +kernel) rfl rfl (Nat.le_of_ble_eq_true rfl) dBl_become_12 (fun H locs hP hD hS => ?_)
  obtain ⟨S_3, eS_3⟩ : ∃ z9 : Ss, z9 = row S_2 16 (upd (S_2 16) j z) := ⟨_, rfl⟩
  rw [xb_set (by omega) 2 (by decide)] at hP hD
  have hP : va_P (dC, dI) vwCl (XW ad ca S_3) H := by rw [eS_3]; exact hP
  have hD : va_D A (XW ad ca S_3) := by rw [eS_3]; exact hD
  exact W.vret hx hb hr (fun t ht hW => ⟨⟨S_3, rfl, (by (try dsimp only); exact (by rw [eS_3, eS_2, eS_1]; rfl)), by rw [ht]; exact hP, va_K.moved hW.alike hK, hD⟩, hS.F ht⟩) hS.2.2 dBl_become_15

set_option maxHeartbeats 4000000 in
set_option maxRecDepth 100000 in
theorem cBl_losePower (l : Launch) (dC : Nat → ClassId) (dI : Nat → Nat → Nat) (ad : Nat → Nat) (ca : Nat → ClassId) (sz : Nat) (S : Ss) (j : Nat) (hj : j < 10) : Met l yBl_losePower (kBl_losePower :: CW) ({ frames := 0, cells := 0, slots := 0, locals := 0 }) (va_Pc [.ref (ad (18 + j))] (gPre (dC, dI) (xT ca) (XW ad ca S) sz)) (va_Qv (fun (u : Ss) => u = row (row (row S 19 (upd (S 19) j 0)) 20 (upd (S 20) j 0)) 21 (upd (S 21) j 0)) (fun u => gAt (dC, dI) (xT ca) (va_A (XW ad ca S) sz) (XW ad ca u)) (va_A (XW ad ca S) sz)) 0 0 (va_A (XW ad ca S) sz) := by
  refine Met.ofW (cc := bBl_losePower) (maxL := 1) (ret := none) (by decide +kernel) rfl ?_
  intro p e s m args below meth c s₁ B hml hv
  obtain ⟨rfl, hsz, hP, hK, hD0⟩ := hv
  have hx := B.exec
  have hb := B.bytes
  have hr := B.returns
  have hts := atoms_spec (ws := kBl_losePower :: CW) B.pre
  have hc : ∀ w ∈ CW, w.before _ s = true := fun w h => hts w (List.mem_cons_of_mem _ h)
  have hown : s.vm.findClass RBl = some m.cls := findClass_of_methodNamed B.named
  have hlocks := B.notSynchronized
  subst hsz
  have hD := hD0.self (sz := s.heap.size)
  generalize hAe : va_A (XW ad ca S) s.heap.size = A at hD ⊢
  have hA : ∀ q : Nat, s.heap.size ≤ q → A q := fun q h => by rw [← hAe]; exact Or.inr h
  have hS : va_S A s.heap s.heap [] := va_S.rf
  have hl := lv_entry ([.ref (ad (18 + j))]) (n := 1) (Nat.le_of_ble_eq_true rfl)
  rw [lg_entry_eq]
  generalize (lg_sl ([.ref (ad (18 + j))]) ++ List.replicate (1 - (lg_sl ([.ref (ad (18 + j))])).length) Slot.unset).toArray = ls at hl ⊢
  have hl : lv_has ls 1 [(0, .ref (ad (18 + j)))] := hl
  refine lv_aload_n hx hb dBl_losePower_0 rfl (lv_at hl 0 rfl) ?_
  refine lv_iconst (v := 0) hx hb dBl_losePower_1 (by decide +kernel) ?_
  refine va_put (D := (dC, dI)) (ci := 2) (v := .int 0) (ty := .int) (C := RBl) (T := TBl) (N := 8) hx hb hc inBl tyBl tyBl_ok nmBl hown hK hP hD hS (18 + j) (xb_cell (by omega)) rfl 5 (by decide) (hc _ w89) (fun _ h9 => h9) rfl (by decide +kernel) rfl rfl (Nat.le_of_ble_eq_true rfl) dBl_losePower_2 (fun H locs hP hD hS => ?_)
  obtain ⟨S_1, eS_1⟩ : ∃ z9 : Ss, z9 = row S 19 (upd (S 19) j 0) := ⟨_, rfl⟩
  rw [xb_set (by omega) 5 (by decide)] at hP hD
  have hP : va_P (dC, dI) vwCl (XW ad ca S_1) H := by rw [eS_1]; exact hP
  have hD : va_D A (XW ad ca S_1) := by rw [eS_1]; exact hD
  refine lv_aload_n hx hb dBl_losePower_5 rfl (lv_at hl 0 rfl) ?_
  refine lv_iconst (v := 0) hx hb dBl_losePower_6 (by decide +kernel) ?_
  refine va_put (D := (dC, dI)) (ci := 2) (v := .int 0) (ty := .int) (C := RBl) (T := TBl) (N := 8) hx hb hc inBl tyBl tyBl_ok nmBl hown hK hP hD hS (18 + j) (xb_cell (by omega)) rfl 6 (by decide) (hc _ w91) (fun _ h9 => h9) rfl (by decide +kernel) rfl rfl (Nat.le_of_ble_eq_true rfl) dBl_losePower_7 (fun H locs hP hD hS => ?_)
  obtain ⟨S_2, eS_2⟩ : ∃ z9 : Ss, z9 = row S_1 20 (upd (S_1 20) j 0) := ⟨_, rfl⟩
  rw [xb_set (by omega) 6 (by decide)] at hP hD
  have hP : va_P (dC, dI) vwCl (XW ad ca S_2) H := by rw [eS_2]; exact hP
  have hD : va_D A (XW ad ca S_2) := by rw [eS_2]; exact hD
  refine lv_aload_n hx hb dBl_losePower_10 rfl (lv_at hl 0 rfl) ?_
  refine lv_iconst (v := 0) hx hb dBl_losePower_11 (by decide +kernel) ?_
  refine va_put (D := (dC, dI)) (ci := 2) (v := .int 0) (ty := .int) (C := RBl) (T := TBl) (N := 8) hx hb hc inBl tyBl tyBl_ok nmBl hown hK hP hD hS (18 + j) (xb_cell (by omega)) rfl 7 (by decide) (hc _ w93) (fun _ h9 => h9) rfl (by decide +kernel) rfl rfl (Nat.le_of_ble_eq_true rfl) dBl_losePower_12 (fun H locs hP hD hS => ?_)
  obtain ⟨S_3, eS_3⟩ : ∃ z9 : Ss, z9 = row S_2 21 (upd (S_2 21) j 0) := ⟨_, rfl⟩
  rw [xb_set (by omega) 7 (by decide)] at hP hD
  have hP : va_P (dC, dI) vwCl (XW ad ca S_3) H := by rw [eS_3]; exact hP
  have hD : va_D A (XW ad ca S_3) := by rw [eS_3]; exact hD
  exact W.vret hx hb hr (fun t ht hW => ⟨⟨S_3, rfl, (by (try dsimp only); exact (by rw [eS_3, eS_2, eS_1]; rfl)), by rw [ht]; exact hP, va_K.moved hW.alike hK, hD⟩, hS.F ht⟩) hS.2.2 dBl_losePower_15

set_option maxHeartbeats 4000000 in
set_option maxRecDepth 100000 in
theorem cLa_add (l : Launch) (dC : Nat → ClassId) (dI : Nat → Nat → Nat) (ad : Nat → Nat) (ca : Nat → ClassId) (sz : Nat) (S : Ss) (k n : Nat) (x y : Int32) (hk : k < 12) (hn : n < 10) (en : S 8 k = nI n) : Met l yLa_add (kLa_add :: CW) ({ frames := 2, cells := 0, slots := 0, locals := 40 }) (va_Pc [.ref (ad 8), .int (nI k), .int x, .int y] (gPre (dC, dI) (xT ca) (XW ad ca S) sz)) (va_Qi (fun (r : Int32) (u : Ss) => r = S 9 k + grw x ∧ u = addW S k n x y) (fun u => gAt (dC, dI) (xT ca) (va_A (XW ad ca S) sz) (XW ad ca u)) (va_A (XW ad ca S) sz)) 0 0 (va_A (XW ad ca S) sz) := by
  refine Met.ofW (cc := bLa_add) (maxL := 5) (ret := (some .int)) (by decide +kernel) rfl ?_
  intro p e s m args below meth c s₁ B hml hv
  obtain ⟨rfl, hsz, hP, hK, hD0⟩ := hv
  have hx := B.exec
  have hb := B.bytes
  have hr := B.returns
  have hts := atoms_spec (ws := kLa_add :: CW) B.pre
  have hc : ∀ w ∈ CW, w.before _ s = true := fun w h => hts w (List.mem_cons_of_mem _ h)
  have hown : s.vm.findClass RLa = some m.cls := findClass_of_methodNamed B.named
  have hlocks := B.notSynchronized
  subst hsz
  have hD := hD0.self (sz := s.heap.size)
  generalize hAe : va_A (XW ad ca S) s.heap.size = A at hD ⊢
  have hA : ∀ q : Nat, s.heap.size ≤ q → A q := fun q h => by rw [← hAe]; exact Or.inr h
  have hS : va_S A s.heap s.heap [] := va_S.rf
  have hl := lv_entry ([.ref (ad 8), .int (nI k), .int x, .int y]) (n := 5) (Nat.le_of_ble_eq_true rfl)
  rw [lg_entry_eq]
  generalize (lg_sl ([.ref (ad 8), .int (nI k), .int x, .int y]) ++ List.replicate (5 - (lg_sl ([.ref (ad 8), .int (nI k), .int x, .int y])).length) Slot.unset).toArray = ls at hl ⊢
  have hl : lv_has ls 5 [(0, .ref (ad 8)), (1, .int (nI k)), (2, .int x), (3, .int y)] := hl
  have hpl : nI k * 10 + S 8 k = nI (10 * k + n) := by rw [en, show (10 : Int32) = nI 10 from rfl, pk_mul, nI_add, Nat.mul_comm]
  refine lv_iload_n hx hb dLa_add_0 rfl (lv_at hl 1 rfl) ?_
  refine lv_bipush (v := 10) hx hb dLa_add_1 (by decide +kernel) ?_
  refine lv_imul hx hb dLa_add_3 ?_
  refine lv_aload_n hx hb dLa_add_4 rfl (lv_at hl 0 rfl) ?_
  refine va_get (D := (dC, dI)) (ci := 3) (v := .ref (ad 11)) (C := RLa) (T := TLa) (N := 4) hx hb hc inLa hown hK hP 8 rfl rfl 2 (by decide) (hc _ w64) (fun _ h9 => h9) rfl dLa_add_5 ?_
  refine lv_iload_n hx hb dLa_add_8 rfl (lv_at hl 1 rfl) ?_
  refine va_iald hx hb hK hP 11 8 rfl rfl (vp_in_nI (by omega) (by decide)) dLa_add_9 ?_
  refine lv_topi (fun v_1 ev_1 => ?_)
  rw [nI_clamp (by omega)] at ev_1
  subst v_1
  refine lv_iadd hx hb dLa_add_10 ?_
  refine lv_topi (fun v_2 ev_2 => ?_)
  rw [hpl] at ev_2
  subst v_2
  refine lv_istore (lv' := [(4, .int (nI (10 * k + n))), (0, .ref (ad 8)), (1, .int (nI k)), (2, .int x), (3, .int y)]) hx hb dLa_add_11 hl (by decide) rfl (fun ls hl => ?_)
  refine lv_aload_n hx hb dLa_add_13 rfl (lv_at hl 1 rfl) ?_
  refine va_get (D := (dC, dI)) (ci := 3) (v := .ref (ad 9)) (C := RLa) (T := TLa) (N := 4) hx hb hc inLa hown hK hP 8 rfl rfl 0 (by decide) (hc _ w60) (fun _ h9 => h9) rfl dLa_add_14 ?_
  refine lv_iload hx hb dLa_add_17 (lv_at hl 0 rfl) ?_
  refine lv_iload_n hx hb dLa_add_19 rfl (lv_at hl 3 rfl) ?_
  refine va_iast hx hb hK hP hD hS 9 6 rfl rfl (vp_in_nI (by omega) (by decide)) dLa_add_20 (fun H locs hP hD hS => ?_)
  rw [nI_clamp (by omega)] at hP hD
  obtain ⟨S_3, eS_3⟩ : ∃ z9 : Ss, z9 = row S 6 (upd (S 6) (10 * k + n) x) := ⟨_, rfl⟩
  have hP : va_P (dC, dI) vwCl (XW ad ca S_3) H := by rw [eS_3]; exact hP
  have hD : va_D A (XW ad ca S_3) := by rw [eS_3]; exact hD
  refine lv_aload_n hx hb dLa_add_21 rfl (lv_at hl 1 rfl) ?_
  refine va_get (D := (dC, dI)) (ci := 3) (v := .ref (ad 10)) (C := RLa) (T := TLa) (N := 4) hx hb hc inLa hown hK hP 8 rfl rfl 1 (by decide) (hc _ w62) (fun _ h9 => h9) rfl dLa_add_22 ?_
  refine lv_iload hx hb dLa_add_25 (lv_at hl 0 rfl) ?_
  refine lv_iload_n hx hb dLa_add_27 rfl (lv_at hl 4 rfl) ?_
  refine va_iast hx hb hK hP hD hS 10 7 rfl rfl (vp_in_nI (by omega) (by decide)) dLa_add_28 (fun H locs hP hD hS => ?_)
  rw [nI_clamp (by omega)] at hP hD
  obtain ⟨S_4, eS_4⟩ : ∃ z9 : Ss, z9 = row S_3 7 (upd (S_3 7) (10 * k + n) y) := ⟨_, rfl⟩
  have hP : va_P (dC, dI) vwCl (XW ad ca S_4) H := by rw [eS_4]; exact hP
  have hD : va_D A (XW ad ca S_4) := by rw [eS_4]; exact hD
  refine lv_aload_n hx hb dLa_add_29 rfl (lv_at hl 1 rfl) ?_
  refine va_get (D := (dC, dI)) (ci := 3) (v := .ref (ad 11)) (C := RLa) (T := TLa) (N := 4) hx hb hc inLa hown hK hP 8 rfl rfl 2 (by decide) (hc _ w64) (fun _ h9 => h9) rfl dLa_add_30 ?_
  refine lv_iload_n hx hb dLa_add_33 rfl (lv_at hl 2 rfl) ?_
  refine lv_dup2_11 hx hb dLa_add_34 rfl rfl ?_
  refine va_iald hx hb hK hP 11 8 rfl rfl (vp_in_nI (by omega) (by decide)) dLa_add_35 ?_
  refine lv_topi (fun v_5 ev_5 => ?_)
  rw [nI_clamp (by omega)] at ev_5
  subst v_5
  refine lv_iconst (v := 1) hx hb dLa_add_36 (by decide +kernel) ?_
  refine lv_iadd hx hb dLa_add_37 ?_
  refine lv_topi (fun v_6 ev_6 => ?_)
  refine va_iast hx hb hK hP hD hS 11 8 rfl rfl (vp_in_nI (by omega) (by decide)) dLa_add_38 (fun H locs hP hD hS => ?_)
  rw [nI_clamp (by omega)] at hP hD
  obtain ⟨S_7, eS_7⟩ : ∃ z9 : Ss, z9 = row S_4 8 (upd (S_4 8) k v_6) := ⟨_, rfl⟩
  have hP : va_P (dC, dI) vwCl (XW ad ca S_7) H := by rw [eS_7]; exact hP
  have hD : va_D A (XW ad ca S_7) := by rw [eS_7]; exact hD
  refine lv_aload_n hx hb dLa_add_39 rfl (lv_at hl 1 rfl) ?_
  refine va_get (D := (dC, dI)) (ci := 3) (v := .ref (ad 12)) (C := RLa) (T := TLa) (N := 4) hx hb hc inLa hown hK hP 8 rfl rfl 3 (by decide) (hc _ w66) (fun _ h9 => h9) rfl dLa_add_40 ?_
  refine lv_iload_n hx hb dLa_add_43 rfl (lv_at hl 2 rfl) ?_
  refine lv_dup2_11 hx hb dLa_add_44 rfl rfl ?_
  refine va_iald hx hb hK hP 12 9 rfl rfl (vp_in_nI (by omega) (by decide)) dLa_add_45 ?_
  refine lv_topi (fun v_8 ev_8 => ?_)
  rw [nI_clamp (by omega)] at ev_8
  subst v_8
  refine lv_iload_n hx hb dLa_add_46 rfl (lv_at hl 3 rfl) ?_
  refine vp_callSi (va_Run.run (va_runS (As := [.int x]) (rest := [.int (S_7 9 k), .int (nI k), .ref (ad 12)]) ⟨hx, hb, hml, hown, hc⟩ (cLa_growth l x) (va_cwS 1 hc (g_S w365 w366 w3 qLa_growth) rfl rfl rfl (by decide +kernel) ⟨Nat.le_of_ble_eq_true rfl, Nat.le_of_ble_eq_true rfl⟩) ⟨tPre_blind, tPre_in⟩ rfl rfl hl.1 rfl (lv_room (Nat.le_of_ble_eq_true rfl)) dLa_add_47 ⟨Nat.zero_le _, Nat.zero_le _⟩)) (fun r_9 hr_9 => ?_)
  refine lv_iadd hx hb dLa_add_50 ?_
  refine lv_topi (fun v_10 ev_10 => ?_)
  refine va_iast hx hb hK hP hD hS 12 9 rfl rfl (vp_in_nI (by omega) (by decide)) dLa_add_51 (fun H locs hP hD hS => ?_)
  rw [nI_clamp (by omega)] at hP hD
  obtain ⟨S_11, eS_11⟩ : ∃ z9 : Ss, z9 = row S_7 9 (upd (S_7 9) k v_10) := ⟨_, rfl⟩
  have hP : va_P (dC, dI) vwCl (XW ad ca S_11) H := by rw [eS_11]; exact hP
  have hD : va_D A (XW ad ca S_11) := by rw [eS_11]; exact hD
  refine lv_aload_n hx hb dLa_add_52 rfl (lv_at hl 1 rfl) ?_
  refine va_get (D := (dC, dI)) (ci := 3) (v := .ref (ad 12)) (C := RLa) (T := TLa) (N := 4) hx hb hc inLa hown hK hP 8 rfl rfl 3 (by decide) (hc _ w66) (fun _ h9 => h9) rfl dLa_add_53 ?_
  refine lv_iload_n hx hb dLa_add_56 rfl (lv_at hl 2 rfl) ?_
  refine va_iald hx hb hK hP 12 9 rfl rfl (vp_in_nI (by omega) (by decide)) dLa_add_57 ?_
  refine lv_topi (fun v_12 ev_12 => ?_)
  rw [nI_clamp (by omega)] at ev_12
  subst v_12
  exact W.iret (v := (S_11 9 k)) hx hb hr (fun t ht hW => ⟨⟨_, S_11, rfl, (by (try dsimp only); exact ⟨by subst S_11; subst v_10; subst r_9; subst S_7; subst v_6; subst S_4; subst S_3; simp [row, upd, grw], by subst S_11; subst v_10; subst r_9; subst S_7; subst v_6; subst S_4; subst S_3; rfl⟩), by rw [ht]; exact hP, va_K.moved hW.alike hK, hD⟩, hS.F ht⟩) hS.2.2 dLa_add_58

set_option maxHeartbeats 4000000 in
set_option maxRecDepth 100000 in
theorem cLa_empty (l : Launch) (dC : Nat → ClassId) (dI : Nat → Nat → Nat) (ad : Nat → Nat) (ca : Nat → ClassId) (sz : Nat) (S : Ss) (k : Nat) (hk : k < 12) : Met l yLa_empty (kLa_empty :: CW) ({ frames := 0, cells := 0, slots := 0, locals := 0 }) (va_Pc [.ref (ad 8), .int (nI k)] (gPre (dC, dI) (xT ca) (XW ad ca S) sz)) (va_Qi (fun (r : Int32) (u : Ss) => r = S 8 k ∧ u = eraW S k) (fun u => gAt (dC, dI) (xT ca) (va_A (XW ad ca S) sz) (XW ad ca u)) (va_A (XW ad ca S) sz)) 0 0 (va_A (XW ad ca S) sz) := by
  refine Met.ofW (cc := bLa_empty) (maxL := 3) (ret := (some .int)) (by decide +kernel) rfl ?_
  intro p e s m args below meth c s₁ B hml hv
  obtain ⟨rfl, hsz, hP, hK, hD0⟩ := hv
  have hx := B.exec
  have hb := B.bytes
  have hr := B.returns
  have hts := atoms_spec (ws := kLa_empty :: CW) B.pre
  have hc : ∀ w ∈ CW, w.before _ s = true := fun w h => hts w (List.mem_cons_of_mem _ h)
  have hown : s.vm.findClass RLa = some m.cls := findClass_of_methodNamed B.named
  have hlocks := B.notSynchronized
  subst hsz
  have hD := hD0.self (sz := s.heap.size)
  generalize hAe : va_A (XW ad ca S) s.heap.size = A at hD ⊢
  have hA : ∀ q : Nat, s.heap.size ≤ q → A q := fun q h => by rw [← hAe]; exact Or.inr h
  have hS : va_S A s.heap s.heap [] := va_S.rf
  have hl := lv_entry ([.ref (ad 8), .int (nI k)]) (n := 3) (Nat.le_of_ble_eq_true rfl)
  rw [lg_entry_eq]
  generalize (lg_sl ([.ref (ad 8), .int (nI k)]) ++ List.replicate (3 - (lg_sl ([.ref (ad 8), .int (nI k)])).length) Slot.unset).toArray = ls at hl ⊢
  have hl : lv_has ls 3 [(0, .ref (ad 8)), (1, .int (nI k))] := hl
  refine lv_aload_n hx hb dLa_empty_0 rfl (lv_at hl 0 rfl) ?_
  refine va_get (D := (dC, dI)) (ci := 3) (v := .ref (ad 11)) (C := RLa) (T := TLa) (N := 4) hx hb hc inLa hown hK hP 8 rfl rfl 2 (by decide) (hc _ w64) (fun _ h9 => h9) rfl dLa_empty_1 ?_
  refine lv_iload_n hx hb dLa_empty_4 rfl (lv_at hl 1 rfl) ?_
  refine va_iald hx hb hK hP 11 8 rfl rfl (vp_in_nI (by omega) (by decide)) dLa_empty_5 ?_
  refine lv_topi (fun v_1 ev_1 => ?_)
  rw [nI_clamp (by omega)] at ev_1
  subst v_1
  refine lv_istore_n (lv' := [(2, .int (S 8 k)), (0, .ref (ad 8)), (1, .int (nI k))]) hx hb dLa_empty_6 rfl hl (by decide) rfl (fun ls hl => ?_)
  refine lv_aload_n hx hb dLa_empty_7 rfl (lv_at hl 1 rfl) ?_
  refine va_get (D := (dC, dI)) (ci := 3) (v := .ref (ad 11)) (C := RLa) (T := TLa) (N := 4) hx hb hc inLa hown hK hP 8 rfl rfl 2 (by decide) (hc _ w64) (fun _ h9 => h9) rfl dLa_empty_8 ?_
  refine lv_iload_n hx hb dLa_empty_11 rfl (lv_at hl 2 rfl) ?_
  refine lv_iconst (v := 0) hx hb dLa_empty_12 (by decide +kernel) ?_
  refine va_iast hx hb hK hP hD hS 11 8 rfl rfl (vp_in_nI (by omega) (by decide)) dLa_empty_13 (fun H locs hP hD hS => ?_)
  rw [nI_clamp (by omega)] at hP hD
  obtain ⟨S_2, eS_2⟩ : ∃ z9 : Ss, z9 = row S 8 (upd (S 8) k 0) := ⟨_, rfl⟩
  have hP : va_P (dC, dI) vwCl (XW ad ca S_2) H := by rw [eS_2]; exact hP
  have hD : va_D A (XW ad ca S_2) := by rw [eS_2]; exact hD
  refine lv_aload_n hx hb dLa_empty_14 rfl (lv_at hl 1 rfl) ?_
  refine va_get (D := (dC, dI)) (ci := 3) (v := .ref (ad 12)) (C := RLa) (T := TLa) (N := 4) hx hb hc inLa hown hK hP 8 rfl rfl 3 (by decide) (hc _ w66) (fun _ h9 => h9) rfl dLa_empty_15 ?_
  refine lv_iload_n hx hb dLa_empty_18 rfl (lv_at hl 2 rfl) ?_
  refine lv_iconst (v := 0) hx hb dLa_empty_19 (by decide +kernel) ?_
  refine va_iast hx hb hK hP hD hS 12 9 rfl rfl (vp_in_nI (by omega) (by decide)) dLa_empty_20 (fun H locs hP hD hS => ?_)
  rw [nI_clamp (by omega)] at hP hD
  obtain ⟨S_3, eS_3⟩ : ∃ z9 : Ss, z9 = row S_2 9 (upd (S_2 9) k 0) := ⟨_, rfl⟩
  have hP : va_P (dC, dI) vwCl (XW ad ca S_3) H := by rw [eS_3]; exact hP
  have hD : va_D A (XW ad ca S_3) := by rw [eS_3]; exact hD
  refine lv_iload_n hx hb dLa_empty_21 rfl (lv_at hl 0 rfl) ?_
  exact W.iret (v := (S 8 k)) hx hb hr (fun t ht hW => ⟨⟨_, S_3, rfl, (by (try dsimp only); exact ⟨rfl, by rw [eS_3, eS_2]; rfl⟩), by rw [ht]; exact hP, va_K.moved hW.alike hK, hD⟩, hS.F ht⟩) hS.2.2 dLa_empty_22

set_option maxHeartbeats 4000000 in
set_option maxRecDepth 100000 in
theorem cLa_copyFrom (l : Launch) (dC : Nat → ClassId) (dI : Nat → Nat → Nat) (ad : Nat → Nat) (ca : Nat → ClassId) (sz : Nat) (S : Ss) : Met l yLa_copyFrom (kLa_copyFrom :: CW) ({ frames := 1, cells := 0, slots := 0, locals := 24 }) (va_Pc [.ref (ad 13), .ref (ad 8)] (gPre (dC, dI) (xT ca) (XW ad ca S) sz)) (va_Qv (fun (u : Ss) => u = dwn S) (fun u => gAt (dC, dI) (xT ca) (va_A (XW ad ca S) sz) (XW ad ca u)) (va_A (XW ad ca S) sz)) 0 0 (va_A (XW ad ca S) sz) := by
  refine Met.ofW (cc := bLa_copyFrom) (maxL := 2) (ret := none) (by decide +kernel) rfl ?_
  intro p e s m args below meth c s₁ B hml hv
  obtain ⟨rfl, hsz, hP, hK, hD0⟩ := hv
  have hx := B.exec
  have hb := B.bytes
  have hr := B.returns
  have hts := atoms_spec (ws := kLa_copyFrom :: CW) B.pre
  have hc : ∀ w ∈ CW, w.before _ s = true := fun w h => hts w (List.mem_cons_of_mem _ h)
  have hown : s.vm.findClass RLa = some m.cls := findClass_of_methodNamed B.named
  have hlocks := B.notSynchronized
  subst hsz
  have hD := hD0.self (sz := s.heap.size)
  generalize hAe : va_A (XW ad ca S) s.heap.size = A at hD ⊢
  have hA : ∀ q : Nat, s.heap.size ≤ q → A q := fun q h => by rw [← hAe]; exact Or.inr h
  have hS : va_S A s.heap s.heap [] := va_S.rf
  have hl := lv_entry ([.ref (ad 13), .ref (ad 8)]) (n := 2) (Nat.le_of_ble_eq_true rfl)
  rw [lg_entry_eq]
  generalize (lg_sl ([.ref (ad 13), .ref (ad 8)]) ++ List.replicate (2 - (lg_sl ([.ref (ad 13), .ref (ad 8)])).length) Slot.unset).toArray = ls at hl ⊢
  have hl : lv_has ls 2 [(0, .ref (ad 13)), (1, .ref (ad 8))] := hl
  refine lv_aload_n hx hb dLa_copyFrom_0 rfl (lv_at hl 1 rfl) ?_
  refine va_get (D := (dC, dI)) (ci := 3) (v := .ref (ad 9)) (C := RLa) (T := TLa) (N := 4) hx hb hc inLa hown hK hP 8 rfl rfl 0 (by decide) (hc _ w60) (fun _ h9 => h9) rfl dLa_copyFrom_1 ?_
  refine lv_iconst (v := 0) hx hb dLa_copyFrom_4 (by decide +kernel) ?_
  refine lv_aload_n hx hb dLa_copyFrom_5 rfl (lv_at hl 0 rfl) ?_
  refine va_get (D := (dC, dI)) (ci := 3) (v := .ref (ad 14)) (C := RLa) (T := TLa) (N := 4) hx hb hc inLa hown hK hP 13 rfl rfl 0 (by decide) (hc _ w60) (fun _ h9 => h9) rfl dLa_copyFrom_6 ?_
  refine lv_iconst (v := 0) hx hb dLa_copyFrom_9 (by decide +kernel) ?_
  refine lv_bipush (v := 120) hx hb dLa_copyFrom_10 (by decide +kernel) ?_
  refine va_copyi hx hb (by rw [hml]; exact hl.1.symm) hown (hc _ w144) (hc _ w146) (hc _ w145) (hc _ w13) hK hP hD hS 9 14 6 10 rfl rfl rfl rfl rfl (by decide) (by decide) (by decide) (by decide) (by decide) (fun _ _ => rfl) (Nat.le_of_ble_eq_true rfl) (by decide +kernel) dLa_copyFrom_12 (fun H locs hP hD hS => ?_)
  obtain ⟨S_1, eS_1⟩ : ∃ z9 : Ss, z9 = row S 10 (va_cpy (S 6) (S 10) 0 0 120) := ⟨_, rfl⟩
  have hP : va_P (dC, dI) vwCl (XW ad ca S_1) H := by rw [eS_1]; exact hP
  have hD : va_D A (XW ad ca S_1) := by rw [eS_1]; exact hD
  refine lv_aload_n hx hb dLa_copyFrom_15 rfl (lv_at hl 1 rfl) ?_
  refine va_get (D := (dC, dI)) (ci := 3) (v := .ref (ad 10)) (C := RLa) (T := TLa) (N := 4) hx hb hc inLa hown hK hP 8 rfl rfl 1 (by decide) (hc _ w62) (fun _ h9 => h9) rfl dLa_copyFrom_16 ?_
  refine lv_iconst (v := 0) hx hb dLa_copyFrom_19 (by decide +kernel) ?_
  refine lv_aload_n hx hb dLa_copyFrom_20 rfl (lv_at hl 0 rfl) ?_
  refine va_get (D := (dC, dI)) (ci := 3) (v := .ref (ad 15)) (C := RLa) (T := TLa) (N := 4) hx hb hc inLa hown hK hP 13 rfl rfl 1 (by decide) (hc _ w62) (fun _ h9 => h9) rfl dLa_copyFrom_21 ?_
  refine lv_iconst (v := 0) hx hb dLa_copyFrom_24 (by decide +kernel) ?_
  refine lv_bipush (v := 120) hx hb dLa_copyFrom_25 (by decide +kernel) ?_
  refine va_copyi hx hb (by rw [hml]; exact hl.1.symm) hown (hc _ w144) (hc _ w146) (hc _ w145) (hc _ w13) hK hP hD hS 10 15 7 11 rfl rfl rfl rfl rfl (by decide) (by decide) (by decide) (by decide) (by decide) (fun _ _ => rfl) (Nat.le_of_ble_eq_true rfl) (by decide +kernel) dLa_copyFrom_27 (fun H locs hP hD hS => ?_)
  obtain ⟨S_2, eS_2⟩ : ∃ z9 : Ss, z9 = row S_1 11 (va_cpy (S_1 7) (S_1 11) 0 0 120) := ⟨_, rfl⟩
  have hP : va_P (dC, dI) vwCl (XW ad ca S_2) H := by rw [eS_2]; exact hP
  have hD : va_D A (XW ad ca S_2) := by rw [eS_2]; exact hD
  refine lv_aload_n hx hb dLa_copyFrom_30 rfl (lv_at hl 1 rfl) ?_
  refine va_get (D := (dC, dI)) (ci := 3) (v := .ref (ad 11)) (C := RLa) (T := TLa) (N := 4) hx hb hc inLa hown hK hP 8 rfl rfl 2 (by decide) (hc _ w64) (fun _ h9 => h9) rfl dLa_copyFrom_31 ?_
  refine lv_iconst (v := 0) hx hb dLa_copyFrom_34 (by decide +kernel) ?_
  refine lv_aload_n hx hb dLa_copyFrom_35 rfl (lv_at hl 0 rfl) ?_
  refine va_get (D := (dC, dI)) (ci := 3) (v := .ref (ad 16)) (C := RLa) (T := TLa) (N := 4) hx hb hc inLa hown hK hP 13 rfl rfl 2 (by decide) (hc _ w64) (fun _ h9 => h9) rfl dLa_copyFrom_36 ?_
  refine lv_iconst (v := 0) hx hb dLa_copyFrom_39 (by decide +kernel) ?_
  refine lv_bipush (v := 12) hx hb dLa_copyFrom_40 (by decide +kernel) ?_
  refine va_copyi hx hb (by rw [hml]; exact hl.1.symm) hown (hc _ w144) (hc _ w146) (hc _ w145) (hc _ w13) hK hP hD hS 11 16 8 12 rfl rfl rfl rfl rfl (by decide) (by decide) (by decide) (by decide) (by decide) (fun _ _ => rfl) (Nat.le_of_ble_eq_true rfl) (by decide +kernel) dLa_copyFrom_42 (fun H locs hP hD hS => ?_)
  obtain ⟨S_3, eS_3⟩ : ∃ z9 : Ss, z9 = row S_2 12 (va_cpy (S_2 8) (S_2 12) 0 0 12) := ⟨_, rfl⟩
  have hP : va_P (dC, dI) vwCl (XW ad ca S_3) H := by rw [eS_3]; exact hP
  have hD : va_D A (XW ad ca S_3) := by rw [eS_3]; exact hD
  exact W.vret hx hb hr (fun t ht hW => ⟨⟨S_3, rfl, (by (try dsimp only); exact (by rw [eS_3, eS_2, eS_1]; unfold dwn; rw [← fill_cpy, ← fill_cpy, ← fill_cpy]; rfl)), by rw [ht]; exact hP, va_K.moved hW.alike hK, hD⟩, hS.F ht⟩) hS.2.2 dLa_copyFrom_45
