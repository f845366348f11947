set_option maxHeartbeats 4000000 in
set_option maxRecDepth 100000 in
theorem cX_runProgram (l : Launch) (dC : Nat → ClassId) (dI : Nat → Nat → Nat) (ad : Nat → Nat) (ca : Nat → ClassId) (sz : Nat) (S : Ss) (hPr : Pr S) : Met l yX_runProgram (kX_runProgram :: CW) ({ frames := 4, cells := 0, slots := 0, locals := 96 }) (va_Pc [.ref (ad 0)] (gPre (dC, dI) (xT ca) (XW ad ca S) sz)) (va_Qi (fun (r : Int32) (u : Ss) => r = (pgo 30 0 0 S).1 ∧ u = (pgo 30 0 0 S).2) (fun u => gAt (dC, dI) (xT ca) (va_A (XW ad ca S) sz) (XW ad ca u)) (va_A (XW ad ca S) sz)) 0 0 (va_A (XW ad ca S) sz) := by
  refine Met.ofW (cc := bX_runProgram) (maxL := 3) (ret := (some .int)) (by decide +kernel) rfl ?_
  intro p e s m args below meth c s₁ B hml hv
  obtain ⟨rfl, hsz, hP, hK, hD0⟩ := hv
  have hx := B.exec
  have hb := B.bytes
  have hr := B.returns
  have hts := atoms_spec (ws := kX_runProgram :: CW) B.pre
  have hc : ∀ w ∈ CW, w.before _ s = true := fun w h => hts w (List.mem_cons_of_mem _ h)
  have hown : s.vm.findClass RX = some m.cls := findClass_of_methodNamed B.named
  have hlocks := B.notSynchronized
  subst hsz
  have hD := hD0.self (sz := s.heap.size)
  generalize hAe : va_A (XW ad ca S) s.heap.size = A at hD ⊢
  have hA : ∀ q : Nat, s.heap.size ≤ q → A q := fun q h => by rw [← hAe]; exact Or.inr h
  have hS : va_S A s.heap s.heap [] := va_S.rf
  have hl := lv_entry ([.ref (ad 0)]) (n := 3) (Nat.le_of_ble_eq_true rfl)
  rw [lg_entry_eq]
  generalize (lg_sl ([.ref (ad 0)]) ++ List.replicate (3 - (lg_sl ([.ref (ad 0)])).length) Slot.unset).toArray = ls at hl ⊢
  have hl : lv_has ls 3 [(0, .ref (ad 0))] := hl
  refine lv_iconst (v := 0) hx hb dX_runProgram_0 (by decide +kernel) ?_
  refine lv_istore_n (lv' := [(1, .int 0), (0, .ref (ad 0))]) hx hb dX_runProgram_1 rfl hl (by decide) rfl (fun ls hl => ?_)
  refine lv_iconst (v := 0) hx hb dX_runProgram_2 (by decide +kernel) ?_
  refine lv_istore_n (lv' := [(2, .int 0), (1, .int 0), (0, .ref (ad 0))]) hx hb dX_runProgram_3 rfl hl (by decide) rfl (fun ls hl => ?_)
  refine g_loop (fun mu9 H locs ls => ∃ (b : Nat), ∃ (q : Nat), ∃ (S1 : Ss), mu9 = 30 - b ∧ b ≤ 30 ∧ q ≤ 12 ∧ Pr S1 ∧ pgo (30 - b) b q S1 = pgo 30 0 0 S ∧ va_P (dC, dI) vwCl (XW ad ca S1) H ∧ va_D A (XW ad ca S1) ∧ va_S A s.heap H locs ∧ lv_has ls 3 [(0, .ref (ad 0)), (1, .int (nI q)), (2, .int (nI b))]) ?_ _ _ _ _ ⟨0, 0, S, rfl, (by decide), (by decide), hPr, rfl, hP, hD, hS, lv_sub hl [2, 1, 0] rfl⟩
  clear hP hD hS
  rintro mu9 H locs ls ⟨b, q, S1, en_4, hb30, hq12, hP1, hE, hP, hD, hS, hl⟩ ih_4
  refine lv_iload_n hx hb dX_runProgram_4 rfl (lv_at hl 1 rfl) ?_
  refine lv_bipush (v := 12) hx hb dX_runProgram_5 (by decide +kernel) ?_
  refine lv_icmp_ge (tgt := 31) hx hb dX_runProgram_7 (by decide) (fun c_0 => ?_) (fun c_0 => ?_)
  · have p_7 : 12 ≤ q := (nI_leI (a := 12) (b := q) (by omega) (by omega)).mp c_0
    refine lv_iload_n hx hb dX_runProgram_31 rfl (lv_at hl 1 rfl) ?_
    refine lv_bipush (v := 12) hx hb dX_runProgram_32 (by decide +kernel) ?_
    refine lv_icmp_ge (tgt := 41) hx hb dX_runProgram_34 (by decide) (fun c_1 => ?_) (fun c_1 => ?_)
    · refine lv_iload_n hx hb dX_runProgram_41 rfl (lv_at hl 2 rfl) ?_
      exact W.iret (v := (nI b)) hx hb hr (fun t ht hW => ⟨⟨_, S1, rfl, (by (try dsimp only); exact (by rw [pgo_12 (show ¬ q < 12 by omega)] at hE; rw [← hE]; exact ⟨rfl, rfl⟩)), by rw [ht]; exact hP, va_K.moved hW.alike hK, hD⟩, hS.F ht⟩) hS.2.2 dX_runProgram_42
    · exact absurd (show (12 : Int32) ≤ nI q from (nI_leI (a := 12) (b := q) (by omega) (by omega)).mpr (by omega)) c_1
  · have p_7 : q < 12 := by have := mt (nI_leI (a := 12) (b := q) (by omega) (by omega)).mpr c_0; omega
    refine lv_iload_n hx hb dX_runProgram_10 rfl (lv_at hl 2 rfl) ?_
    refine lv_bipush (v := 30) hx hb dX_runProgram_11 (by decide +kernel) ?_
    refine lv_icmp_ge (tgt := 31) hx hb dX_runProgram_13 (by decide) (fun c_2 => ?_) (fun c_2 => ?_)
    · have p_13 : 30 ≤ b := (nI_leI (a := 30) (b := b) (by omega) (by omega)).mp c_2
      refine lv_iload_n hx hb dX_runProgram_31 rfl (lv_at hl 1 rfl) ?_
      refine lv_bipush (v := 12) hx hb dX_runProgram_32 (by decide +kernel) ?_
      refine lv_icmp_ge (tgt := 41) hx hb dX_runProgram_34 (by decide) (fun c_3 => ?_) (fun c_3 => ?_)
      · exact absurd ((nI_leI (a := 12) (b := q) (by omega) (by omega)).mp c_3) (by omega)
      · refine lv_iconst (v := (-1)) hx hb dX_runProgram_37 (by decide +kernel) ?_
        refine lv_goto (tgt := 42) hx hb dX_runProgram_38 (by decide) ?_
        exact W.iret (v := (-1)) hx hb hr (fun t ht hW => ⟨⟨_, S1, rfl, (by (try dsimp only); exact (by rw [show 30 - b = 0 by omega, pgo, if_pos (show q < 12 by omega)] at hE; rw [← hE]; exact ⟨rfl, rfl⟩)), by rw [ht]; exact hP, va_K.moved hW.alike hK, hD⟩, hS.F ht⟩) hS.2.2 dX_runProgram_42
    · have p_13 : b < 30 := by have := mt (nI_leI (a := 30) (b := b) (by omega) (by omega)).mpr c_2; omega
      obtain ⟨n, d, hR⟩ := hP1.2.2.2.2.2 q (by omega)
      have hE : pgo (30 - (b + 1) + 1) b q S1 = pgo 30 0 0 S := by rw [show 30 - (b + 1) + 1 = 30 - b by omega]; exact hE
      rw [pgo, if_pos (show q < 12 by omega)] at hE
      obtain ⟨v_5, ev_5⟩ : ∃ y : Int32, y = (nI b) + 1 := ⟨_, rfl⟩
      refine lv_iinc (v := v_5) (lv' := [(2, .int v_5), (0, .ref (ad 0)), (1, .int (nI q))]) hx hb dX_runProgram_16 hl (k := 2) rfl (by rw [ev_5]; rfl) (by decide) rfl (fun ls hl => ?_)
      refine lv_aload_n hx hb dX_runProgram_19 rfl (lv_at hl 1 rfl) ?_
      refine lv_iload_n hx hb dX_runProgram_20 rfl (lv_at hl 2 rfl) ?_
      refine g_calli (va_runV (As := [.int (nI q)]) (rest := []) ⟨hx, hb, hml, hown, hc⟩ (cX_runRung l dC dI ad ca H.size S1 q n d (by omega) hP1 hR) (cwV 1 hc (gV w428 w430 s5 w1 qX_runRung) rfl rfl rfl (by decide +kernel) ⟨Nat.le_of_ble_eq_true rfl, Nat.le_of_ble_eq_true rfl⟩) ⟨gPre_blind, va_recv hK hP (ci := 0) (q0 := 0) rfl rfl, (gPre_in hP hK hD)⟩ rfl rfl hl.1 rfl (lv_room (Nat.le_of_ble_eq_true rfl)) dX_runProgram_21 ⟨Nat.zero_le _, Nat.zero_le _⟩) hD hS hA (fun r_7 u_6 H locs hu_6 hP hD hS => ?_)
      obtain ⟨ho9, hu9⟩ := hu_6
      subst u_6
      subst r_7
      refine lv_istore_n (lv' := [(1, .int ((rgr S1 q).1)), (2, .int v_5), (0, .ref (ad 0))]) hx hb dX_runProgram_24 rfl hl (by decide) rfl (fun ls hl => ?_)
      refine lv_iload_n hx hb dX_runProgram_25 rfl (lv_at hl 0 rfl) ?_
      refine lv_if_ge (tgt := 4) hx hb dX_runProgram_26 (by decide) (fun c_7 => ?_) (fun c_7 => ?_)
      · have hk9 := rgr_ok hP1 (show q < 12 by omega)
        obtain ⟨q2, hq2, eq2⟩ : ∃ q2, q2 ≤ 12 ∧ (rgr S1 q).1 = nI q2 := hk9.2.resolve_left (fun h => by rw [h] at c_7; exact absurd c_7 (by decide))
        rw [if_neg (Int32.not_lt.mpr c_7), eq2, nI_clamp (by omega)] at hE
        rw [eq2] at hl
        have gv_5 : v_5 = nI (b + 1) := (by rw [ev_5]; exact nI_1 b)
        clear ev_5
        subst v_5
        exact ih_4 _ _ _ _ (by omega) ⟨(b + 1), q2, (rgr S1 q).2, rfl, (by omega), hq2, hk9.1.1, hE, hP, hD, hS, lv_sub hl [2, 0, 1] rfl⟩
      · rw [if_pos (Int32.not_le.mp c_7)] at hE
        refine lv_iload_n hx hb dX_runProgram_29 rfl (lv_at hl 0 rfl) ?_
        exact W.iret (v := ((rgr S1 q).1)) hx hb hr (fun t ht hW => ⟨⟨_, (rgr S1 q).2, rfl, (by (try dsimp only); exact (by rw [← hE]; exact ⟨rfl, rfl⟩)), by rw [ht]; exact hP, va_K.moved hW.alike hK, hD⟩, hS.F ht⟩) hS.2.2 dX_runProgram_30

set_option maxHeartbeats 4000000 in
set_option maxRecDepth 100000 in
theorem cX_scanOnce (l : Launch) (dC : Nat → ClassId) (dI : Nat → Nat → Nat) (ad : Nat → Nat) (ca : Nat → ClassId) (sz : Nat) (S : Ss) (hPr : Pr S) : Met l yX_scanOnce (kX_scanOnce :: CW) ({ frames := 5, cells := 0, slots := 0, locals := 118 }) (va_Pc [.ref (ad 0)] (gPre (dC, dI) (xT ca) (XW ad ca S) sz)) (va_Qi (fun (r : Int32) (u : Ss) => r = (sc1 S).1 ∧ u = (sc1 S).2) (fun u => gAt (dC, dI) (xT ca) (va_A (XW ad ca S) sz) (XW ad ca u)) (va_A (XW ad ca S) sz)) 0 0 (va_A (XW ad ca S) sz) := by
  refine Met.ofW (cc := bX_scanOnce) (maxL := 2) (ret := (some .int)) (by decide +kernel) rfl ?_
  intro p e s m args below meth c s₁ B hml hv
  obtain ⟨rfl, hsz, hP, hK, hD0⟩ := hv
  have hx := B.exec
  have hb := B.bytes
  have hr := B.returns
  have hts := atoms_spec (ws := kX_scanOnce :: CW) B.pre
  have hc : ∀ w ∈ CW, w.before _ s = true := fun w h => hts w (List.mem_cons_of_mem _ h)
  have hown : s.vm.findClass RX = some m.cls := findClass_of_methodNamed B.named
  have hlocks := B.notSynchronized
  subst hsz
  have hD := hD0.self (sz := s.heap.size)
  generalize hAe : va_A (XW ad ca S) s.heap.size = A at hD ⊢
  have hA : ∀ q : Nat, s.heap.size ≤ q → A q := fun q h => by rw [← hAe]; exact Or.inr h
  have hS : va_S A s.heap s.heap [] := va_S.rf
  have hl := lv_entry ([.ref (ad 0)]) (n := 2) (Nat.le_of_ble_eq_true rfl)
  rw [lg_entry_eq]
  generalize (lg_sl ([.ref (ad 0)]) ++ List.replicate (2 - (lg_sl ([.ref (ad 0)])).length) Slot.unset).toArray = ls at hl ⊢
  have hl : lv_has ls 2 [(0, .ref (ad 0))] := hl
  refine lv_aload_n hx hb dX_scanOnce_0 rfl (lv_at hl 0 rfl) ?_
  refine va_get (D := (dC, dI)) (ci := 0) (v := .ref (ad 1)) (C := RX) (T := TX) (N := 8) hx hb hc inX hown hK hP 0 rfl rfl 0 (by decide) (hc _ w111) (fun _ h9 => h9) rfl dX_scanOnce_1 ?_
  refine g_callv (va_runV (As := []) (rest := []) ⟨hx, hb, hml, hown, hc⟩ (cMe_takeInputs l dC dI ad ca s.heap.size S ) (cwV 0 hc (gV w420 w421 w422 w2 qMe_takeInputs) rfl rfl rfl (by decide +kernel) ⟨Nat.le_of_ble_eq_true rfl, Nat.le_of_ble_eq_true rfl⟩) ⟨gPre_blind, va_recv hK hP (ci := 1) (q0 := 1) rfl rfl, (gPre_in hP hK hD)⟩ rfl rfl hl.1 rfl (lv_room (Nat.le_of_ble_eq_true rfl)) dX_scanOnce_4 ⟨Nat.zero_le _, Nat.zero_le _⟩) hD hS hA (fun u_1 H locs hu_1 hP hD hS => ?_)
  subst u_1
  refine lv_aload_n hx hb dX_scanOnce_7 rfl (lv_at hl 0 rfl) ?_
  refine g_calli (va_runV (As := []) (rest := []) ⟨hx, hb, hml, hown, hc⟩ (cX_runProgram l dC dI ad ca H.size (tin S) (Pr_tin hPr)) (cwV 0 hc (gV w424 w426 s4 w1 qX_runProgram) rfl rfl rfl (by decide +kernel) ⟨Nat.le_of_ble_eq_true rfl, Nat.le_of_ble_eq_true rfl⟩) ⟨gPre_blind, va_recv hK hP (ci := 0) (q0 := 0) rfl rfl, (gPre_in hP hK hD)⟩ rfl rfl hl.1 rfl (lv_room (Nat.le_of_ble_eq_true rfl)) dX_scanOnce_8 ⟨Nat.zero_le _, Nat.zero_le _⟩) hD hS hA (fun r_3 u_2 H locs hu_2 hP hD hS => ?_)
  obtain ⟨ho9, hu9⟩ := hu_2
  subst u_2
  subst r_3
  refine lv_istore_n (lv' := [(1, .int ((pgo 30 0 0 (tin S)).1)), (0, .ref (ad 0))]) hx hb dX_scanOnce_11 rfl hl (by decide) rfl (fun ls hl => ?_)
  refine lv_iload_n hx hb dX_scanOnce_12 rfl (lv_at hl 0 rfl) ?_
  refine lv_if_ge (tgt := 41) hx hb dX_scanOnce_13 (by decide) (fun c_3 => ?_) (fun c_3 => ?_)
  · refine lv_aload_n hx hb dX_scanOnce_41 rfl (lv_at hl 1 rfl) ?_
    refine lv_dup hx hb dX_scanOnce_42 rfl ?_
    refine va_get (D := (dC, dI)) (ci := 0) (v := .int ((pgo 30 0 0 (tin S)).2 0 1)) (C := RX) (T := TX) (N := 8) hx hb hc inX hown hK hP 0 rfl rfl 5 (by decide) (hc _ w116) (fun _ h9 => h9) rfl dX_scanOnce_43 ?_
    refine lv_iconst (v := 1) hx hb dX_scanOnce_46 (by decide +kernel) ?_
    refine lv_iadd hx hb dX_scanOnce_47 ?_
    refine va_put (D := (dC, dI)) (ci := 0) (v := .int (((pgo 30 0 0 (tin S)).2 0 1) + 1)) (ty := .int) (C := RX) (T := TX) (N := 8) hx hb hc inX tyX tyX_ok nmX hown hK hP hD hS 0 rfl rfl 5 (by decide) (hc _ w116) (fun _ h9 => h9) rfl (by decide +kernel) rfl rfl (Nat.le_of_ble_eq_true rfl) dX_scanOnce_48 (fun H locs hP hD hS => ?_)
    obtain ⟨S_5, eS_5⟩ : ∃ z9 : Ss, z9 = row (pgo 30 0 0 (tin S)).2 0 (upd ((pgo 30 0 0 (tin S)).2 0) 1 (((pgo 30 0 0 (tin S)).2 0 1) + 1)) := ⟨_, rfl⟩
    have hP : va_P (dC, dI) vwCl (XW ad ca S_5) H := by rw [eS_5]; exact hP
    have hD : va_D A (XW ad ca S_5) := by rw [eS_5]; exact hD
    refine lv_aload_n hx hb dX_scanOnce_51 rfl (lv_at hl 1 rfl) ?_
    refine va_get (D := (dC, dI)) (ci := 0) (v := .ref (ad 1)) (C := RX) (T := TX) (N := 8) hx hb hc inX hown hK hP 0 rfl rfl 0 (by decide) (hc _ w111) (fun _ h9 => h9) rfl dX_scanOnce_52 ?_
    refine g_callv (va_runV (As := []) (rest := []) ⟨hx, hb, hml, hown, hc⟩ (cMe_sendOutputs l dC dI ad ca H.size S_5 ) (cwV 0 hc (gV w496 w497 w498 w2 qMe_sendOutputs) rfl rfl rfl (by decide +kernel) ⟨Nat.le_of_ble_eq_true rfl, Nat.le_of_ble_eq_true rfl⟩) ⟨gPre_blind, va_recv hK hP (ci := 1) (q0 := 1) rfl rfl, (gPre_in hP hK hD)⟩ rfl rfl hl.1 rfl (lv_room (Nat.le_of_ble_eq_true rfl)) dX_scanOnce_55 ⟨Nat.zero_le _, Nat.zero_le _⟩) hD hS hA (fun u_6 H locs hu_6 hP hD hS => ?_)
    refine lv_iload_n hx hb dX_scanOnce_58 rfl (lv_at hl 0 rfl) ?_
    exact W.iret (v := ((pgo 30 0 0 (tin S)).1)) hx hb hr (fun t ht hW => ⟨⟨_, u_6, rfl, (by (try dsimp only); exact (by subst u_6; subst S_5; unfold sc1; dsimp only; rw [if_neg (Int32.not_lt.mpr c_3)]; exact ⟨rfl, rfl⟩)), by rw [ht]; exact hP, va_K.moved hW.alike hK, hD⟩, hS.F ht⟩) hS.2.2 dX_scanOnce_59
  · refine lv_aload_n hx hb dX_scanOnce_16 rfl (lv_at hl 1 rfl) ?_
    refine lv_iconst (v := 1) hx hb dX_scanOnce_17 (by decide +kernel) ?_
    refine va_put (D := (dC, dI)) (ci := 0) (v := .int 1) (ty := .boolean) (C := RX) (T := TX) (N := 8) hx hb hc inX tyX tyX_ok nmX hown hK hP hD hS 0 rfl rfl 7 (by decide) (hc _ w118) (fun _ h9 => h9) rfl (by decide +kernel) rfl rfl (Nat.le_of_ble_eq_true rfl) dX_scanOnce_18 (fun H locs hP hD hS => ?_)
    obtain ⟨S_7, eS_7⟩ : ∃ z9 : Ss, z9 = row (pgo 30 0 0 (tin S)).2 0 (upd ((pgo 30 0 0 (tin S)).2 0) 3 1) := ⟨_, rfl⟩
    have hP : va_P (dC, dI) vwCl (XW ad ca S_7) H := by rw [eS_7]; exact hP
    have hD : va_D A (XW ad ca S_7) := by rw [eS_7]; exact hD
    refine lv_aload_n hx hb dX_scanOnce_21 rfl (lv_at hl 1 rfl) ?_
    refine lv_dup hx hb dX_scanOnce_22 rfl ?_
    refine va_get (D := (dC, dI)) (ci := 0) (v := .int (S_7 0 2)) (C := RX) (T := TX) (N := 8) hx hb hc inX hown hK hP 0 rfl rfl 6 (by decide) (hc _ w117) (fun _ h9 => h9) rfl dX_scanOnce_23 ?_
    refine lv_iconst (v := 1) hx hb dX_scanOnce_26 (by decide +kernel) ?_
    refine lv_iadd hx hb dX_scanOnce_27 ?_
    refine va_put (D := (dC, dI)) (ci := 0) (v := .int ((S_7 0 2) + 1)) (ty := .int) (C := RX) (T := TX) (N := 8) hx hb hc inX tyX tyX_ok nmX hown hK hP hD hS 0 rfl rfl 6 (by decide) (hc _ w117) (fun _ h9 => h9) rfl (by decide +kernel) rfl rfl (Nat.le_of_ble_eq_true rfl) dX_scanOnce_28 (fun H locs hP hD hS => ?_)
    obtain ⟨S_8, eS_8⟩ : ∃ z9 : Ss, z9 = row S_7 0 (upd (S_7 0) 2 ((S_7 0 2) + 1)) := ⟨_, rfl⟩
    have hP : va_P (dC, dI) vwCl (XW ad ca S_8) H := by rw [eS_8]; exact hP
    have hD : va_D A (XW ad ca S_8) := by rw [eS_8]; exact hD
    refine lv_aload_n hx hb dX_scanOnce_31 rfl (lv_at hl 1 rfl) ?_
    refine va_get (D := (dC, dI)) (ci := 0) (v := .ref (ad 1)) (C := RX) (T := TX) (N := 8) hx hb hc inX hown hK hP 0 rfl rfl 0 (by decide) (hc _ w111) (fun _ h9 => h9) rfl dX_scanOnce_32 ?_
    refine g_callv (va_runV (As := []) (rest := []) ⟨hx, hb, hml, hown, hc⟩ (cMe_clearOutputWires l dC dI ad ca H.size S_8 ) (cwV 0 hc (gV w495 w164 w165 w2 qMe_clearOutputWires) rfl rfl rfl (by decide +kernel) ⟨Nat.le_of_ble_eq_true rfl, Nat.le_of_ble_eq_true rfl⟩) ⟨gPre_blind, va_recv hK hP (ci := 1) (q0 := 1) rfl rfl, (gPre_in hP hK hD)⟩ rfl rfl hl.1 rfl (lv_room (Nat.le_of_ble_eq_true rfl)) dX_scanOnce_35 ⟨Nat.zero_le _, Nat.zero_le _⟩) hD hS hA (fun u_9 H locs hu_9 hP hD hS => ?_)
    refine lv_goto (tgt := 58) hx hb dX_scanOnce_38 (by decide) ?_
    refine lv_iload_n hx hb dX_scanOnce_58 rfl (lv_at hl 0 rfl) ?_
    exact W.iret (v := ((pgo 30 0 0 (tin S)).1)) hx hb hr (fun t ht hW => ⟨⟨_, u_9, rfl, (by (try dsimp only); exact (by subst u_9; subst S_8; subst S_7; unfold sc1; dsimp only; rw [if_pos (Int32.not_le.mp c_3)]; exact ⟨rfl, rfl⟩)), by rw [ht]; exact hP, va_K.moved hW.alike hK, hD⟩, hS.F ht⟩) hS.2.2 dX_scanOnce_59
