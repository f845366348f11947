set_option maxHeartbeats 4000000 in
set_option maxRecDepth 100000 in
theorem cX_runRung (l : Launch) (dC : Nat → ClassId) (dI : Nat → Nat → Nat) (ad : Nat → Nat) (ca : Nat → ClassId) (sz : Nat) (S : Ss) (r n : Nat) (d : Nat → Nat) (hr9 : r < 12) (hPr : Pr S) (hR : okRg S 10 r n d) : Met l yX_runRung (kX_runRung :: CW) ({ frames := 3, cells := 0, slots := 0, locals := 69 }) (va_Pc [.ref (ad 0), .int (nI r)] (gPre (dC, dI) (xT ca) (XW ad ca S) sz)) (va_Qi (fun (r9 : Int32) (u : Ss) => r9 = (rgr S r).1 ∧ u = (rgr S r).2) (fun u => gAt (dC, dI) (xT ca) (va_A (XW ad ca S) sz) (XW ad ca u)) (va_A (XW ad ca S) sz)) 0 0 (va_A (XW ad ca S) sz) := by
  refine Met.ofW (cc := bX_runRung) (maxL := 8) (ret := (some .int)) (by decide +kernel) rfl ?_
  intro p e s m args below meth c s₁ B hml hv
  obtain ⟨rfl, hsz, hP, hK, hD0⟩ := hv
  have hx := B.exec
  have hb := B.bytes
  have hr := B.returns
  have hts := atoms_spec (ws := kX_runRung :: CW) B.pre
  have hc : ∀ w ∈ CW, w.before _ s = true := fun w h => hts w (List.mem_cons_of_mem _ h)
  have hown : s.vm.findClass RX = some m.cls := findClass_of_methodNamed B.named
  have hlocks := B.notSynchronized
  subst hsz
  have hD := hD0.self (sz := s.heap.size)
  generalize hAe : va_A (XW ad ca S) s.heap.size = A at hD ⊢
  have hA : ∀ q : Nat, s.heap.size ≤ q → A q := fun q h => by rw [← hAe]; exact Or.inr h
  have hS : va_S A s.heap s.heap [] := va_S.rf
  have hl := lv_entry ([.ref (ad 0), .int (nI r)]) (n := 8) (Nat.le_of_ble_eq_true rfl)
  rw [lg_entry_eq]
  generalize (lg_sl ([.ref (ad 0), .int (nI r)]) ++ List.replicate (8 - (lg_sl ([.ref (ad 0), .int (nI r)])).length) Slot.unset).toArray = ls at hl ⊢
  have hl : lv_has ls 8 [(0, .ref (ad 0)), (1, .int (nI r))] := hl
  have hRn : S 12 r = nI n := hR.2.1
  have hn10 := hR.1
  refine lv_iconst (v := 0) hx hb dX_runRung_0 (by decide +kernel) ?_
  refine lv_istore_n (lv' := [(2, .int 0), (0, .ref (ad 0)), (1, .int (nI r))]) hx hb dX_runRung_1 rfl hl (by decide) rfl (fun ls hl => ?_)
  refine lv_aload_n hx hb dX_runRung_2 rfl (lv_at hl 1 rfl) ?_
  refine va_get (D := (dC, dI)) (ci := 0) (v := .ref (ad 13)) (C := RX) (T := TX) (N := 8) hx hb hc inX hown hK hP 0 rfl rfl 3 (by decide) (hc _ w114) (fun _ h9 => h9) rfl dX_runRung_3 ?_
  refine va_get (D := (dC, dI)) (ci := 3) (v := .ref (ad 16)) (C := RLa) (T := TLa) (N := 4) hx hb hc inLa hown hK hP 13 rfl rfl 2 (by decide) (hc _ w65) (fun _ h9 => h9) rfl dX_runRung_6 ?_
  refine lv_iload_n hx hb dX_runRung_9 rfl (lv_at hl 2 rfl) ?_
  refine va_iald hx hb hK hP 16 12 rfl rfl (vp_in_nI (by omega) (by decide)) dX_runRung_10 ?_
  refine lv_topi (fun v_1 ev_1 => ?_)
  rw [nI_clamp (by omega)] at ev_1
  subst v_1
  refine W.eq (g2 := F0 m 11 ls [.int (nI n)]) (by rw [hRn]) ?_
  refine lv_istore_n (lv' := [(3, .int (nI n)), (2, .int 0), (0, .ref (ad 0)), (1, .int (nI r))]) hx hb dX_runRung_11 rfl hl (by decide) rfl (fun ls hl => ?_)
  refine lv_iconst (v := 0) hx hb dX_runRung_12 (by decide +kernel) ?_
  refine lv_istore (lv' := [(4, .int 0), (3, .int (nI n)), (2, .int 0), (0, .ref (ad 0)), (1, .int (nI r))]) hx hb dX_runRung_13 hl (by decide) rfl (fun ls hl => ?_)
  refine g_loop (fun mu9 H locs ls => ∃ (i : Nat), ∃ (S1 : Ss), ∃ (L : List Int32), mu9 = n - i ∧ i ≤ n ∧ Gd S d i S1 L ∧ rgo r (n - i) i S1 L = rgr S r ∧ va_P (dC, dI) vwCl (XW ad ca S1) H ∧ va_D A (XW ad ca S1) ∧ va_S A s.heap H locs ∧ lv_has ls 8 [(0, .ref (ad 0)), (1, .int (nI r)), (2, .int (pk L)), (3, .int (nI n)), (4, .int (nI i))]) ?_ _ _ _ _ ⟨0, S, [], rfl, Nat.zero_le _, (Gd_0 hPr hR.2.2.1), (rgr_n hR).symm, hP, hD, hS, lv_sub hl [3, 4, 2, 1, 0] rfl⟩
  clear hP hD hS
  rintro mu9 H locs ls ⟨i, S1, L, en_15, hi, hG, hE, hP, hD, hS, hl⟩ ih_15
  obtain ⟨gP, g10, g11, g12, g0, gL, g01⟩ := id hG
  have gd4 : i < n → d i ≤ 4 := fun h => stp_4 (hR.2.2.2 i h).2
  refine lv_iload hx hb dX_runRung_15 (lv_at hl 4 rfl) ?_
  refine lv_iload_n hx hb dX_runRung_17 rfl (lv_at hl 3 rfl) ?_
  refine lv_icmp_ge (tgt := 164) hx hb dX_runRung_18 (by decide) (fun c_1 => ?_) (fun c_1 => ?_)
  · have p_18 : n ≤ i := (nI_leI (a := n) (b := i) (by omega) (by omega)).mp c_1
    refine lv_iload_n hx hb dX_runRung_164 rfl (lv_at hl 1 rfl) ?_
    refine lv_iconst (v := 1) hx hb dX_runRung_165 (by decide +kernel) ?_
    refine lv_iadd hx hb dX_runRung_166 ?_
    exact W.iret (v := ((nI r) + 1)) hx hb hr (fun t ht hW => ⟨⟨_, S1, rfl, (by (try dsimp only); exact (by rw [show n - i = 0 by omega] at hE; rw [← hE]; exact ⟨nI_1 r, rfl⟩)), by rw [ht]; exact hP, va_K.moved hW.alike hK, hD⟩, hS.F ht⟩) hS.2.2 dX_runRung_167
  · have p_18 : i < n := by have := mt (nI_leI (a := n) (b := i) (by omega) (by omega)).mpr c_1; omega
    refine lv_aload_n hx hb dX_runRung_21 rfl (lv_at hl 0 rfl) ?_
    refine va_get (D := (dC, dI)) (ci := 0) (v := .ref (ad 13)) (C := RX) (T := TX) (N := 8) hx hb hc inX hown hK hP 0 rfl rfl 3 (by decide) (hc _ w114) (fun _ h9 => h9) rfl dX_runRung_22 ?_
    refine va_get (D := (dC, dI)) (ci := 3) (v := .ref (ad 14)) (C := RLa) (T := TLa) (N := 4) hx hb hc inLa hown hK hP 13 rfl rfl 0 (by decide) (hc _ w61) (fun _ h9 => h9) rfl dX_runRung_25 ?_
    refine lv_iload_n hx hb dX_runRung_28 rfl (lv_at hl 1 rfl) ?_
    refine lv_bipush (v := 10) hx hb dX_runRung_29 (by decide +kernel) ?_
    refine lv_imul hx hb dX_runRung_31 ?_
    refine lv_iload hx hb dX_runRung_32 (lv_at hl 4 rfl) ?_
    refine lv_iadd hx hb dX_runRung_34 ?_
    refine lv_topi (fun v_3 ev_3 => ?_)
    rw [ix10] at ev_3
    subst v_3
    refine va_iald hx hb hK hP 14 10 rfl rfl (vp_in_nI (by omega) (by decide)) dX_runRung_35 ?_
    refine lv_topi (fun v_4 ev_4 => ?_)
    rw [nI_clamp (by omega)] at ev_4
    subst v_4
    refine lv_topi (fun v_5 ev_5 => ?_)
    refine lv_istore (lv' := [(5, .int v_5), (0, .ref (ad 0)), (1, .int (nI r)), (2, .int (pk L)), (3, .int (nI n)), (4, .int (nI i))]) hx hb dX_runRung_36 hl (by decide) rfl (fun ls hl => ?_)
    refine lv_aload_n hx hb dX_runRung_38 rfl (lv_at hl 1 rfl) ?_
    refine va_get (D := (dC, dI)) (ci := 0) (v := .ref (ad 13)) (C := RX) (T := TX) (N := 8) hx hb hc inX hown hK hP 0 rfl rfl 3 (by decide) (hc _ w114) (fun _ h9 => h9) rfl dX_runRung_39 ?_
    refine va_get (D := (dC, dI)) (ci := 3) (v := .ref (ad 15)) (C := RLa) (T := TLa) (N := 4) hx hb hc inLa hown hK hP 13 rfl rfl 1 (by decide) (hc _ w63) (fun _ h9 => h9) rfl dX_runRung_42 ?_
    refine lv_iload_n hx hb dX_runRung_45 rfl (lv_at hl 2 rfl) ?_
    refine lv_bipush (v := 10) hx hb dX_runRung_46 (by decide +kernel) ?_
    refine lv_imul hx hb dX_runRung_48 ?_
    refine lv_iload hx hb dX_runRung_49 (lv_at hl 5 rfl) ?_
    refine lv_iadd hx hb dX_runRung_51 ?_
    refine lv_topi (fun v_6 ev_6 => ?_)
    rw [ix10] at ev_6
    subst v_6
    refine va_iald hx hb hK hP 15 11 rfl rfl (vp_in_nI (by omega) (by decide)) dX_runRung_52 ?_
    refine lv_topi (fun v_7 ev_7 => ?_)
    rw [nI_clamp (by omega)] at ev_7
    subst v_7
    refine lv_topi (fun v_8 ev_8 => ?_)
    refine lv_istore (lv' := [(6, .int v_8), (5, .int v_5), (0, .ref (ad 0)), (1, .int (nI r)), (2, .int (pk L)), (3, .int (nI n)), (4, .int (nI i))]) hx hb dX_runRung_53 hl (by decide) rfl (fun ls hl => ?_)
    refine lv_iload_n hx hb dX_runRung_55 rfl (lv_at hl 4 rfl) ?_
    refine lv_iconst (v := 1) hx hb dX_runRung_56 (by decide +kernel) ?_
    refine lv_iand hx hb dX_runRung_57 ?_
    refine lv_topi (fun v_9 ev_9 => ?_)
    rw [pk_top g01 (by omega)] at ev_9
    subst v_9
    refine lv_istore (lv' := [(7, .int (hd L)), (6, .int v_8), (5, .int v_5), (0, .ref (ad 0)), (1, .int (nI r)), (2, .int (pk L)), (3, .int (nI n)), (4, .int (nI i))]) hx hb dX_runRung_58 hl (by decide) rfl (fun ls hl => ?_)
    obtain ⟨hO, hs⟩ := hR.2.2.2 i (by omega)
    have hO : okO (S 0 0) v_5 v_8 := by rw [ev_5, ev_8, g10, g11]; exact hO
    have hs : stp v_5 (d i) (d (i + 1)) := by rw [ev_5, g10]; exact hs
    have hE : rgo r (n - (i + 1) + 1) i S1 L = rgr S r := by rw [show n - (i + 1) + 1 = n - i by omega]; exact hE
    rw [rgo, ← ev_5, ← ev_8] at hE
    refine lv_iload hx hb dX_runRung_60 (lv_at hl 2 rfl) ?_
    refine lv_bipush (v := 13) hx hb dX_runRung_62 (by decide +kernel) ?_
    refine lv_icmp_ne (tgt := 76) hx hb dX_runRung_64 (by decide) (fun c_9 => ?_) (fun c_9 => ?_)
    · rw [if_neg c_9] at hE
      refine lv_iload hx hb dX_runRung_76 (lv_at hl 2 rfl) ?_
      refine lv_bipush (v := 9) hx hb dX_runRung_78 (by decide +kernel) ?_
      refine lv_icmp_ne (tgt := 125) hx hb dX_runRung_80 (by decide) (fun c_10 => ?_) (fun c_10 => ?_)
      · rw [if_neg c_10] at hE
        refine lv_iload hx hb dX_runRung_125 (lv_at hl 2 rfl) ?_
        refine lv_bipush (v := 10) hx hb dX_runRung_127 (by decide +kernel) ?_
        refine lv_icmp_lt (tgt := 148) hx hb dX_runRung_129 (by decide) (fun c_11 => ?_) (fun c_11 => ?_)
        · rw [if_neg (Int32.not_le.mpr c_11)] at hE
          refine lv_aload_n hx hb dX_runRung_148 rfl (lv_at hl 3 rfl) ?_
          refine lv_iload_n hx hb dX_runRung_149 rfl (lv_at hl 5 rfl) ?_
          refine lv_iload hx hb dX_runRung_150 (lv_at hl 2 rfl) ?_
          refine lv_iload hx hb dX_runRung_152 (lv_at hl 1 rfl) ?_
          refine vp_callSi (va_Run.run (va_runV (As := [.int (pk L), .int v_5, .int v_8]) (rest := []) ⟨hx, hb, hml, hown, hc⟩ (cX_stackAfter l dC dI ad ca H.size S1 L v_5 v_8 v_8.toNatClampNeg g01 (by omega) gP.2.1 gP.2.2.1 (okO_8 hO (Int32.not_le.mpr c_11) c_10).1 (okO_8q hO (Int32.not_le.mpr c_11) c_10)) (cwV 3 hc (gV w483 w485 s8 w1 qX_stackAfter) rfl rfl rfl (by decide +kernel) ⟨Nat.le_of_ble_eq_true rfl, Nat.le_of_ble_eq_true rfl⟩) ⟨gPre_blind, va_recv hK hP (ci := 0) (q0 := 0) rfl rfl, (gPre_in hP hK hD)⟩ rfl rfl hl.1 rfl (lv_room (Nat.le_of_ble_eq_true rfl)) dX_runRung_154 ⟨Nat.zero_le _, Nat.zero_le _⟩)) (fun r_13 hr_13 => ?_)
          refine lv_istore_n (lv' := [(2, .int r_13), (7, .int (hd L)), (6, .int v_8), (5, .int v_5), (0, .ref (ad 0)), (1, .int (nI r)), (3, .int (nI n)), (4, .int (nI i))]) hx hb dX_runRung_157 rfl hl (by decide) rfl (fun ls hl => ?_)
          obtain ⟨v_14, ev_14⟩ : ∃ y : Int32, y = (nI i) + 1 := ⟨_, rfl⟩
          refine lv_iinc (v := v_14) (lv' := [(4, .int v_14), (2, .int r_13), (7, .int (hd L)), (6, .int v_8), (5, .int v_5), (0, .ref (ad 0)), (1, .int (nI r)), (3, .int (nI n))]) hx hb dX_runRung_158 hl (k := 7) rfl (by rw [ev_14]; rfl) (by decide) rfl (fun ls hl => ?_)
          refine lv_goto (tgt := 15) hx hb dX_runRung_161 (by decide) ?_
          have gr_13 : r_13 = pk (stA S1 L v_5 v_8.toNatClampNeg) := hr_13
          clear hr_13
          subst r_13
          have gv_14 : v_14 = nI (i + 1) := (by rw [ev_14]; exact nI_1 i)
          clear ev_14
          subst v_14
          exact ih_15 _ _ _ _ (by omega) ⟨(i + 1), S1, (stA S1 L v_5 v_8.toNatClampNeg), rfl, (by omega), (Gd_8 hG hs hO (Int32.not_le.mpr c_11) c_10), hE, hP, hD, hS, lv_sub hl [5, 6, 1, 7, 0] rfl⟩
        · rw [if_pos (Int32.not_lt.mp c_11)] at hE
          obtain ⟨k, hk32, ek⟩ := wi_831 (okO_10 hO (Int32.not_lt.mp c_11) c_9).2
          clear ev_8
          subst v_8
          rw [nI_clamp (by omega)] at hE
          refine lv_aload_n hx hb dX_runRung_132 rfl (lv_at hl 3 rfl) ?_
          refine va_get (D := (dC, dI)) (ci := 0) (v := .ref (ad 1)) (C := RX) (T := TX) (N := 8) hx hb hc inX hown hK hP 0 rfl rfl 0 (by decide) (hc _ w111) (fun _ h9 => h9) rfl dX_runRung_133 ?_
          refine lv_iload hx hb dX_runRung_136 (lv_at hl 2 rfl) ?_
          refine lv_iload hx hb dX_runRung_138 (lv_at hl 1 rfl) ?_
          refine lv_iload hx hb dX_runRung_140 (lv_at hl 0 rfl) ?_
          refine g_callv (va_runV (As := [.int v_5, .int (nI k), .int (hd L)]) (rest := []) ⟨hx, hb, hml, hown, hc⟩ (cMe_assign l dC dI ad ca H.size S1 v_5 (hd L) k (by omega)) (cwV 3 hc (gV w479 w480 w481 w2 qMe_assign) rfl rfl rfl (by decide +kernel) ⟨Nat.le_of_ble_eq_true rfl, Nat.le_of_ble_eq_true rfl⟩) ⟨gPre_blind, va_recv hK hP (ci := 1) (q0 := 1) rfl rfl, (gPre_in hP hK hD)⟩ rfl rfl hl.1 rfl (lv_room (Nat.le_of_ble_eq_true rfl)) dX_runRung_142 ⟨Nat.zero_le _, Nat.zero_le _⟩) hD hS hA (fun u_15 H locs hu_15 hP hD hS => ?_)
          subst u_15
          refine lv_goto (tgt := 158) hx hb dX_runRung_145 (by decide) ?_
          obtain ⟨v_16, ev_16⟩ : ∃ y : Int32, y = (nI i) + 1 := ⟨_, rfl⟩
          refine lv_iinc (v := v_16) (lv' := [(4, .int v_16), (7, .int (hd L)), (6, .int (nI k)), (5, .int v_5), (0, .ref (ad 0)), (1, .int (nI r)), (2, .int (pk L)), (3, .int (nI n))]) hx hb dX_runRung_158 hl (k := 7) rfl (by rw [ev_16]; rfl) (by decide) rfl (fun ls hl => ?_)
          refine lv_goto (tgt := 15) hx hb dX_runRung_161 (by decide) ?_
          have gv_16 : v_16 = nI (i + 1) := (by rw [ev_16]; exact nI_1 i)
          clear ev_16
          subst v_16
          exact ih_15 _ _ _ _ (by omega) ⟨(i + 1), (asg S1 v_5 k (hd L)), L, rfl, (by omega), (Gd_10 hG hs (Int32.not_lt.mp c_11)), hE, hP, hD, hS, lv_sub hl [4, 5, 6, 7, 0] rfl⟩
      · rw [if_pos c_10] at hE
        obtain ⟨m0, hm10, em, hB⟩ := gP.1
        obtain ⟨j, hj, ej⟩ := wi_made hm10 (by rw [← em, g0]; exact okO_9 hO c_10)
        clear ev_8
        subst v_8
        rw [nI_clamp (by omega)] at hE
        refine lv_aload_n hx hb dX_runRung_83 rfl (lv_at hl 3 rfl) ?_
        refine va_get (D := (dC, dI)) (ci := 0) (v := .ref (ad 7)) (C := RX) (T := TX) (N := 8) hx hb hc inX hown hK hP 0 rfl rfl 1 (by decide) (hc _ w112) (fun _ h9 => h9) rfl dX_runRung_84 ?_
        refine lv_iload hx hb dX_runRung_87 (lv_at hl 1 rfl) ?_
        refine va_aldq hx hb hK hP 7 5 rfl rfl (vp_in_nI (by omega) (by decide)) dX_runRung_89 ?_
        refine W.eq (g2 := F0 m 90 ls [.ref (ad (18 + j))]) (by rw [xb_at (by omega)]) ?_
        refine lv_iload hx hb dX_runRung_90 (lv_at hl 0 rfl) ?_
        refine vp_callSi (va_Run.run (va_runV (As := [.int (hd L)]) (rest := []) ⟨hx, hb, hml, hown, hc⟩ (cBl_failsWith l dC dI ad ca H.size S1 j (by omega) (hd L)) (cwV 1 hc (gV w432 w433 w434 w4 qBl_failsWith) rfl rfl rfl (by decide +kernel) ⟨Nat.le_of_ble_eq_true rfl, Nat.le_of_ble_eq_true rfl⟩) ⟨gPre_blind, va_recv hK hP (ci := 2) (q0 := (18 + j)) rfl (xb_cell (by omega)), (gPre_in hP hK hD)⟩ rfl rfl hl.1 rfl (lv_room (Nat.le_of_ble_eq_true rfl)) dX_runRung_92 ⟨Nat.zero_le _, Nat.zero_le _⟩)) (fun r_17 hr_17 => ?_)
        refine lv_if_eq (tgt := 101) hx hb dX_runRung_95 (by decide) (fun c_17 => ?_) (fun c_17 => ?_)
        · rw [hr_17] at c_17
          rw [if_neg (b2_0.mp c_17)] at hE
          refine lv_iload_n hx hb dX_runRung_101 rfl (lv_at hl 5 rfl) ?_
          refine lv_aload_n hx hb dX_runRung_102 rfl (lv_at hl 3 rfl) ?_
          refine va_get (D := (dC, dI)) (ci := 0) (v := .ref (ad 7)) (C := RX) (T := TX) (N := 8) hx hb hc inX hown hK hP 0 rfl rfl 1 (by decide) (hc _ w112) (fun _ h9 => h9) rfl dX_runRung_103 ?_
          refine lv_iload hx hb dX_runRung_106 (lv_at hl 1 rfl) ?_
          refine va_aldq hx hb hK hP 7 5 rfl rfl (vp_in_nI (by omega) (by decide)) dX_runRung_108 ?_
          refine W.eq (g2 := F0 m 109 ls [.ref (ad (18 + j)), .int (pk L)]) (by rw [xb_at (by omega)]) ?_
          refine lv_iload hx hb dX_runRung_109 (lv_at hl 0 rfl) ?_
          refine lv_aload_n hx hb dX_runRung_111 rfl (lv_at hl 3 rfl) ?_
          refine va_get (D := (dC, dI)) (ci := 0) (v := .ref (ad 1)) (C := RX) (T := TX) (N := 8) hx hb hc inX hown hK hP 0 rfl rfl 0 (by decide) (hc _ w111) (fun _ h9 => h9) rfl dX_runRung_112 ?_
          refine g_calli (va_runV (As := [.int (hd L), .ref (ad 1)]) (rest := [.int (pk L)]) ⟨hx, hb, hml, hown, hc⟩ (cBl_work l dC dI ad ca H.size S1 j (by omega) (hd L) (S1 16 j).toNatClampNeg (S1 15 j).toNatClampNeg (okW_of (hB j hj) gP.2.2.2.2.1 (hd01 g01) (b2_0.mp c_17))) (cwV 2 hc (gV w436 w437 w438 w4 qBl_work) rfl rfl rfl (by decide +kernel) ⟨Nat.le_of_ble_eq_true rfl, Nat.le_of_ble_eq_true rfl⟩) ⟨gPre_blind, va_recv hK hP (ci := 2) (q0 := (18 + j)) rfl (xb_cell (by omega)), (gPre_in hP hK hD)⟩ rfl rfl hl.1 rfl (lv_room (Nat.le_of_ble_eq_true rfl)) dX_runRung_115 ⟨Nat.zero_le _, Nat.zero_le _⟩) hD hS hA (fun r_20 u_19 H locs hu_19 hP hD hS => ?_)
          obtain ⟨ho9, hu9⟩ := hu_19
          subst u_19
          subst r_20
          refine vp_callSi (va_Run.run (va_runS (As := [.int (pk L), .int (outB S1 j (hd L))]) (rest := []) ⟨hx, hb, hml, hown, hc⟩ (cX_withTop l (pk L) (outB S1 j (hd L))) (va_cwS 2 hc (g_S w476 w477 w1 qX_withTop) rfl rfl rfl (by decide +kernel) ⟨Nat.le_of_ble_eq_true rfl, Nat.le_of_ble_eq_true rfl⟩) ⟨tPre_blind, tPre_in⟩ rfl rfl hl.1 rfl (lv_room (Nat.le_of_ble_eq_true rfl)) dX_runRung_118 ⟨Nat.zero_le _, Nat.zero_le _⟩)) (fun r_21 hr_21 => ?_)
          refine lv_istore_n (lv' := [(2, .int r_21), (7, .int (hd L)), (6, .int (nI j)), (5, .int v_5), (0, .ref (ad 0)), (1, .int (nI r)), (3, .int (nI n)), (4, .int (nI i))]) hx hb dX_runRung_121 rfl hl (by decide) rfl (fun ls hl => ?_)
          refine lv_goto (tgt := 158) hx hb dX_runRung_122 (by decide) ?_
          obtain ⟨v_22, ev_22⟩ : ∃ y : Int32, y = (nI i) + 1 := ⟨_, rfl⟩
          refine lv_iinc (v := v_22) (lv' := [(4, .int v_22), (2, .int r_21), (7, .int (hd L)), (6, .int (nI j)), (5, .int v_5), (0, .ref (ad 0)), (1, .int (nI r)), (3, .int (nI n))]) hx hb dX_runRung_158 hl (k := 7) rfl (by rw [ev_22]; rfl) (by decide) rfl (fun ls hl => ?_)
          refine lv_goto (tgt := 15) hx hb dX_runRung_161 (by decide) ?_
          have gr_21 : r_21 = pk (outB S1 j (hd L) :: L.tail) := (by rw [hr_21]; exact pk_with g01 (by omega) (out_01 (hd01 g01)))
          clear hr_21
          subst r_21
          have gv_22 : v_22 = nI (i + 1) := (by rw [ev_22]; exact nI_1 i)
          clear ev_22
          subst v_22
          exact ih_15 _ _ _ _ (by omega) ⟨(i + 1), (bw S1 j (hd L)), (outB S1 j (hd L) :: L.tail), rfl, (by omega), (Gd_9 hG hs c_10 hm10 em hj), hE, hP, hD, hS, lv_sub hl [5, 6, 1, 7, 0] rfl⟩
        · rw [hr_17] at c_17
          rw [if_pos (b2_n.mp c_17)] at hE
          refine lv_bipush (v := (-2)) hx hb dX_runRung_98 (by decide +kernel) ?_
          exact W.iret (v := (-2)) hx hb hr (fun t ht hW => ⟨⟨_, S1, rfl, (by (try dsimp only); exact (by rw [← hE]; exact ⟨rfl, rfl⟩)), by rw [ht]; exact hP, va_K.moved hW.alike hK, hD⟩, hS.F ht⟩) hS.2.2 dX_runRung_100
    · rw [if_pos c_9] at hE
      refine lv_iload hx hb dX_runRung_67 (lv_at hl 0 rfl) ?_
      refine lv_iconst (v := 1) hx hb dX_runRung_69 (by decide +kernel) ?_
      refine lv_icmp_ne (tgt := 158) hx hb dX_runRung_70 (by decide) (fun c_22 => ?_) (fun c_22 => ?_)
      · rw [if_neg c_22] at hE
        obtain ⟨v_24, ev_24⟩ : ∃ y : Int32, y = (nI i) + 1 := ⟨_, rfl⟩
        refine lv_iinc (v := v_24) (lv' := [(4, .int v_24), (7, .int (hd L)), (6, .int v_8), (5, .int v_5), (0, .ref (ad 0)), (1, .int (nI r)), (2, .int (pk L)), (3, .int (nI n))]) hx hb dX_runRung_158 hl (k := 7) rfl (by rw [ev_24]; rfl) (by decide) rfl (fun ls hl => ?_)
        refine lv_goto (tgt := 15) hx hb dX_runRung_161 (by decide) ?_
        have gv_24 : v_24 = nI (i + 1) := (by rw [ev_24]; exact nI_1 i)
        clear ev_24
        subst v_24
        exact ih_15 _ _ _ _ (by omega) ⟨(i + 1), S1, L, rfl, (by omega), (Gd_13 hG hs c_9), hE, hP, hD, hS, lv_sub hl [4, 5, 6, 7, 0] rfl⟩
      · rw [if_pos c_22] at hE
        refine lv_iload hx hb dX_runRung_73 (lv_at hl 1 rfl) ?_
        exact W.iret (v := v_8) hx hb hr (fun t ht hW => ⟨⟨_, S1, rfl, (by (try dsimp only); exact (by rw [← hE]; exact ⟨rfl, rfl⟩)), by rw [ht]; exact hP, va_K.moved hW.alike hK, hD⟩, hS.F ht⟩) hS.2.2 dX_runRung_75
