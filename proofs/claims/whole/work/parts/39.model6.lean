set_option maxHeartbeats 4000000 in
set_option maxRecDepth 100000 in
theorem cMo_perform (l : Launch) (dC : Nat → ClassId) (dI : Nat → Nat → Nat) (ad : Nat → Nat) (ca : Nat → ClassId) (sz : Nat) (S E : Ss) (o a : Int32) (L : List Int32) (d9 : Nat) (hO : okO (S 0 0) o a) (n13 : ¬ o = 13) (hst : stp o L.length d9) (hk : stk E L) (h01 : ∀ v ∈ L, b01 v) (hPr : Pr S) (hE3 : E 0 3 = 0) : Met l yMo_perform (kMo_perform :: CW) ({ frames := 3, cells := 0, slots := 0, locals := 69 }) (va_Pc [.ref (ad 0), .int o, .int a] (gPre (dC, dI) (mT ca) (MW ad ca S E) sz)) (va_Qv (fun (u : Ss × Ss) => pfP S E o a.toNatClampNeg L u.1 u.2) (fun u => gAt (dC, dI) (mT ca) (va_A (MW ad ca S E) sz) (MW ad ca u.1 u.2)) (va_A (MW ad ca S E) sz)) 0 0 (va_A (MW ad ca S E) sz) := by
  refine Met.ofW (cc := bMo_perform) (maxL := 4) (ret := none) (by decide +kernel) rfl ?_
  intro p e s m args below meth c s₁ B hml hv
  obtain ⟨rfl, hsz, hP, hK, hD0⟩ := hv
  have hx := B.exec
  have hb := B.bytes
  have hr := B.returns
  have hts := atoms_spec (ws := kMo_perform :: CW) B.pre
  have hc : ∀ w ∈ CW, w.before _ s = true := fun w h => hts w (List.mem_cons_of_mem _ h)
  have hown : s.vm.findClass RMo = some m.cls := findClass_of_methodNamed B.named
  have hlocks := B.notSynchronized
  subst hsz
  have hD := hD0.self (sz := s.heap.size)
  generalize hAe : va_A (MW ad ca S E) s.heap.size = A at hD ⊢
  have hA : ∀ q : Nat, s.heap.size ≤ q → A q := fun q h => by rw [← hAe]; exact Or.inr h
  have hS : va_S A s.heap s.heap [] := va_S.rf
  have hl := lv_entry ([.ref (ad 0), .int o, .int a]) (n := 4) (Nat.le_of_ble_eq_true rfl)
  rw [lg_entry_eq]
  generalize (lg_sl ([.ref (ad 0), .int o, .int a]) ++ List.replicate (4 - (lg_sl ([.ref (ad 0), .int o, .int a])).length) Slot.unset).toArray = ls at hl ⊢
  have hl : lv_has ls 4 [(0, .ref (ad 0)), (1, .int o), (2, .int a)] := hl
  have hl4 : L.length ≤ 4 := stp_4 hst
  have hF : ∀ i, i < 32 → S 2 i = -1 ∨ b01 (S 2 i) := hPr.2.2.1
  refine lv_aload_n hx hb dMo_perform_0 rfl (lv_at hl 0 rfl) ?_
  refine va_get (D := (dC, dI)) (ci := 4) (v := .int (E 0 1)) (C := RMo) (T := TMo) (N := 29) hx hb hc inMo hown hK hP 0 rfl rfl 23 (by decide) (hc _ w584) (fun _ h9 => h9) rfl dMo_perform_1 ?_
  rcases L with _ | ⟨v, T⟩
  · have et : E 0 1 = nI 0 := hk.1
    refine W.eq (g2 := F0 m 4 ls [.int (nI 0)]) (by rw [et]) ?_
    refine lv_if_le (tgt := 21) hx hb dMo_perform_4 (by decide) (fun c_0 => ?_) (fun c_0 => ?_)
    · refine lv_iconst (v := 0) hx hb dMo_perform_21 (by decide +kernel) ?_
      refine lv_istore_n (lv' := [(3, .int 0), (0, .ref (ad 0)), (1, .int o), (2, .int a)]) hx hb dMo_perform_22 rfl hl (by decide) rfl (fun ls hl => ?_)
      refine lv_iload_n hx hb dMo_perform_23 rfl (lv_at hl 2 rfl) ?_
      by_cases w_1 : o = 0
      · refine lv_tableIn (tgt := 92) hx hb dMo_perform_24 (by rw [w_1]; decide) (by rw [w_1]; decide) (by rw [w_1]; rfl) (by decide) ?_
        obtain ⟨q, ea, hq⟩ := okO_q hO (by rw [w_1]; decide)
        subst a
        refine lv_aload_n hx hb dMo_perform_92 rfl (lv_at hl 1 rfl) ?_
        refine lv_aload_n hx hb dMo_perform_93 rfl (lv_at hl 1 rfl) ?_
        refine lv_iload_n hx hb dMo_perform_94 rfl (lv_at hl 3 rfl) ?_
        refine vp_callSi (va_Run.run (va_runV (As := [.int (nI q)]) (rest := [.ref (ad 0)]) ⟨hx, hb, hml, hown, hc⟩ (cMo_read l dC dI ad ca s.heap.size S E q (by omega) (hF q hq)) (cwV 1 hc (gV w732 w734 s14 w5 qMo_read) rfl rfl rfl (by decide +kernel) ⟨Nat.le_of_ble_eq_true rfl, Nat.le_of_ble_eq_true rfl⟩) ⟨gPre_blind, va_recv hK hP (ci := 4) (q0 := 0) rfl rfl, (gPre_in hP hK hD)⟩ rfl rfl hl.1 rfl (lv_room (Nat.le_of_ble_eq_true rfl)) dMo_perform_95 ⟨Nat.zero_le _, Nat.zero_le _⟩)) (fun r_3 hr_3 => ?_)
        refine g_callv (va_runV (As := [.int r_3]) (rest := []) ⟨hx, hb, hml, hown, hc⟩ (cMo_push l dC dI ad ca s.heap.size S E r_3 0 (st_le3 hst (by rw [w_1]; decide)) et) (cwV 1 hc (gV w736 w738 s15 w5 qMo_push) rfl rfl rfl (by decide +kernel) ⟨Nat.le_of_ble_eq_true rfl, Nat.le_of_ble_eq_true rfl⟩) ⟨gPre_blind, va_recv hK hP (ci := 4) (q0 := 0) rfl rfl, (gPre_in hP hK hD)⟩ rfl rfl hl.1 rfl (lv_room (Nat.le_of_ble_eq_true rfl)) dMo_perform_98 ⟨Nat.zero_le _, Nat.zero_le _⟩) hD hS hA (fun u_4 H locs hu_4 hP hD hS => ?_)
        obtain ⟨S_4, E_4⟩ := u_4
        (try dsimp only at hu_4 hP hD)
        obtain ⟨hS9, hE9⟩ := hu_4
        subst S_4
        refine lv_goto (tgt := 370) hx hb dMo_perform_101 (by decide) ?_
        exact W.vret hx hb hr (fun t ht hW => ⟨⟨(S, E_4), rfl, (by (try dsimp only) <;> exact (by rw [nI_clamp (by omega)]; subst E_4; exact pfP_8 (by rw [w_1]; decide) rfl rfl rfl hE3 (st_push9 hk rfl) (by unfold stA; rw [if_pos w_1]; rw [hr_3]))), by rw [ht]; exact hP, va_K.moved hW.alike hK, hD⟩, hS.F ht⟩) hS.2.2 dMo_perform_370
      by_cases w_4 : o = 1
      · refine lv_tableIn (tgt := 104) hx hb dMo_perform_24 (by rw [w_4]; decide) (by rw [w_4]; decide) (by rw [w_4]; rfl) (by decide) ?_
        obtain ⟨q, ea, hq⟩ := okO_q hO (by rw [w_4]; decide)
        subst a
        refine lv_aload_n hx hb dMo_perform_104 rfl (lv_at hl 1 rfl) ?_
        refine lv_iconst (v := 1) hx hb dMo_perform_105 (by decide +kernel) ?_
        refine lv_aload_n hx hb dMo_perform_106 rfl (lv_at hl 1 rfl) ?_
        refine lv_iload_n hx hb dMo_perform_107 rfl (lv_at hl 3 rfl) ?_
        refine vp_callSi (va_Run.run (va_runV (As := [.int (nI q)]) (rest := [.int 1, .ref (ad 0)]) ⟨hx, hb, hml, hown, hc⟩ (cMo_read l dC dI ad ca s.heap.size S E q (by omega) (hF q hq)) (cwV 1 hc (gV w732 w734 s14 w5 qMo_read) rfl rfl rfl (by decide +kernel) ⟨Nat.le_of_ble_eq_true rfl, Nat.le_of_ble_eq_true rfl⟩) ⟨gPre_blind, va_recv hK hP (ci := 4) (q0 := 0) rfl rfl, (gPre_in hP hK hD)⟩ rfl rfl hl.1 rfl (lv_room (Nat.le_of_ble_eq_true rfl)) dMo_perform_108 ⟨Nat.zero_le _, Nat.zero_le _⟩)) (fun r_6 hr_6 => ?_)
        refine lv_isub hx hb dMo_perform_111 ?_
        refine g_callv (va_runV (As := [.int (1 - r_6)]) (rest := []) ⟨hx, hb, hml, hown, hc⟩ (cMo_push l dC dI ad ca s.heap.size S E (1 - r_6) 0 (st_le3 hst (by rw [w_4]; decide)) et) (cwV 1 hc (gV w736 w738 s15 w5 qMo_push) rfl rfl rfl (by decide +kernel) ⟨Nat.le_of_ble_eq_true rfl, Nat.le_of_ble_eq_true rfl⟩) ⟨gPre_blind, va_recv hK hP (ci := 4) (q0 := 0) rfl rfl, (gPre_in hP hK hD)⟩ rfl rfl hl.1 rfl (lv_room (Nat.le_of_ble_eq_true rfl)) dMo_perform_112 ⟨Nat.zero_le _, Nat.zero_le _⟩) hD hS hA (fun u_7 H locs hu_7 hP hD hS => ?_)
        obtain ⟨S_7, E_7⟩ := u_7
        (try dsimp only at hu_7 hP hD)
        obtain ⟨hS9, hE9⟩ := hu_7
        subst S_7
        refine lv_goto (tgt := 370) hx hb dMo_perform_115 (by decide) ?_
        exact W.vret hx hb hr (fun t ht hW => ⟨⟨(S, E_7), rfl, (by (try dsimp only) <;> exact (by rw [nI_clamp (by omega)]; subst E_7; exact pfP_8 (by rw [w_4]; decide) rfl rfl rfl hE3 (st_push9 hk rfl) (by unfold stA; rw [if_neg w_1, if_pos w_4]; rw [hr_6]))), by rw [ht]; exact hP, va_K.moved hW.alike hK, hD⟩, hS.F ht⟩) hS.2.2 dMo_perform_370
      by_cases w_7 : o = 2
      · exact absurd (st_nil hst) (by rw [w_7]; decide)
      by_cases w_8 : o = 3
      · exact absurd (st_nil hst) (by rw [w_8]; decide)
      by_cases w_9 : o = 4
      · exact absurd (st_nil hst) (by rw [w_9]; decide)
      by_cases w_10 : o = 5
      · exact absurd (st_nil hst) (by rw [w_10]; decide)
      by_cases w_11 : o = 6
      · exact absurd (st_nil hst) (by rw [w_11]; decide)
      by_cases w_12 : o = 7
      · exact absurd (st_nil hst) (by rw [w_12]; decide)
      by_cases w_13 : o = 8
      · refine lv_tableIn (tgt := 265) hx hb dMo_perform_24 (by rw [w_13]; decide) (by rw [w_13]; decide) (by rw [w_13]; rfl) (by decide) ?_
        obtain ⟨q, ea, hq⟩ := okO_q8 hO w_13
        subst a
        refine lv_aload_n hx hb dMo_perform_265 rfl (lv_at hl 1 rfl) ?_
        refine lv_aload_n hx hb dMo_perform_266 rfl (lv_at hl 1 rfl) ?_
        refine va_get (D := (dC, dI)) (ci := 4) (v := .ref (ad 5)) (C := RMo) (T := TMo) (N := 29) hx hb hc inMo hown hK hP 0 rfl rfl 5 (by decide) (hc _ w566) (fun _ h9 => h9) rfl dMo_perform_267 ?_
        refine lv_iload_n hx hb dMo_perform_270 rfl (lv_at hl 3 rfl) ?_
        refine lv_bipush (v := 8) hx hb dMo_perform_271 (by decide +kernel) ?_
        refine lv_idiv hx hb dMo_perform_273 (by decide) ?_
        refine lv_topi (fun v_15 ev_15 => ?_)
        rw [show nI q / 8 = nI (q / 8) from pk_div (d := 8) (by omega) (by decide) (by decide)] at ev_15
        subst v_15
        refine va_lald hx hb hK hP 5 4 rfl rfl (vp_in_nI (by omega) (by decide)) dMo_perform_274 ?_
        refine lv_topl (fun v_16 ev_16 => ?_)
        rw [nI_clamp (by omega)] at ev_16
        have ev_16 : v_16 = (S 5 (q / 8)).toInt64 := ev_16
        subst v_16
        refine lv_aload_n hx hb dMo_perform_275 rfl (lv_at hl 1 rfl) ?_
        refine va_get (D := (dC, dI)) (ci := 4) (v := .ref (ad 5)) (C := RMo) (T := TMo) (N := 29) hx hb hc inMo hown hK hP 0 rfl rfl 5 (by decide) (hc _ w566) (fun _ h9 => h9) rfl dMo_perform_276 ?_
        refine lv_iload_n hx hb dMo_perform_279 rfl (lv_at hl 3 rfl) ?_
        refine lv_bipush (v := 8) hx hb dMo_perform_280 (by decide +kernel) ?_
        refine lv_irem hx hb dMo_perform_282 (by decide) ?_
        refine lv_topi (fun v_17 ev_17 => ?_)
        rw [show nI q - nI q / 8 * 8 = nI (q % 8) from pk_rem (d := 8) (by omega) (by decide) (by decide)] at ev_17
        subst v_17
        refine va_lald hx hb hK hP 5 4 rfl rfl (vp_in_nI (by omega) (by decide)) dMo_perform_283 ?_
        refine lv_topl (fun v_18 ev_18 => ?_)
        rw [nI_clamp (by omega)] at ev_18
        have ev_18 : v_18 = (S 5 (q % 8)).toInt64 := ev_18
        subst v_18
        refine W.lcmp hx hb dMo_perform_284 ?_
        refine lv_if_le (tgt := 292) hx hb dMo_perform_285 (by decide) (fun c_18 => ?_) (fun c_18 => ?_)
        · refine lv_iconst (v := 0) hx hb dMo_perform_292 (by decide +kernel) ?_
          refine g_callv (va_runV (As := [.int 0]) (rest := []) ⟨hx, hb, hml, hown, hc⟩ (cMo_push l dC dI ad ca s.heap.size S E 0 0 (st_le3 hst (by rw [w_13]; decide)) et) (cwV 1 hc (gV w736 w738 s15 w5 qMo_push) rfl rfl rfl (by decide +kernel) ⟨Nat.le_of_ble_eq_true rfl, Nat.le_of_ble_eq_true rfl⟩) ⟨gPre_blind, va_recv hK hP (ci := 4) (q0 := 0) rfl rfl, (gPre_in hP hK hD)⟩ rfl rfl hl.1 rfl (lv_room (Nat.le_of_ble_eq_true rfl)) dMo_perform_293 ⟨Nat.zero_le _, Nat.zero_le _⟩) hD hS hA (fun u_20 H locs hu_20 hP hD hS => ?_)
          obtain ⟨S_20, E_20⟩ := u_20
          (try dsimp only at hu_20 hP hD)
          obtain ⟨hS9, hE9⟩ := hu_20
          subst S_20
          refine lv_goto (tgt := 370) hx hb dMo_perform_296 (by decide) ?_
          exact W.vret hx hb hr (fun t ht hW => ⟨⟨(S, E_20), rfl, (by (try dsimp only) <;> exact (by rw [nI_clamp (by omega)]; subst E_20; exact pfP_8 (by rw [w_13]; decide) rfl rfl rfl hE3 (st_push9 hk rfl) (by unfold stA; rw [if_neg w_1, if_neg w_4, if_neg w_7, if_neg w_8, if_neg w_9, if_neg w_10, if_neg w_11, if_neg w_12]; rw [b2_f (Int32.not_lt.mpr (l_le.mp ((lg_cmp_le _ _).mp c_18)))]))), by rw [ht]; exact hP, va_K.moved hW.alike hK, hD⟩, hS.F ht⟩) hS.2.2 dMo_perform_370
        · refine lv_iconst (v := 1) hx hb dMo_perform_288 (by decide +kernel) ?_
          refine lv_goto (tgt := 293) hx hb dMo_perform_289 (by decide) ?_
          refine g_callv (va_runV (As := [.int 1]) (rest := []) ⟨hx, hb, hml, hown, hc⟩ (cMo_push l dC dI ad ca s.heap.size S E 1 0 (st_le3 hst (by rw [w_13]; decide)) et) (cwV 1 hc (gV w736 w738 s15 w5 qMo_push) rfl rfl rfl (by decide +kernel) ⟨Nat.le_of_ble_eq_true rfl, Nat.le_of_ble_eq_true rfl⟩) ⟨gPre_blind, va_recv hK hP (ci := 4) (q0 := 0) rfl rfl, (gPre_in hP hK hD)⟩ rfl rfl hl.1 rfl (lv_room (Nat.le_of_ble_eq_true rfl)) dMo_perform_293 ⟨Nat.zero_le _, Nat.zero_le _⟩) hD hS hA (fun u_21 H locs hu_21 hP hD hS => ?_)
          obtain ⟨S_21, E_21⟩ := u_21
          (try dsimp only at hu_21 hP hD)
          obtain ⟨hS9, hE9⟩ := hu_21
          subst S_21
          refine lv_goto (tgt := 370) hx hb dMo_perform_296 (by decide) ?_
          exact W.vret hx hb hr (fun t ht hW => ⟨⟨(S, E_21), rfl, (by (try dsimp only) <;> exact (by rw [nI_clamp (by omega)]; subst E_21; exact pfP_8 (by rw [w_13]; decide) rfl rfl rfl hE3 (st_push9 hk rfl) (by unfold stA; rw [if_neg w_1, if_neg w_4, if_neg w_7, if_neg w_8, if_neg w_9, if_neg w_10, if_neg w_11, if_neg w_12]; rw [b2_t (l_lt.mp (Int64.not_le.mp (fun z => c_18 ((lg_cmp_le _ _).mpr z))))]))), by rw [ht]; exact hP, va_K.moved hW.alike hK, hD⟩, hS.F ht⟩) hS.2.2 dMo_perform_370
      by_cases w_21 : o = 9
      · exact absurd (st_nil hst) (by rw [w_21]; decide)
      by_cases w_22 : o = 10
      · exact absurd (st_nil hst) (by rw [w_22]; decide)
      by_cases w_23 : o = 11
      · exact absurd (st_nil hst) (by rw [w_23]; decide)
      by_cases w_24 : o = 12
      · exact absurd (st_nil hst) (by rw [w_24]; decide)
      exact absurd (okO_no hO n13 w_1 w_4 w_7 w_8 w_9 w_10 w_11 w_12 w_13 w_21 w_22 w_23 w_24) id
    · exact absurd (by decide) c_0
  · have et : E 0 1 = nI (T.length + 1) := hk.1
    have hv : E 1 T.length = v := hk.2.1
    have hl5 : T.length + 1 ≤ 4 := hl4
    have hv01 : b01 v := h01 v List.mem_cons_self
    refine W.eq (g2 := F0 m 4 ls [.int (nI (T.length + 1))]) (by rw [et]) ?_
    refine lv_if_le (tgt := 21) hx hb dMo_perform_4 (by decide) (fun c_25 => ?_) (fun c_25 => ?_)
    · exact absurd c_25 (Int32.not_le.mpr (nI_lt (a := 0) (b := T.length + 1) (by omega) (by omega)))
    · refine lv_aload_n hx hb dMo_perform_7 rfl (lv_at hl 0 rfl) ?_
      refine va_get (D := (dC, dI)) (ci := 4) (v := .ref (ad 21)) (C := RMo) (T := TMo) (N := 29) hx hb hc inMo hown hK hP 0 rfl rfl 22 (by decide) (hc _ w583) (fun _ h9 => h9) rfl dMo_perform_8 ?_
      refine lv_aload_n hx hb dMo_perform_11 rfl (lv_at hl 0 rfl) ?_
      refine va_get (D := (dC, dI)) (ci := 4) (v := .int (E 0 1)) (C := RMo) (T := TMo) (N := 29) hx hb hc inMo hown hK hP 0 rfl rfl 23 (by decide) (hc _ w584) (fun _ h9 => h9) rfl dMo_perform_12 ?_
      refine lv_iconst (v := 1) hx hb dMo_perform_15 (by decide +kernel) ?_
      refine lv_isub hx hb dMo_perform_16 ?_
      refine W.eq (g2 := F0 m 17 ls [.int (nI T.length), .ref (ad 21)]) (by rw [et, nI_pred]) ?_
      refine va_iald hx hb hK hP 21 20 rfl rfl (vp_in_nI (by omega) (by decide)) dMo_perform_17 ?_
      refine lv_topi (fun v_27 ev_27 => ?_)
      rw [nI_clamp (by omega)] at ev_27
      subst v_27
      refine W.eq (g2 := F0 m 18 ls [.int v]) (by rw [hv]) ?_
      refine lv_goto (tgt := 22) hx hb dMo_perform_18 (by decide) ?_
      refine lv_istore_n (lv' := [(3, .int v), (0, .ref (ad 0)), (1, .int o), (2, .int a)]) hx hb dMo_perform_22 rfl hl (by decide) rfl (fun ls hl => ?_)
      refine lv_iload_n hx hb dMo_perform_23 rfl (lv_at hl 2 rfl) ?_
      by_cases w_27 : o = 0
      · refine lv_tableIn (tgt := 92) hx hb dMo_perform_24 (by rw [w_27]; decide) (by rw [w_27]; decide) (by rw [w_27]; rfl) (by decide) ?_
        obtain ⟨q, ea, hq⟩ := okO_q hO (by rw [w_27]; decide)
        subst a
        refine lv_aload_n hx hb dMo_perform_92 rfl (lv_at hl 1 rfl) ?_
        refine lv_aload_n hx hb dMo_perform_93 rfl (lv_at hl 1 rfl) ?_
        refine lv_iload_n hx hb dMo_perform_94 rfl (lv_at hl 3 rfl) ?_
        refine vp_callSi (va_Run.run (va_runV (As := [.int (nI q)]) (rest := [.ref (ad 0)]) ⟨hx, hb, hml, hown, hc⟩ (cMo_read l dC dI ad ca s.heap.size S E q (by omega) (hF q hq)) (cwV 1 hc (gV w732 w734 s14 w5 qMo_read) rfl rfl rfl (by decide +kernel) ⟨Nat.le_of_ble_eq_true rfl, Nat.le_of_ble_eq_true rfl⟩) ⟨gPre_blind, va_recv hK hP (ci := 4) (q0 := 0) rfl rfl, (gPre_in hP hK hD)⟩ rfl rfl hl.1 rfl (lv_room (Nat.le_of_ble_eq_true rfl)) dMo_perform_95 ⟨Nat.zero_le _, Nat.zero_le _⟩)) (fun r_29 hr_29 => ?_)
        refine g_callv (va_runV (As := [.int r_29]) (rest := []) ⟨hx, hb, hml, hown, hc⟩ (cMo_push l dC dI ad ca s.heap.size S E r_29 (T.length + 1) (st_le3 hst (by rw [w_27]; decide)) et) (cwV 1 hc (gV w736 w738 s15 w5 qMo_push) rfl rfl rfl (by decide +kernel) ⟨Nat.le_of_ble_eq_true rfl, Nat.le_of_ble_eq_true rfl⟩) ⟨gPre_blind, va_recv hK hP (ci := 4) (q0 := 0) rfl rfl, (gPre_in hP hK hD)⟩ rfl rfl hl.1 rfl (lv_room (Nat.le_of_ble_eq_true rfl)) dMo_perform_98 ⟨Nat.zero_le _, Nat.zero_le _⟩) hD hS hA (fun u_30 H locs hu_30 hP hD hS => ?_)
        obtain ⟨S_30, E_30⟩ := u_30
        (try dsimp only at hu_30 hP hD)
        obtain ⟨hS9, hE9⟩ := hu_30
        subst S_30
        refine lv_goto (tgt := 370) hx hb dMo_perform_101 (by decide) ?_
        exact W.vret hx hb hr (fun t ht hW => ⟨⟨(S, E_30), rfl, (by (try dsimp only) <;> exact (by rw [nI_clamp (by omega)]; subst E_30; exact pfP_8 (by rw [w_27]; decide) rfl rfl rfl hE3 (st_push9 hk rfl) (by unfold stA; rw [if_pos w_27]; rw [hr_29]))), by rw [ht]; exact hP, va_K.moved hW.alike hK, hD⟩, hS.F ht⟩) hS.2.2 dMo_perform_370
      by_cases w_30 : o = 1
      · refine lv_tableIn (tgt := 104) hx hb dMo_perform_24 (by rw [w_30]; decide) (by rw [w_30]; decide) (by rw [w_30]; rfl) (by decide) ?_
        obtain ⟨q, ea, hq⟩ := okO_q hO (by rw [w_30]; decide)
        subst a
        refine lv_aload_n hx hb dMo_perform_104 rfl (lv_at hl 1 rfl) ?_
        refine lv_iconst (v := 1) hx hb dMo_perform_105 (by decide +kernel) ?_
        refine lv_aload_n hx hb dMo_perform_106 rfl (lv_at hl 1 rfl) ?_
        refine lv_iload_n hx hb dMo_perform_107 rfl (lv_at hl 3 rfl) ?_
        refine vp_callSi (va_Run.run (va_runV (As := [.int (nI q)]) (rest := [.int 1, .ref (ad 0)]) ⟨hx, hb, hml, hown, hc⟩ (cMo_read l dC dI ad ca s.heap.size S E q (by omega) (hF q hq)) (cwV 1 hc (gV w732 w734 s14 w5 qMo_read) rfl rfl rfl (by decide +kernel) ⟨Nat.le_of_ble_eq_true rfl, Nat.le_of_ble_eq_true rfl⟩) ⟨gPre_blind, va_recv hK hP (ci := 4) (q0 := 0) rfl rfl, (gPre_in hP hK hD)⟩ rfl rfl hl.1 rfl (lv_room (Nat.le_of_ble_eq_true rfl)) dMo_perform_108 ⟨Nat.zero_le _, Nat.zero_le _⟩)) (fun r_32 hr_32 => ?_)
        refine lv_isub hx hb dMo_perform_111 ?_
        refine g_callv (va_runV (As := [.int (1 - r_32)]) (rest := []) ⟨hx, hb, hml, hown, hc⟩ (cMo_push l dC dI ad ca s.heap.size S E (1 - r_32) (T.length + 1) (st_le3 hst (by rw [w_30]; decide)) et) (cwV 1 hc (gV w736 w738 s15 w5 qMo_push) rfl rfl rfl (by decide +kernel) ⟨Nat.le_of_ble_eq_true rfl, Nat.le_of_ble_eq_true rfl⟩) ⟨gPre_blind, va_recv hK hP (ci := 4) (q0 := 0) rfl rfl, (gPre_in hP hK hD)⟩ rfl rfl hl.1 rfl (lv_room (Nat.le_of_ble_eq_true rfl)) dMo_perform_112 ⟨Nat.zero_le _, Nat.zero_le _⟩) hD hS hA (fun u_33 H locs hu_33 hP hD hS => ?_)
        obtain ⟨S_33, E_33⟩ := u_33
        (try dsimp only at hu_33 hP hD)
        obtain ⟨hS9, hE9⟩ := hu_33
        subst S_33
        refine lv_goto (tgt := 370) hx hb dMo_perform_115 (by decide) ?_
        exact W.vret hx hb hr (fun t ht hW => ⟨⟨(S, E_33), rfl, (by (try dsimp only) <;> exact (by rw [nI_clamp (by omega)]; subst E_33; exact pfP_8 (by rw [w_30]; decide) rfl rfl rfl hE3 (st_push9 hk rfl) (by unfold stA; rw [if_neg w_27, if_pos w_30]; rw [hr_32]))), by rw [ht]; exact hP, va_K.moved hW.alike hK, hD⟩, hS.F ht⟩) hS.2.2 dMo_perform_370
      by_cases w_33 : o = 2
      · refine lv_tableIn (tgt := 118) hx hb dMo_perform_24 (by rw [w_33]; decide) (by rw [w_33]; decide) (by rw [w_33]; rfl) (by decide) ?_
        obtain ⟨q, ea, hq⟩ := okO_q hO (by rw [w_33]; decide)
        subst a
        refine lv_aload_n hx hb dMo_perform_118 rfl (lv_at hl 1 rfl) ?_
        refine va_get (D := (dC, dI)) (ci := 4) (v := .ref (ad 21)) (C := RMo) (T := TMo) (N := 29) hx hb hc inMo hown hK hP 0 rfl rfl 22 (by decide) (hc _ w583) (fun _ h9 => h9) rfl dMo_perform_119 ?_
        refine lv_aload_n hx hb dMo_perform_122 rfl (lv_at hl 1 rfl) ?_
        refine va_get (D := (dC, dI)) (ci := 4) (v := .int (E 0 1)) (C := RMo) (T := TMo) (N := 29) hx hb hc inMo hown hK hP 0 rfl rfl 23 (by decide) (hc _ w584) (fun _ h9 => h9) rfl dMo_perform_123 ?_
        refine lv_iconst (v := 1) hx hb dMo_perform_126 (by decide +kernel) ?_
        refine lv_isub hx hb dMo_perform_127 ?_
        refine W.eq (g2 := F0 m 128 ls [.int (nI T.length), .ref (ad 21)]) (by rw [et, nI_pred]) ?_
        refine lv_iload_n hx hb dMo_perform_128 rfl (lv_at hl 0 rfl) ?_
        refine lv_aload_n hx hb dMo_perform_129 rfl (lv_at hl 1 rfl) ?_
        refine lv_iload_n hx hb dMo_perform_130 rfl (lv_at hl 3 rfl) ?_
        refine vp_callSi (va_Run.run (va_runV (As := [.int (nI q)]) (rest := [.int v, .int (nI T.length), .ref (ad 21)]) ⟨hx, hb, hml, hown, hc⟩ (cMo_read l dC dI ad ca s.heap.size S E q (by omega) (hF q hq)) (cwV 1 hc (gV w732 w734 s14 w5 qMo_read) rfl rfl rfl (by decide +kernel) ⟨Nat.le_of_ble_eq_true rfl, Nat.le_of_ble_eq_true rfl⟩) ⟨gPre_blind, va_recv hK hP (ci := 4) (q0 := 0) rfl rfl, (gPre_in hP hK hD)⟩ rfl rfl hl.1 rfl (lv_room (Nat.le_of_ble_eq_true rfl)) dMo_perform_131 ⟨Nat.zero_le _, Nat.zero_le _⟩)) (fun r_35 hr_35 => ?_)
        refine lv_iand hx hb dMo_perform_134 ?_
        refine lv_topi (fun v_36 ev_36 => ?_)
        refine va_iast hx hb hK hP hD hS 21 20 rfl rfl (vp_in_nI (by omega) (by decide)) dMo_perform_135 (fun H locs hP hD hS => ?_)
        rw [nI_clamp (by omega)] at hP hD
        obtain ⟨E_37, eE_37⟩ : ∃ z9 : Ss, z9 = row E 1 (upd (E 1) T.length v_36) := ⟨_, rfl⟩
        have hP : va_P (dC, dI) vwCl (MW ad ca S E_37) H := by rw [eE_37]; exact hP
        have hD : va_D A (MW ad ca S E_37) := by rw [eE_37]; exact hD
        refine lv_goto (tgt := 370) hx hb dMo_perform_136 (by decide) ?_
        exact W.vret hx hb hr (fun t ht hW => ⟨⟨(S, E_37), rfl, (by (try dsimp only) <;> exact (by rw [nI_clamp (by omega)]; subst E_37; subst v_36; exact pfP_8 (by rw [w_33]; decide) rfl rfl rfl hE3 (st_top9 hk) (by unfold stA; rw [if_neg w_27, if_neg w_30, if_pos w_33]; rw [hr_35]; rfl))), by rw [ht]; exact hP, va_K.moved hW.alike hK, hD⟩, hS.F ht⟩) hS.2.2 dMo_perform_370
      by_cases w_37 : o = 3
      · refine lv_tableIn (tgt := 139) hx hb dMo_perform_24 (by rw [w_37]; decide) (by rw [w_37]; decide) (by rw [w_37]; rfl) (by decide) ?_
        obtain ⟨q, ea, hq⟩ := okO_q hO (by rw [w_37]; decide)
        subst a
        refine lv_aload_n hx hb dMo_perform_139 rfl (lv_at hl 1 rfl) ?_
        refine va_get (D := (dC, dI)) (ci := 4) (v := .ref (ad 21)) (C := RMo) (T := TMo) (N := 29) hx hb hc inMo hown hK hP 0 rfl rfl 22 (by decide) (hc _ w583) (fun _ h9 => h9) rfl dMo_perform_140 ?_
        refine lv_aload_n hx hb dMo_perform_143 rfl (lv_at hl 1 rfl) ?_
        refine va_get (D := (dC, dI)) (ci := 4) (v := .int (E 0 1)) (C := RMo) (T := TMo) (N := 29) hx hb hc inMo hown hK hP 0 rfl rfl 23 (by decide) (hc _ w584) (fun _ h9 => h9) rfl dMo_perform_144 ?_
        refine lv_iconst (v := 1) hx hb dMo_perform_147 (by decide +kernel) ?_
        refine lv_isub hx hb dMo_perform_148 ?_
        refine W.eq (g2 := F0 m 149 ls [.int (nI T.length), .ref (ad 21)]) (by rw [et, nI_pred]) ?_
        refine lv_iload_n hx hb dMo_perform_149 rfl (lv_at hl 0 rfl) ?_
        refine lv_iconst (v := 1) hx hb dMo_perform_150 (by decide +kernel) ?_
        refine lv_aload_n hx hb dMo_perform_151 rfl (lv_at hl 1 rfl) ?_
        refine lv_iload_n hx hb dMo_perform_152 rfl (lv_at hl 3 rfl) ?_
        refine vp_callSi (va_Run.run (va_runV (As := [.int (nI q)]) (rest := [.int 1, .int v, .int (nI T.length), .ref (ad 21)]) ⟨hx, hb, hml, hown, hc⟩ (cMo_read l dC dI ad ca s.heap.size S E q (by omega) (hF q hq)) (cwV 1 hc (gV w732 w734 s14 w5 qMo_read) rfl rfl rfl (by decide +kernel) ⟨Nat.le_of_ble_eq_true rfl, Nat.le_of_ble_eq_true rfl⟩) ⟨gPre_blind, va_recv hK hP (ci := 4) (q0 := 0) rfl rfl, (gPre_in hP hK hD)⟩ rfl rfl hl.1 rfl (lv_room (Nat.le_of_ble_eq_true rfl)) dMo_perform_153 ⟨Nat.zero_le _, Nat.zero_le _⟩)) (fun r_39 hr_39 => ?_)
        refine lv_isub hx hb dMo_perform_156 ?_
        refine lv_iand hx hb dMo_perform_157 ?_
        refine lv_topi (fun v_40 ev_40 => ?_)
        refine va_iast hx hb hK hP hD hS 21 20 rfl rfl (vp_in_nI (by omega) (by decide)) dMo_perform_158 (fun H locs hP hD hS => ?_)
        rw [nI_clamp (by omega)] at hP hD
        obtain ⟨E_41, eE_41⟩ : ∃ z9 : Ss, z9 = row E 1 (upd (E 1) T.length v_40) := ⟨_, rfl⟩
        have hP : va_P (dC, dI) vwCl (MW ad ca S E_41) H := by rw [eE_41]; exact hP
        have hD : va_D A (MW ad ca S E_41) := by rw [eE_41]; exact hD
        refine lv_goto (tgt := 370) hx hb dMo_perform_159 (by decide) ?_
        exact W.vret hx hb hr (fun t ht hW => ⟨⟨(S, E_41), rfl, (by (try dsimp only) <;> exact (by rw [nI_clamp (by omega)]; subst E_41; subst v_40; exact pfP_8 (by rw [w_37]; decide) rfl rfl rfl hE3 (st_top9 hk) (by unfold stA; rw [if_neg w_27, if_neg w_30, if_neg w_33, if_pos w_37]; rw [hr_39]; rfl))), by rw [ht]; exact hP, va_K.moved hW.alike hK, hD⟩, hS.F ht⟩) hS.2.2 dMo_perform_370
      by_cases w_41 : o = 4
      · refine lv_tableIn (tgt := 162) hx hb dMo_perform_24 (by rw [w_41]; decide) (by rw [w_41]; decide) (by rw [w_41]; rfl) (by decide) ?_
        obtain ⟨q, ea, hq⟩ := okO_q hO (by rw [w_41]; decide)
        subst a
        refine lv_aload_n hx hb dMo_perform_162 rfl (lv_at hl 1 rfl) ?_
        refine va_get (D := (dC, dI)) (ci := 4) (v := .ref (ad 21)) (C := RMo) (T := TMo) (N := 29) hx hb hc inMo hown hK hP 0 rfl rfl 22 (by decide) (hc _ w583) (fun _ h9 => h9) rfl dMo_perform_163 ?_
        refine lv_aload_n hx hb dMo_perform_166 rfl (lv_at hl 1 rfl) ?_
        refine va_get (D := (dC, dI)) (ci := 4) (v := .int (E 0 1)) (C := RMo) (T := TMo) (N := 29) hx hb hc inMo hown hK hP 0 rfl rfl 23 (by decide) (hc _ w584) (fun _ h9 => h9) rfl dMo_perform_167 ?_
        refine lv_iconst (v := 1) hx hb dMo_perform_170 (by decide +kernel) ?_
        refine lv_isub hx hb dMo_perform_171 ?_
        refine W.eq (g2 := F0 m 172 ls [.int (nI T.length), .ref (ad 21)]) (by rw [et, nI_pred]) ?_
        refine lv_iload_n hx hb dMo_perform_172 rfl (lv_at hl 0 rfl) ?_
        refine lv_aload_n hx hb dMo_perform_173 rfl (lv_at hl 1 rfl) ?_
        refine lv_iload_n hx hb dMo_perform_174 rfl (lv_at hl 3 rfl) ?_
        refine vp_callSi (va_Run.run (va_runV (As := [.int (nI q)]) (rest := [.int v, .int (nI T.length), .ref (ad 21)]) ⟨hx, hb, hml, hown, hc⟩ (cMo_read l dC dI ad ca s.heap.size S E q (by omega) (hF q hq)) (cwV 1 hc (gV w732 w734 s14 w5 qMo_read) rfl rfl rfl (by decide +kernel) ⟨Nat.le_of_ble_eq_true rfl, Nat.le_of_ble_eq_true rfl⟩) ⟨gPre_blind, va_recv hK hP (ci := 4) (q0 := 0) rfl rfl, (gPre_in hP hK hD)⟩ rfl rfl hl.1 rfl (lv_room (Nat.le_of_ble_eq_true rfl)) dMo_perform_175 ⟨Nat.zero_le _, Nat.zero_le _⟩)) (fun r_43 hr_43 => ?_)
        refine lv_ior hx hb dMo_perform_178 ?_
        refine lv_topi (fun v_44 ev_44 => ?_)
        refine va_iast hx hb hK hP hD hS 21 20 rfl rfl (vp_in_nI (by omega) (by decide)) dMo_perform_179 (fun H locs hP hD hS => ?_)
        rw [nI_clamp (by omega)] at hP hD
        obtain ⟨E_45, eE_45⟩ : ∃ z9 : Ss, z9 = row E 1 (upd (E 1) T.length v_44) := ⟨_, rfl⟩
        have hP : va_P (dC, dI) vwCl (MW ad ca S E_45) H := by rw [eE_45]; exact hP
        have hD : va_D A (MW ad ca S E_45) := by rw [eE_45]; exact hD
        refine lv_goto (tgt := 370) hx hb dMo_perform_180 (by decide) ?_
        exact W.vret hx hb hr (fun t ht hW => ⟨⟨(S, E_45), rfl, (by (try dsimp only) <;> exact (by rw [nI_clamp (by omega)]; subst E_45; subst v_44; exact pfP_8 (by rw [w_41]; decide) rfl rfl rfl hE3 (st_top9 hk) (by unfold stA; rw [if_neg w_27, if_neg w_30, if_neg w_33, if_neg w_37, if_pos w_41]; rw [hr_43]; rfl))), by rw [ht]; exact hP, va_K.moved hW.alike hK, hD⟩, hS.F ht⟩) hS.2.2 dMo_perform_370
      by_cases w_45 : o = 5
      · refine lv_tableIn (tgt := 183) hx hb dMo_perform_24 (by rw [w_45]; decide) (by rw [w_45]; decide) (by rw [w_45]; rfl) (by decide) ?_
        obtain ⟨q, ea, hq⟩ := okO_q hO (by rw [w_45]; decide)
        subst a
        refine lv_aload_n hx hb dMo_perform_183 rfl (lv_at hl 1 rfl) ?_
        refine va_get (D := (dC, dI)) (ci := 4) (v := .ref (ad 21)) (C := RMo) (T := TMo) (N := 29) hx hb hc inMo hown hK hP 0 rfl rfl 22 (by decide) (hc _ w583) (fun _ h9 => h9) rfl dMo_perform_184 ?_
        refine lv_aload_n hx hb dMo_perform_187 rfl (lv_at hl 1 rfl) ?_
        refine va_get (D := (dC, dI)) (ci := 4) (v := .int (E 0 1)) (C := RMo) (T := TMo) (N := 29) hx hb hc inMo hown hK hP 0 rfl rfl 23 (by decide) (hc _ w584) (fun _ h9 => h9) rfl dMo_perform_188 ?_
        refine lv_iconst (v := 1) hx hb dMo_perform_191 (by decide +kernel) ?_
        refine lv_isub hx hb dMo_perform_192 ?_
        refine W.eq (g2 := F0 m 193 ls [.int (nI T.length), .ref (ad 21)]) (by rw [et, nI_pred]) ?_
        refine lv_iload_n hx hb dMo_perform_193 rfl (lv_at hl 0 rfl) ?_
        refine lv_iconst (v := 1) hx hb dMo_perform_194 (by decide +kernel) ?_
        refine lv_aload_n hx hb dMo_perform_195 rfl (lv_at hl 1 rfl) ?_
        refine lv_iload_n hx hb dMo_perform_196 rfl (lv_at hl 3 rfl) ?_
        refine vp_callSi (va_Run.run (va_runV (As := [.int (nI q)]) (rest := [.int 1, .int v, .int (nI T.length), .ref (ad 21)]) ⟨hx, hb, hml, hown, hc⟩ (cMo_read l dC dI ad ca s.heap.size S E q (by omega) (hF q hq)) (cwV 1 hc (gV w732 w734 s14 w5 qMo_read) rfl rfl rfl (by decide +kernel) ⟨Nat.le_of_ble_eq_true rfl, Nat.le_of_ble_eq_true rfl⟩) ⟨gPre_blind, va_recv hK hP (ci := 4) (q0 := 0) rfl rfl, (gPre_in hP hK hD)⟩ rfl rfl hl.1 rfl (lv_room (Nat.le_of_ble_eq_true rfl)) dMo_perform_197 ⟨Nat.zero_le _, Nat.zero_le _⟩)) (fun r_47 hr_47 => ?_)
        refine lv_isub hx hb dMo_perform_200 ?_
        refine lv_ior hx hb dMo_perform_201 ?_
        refine lv_topi (fun v_48 ev_48 => ?_)
        refine va_iast hx hb hK hP hD hS 21 20 rfl rfl (vp_in_nI (by omega) (by decide)) dMo_perform_202 (fun H locs hP hD hS => ?_)
        rw [nI_clamp (by omega)] at hP hD
        obtain ⟨E_49, eE_49⟩ : ∃ z9 : Ss, z9 = row E 1 (upd (E 1) T.length v_48) := ⟨_, rfl⟩
        have hP : va_P (dC, dI) vwCl (MW ad ca S E_49) H := by rw [eE_49]; exact hP
        have hD : va_D A (MW ad ca S E_49) := by rw [eE_49]; exact hD
        refine lv_goto (tgt := 370) hx hb dMo_perform_203 (by decide) ?_
        exact W.vret hx hb hr (fun t ht hW => ⟨⟨(S, E_49), rfl, (by (try dsimp only) <;> exact (by rw [nI_clamp (by omega)]; subst E_49; subst v_48; exact pfP_8 (by rw [w_45]; decide) rfl rfl rfl hE3 (st_top9 hk) (by unfold stA; rw [if_neg w_27, if_neg w_30, if_neg w_33, if_neg w_37, if_neg w_41, if_pos w_45]; rw [hr_47]; rfl))), by rw [ht]; exact hP, va_K.moved hW.alike hK, hD⟩, hS.F ht⟩) hS.2.2 dMo_perform_370
      by_cases w_49 : o = 6
      · refine lv_tableIn (tgt := 206) hx hb dMo_perform_24 (by rw [w_49]; decide) (by rw [w_49]; decide) (by rw [w_49]; rfl) (by decide) ?_
        have hT : 2 ≤ (v :: T).length := st_ge2 hst (by rw [w_49]; decide)
        rcases T with _ | ⟨v2, T⟩
        · exact absurd (show 2 ≤ 1 from hT) (by decide)
        have et : E 0 1 = nI (T.length + 1 + 1) := hk.1
        have hv2 : E 1 T.length = v2 := hk.2.2.1
        have hl6 : T.length + 1 + 1 ≤ 4 := hl4
        refine lv_aload_n hx hb dMo_perform_206 rfl (lv_at hl 1 rfl) ?_
        refine lv_dup hx hb dMo_perform_207 rfl ?_
        refine va_get (D := (dC, dI)) (ci := 4) (v := .int (E 0 1)) (C := RMo) (T := TMo) (N := 29) hx hb hc inMo hown hK hP 0 rfl rfl 23 (by decide) (hc _ w584) (fun _ h9 => h9) rfl dMo_perform_208 ?_
        refine lv_iconst (v := 1) hx hb dMo_perform_211 (by decide +kernel) ?_
        refine lv_isub hx hb dMo_perform_212 ?_
        refine W.eq (g2 := F0 m 213 ls [.int (nI (T.length + 1)), .ref (ad 0)]) (by rw [et, nI_pred]) ?_
        refine va_put (D := (dC, dI)) (ci := 4) (v := .int (nI (T.length + 1))) (ty := .int) (C := RMo) (T := TMo) (N := 29) hx hb hc inMo tyMo tyMo_ok nmMo hown hK hP hD hS 0 rfl rfl 23 (by decide) (hc _ w584) (fun _ h9 => h9) rfl (by decide +kernel) rfl rfl (Nat.le_of_ble_eq_true rfl) dMo_perform_213 (fun H locs hP hD hS => ?_)
        obtain ⟨E_51, eE_51⟩ : ∃ z9 : Ss, z9 = row E 0 (upd (E 0) 1 (nI (T.length + 1))) := ⟨_, rfl⟩
        have hP : va_P (dC, dI) vwCl (MW ad ca S E_51) H := by rw [eE_51]; exact hP
        have hD : va_D A (MW ad ca S E_51) := by rw [eE_51]; exact hD
        refine lv_aload_n hx hb dMo_perform_216 rfl (lv_at hl 1 rfl) ?_
        refine va_get (D := (dC, dI)) (ci := 4) (v := .ref (ad 21)) (C := RMo) (T := TMo) (N := 29) hx hb hc inMo hown hK hP 0 rfl rfl 22 (by decide) (hc _ w583) (fun _ h9 => h9) rfl dMo_perform_217 ?_
        refine lv_aload_n hx hb dMo_perform_220 rfl (lv_at hl 1 rfl) ?_
        refine va_get (D := (dC, dI)) (ci := 4) (v := .int (E_51 0 1)) (C := RMo) (T := TMo) (N := 29) hx hb hc inMo hown hK hP 0 rfl rfl 23 (by decide) (hc _ w584) (fun _ h9 => h9) rfl dMo_perform_221 ?_
        refine lv_iconst (v := 1) hx hb dMo_perform_224 (by decide +kernel) ?_
        refine lv_isub hx hb dMo_perform_225 ?_
        refine W.eq (g2 := F0 m 226 ls [.int (nI T.length), .ref (ad 21)]) (by rw [show E_51 0 1 = nI (T.length + 1) from by rw [eE_51]; rfl, nI_pred]) ?_
        refine lv_iload_n hx hb dMo_perform_226 rfl (lv_at hl 2 rfl) ?_
        refine lv_bipush (v := 6) hx hb dMo_perform_227 (by decide +kernel) ?_
        refine lv_icmp_ne (tgt := 248) hx hb dMo_perform_229 (by decide) (fun c_51 => ?_) (fun c_51 => ?_)
        · exact absurd w_49 c_51
        · refine lv_aload_n hx hb dMo_perform_232 rfl (lv_at hl 1 rfl) ?_
          refine va_get (D := (dC, dI)) (ci := 4) (v := .ref (ad 21)) (C := RMo) (T := TMo) (N := 29) hx hb hc inMo hown hK hP 0 rfl rfl 22 (by decide) (hc _ w583) (fun _ h9 => h9) rfl dMo_perform_233 ?_
          refine lv_aload_n hx hb dMo_perform_236 rfl (lv_at hl 1 rfl) ?_
          refine va_get (D := (dC, dI)) (ci := 4) (v := .int (E_51 0 1)) (C := RMo) (T := TMo) (N := 29) hx hb hc inMo hown hK hP 0 rfl rfl 23 (by decide) (hc _ w584) (fun _ h9 => h9) rfl dMo_perform_237 ?_
          refine lv_iconst (v := 1) hx hb dMo_perform_240 (by decide +kernel) ?_
          refine lv_isub hx hb dMo_perform_241 ?_
          refine W.eq (g2 := F0 m 242 ls [.int (nI T.length), .ref (ad 21), .int (nI T.length), .ref (ad 21)]) (by rw [show E_51 0 1 = nI (T.length + 1) from by rw [eE_51]; rfl, nI_pred]) ?_
          refine va_iald hx hb hK hP 21 20 rfl rfl (vp_in_nI (by omega) (by decide)) dMo_perform_242 ?_
          refine lv_topi (fun v_53 ev_53 => ?_)
          rw [nI_clamp (by omega)] at ev_53
          subst v_53
          refine W.eq (g2 := F0 m 243 ls [.int v2, .int (nI T.length), .ref (ad 21)]) (by rw [show E_51 1 T.length = v2 from by rw [eE_51]; exact hv2]) ?_
          refine lv_iload_n hx hb dMo_perform_243 rfl (lv_at hl 0 rfl) ?_
          refine lv_iand hx hb dMo_perform_244 ?_
          refine lv_goto (tgt := 261) hx hb dMo_perform_245 (by decide) ?_
          refine lv_topi (fun v_54 ev_54 => ?_)
          refine va_iast hx hb hK hP hD hS 21 20 rfl rfl (vp_in_nI (by omega) (by decide)) dMo_perform_261 (fun H locs hP hD hS => ?_)
          rw [nI_clamp (by omega)] at hP hD
          obtain ⟨E_55, eE_55⟩ : ∃ z9 : Ss, z9 = row E_51 1 (upd (E_51 1) T.length v_54) := ⟨_, rfl⟩
          have hP : va_P (dC, dI) vwCl (MW ad ca S E_55) H := by rw [eE_55]; exact hP
          have hD : va_D A (MW ad ca S E_55) := by rw [eE_55]; exact hD
          refine lv_goto (tgt := 370) hx hb dMo_perform_262 (by decide) ?_
          exact W.vret hx hb hr (fun t ht hW => ⟨⟨(S, E_55), rfl, (by (try dsimp only) <;> exact (by subst E_55; subst v_54; subst E_51; exact pfP_8 (by rw [w_49]; decide) rfl rfl rfl hE3 (st_pop9 hk) (by unfold stA; rw [if_neg w_27, if_neg w_30, if_neg w_33, if_neg w_37, if_neg w_41, if_neg w_45, if_pos w_49]; rfl))), by rw [ht]; exact hP, va_K.moved hW.alike hK, hD⟩, hS.F ht⟩) hS.2.2 dMo_perform_370
      by_cases w_55 : o = 7
      · refine lv_tableIn (tgt := 206) hx hb dMo_perform_24 (by rw [w_55]; decide) (by rw [w_55]; decide) (by rw [w_55]; rfl) (by decide) ?_
        have hT : 2 ≤ (v :: T).length := st_ge2 hst (by rw [w_55]; decide)
        rcases T with _ | ⟨v2, T⟩
        · exact absurd (show 2 ≤ 1 from hT) (by decide)
        have et : E 0 1 = nI (T.length + 1 + 1) := hk.1
        have hv2 : E 1 T.length = v2 := hk.2.2.1
        have hl6 : T.length + 1 + 1 ≤ 4 := hl4
        refine lv_aload_n hx hb dMo_perform_206 rfl (lv_at hl 1 rfl) ?_
        refine lv_dup hx hb dMo_perform_207 rfl ?_
        refine va_get (D := (dC, dI)) (ci := 4) (v := .int (E 0 1)) (C := RMo) (T := TMo) (N := 29) hx hb hc inMo hown hK hP 0 rfl rfl 23 (by decide) (hc _ w584) (fun _ h9 => h9) rfl dMo_perform_208 ?_
        refine lv_iconst (v := 1) hx hb dMo_perform_211 (by decide +kernel) ?_
        refine lv_isub hx hb dMo_perform_212 ?_
        refine W.eq (g2 := F0 m 213 ls [.int (nI (T.length + 1)), .ref (ad 0)]) (by rw [et, nI_pred]) ?_
        refine va_put (D := (dC, dI)) (ci := 4) (v := .int (nI (T.length + 1))) (ty := .int) (C := RMo) (T := TMo) (N := 29) hx hb hc inMo tyMo tyMo_ok nmMo hown hK hP hD hS 0 rfl rfl 23 (by decide) (hc _ w584) (fun _ h9 => h9) rfl (by decide +kernel) rfl rfl (Nat.le_of_ble_eq_true rfl) dMo_perform_213 (fun H locs hP hD hS => ?_)
        obtain ⟨E_57, eE_57⟩ : ∃ z9 : Ss, z9 = row E 0 (upd (E 0) 1 (nI (T.length + 1))) := ⟨_, rfl⟩
        have hP : va_P (dC, dI) vwCl (MW ad ca S E_57) H := by rw [eE_57]; exact hP
        have hD : va_D A (MW ad ca S E_57) := by rw [eE_57]; exact hD
        refine lv_aload_n hx hb dMo_perform_216 rfl (lv_at hl 1 rfl) ?_
        refine va_get (D := (dC, dI)) (ci := 4) (v := .ref (ad 21)) (C := RMo) (T := TMo) (N := 29) hx hb hc inMo hown hK hP 0 rfl rfl 22 (by decide) (hc _ w583) (fun _ h9 => h9) rfl dMo_perform_217 ?_
        refine lv_aload_n hx hb dMo_perform_220 rfl (lv_at hl 1 rfl) ?_
        refine va_get (D := (dC, dI)) (ci := 4) (v := .int (E_57 0 1)) (C := RMo) (T := TMo) (N := 29) hx hb hc inMo hown hK hP 0 rfl rfl 23 (by decide) (hc _ w584) (fun _ h9 => h9) rfl dMo_perform_221 ?_
        refine lv_iconst (v := 1) hx hb dMo_perform_224 (by decide +kernel) ?_
        refine lv_isub hx hb dMo_perform_225 ?_
        refine W.eq (g2 := F0 m 226 ls [.int (nI T.length), .ref (ad 21)]) (by rw [show E_57 0 1 = nI (T.length + 1) from by rw [eE_57]; rfl, nI_pred]) ?_
        refine lv_iload_n hx hb dMo_perform_226 rfl (lv_at hl 2 rfl) ?_
        refine lv_bipush (v := 6) hx hb dMo_perform_227 (by decide +kernel) ?_
        refine lv_icmp_ne (tgt := 248) hx hb dMo_perform_229 (by decide) (fun c_57 => ?_) (fun c_57 => ?_)
        · refine lv_aload_n hx hb dMo_perform_248 rfl (lv_at hl 1 rfl) ?_
          refine va_get (D := (dC, dI)) (ci := 4) (v := .ref (ad 21)) (C := RMo) (T := TMo) (N := 29) hx hb hc inMo hown hK hP 0 rfl rfl 22 (by decide) (hc _ w583) (fun _ h9 => h9) rfl dMo_perform_249 ?_
          refine lv_aload_n hx hb dMo_perform_252 rfl (lv_at hl 1 rfl) ?_
          refine va_get (D := (dC, dI)) (ci := 4) (v := .int (E_57 0 1)) (C := RMo) (T := TMo) (N := 29) hx hb hc inMo hown hK hP 0 rfl rfl 23 (by decide) (hc _ w584) (fun _ h9 => h9) rfl dMo_perform_253 ?_
          refine lv_iconst (v := 1) hx hb dMo_perform_256 (by decide +kernel) ?_
          refine lv_isub hx hb dMo_perform_257 ?_
          refine W.eq (g2 := F0 m 258 ls [.int (nI T.length), .ref (ad 21), .int (nI T.length), .ref (ad 21)]) (by rw [show E_57 0 1 = nI (T.length + 1) from by rw [eE_57]; rfl, nI_pred]) ?_
          refine va_iald hx hb hK hP 21 20 rfl rfl (vp_in_nI (by omega) (by decide)) dMo_perform_258 ?_
          refine lv_topi (fun v_59 ev_59 => ?_)
          rw [nI_clamp (by omega)] at ev_59
          subst v_59
          refine W.eq (g2 := F0 m 259 ls [.int v2, .int (nI T.length), .ref (ad 21)]) (by rw [show E_57 1 T.length = v2 from by rw [eE_57]; exact hv2]) ?_
          refine lv_iload_n hx hb dMo_perform_259 rfl (lv_at hl 0 rfl) ?_
          refine lv_ior hx hb dMo_perform_260 ?_
          refine lv_topi (fun v_60 ev_60 => ?_)
          refine va_iast hx hb hK hP hD hS 21 20 rfl rfl (vp_in_nI (by omega) (by decide)) dMo_perform_261 (fun H locs hP hD hS => ?_)
          rw [nI_clamp (by omega)] at hP hD
          obtain ⟨E_61, eE_61⟩ : ∃ z9 : Ss, z9 = row E_57 1 (upd (E_57 1) T.length v_60) := ⟨_, rfl⟩
          have hP : va_P (dC, dI) vwCl (MW ad ca S E_61) H := by rw [eE_61]; exact hP
          have hD : va_D A (MW ad ca S E_61) := by rw [eE_61]; exact hD
          refine lv_goto (tgt := 370) hx hb dMo_perform_262 (by decide) ?_
          exact W.vret hx hb hr (fun t ht hW => ⟨⟨(S, E_61), rfl, (by (try dsimp only) <;> exact (by subst E_61; subst v_60; subst E_57; exact pfP_8 (by rw [w_55]; decide) rfl rfl rfl hE3 (st_pop9 hk) (by unfold stA; rw [if_neg w_27, if_neg w_30, if_neg w_33, if_neg w_37, if_neg w_41, if_neg w_45, if_neg w_49, if_pos w_55]; rfl))), by rw [ht]; exact hP, va_K.moved hW.alike hK, hD⟩, hS.F ht⟩) hS.2.2 dMo_perform_370
        · exact absurd c_57 w_49
      by_cases w_61 : o = 8
      · refine lv_tableIn (tgt := 265) hx hb dMo_perform_24 (by rw [w_61]; decide) (by rw [w_61]; decide) (by rw [w_61]; rfl) (by decide) ?_
        obtain ⟨q, ea, hq⟩ := okO_q8 hO w_61
        subst a
        refine lv_aload_n hx hb dMo_perform_265 rfl (lv_at hl 1 rfl) ?_
        refine lv_aload_n hx hb dMo_perform_266 rfl (lv_at hl 1 rfl) ?_
        refine va_get (D := (dC, dI)) (ci := 4) (v := .ref (ad 5)) (C := RMo) (T := TMo) (N := 29) hx hb hc inMo hown hK hP 0 rfl rfl 5 (by decide) (hc _ w566) (fun _ h9 => h9) rfl dMo_perform_267 ?_
        refine lv_iload_n hx hb dMo_perform_270 rfl (lv_at hl 3 rfl) ?_
        refine lv_bipush (v := 8) hx hb dMo_perform_271 (by decide +kernel) ?_
        refine lv_idiv hx hb dMo_perform_273 (by decide) ?_
        refine lv_topi (fun v_63 ev_63 => ?_)
        rw [show nI q / 8 = nI (q / 8) from pk_div (d := 8) (by omega) (by decide) (by decide)] at ev_63
        subst v_63
        refine va_lald hx hb hK hP 5 4 rfl rfl (vp_in_nI (by omega) (by decide)) dMo_perform_274 ?_
        refine lv_topl (fun v_64 ev_64 => ?_)
        rw [nI_clamp (by omega)] at ev_64
        have ev_64 : v_64 = (S 5 (q / 8)).toInt64 := ev_64
        subst v_64
        refine lv_aload_n hx hb dMo_perform_275 rfl (lv_at hl 1 rfl) ?_
        refine va_get (D := (dC, dI)) (ci := 4) (v := .ref (ad 5)) (C := RMo) (T := TMo) (N := 29) hx hb hc inMo hown hK hP 0 rfl rfl 5 (by decide) (hc _ w566) (fun _ h9 => h9) rfl dMo_perform_276 ?_
        refine lv_iload_n hx hb dMo_perform_279 rfl (lv_at hl 3 rfl) ?_
        refine lv_bipush (v := 8) hx hb dMo_perform_280 (by decide +kernel) ?_
        refine lv_irem hx hb dMo_perform_282 (by decide) ?_
        refine lv_topi (fun v_65 ev_65 => ?_)
        rw [show nI q - nI q / 8 * 8 = nI (q % 8) from pk_rem (d := 8) (by omega) (by decide) (by decide)] at ev_65
        subst v_65
        refine va_lald hx hb hK hP 5 4 rfl rfl (vp_in_nI (by omega) (by decide)) dMo_perform_283 ?_
        refine lv_topl (fun v_66 ev_66 => ?_)
        rw [nI_clamp (by omega)] at ev_66
        have ev_66 : v_66 = (S 5 (q % 8)).toInt64 := ev_66
        subst v_66
        refine W.lcmp hx hb dMo_perform_284 ?_
        refine lv_if_le (tgt := 292) hx hb dMo_perform_285 (by decide) (fun c_66 => ?_) (fun c_66 => ?_)
        · refine lv_iconst (v := 0) hx hb dMo_perform_292 (by decide +kernel) ?_
          refine g_callv (va_runV (As := [.int 0]) (rest := []) ⟨hx, hb, hml, hown, hc⟩ (cMo_push l dC dI ad ca s.heap.size S E 0 (T.length + 1) (st_le3 hst (by rw [w_61]; decide)) et) (cwV 1 hc (gV w736 w738 s15 w5 qMo_push) rfl rfl rfl (by decide +kernel) ⟨Nat.le_of_ble_eq_true rfl, Nat.le_of_ble_eq_true rfl⟩) ⟨gPre_blind, va_recv hK hP (ci := 4) (q0 := 0) rfl rfl, (gPre_in hP hK hD)⟩ rfl rfl hl.1 rfl (lv_room (Nat.le_of_ble_eq_true rfl)) dMo_perform_293 ⟨Nat.zero_le _, Nat.zero_le _⟩) hD hS hA (fun u_68 H locs hu_68 hP hD hS => ?_)
          obtain ⟨S_68, E_68⟩ := u_68
          (try dsimp only at hu_68 hP hD)
          obtain ⟨hS9, hE9⟩ := hu_68
          subst S_68
          refine lv_goto (tgt := 370) hx hb dMo_perform_296 (by decide) ?_
          exact W.vret hx hb hr (fun t ht hW => ⟨⟨(S, E_68), rfl, (by (try dsimp only) <;> exact (by rw [nI_clamp (by omega)]; subst E_68; exact pfP_8 (by rw [w_61]; decide) rfl rfl rfl hE3 (st_push9 hk rfl) (by unfold stA; rw [if_neg w_27, if_neg w_30, if_neg w_33, if_neg w_37, if_neg w_41, if_neg w_45, if_neg w_49, if_neg w_55]; rw [b2_f (Int32.not_lt.mpr (l_le.mp ((lg_cmp_le _ _).mp c_66)))]))), by rw [ht]; exact hP, va_K.moved hW.alike hK, hD⟩, hS.F ht⟩) hS.2.2 dMo_perform_370
        · refine lv_iconst (v := 1) hx hb dMo_perform_288 (by decide +kernel) ?_
          refine lv_goto (tgt := 293) hx hb dMo_perform_289 (by decide) ?_
          refine g_callv (va_runV (As := [.int 1]) (rest := []) ⟨hx, hb, hml, hown, hc⟩ (cMo_push l dC dI ad ca s.heap.size S E 1 (T.length + 1) (st_le3 hst (by rw [w_61]; decide)) et) (cwV 1 hc (gV w736 w738 s15 w5 qMo_push) rfl rfl rfl (by decide +kernel) ⟨Nat.le_of_ble_eq_true rfl, Nat.le_of_ble_eq_true rfl⟩) ⟨gPre_blind, va_recv hK hP (ci := 4) (q0 := 0) rfl rfl, (gPre_in hP hK hD)⟩ rfl rfl hl.1 rfl (lv_room (Nat.le_of_ble_eq_true rfl)) dMo_perform_293 ⟨Nat.zero_le _, Nat.zero_le _⟩) hD hS hA (fun u_69 H locs hu_69 hP hD hS => ?_)
          obtain ⟨S_69, E_69⟩ := u_69
          (try dsimp only at hu_69 hP hD)
          obtain ⟨hS9, hE9⟩ := hu_69
          subst S_69
          refine lv_goto (tgt := 370) hx hb dMo_perform_296 (by decide) ?_
          exact W.vret hx hb hr (fun t ht hW => ⟨⟨(S, E_69), rfl, (by (try dsimp only) <;> exact (by rw [nI_clamp (by omega)]; subst E_69; exact pfP_8 (by rw [w_61]; decide) rfl rfl rfl hE3 (st_push9 hk rfl) (by unfold stA; rw [if_neg w_27, if_neg w_30, if_neg w_33, if_neg w_37, if_neg w_41, if_neg w_45, if_neg w_49, if_neg w_55]; rw [b2_t (l_lt.mp (Int64.not_le.mp (fun z => c_66 ((lg_cmp_le _ _).mpr z))))]))), by rw [ht]; exact hP, va_K.moved hW.alike hK, hD⟩, hS.F ht⟩) hS.2.2 dMo_perform_370
      by_cases w_69 : o = 9
      · refine lv_tableIn (tgt := 299) hx hb dMo_perform_24 (by rw [w_69]; decide) (by rw [w_69]; decide) (by rw [w_69]; rfl) (by decide) ?_
        obtain ⟨m0, hm10, em, hB⟩ := hPr.1
        obtain ⟨q, hj, ea⟩ := wi_made hm10 (by rw [← em]; exact okO_9 hO w_69)
        subst a
        have hq10 : q < 10 := by omega
        refine lv_aload_n hx hb dMo_perform_299 rfl (lv_at hl 1 rfl) ?_
        refine lv_iload_n hx hb dMo_perform_300 rfl (lv_at hl 3 rfl) ?_
        refine lv_iload_n hx hb dMo_perform_301 rfl (lv_at hl 0 rfl) ?_
        refine g_callv (va_runV (As := [.int (nI q), .int v]) (rest := []) ⟨hx, hb, hml, hown, hc⟩ (cMo_work l dC dI ad ca s.heap.size S E q v (by omega) (hB q hj) hPr.2.2.2.2.1 hF hv01 hE3) (cwV 2 hc (gV w740 w742 s16 w5 qMo_work) rfl rfl rfl (by decide +kernel) ⟨Nat.le_of_ble_eq_true rfl, Nat.le_of_ble_eq_true rfl⟩) ⟨gPre_blind, va_recv hK hP (ci := 4) (q0 := 0) rfl rfl, (gPre_in hP hK hD)⟩ rfl rfl hl.1 rfl (lv_room (Nat.le_of_ble_eq_true rfl)) dMo_perform_302 ⟨Nat.zero_le _, Nat.zero_le _⟩) hD hS hA (fun u_71 H locs hu_71 hP hD hS => ?_)
        obtain ⟨S_71, E_71⟩ := u_71
        (try dsimp only at hu_71 hP hD)
        by_cases hf : failB S q v
        · obtain ⟨hz1, hz2⟩ := hu_71.1 hf
          subst S_71
          subst E_71
          refine lv_aload_n hx hb dMo_perform_305 rfl (lv_at hl 1 rfl) ?_
          refine va_get (D := (dC, dI)) (ci := 4) (v := .ref (ad 21)) (C := RMo) (T := TMo) (N := 29) hx hb hc inMo hown hK hP 0 rfl rfl 22 (by decide) (hc _ w583) (fun _ h9 => h9) rfl dMo_perform_306 ?_
          refine lv_aload_n hx hb dMo_perform_309 rfl (lv_at hl 1 rfl) ?_
          refine va_get (D := (dC, dI)) (ci := 4) (v := .int ((row E 0 (upd (E 0) 3 3)) 0 1)) (C := RMo) (T := TMo) (N := 29) hx hb hc inMo hown hK hP 0 rfl rfl 23 (by decide) (hc _ w584) (fun _ h9 => h9) rfl dMo_perform_310 ?_
          refine lv_iconst (v := 1) hx hb dMo_perform_313 (by decide +kernel) ?_
          refine lv_isub hx hb dMo_perform_314 ?_
          refine W.eq (g2 := F0 m 315 ls [.int (nI T.length), .ref (ad 21)]) (by rw [show (row E 0 (upd (E 0) 3 3)) 0 1 = nI (T.length + 1) from et, nI_pred]) ?_
          refine lv_aload_n hx hb dMo_perform_315 rfl (lv_at hl 1 rfl) ?_
          refine va_get (D := (dC, dI)) (ci := 4) (v := .ref (ad 11)) (C := RMo) (T := TMo) (N := 29) hx hb hc inMo hown hK hP 0 rfl rfl 11 (by decide) (hc _ w572) (fun _ h9 => h9) rfl dMo_perform_316 ?_
          refine lv_iload_n hx hb dMo_perform_319 rfl (lv_at hl 3 rfl) ?_
          refine va_iald hx hb hK hP 11 10 rfl rfl (vp_in_nI (by omega) (by decide)) dMo_perform_320 ?_
          refine lv_topi (fun v_72 ev_72 => ?_)
          rw [nI_clamp (by omega)] at ev_72
          subst v_72
          refine va_iast hx hb hK hP hD hS 21 20 rfl rfl (vp_in_nI (by omega) (by decide)) dMo_perform_321 (fun H locs hP hD hS => ?_)
          rw [nI_clamp (by omega)] at hP hD
          obtain ⟨E_73, eE_73⟩ : ∃ z9 : Ss, z9 = row (row E 0 (upd (E 0) 3 3)) 1 (upd ((row E 0 (upd (E 0) 3 3)) 1) T.length (S 19 q)) := ⟨_, rfl⟩
          have hP : va_P (dC, dI) vwCl (MW ad ca S E_73) H := by rw [eE_73]; exact hP
          have hD : va_D A (MW ad ca S E_73) := by rw [eE_73]; exact hD
          refine lv_goto (tgt := 370) hx hb dMo_perform_322 (by decide) ?_
          exact W.vret hx hb hr (fun t ht hW => ⟨⟨(S, E_73), rfl, (by (try dsimp only) <;> exact (by rw [nI_clamp (by omega)]; subst E_73; exact pfP_9f w_69 hf rfl rfl rfl)), by rw [ht]; exact hP, va_K.moved hW.alike hK, hD⟩, hS.F ht⟩) hS.2.2 dMo_perform_370
        · obtain ⟨hz1, hz2⟩ := hu_71.2 hf
          subst S_71
          subst E_71
          refine lv_aload_n hx hb dMo_perform_305 rfl (lv_at hl 1 rfl) ?_
          refine va_get (D := (dC, dI)) (ci := 4) (v := .ref (ad 21)) (C := RMo) (T := TMo) (N := 29) hx hb hc inMo hown hK hP 0 rfl rfl 22 (by decide) (hc _ w583) (fun _ h9 => h9) rfl dMo_perform_306 ?_
          refine lv_aload_n hx hb dMo_perform_309 rfl (lv_at hl 1 rfl) ?_
          refine va_get (D := (dC, dI)) (ci := 4) (v := .int (E 0 1)) (C := RMo) (T := TMo) (N := 29) hx hb hc inMo hown hK hP 0 rfl rfl 23 (by decide) (hc _ w584) (fun _ h9 => h9) rfl dMo_perform_310 ?_
          refine lv_iconst (v := 1) hx hb dMo_perform_313 (by decide +kernel) ?_
          refine lv_isub hx hb dMo_perform_314 ?_
          refine W.eq (g2 := F0 m 315 ls [.int (nI T.length), .ref (ad 21)]) (by rw [show E 0 1 = nI (T.length + 1) from et, nI_pred]) ?_
          refine lv_aload_n hx hb dMo_perform_315 rfl (lv_at hl 1 rfl) ?_
          refine va_get (D := (dC, dI)) (ci := 4) (v := .ref (ad 11)) (C := RMo) (T := TMo) (N := 29) hx hb hc inMo hown hK hP 0 rfl rfl 11 (by decide) (hc _ w572) (fun _ h9 => h9) rfl dMo_perform_316 ?_
          refine lv_iload_n hx hb dMo_perform_319 rfl (lv_at hl 3 rfl) ?_
          refine va_iald hx hb hK hP 11 10 rfl rfl (vp_in_nI (by omega) (by decide)) dMo_perform_320 ?_
          refine lv_topi (fun v_74 ev_74 => ?_)
          rw [nI_clamp (by omega)] at ev_74
          subst v_74
          refine W.eq (g2 := F0 m 321 ls [.int (outB S q v), .int (nI T.length), .ref (ad 21)]) (by rw [fu_out]) ?_
          refine va_iast hx hb hK hP hD hS 21 20 rfl rfl (vp_in_nI (by omega) (by decide)) dMo_perform_321 (fun H locs hP hD hS => ?_)
          rw [nI_clamp (by omega)] at hP hD
          obtain ⟨E_75, eE_75⟩ : ∃ z9 : Ss, z9 = row E 1 (upd (E 1) T.length (outB S q v)) := ⟨_, rfl⟩
          have hP : va_P (dC, dI) vwCl (MW ad ca (bw S q v) E_75) H := by rw [eE_75]; exact hP
          have hD : va_D A (MW ad ca (bw S q v) E_75) := by rw [eE_75]; exact hD
          refine lv_goto (tgt := 370) hx hb dMo_perform_322 (by decide) ?_
          exact W.vret hx hb hr (fun t ht hW => ⟨⟨((bw S q v), E_75), rfl, (by (try dsimp only) <;> exact (by rw [nI_clamp (by omega)]; subst E_75; exact pfP_9 w_69 hf rfl rfl rfl hE3 (st_top9 hk))), by rw [ht]; exact hP, va_K.moved hW.alike hK, hD⟩, hS.F ht⟩) hS.2.2 dMo_perform_370
      by_cases w_75 : o = 10
      · refine lv_tableIn (tgt := 325) hx hb dMo_perform_24 (by rw [w_75]; decide) (by rw [w_75]; decide) (by rw [w_75]; rfl) (by decide) ?_
        obtain ⟨q, ea, hq⟩ := okO_q10 hO (by rw [w_75]; decide)
        subst a
        refine lv_aload_n hx hb dMo_perform_325 rfl (lv_at hl 1 rfl) ?_
        refine va_get (D := (dC, dI)) (ci := 4) (v := .ref (ad 1)) (C := RMo) (T := TMo) (N := 29) hx hb hc inMo hown hK hP 0 rfl rfl 1 (by decide) (hc _ w562) (fun _ h9 => h9) rfl dMo_perform_326 ?_
        refine lv_iload_n hx hb dMo_perform_329 rfl (lv_at hl 3 rfl) ?_
        refine lv_iload_n hx hb dMo_perform_330 rfl (lv_at hl 0 rfl) ?_
        refine va_iast hx hb hK hP hD hS 1 0 rfl rfl (vp_in_nI (by omega) (by decide)) dMo_perform_331 (fun H locs hP hD hS => ?_)
        rw [nI_clamp (by omega)] at hP hD
        obtain ⟨S_77, eS_77⟩ : ∃ z9 : Ss, z9 = row S 1 (upd (S 1) q v) := ⟨_, rfl⟩
        have hP : va_P (dC, dI) vwCl (MW ad ca S_77 E) H := by rw [eS_77]; exact hP
        have hD : va_D A (MW ad ca S_77 E) := by rw [eS_77]; exact hD
        refine lv_goto (tgt := 370) hx hb dMo_perform_332 (by decide) ?_
        exact W.vret hx hb hr (fun t ht hW => ⟨⟨(S_77, E), rfl, (by (try dsimp only) <;> exact (by rw [nI_clamp (by omega)]; subst S_77; exact pfP_10 (by rw [w_75]; decide) hE3 hk (by unfold asg; rw [if_pos w_75]; rfl))), by rw [ht]; exact hP, va_K.moved hW.alike hK, hD⟩, hS.F ht⟩) hS.2.2 dMo_perform_370
      by_cases w_77 : o = 11
      · refine lv_tableIn (tgt := 335) hx hb dMo_perform_24 (by rw [w_77]; decide) (by rw [w_77]; decide) (by rw [w_77]; rfl) (by decide) ?_
        obtain ⟨q, ea, hq⟩ := okO_q10 hO (by rw [w_77]; decide)
        subst a
        refine lv_iload_n hx hb dMo_perform_335 rfl (lv_at hl 0 rfl) ?_
        refine lv_iconst (v := 1) hx hb dMo_perform_336 (by decide +kernel) ?_
        refine lv_icmp_ne (tgt := 370) hx hb dMo_perform_337 (by decide) (fun c_78 => ?_) (fun c_78 => ?_)
        · exact W.vret hx hb hr (fun t ht hW => ⟨⟨(S, E), rfl, (by (try dsimp only) <;> exact (by rw [nI_clamp (by omega)]; exact pfP_10 (by rw [w_77]; decide) hE3 hk (by unfold asg; rw [if_neg (by rw [w_77]; decide), if_neg (show ¬ hd (v :: T) = 1 from c_78)]))), by rw [ht]; exact hP, va_K.moved hW.alike hK, hD⟩, hS.F ht⟩) hS.2.2 dMo_perform_370
        · refine lv_aload_n hx hb dMo_perform_340 rfl (lv_at hl 1 rfl) ?_
          refine va_get (D := (dC, dI)) (ci := 4) (v := .ref (ad 1)) (C := RMo) (T := TMo) (N := 29) hx hb hc inMo hown hK hP 0 rfl rfl 1 (by decide) (hc _ w562) (fun _ h9 => h9) rfl dMo_perform_341 ?_
          refine lv_iload_n hx hb dMo_perform_344 rfl (lv_at hl 3 rfl) ?_
          refine lv_iconst (v := 1) hx hb dMo_perform_345 (by decide +kernel) ?_
          refine va_iast hx hb hK hP hD hS 1 0 rfl rfl (vp_in_nI (by omega) (by decide)) dMo_perform_346 (fun H locs hP hD hS => ?_)
          rw [nI_clamp (by omega)] at hP hD
          obtain ⟨S_80, eS_80⟩ : ∃ z9 : Ss, z9 = row S 1 (upd (S 1) q 1) := ⟨_, rfl⟩
          have hP : va_P (dC, dI) vwCl (MW ad ca S_80 E) H := by rw [eS_80]; exact hP
          have hD : va_D A (MW ad ca S_80 E) := by rw [eS_80]; exact hD
          refine lv_goto (tgt := 370) hx hb dMo_perform_347 (by decide) ?_
          exact W.vret hx hb hr (fun t ht hW => ⟨⟨(S_80, E), rfl, (by (try dsimp only) <;> exact (by rw [nI_clamp (by omega)]; subst S_80; exact pfP_10 (by rw [w_77]; decide) hE3 hk (by unfold asg; rw [if_neg (by rw [w_77]; decide), if_pos (show hd (v :: T) = 1 from c_78), b2_t w_77]))), by rw [ht]; exact hP, va_K.moved hW.alike hK, hD⟩, hS.F ht⟩) hS.2.2 dMo_perform_370
      by_cases w_80 : o = 12
      · refine lv_tableIn (tgt := 350) hx hb dMo_perform_24 (by rw [w_80]; decide) (by rw [w_80]; decide) (by rw [w_80]; rfl) (by decide) ?_
        obtain ⟨q, ea, hq⟩ := okO_q10 hO (by rw [w_80]; decide)
        subst a
        refine lv_iload_n hx hb dMo_perform_350 rfl (lv_at hl 0 rfl) ?_
        refine lv_iconst (v := 1) hx hb dMo_perform_351 (by decide +kernel) ?_
        refine lv_icmp_ne (tgt := 370) hx hb dMo_perform_352 (by decide) (fun c_81 => ?_) (fun c_81 => ?_)
        · exact W.vret hx hb hr (fun t ht hW => ⟨⟨(S, E), rfl, (by (try dsimp only) <;> exact (by rw [nI_clamp (by omega)]; exact pfP_10 (by rw [w_80]; decide) hE3 hk (by unfold asg; rw [if_neg (by rw [w_80]; decide), if_neg (show ¬ hd (v :: T) = 1 from c_81)]))), by rw [ht]; exact hP, va_K.moved hW.alike hK, hD⟩, hS.F ht⟩) hS.2.2 dMo_perform_370
        · refine lv_aload_n hx hb dMo_perform_355 rfl (lv_at hl 1 rfl) ?_
          refine va_get (D := (dC, dI)) (ci := 4) (v := .ref (ad 1)) (C := RMo) (T := TMo) (N := 29) hx hb hc inMo hown hK hP 0 rfl rfl 1 (by decide) (hc _ w562) (fun _ h9 => h9) rfl dMo_perform_356 ?_
          refine lv_iload_n hx hb dMo_perform_359 rfl (lv_at hl 3 rfl) ?_
          refine lv_iconst (v := 0) hx hb dMo_perform_360 (by decide +kernel) ?_
          refine va_iast hx hb hK hP hD hS 1 0 rfl rfl (vp_in_nI (by omega) (by decide)) dMo_perform_361 (fun H locs hP hD hS => ?_)
          rw [nI_clamp (by omega)] at hP hD
          obtain ⟨S_83, eS_83⟩ : ∃ z9 : Ss, z9 = row S 1 (upd (S 1) q 0) := ⟨_, rfl⟩
          have hP : va_P (dC, dI) vwCl (MW ad ca S_83 E) H := by rw [eS_83]; exact hP
          have hD : va_D A (MW ad ca S_83 E) := by rw [eS_83]; exact hD
          refine lv_goto (tgt := 370) hx hb dMo_perform_362 (by decide) ?_
          exact W.vret hx hb hr (fun t ht hW => ⟨⟨(S_83, E), rfl, (by (try dsimp only) <;> exact (by rw [nI_clamp (by omega)]; subst S_83; exact pfP_10 (by rw [w_80]; decide) hE3 hk (by unfold asg; rw [if_neg (by rw [w_80]; decide), if_pos (show hd (v :: T) = 1 from c_81), b2_f (by rw [w_80]; decide)]))), by rw [ht]; exact hP, va_K.moved hW.alike hK, hD⟩, hS.F ht⟩) hS.2.2 dMo_perform_370
      exact absurd (okO_no hO n13 w_27 w_30 w_33 w_37 w_41 w_45 w_49 w_55 w_61 w_69 w_75 w_77 w_80) id
