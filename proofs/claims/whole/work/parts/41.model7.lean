theorem four9 (P Q R9 : Prop) [Decidable P] [Decidable Q] [Decidable R9] : (P ∧ Q) ∨ (P ∧ ¬ Q) ∨ (¬ P ∧ R9) ∨ (¬ P ∧ ¬ R9) := by
  by_cases hp : P
  · by_cases hq : Q
    · exact Or.inl ⟨hp, hq⟩
    · exact Or.inr (Or.inl ⟨hp, hq⟩)
  · by_cases hr : R9
    · exact Or.inr (Or.inr (Or.inl ⟨hp, hr⟩))
    · exact Or.inr (Or.inr (Or.inr ⟨hp, hr⟩))

set_option maxHeartbeats 4000000 in
set_option maxRecDepth 100000 in
theorem cMo_rung (l : Launch) (dC : Nat → ClassId) (dI : Nat → Nat → Nat) (ad : Nat → Nat) (ca : Nat → ClassId) (sz : Nat) (S E : Ss) (rg n : Nat) (d : Nat → Nat) (hr9 : rg < 12) (hPr : Pr S) (hR : okRg S 10 rg n d) (hE3 : E 0 3 = 0) : Met l yMo_rung (kMo_rung :: CW) ({ frames := 4, cells := 0, slots := 0, locals := 92 }) (va_Pc [.ref (ad 0), .int (nI rg)] (gPre (dC, dI) (mT ca) (MW ad ca S E) sz)) (va_Qi (fun (r : Int32) (u : Ss × Ss) => rgP (rgr S rg) E r u.1 u.2) (fun u => gAt (dC, dI) (mT ca) (va_A (MW ad ca S E) sz) (MW ad ca u.1 u.2)) (va_A (MW ad ca S E) sz)) 0 0 (va_A (MW ad ca S E) sz) := by
  refine Met.ofW (cc := bMo_rung) (maxL := 3) (ret := (some .int)) (by decide +kernel) rfl ?_
  intro p e s m args below meth c s₁ B hml hv
  obtain ⟨rfl, hsz, hP, hK, hD0⟩ := hv
  have hx := B.exec
  have hb := B.bytes
  have hr := B.returns
  have hts := atoms_spec (ws := kMo_rung :: CW) B.pre
  have hc : ∀ w ∈ CW, w.before _ s = true := fun w h => hts w (List.mem_cons_of_mem _ h)
  have hown : s.vm.findClass RMo = some m.cls := findClass_of_methodNamed B.named
  have hlocks := B.notSynchronized
  subst hsz
  have hD := hD0.self (sz := s.heap.size)
  generalize hAe : va_A (MW ad ca S E) s.heap.size = A at hD ⊢
  have hA : ∀ q : Nat, s.heap.size ≤ q → A q := fun q h => by rw [← hAe]; exact Or.inr h
  have hS : va_S A s.heap s.heap [] := va_S.rf
  have hl := lv_entry ([.ref (ad 0), .int (nI rg)]) (n := 3) (Nat.le_of_ble_eq_true rfl)
  rw [lg_entry_eq]
  generalize (lg_sl ([.ref (ad 0), .int (nI rg)]) ++ List.replicate (3 - (lg_sl ([.ref (ad 0), .int (nI rg)])).length) Slot.unset).toArray = ls at hl ⊢
  have hl : lv_has ls 3 [(0, .ref (ad 0)), (1, .int (nI rg))] := hl
  have hRn : S 12 rg = nI n := hR.2.1
  have hn10 := hR.1
  refine lv_aload_n hx hb dMo_rung_0 rfl (lv_at hl 0 rfl) ?_
  refine lv_iconst (v := 0) hx hb dMo_rung_1 (by decide +kernel) ?_
  refine va_put (D := (dC, dI)) (ci := 4) (v := .int 0) (ty := .int) (C := RMo) (T := TMo) (N := 29) hx hb hc inMo tyMo tyMo_ok nmMo hown hK hP hD hS 0 rfl rfl 23 (by decide) (hc _ w584) (fun _ h9 => h9) rfl (by decide +kernel) rfl rfl (Nat.le_of_ble_eq_true rfl) dMo_rung_2 (fun H locs hP hD hS => ?_)
  obtain ⟨E_1, eE_1⟩ : ∃ z9 : Ss, z9 = row E 0 (upd (E 0) 1 0) := ⟨_, rfl⟩
  have hP : va_P (dC, dI) vwCl (MW ad ca S E_1) H := by rw [eE_1]; exact hP
  have hD : va_D A (MW ad ca S E_1) := by rw [eE_1]; exact hD
  refine lv_bipush (v := 10) hx hb dMo_rung_5 (by decide +kernel) ?_
  refine lv_iload_n hx hb dMo_rung_7 rfl (lv_at hl 1 rfl) ?_
  refine lv_imul hx hb dMo_rung_8 ?_
  refine lv_topi (fun v_2 ev_2 => ?_)
  rw [ten_r] at ev_2
  subst v_2
  refine lv_istore_n (lv' := [(2, .int (nI (10 * rg))), (0, .ref (ad 0)), (1, .int (nI rg))]) hx hb dMo_rung_9 rfl hl (by decide) rfl (fun ls hl => ?_)
  refine g_loop (fun mu9 H locs ls => ∃ (i : Nat), ∃ (S1 : Ss), ∃ (E1 : Ss), ∃ (L : List Int32), mu9 = n - i ∧ i ≤ n ∧ Gd S d i S1 L ∧ rgo rg (n - i) i S1 L = rgr S rg ∧ stk E1 L ∧ E1 0 3 = 0 ∧ E1 0 0 = E 0 0 ∧ E1 0 2 = E 0 2 ∧ va_P (dC, dI) vwCl (MW ad ca S1 E1) H ∧ va_D A (MW ad ca S1 E1) ∧ va_S A s.heap H locs ∧ lv_has ls 3 [(0, .ref (ad 0)), (1, .int (nI rg)), (2, .int (nI (10 * rg + i)))]) ?_ _ _ _ _ ⟨0, S, E_1, [], rfl, Nat.zero_le _, (Gd_0 hPr hR.2.2.1), (rgr_n hR).symm, (by rw [eE_1]; exact ⟨rfl, trivial⟩), (by rw [eE_1]; exact hE3), (by rw [eE_1]; rfl), (by rw [eE_1]; rfl), hP, hD, hS, lv_sub hl [1, 2, 0] rfl⟩
  clear hP hD hS
  rintro mu9 H locs ls ⟨i, S1, E1, L, en_10, hi, hG, hE, hk, hE3, h00, h02, hP, hD, hS, hl⟩ ih_10
  obtain ⟨gP, g10, g11, g12, g0, gL, g01⟩ := id hG
  refine lv_iload_n hx hb dMo_rung_10 rfl (lv_at hl 2 rfl) ?_
  refine lv_bipush (v := 10) hx hb dMo_rung_11 (by decide +kernel) ?_
  refine lv_iload_n hx hb dMo_rung_13 rfl (lv_at hl 1 rfl) ?_
  refine lv_imul hx hb dMo_rung_14 ?_
  refine lv_topi (fun v_3 ev_3 => ?_)
  rw [ten_r] at ev_3
  subst v_3
  refine lv_aload_n hx hb dMo_rung_15 rfl (lv_at hl 0 rfl) ?_
  refine va_get (D := (dC, dI)) (ci := 4) (v := .ref (ad 20)) (C := RMo) (T := TMo) (N := 29) hx hb hc inMo hown hK hP 0 rfl rfl 21 (by decide) (hc _ w582) (fun _ h9 => h9) rfl dMo_rung_16 ?_
  refine lv_iload_n hx hb dMo_rung_19 rfl (lv_at hl 1 rfl) ?_
  refine va_iald hx hb hK hP 20 19 rfl rfl (vp_in_nI (by omega) (by decide)) dMo_rung_20 ?_
  refine lv_topi (fun v_4 ev_4 => ?_)
  rw [nI_clamp (by omega)] at ev_4
  subst v_4
  refine W.eq (g2 := F0 m 21 ls [.int (nI n), .int (nI (10 * rg)), .int (nI (10 * rg + i))]) (by rw [show S1 12 rg = nI n from by rw [g12]; exact hRn]) ?_
  refine lv_iadd hx hb dMo_rung_21 ?_
  refine lv_topi (fun v_5 ev_5 => ?_)
  rw [nI_add] at ev_5
  subst v_5
  refine lv_icmp_ge (tgt := 93) hx hb dMo_rung_22 (by decide) (fun c_5 => ?_) (fun c_5 => ?_)
  · have p_22 : (10 * rg + n) ≤ (10 * rg + i) := (nI_leI (a := (10 * rg + n)) (b := (10 * rg + i)) (by omega) (by omega)).mp c_5
    refine lv_iload_n hx hb dMo_rung_93 rfl (lv_at hl 1 rfl) ?_
    refine lv_iconst (v := 1) hx hb dMo_rung_94 (by decide +kernel) ?_
    refine lv_iadd hx hb dMo_rung_95 ?_
    exact W.iret (v := ((nI rg) + 1)) hx hb hr (fun t ht hW => ⟨⟨_, (S1, E1), rfl, (by (try dsimp only) <;> exact (by rw [show n - i = 0 by omega, rgo] at hE; rw [nI_1]; exact rgP_ok hE (nI_nm2 (by omega)) hE3 h00 h02)), by rw [ht]; exact hP, va_K.moved hW.alike hK, hD⟩, hS.F ht⟩) hS.2.2 dMo_rung_96
  · have p_22 : (10 * rg + i) < (10 * rg + n) := by have := mt (nI_leI (a := (10 * rg + n)) (b := (10 * rg + i)) (by omega) (by omega)).mpr c_5; omega
    obtain ⟨hO, hs⟩ := hR.2.2.2 i (by omega)
    have hO : okO (S1 0 0) (S1 10 (10 * rg + i)) (S1 11 (10 * rg + i)) := by rw [g10, g11, g0]; exact hO
    have hs : stp (S1 10 (10 * rg + i)) (d i) (d (i + 1)) := by rw [g10]; exact hs
    have hE : rgo rg (n - (i + 1) + 1) i S1 L = rgr S rg := by rw [show n - (i + 1) + 1 = n - i by omega]; exact hE
    rw [rgo] at hE
    refine lv_aload_n hx hb dMo_rung_25 rfl (lv_at hl 0 rfl) ?_
    refine va_get (D := (dC, dI)) (ci := 4) (v := .ref (ad 18)) (C := RMo) (T := TMo) (N := 29) hx hb hc inMo hown hK hP 0 rfl rfl 19 (by decide) (hc _ w580) (fun _ h9 => h9) rfl dMo_rung_26 ?_
    refine lv_iload_n hx hb dMo_rung_29 rfl (lv_at hl 2 rfl) ?_
    refine va_iald hx hb hK hP 18 17 rfl rfl (vp_in_nI (by omega) (by decide)) dMo_rung_30 ?_
    refine lv_topi (fun v_7 ev_7 => ?_)
    rw [nI_clamp (by omega)] at ev_7
    subst v_7
    refine lv_bipush (v := 13) hx hb dMo_rung_31 (by decide +kernel) ?_
    refine lv_icmp_eq (tgt := 55) hx hb dMo_rung_33 (by decide) (fun c_7 => ?_) (fun c_7 => ?_)
    · rw [if_pos c_7] at hE
      have h99 := big_no (op := S1 10 (10 * rg + i)) (by rw [c_7]; decide)
      have hL1 : 1 ≤ L.length := by rw [gL]; exact (stp_keep hs h99.1 h99.2).1
      rcases L with _ | ⟨v, T⟩
      · exact absurd (show 1 ≤ 0 from hL1) (by decide)
      have et : E1 0 1 = nI (T.length + 1) := hk.1
      have hv : E1 1 T.length = v := hk.2.1
      have hl5 : T.length + 1 ≤ 4 := by have := stp_4 hs; rw [← gL] at this; exact this
      refine lv_aload_n hx hb dMo_rung_55 rfl (lv_at hl 0 rfl) ?_
      refine va_get (D := (dC, dI)) (ci := 4) (v := .ref (ad 21)) (C := RMo) (T := TMo) (N := 29) hx hb hc inMo hown hK hP 0 rfl rfl 22 (by decide) (hc _ w583) (fun _ h9 => h9) rfl dMo_rung_56 ?_
      refine lv_aload_n hx hb dMo_rung_59 rfl (lv_at hl 0 rfl) ?_
      refine va_get (D := (dC, dI)) (ci := 4) (v := .int (E1 0 1)) (C := RMo) (T := TMo) (N := 29) hx hb hc inMo hown hK hP 0 rfl rfl 23 (by decide) (hc _ w584) (fun _ h9 => h9) rfl dMo_rung_60 ?_
      refine lv_iconst (v := 1) hx hb dMo_rung_63 (by decide +kernel) ?_
      refine lv_isub hx hb dMo_rung_64 ?_
      refine W.eq (g2 := F0 m 65 ls [.int (nI T.length), .ref (ad 21)]) (by rw [et, nI_pred]) ?_
      refine va_iald hx hb hK hP 21 20 rfl rfl (vp_in_nI (by omega) (by decide)) dMo_rung_65 ?_
      refine lv_topi (fun v_9 ev_9 => ?_)
      rw [nI_clamp (by omega)] at ev_9
      subst v_9
      refine W.eq (g2 := F0 m 66 ls [.int v]) (by rw [hv]) ?_
      refine lv_iconst (v := 1) hx hb dMo_rung_66 (by decide +kernel) ?_
      refine lv_icmp_ne (tgt := 77) hx hb dMo_rung_67 (by decide) (fun c_9 => ?_) (fun c_9 => ?_)
      · rw [if_neg (show ¬ hd (v :: T) = 1 from c_9)] at hE
        refine lv_aload_n hx hb dMo_rung_77 rfl (lv_at hl 0 rfl) ?_
        refine va_get (D := (dC, dI)) (ci := 4) (v := .int (E1 0 3)) (C := RMo) (T := TMo) (N := 29) hx hb hc inMo hown hK hP 0 rfl rfl 28 (by decide) (hc _ w589) (fun _ h9 => h9) rfl dMo_rung_78 ?_
        refine lv_if_eq (tgt := 87) hx hb dMo_rung_81 (by decide) (fun c_10 => ?_) (fun c_10 => ?_)
        · obtain ⟨v_12, ev_12⟩ : ∃ y : Int32, y = (nI (10 * rg + i)) + 1 := ⟨_, rfl⟩
          refine lv_iinc (v := v_12) (lv' := [(2, .int v_12), (0, .ref (ad 0)), (1, .int (nI rg))]) hx hb dMo_rung_87 hl (k := 2) rfl (by rw [ev_12]; rfl) (by decide) rfl (fun ls hl => ?_)
          refine lv_goto (tgt := 10) hx hb dMo_rung_90 (by decide) ?_
          have gv_12 : v_12 = nI (10 * rg + (i + 1)) := (by rw [ev_12]; exact nI_1 (10 * rg + i))
          clear ev_12
          subst v_12
          exact ih_10 _ _ _ _ (by omega) ⟨(i + 1), S1, E1, (v :: T), rfl, (by omega), (Gd_13 hG hs c_7), hE, hk, hE3, h00, h02, hP, hD, hS, lv_sub hl [1, 2, 0] rfl⟩
        · exact absurd hE3 c_10
      · rw [if_pos (show hd (v :: T) = 1 from c_9)] at hE
        refine lv_aload_n hx hb dMo_rung_70 rfl (lv_at hl 0 rfl) ?_
        refine va_get (D := (dC, dI)) (ci := 4) (v := .ref (ad 19)) (C := RMo) (T := TMo) (N := 29) hx hb hc inMo hown hK hP 0 rfl rfl 20 (by decide) (hc _ w581) (fun _ h9 => h9) rfl dMo_rung_71 ?_
        refine lv_iload_n hx hb dMo_rung_74 rfl (lv_at hl 2 rfl) ?_
        refine va_iald hx hb hK hP 19 18 rfl rfl (vp_in_nI (by omega) (by decide)) dMo_rung_75 ?_
        refine lv_topi (fun v_13 ev_13 => ?_)
        rw [nI_clamp (by omega)] at ev_13
        subst v_13
        exact W.iret (v := (S1 11 (10 * rg + i))) hx hb hr (fun t ht hW => ⟨⟨_, (S1, E1), rfl, (by (try dsimp only) <;> exact rgP_ok hE (w11_n2 (okO_13 hO c_7)) hE3 h00 h02), by rw [ht]; exact hP, va_K.moved hW.alike hK, hD⟩, hS.F ht⟩) hS.2.2 dMo_rung_76
    · rw [if_neg c_7] at hE
      refine lv_aload_n hx hb dMo_rung_36 rfl (lv_at hl 0 rfl) ?_
      refine lv_aload_n hx hb dMo_rung_37 rfl (lv_at hl 0 rfl) ?_
      refine va_get (D := (dC, dI)) (ci := 4) (v := .ref (ad 18)) (C := RMo) (T := TMo) (N := 29) hx hb hc inMo hown hK hP 0 rfl rfl 19 (by decide) (hc _ w580) (fun _ h9 => h9) rfl dMo_rung_38 ?_
      refine lv_iload_n hx hb dMo_rung_41 rfl (lv_at hl 2 rfl) ?_
      refine va_iald hx hb hK hP 18 17 rfl rfl (vp_in_nI (by omega) (by decide)) dMo_rung_42 ?_
      refine lv_topi (fun v_14 ev_14 => ?_)
      rw [nI_clamp (by omega)] at ev_14
      subst v_14
      refine lv_aload_n hx hb dMo_rung_43 rfl (lv_at hl 0 rfl) ?_
      refine va_get (D := (dC, dI)) (ci := 4) (v := .ref (ad 19)) (C := RMo) (T := TMo) (N := 29) hx hb hc inMo hown hK hP 0 rfl rfl 20 (by decide) (hc _ w581) (fun _ h9 => h9) rfl dMo_rung_44 ?_
      refine lv_iload_n hx hb dMo_rung_47 rfl (lv_at hl 2 rfl) ?_
      refine va_iald hx hb hK hP 19 18 rfl rfl (vp_in_nI (by omega) (by decide)) dMo_rung_48 ?_
      refine lv_topi (fun v_15 ev_15 => ?_)
      rw [nI_clamp (by omega)] at ev_15
      subst v_15
      refine g_callv (va_runV (As := [.int (S1 10 (10 * rg + i)), .int (S1 11 (10 * rg + i))]) (rest := []) ⟨hx, hb, hml, hown, hc⟩ (cMo_perform l dC dI ad ca H.size S1 E1 (S1 10 (10 * rg + i)) (S1 11 (10 * rg + i)) L (d (i + 1)) hO c_7 (by rw [gL]; exact hs) hk g01 gP hE3) (cwV 2 hc (gV w728 w730 s13 w5 qMo_perform) rfl rfl rfl (by decide +kernel) ⟨Nat.le_of_ble_eq_true rfl, Nat.le_of_ble_eq_true rfl⟩) ⟨gPre_blind, va_recv hK hP (ci := 4) (q0 := 0) rfl rfl, (gPre_in hP hK hD)⟩ rfl rfl hl.1 rfl (lv_room (Nat.le_of_ble_eq_true rfl)) dMo_rung_49 ⟨Nat.zero_le _, Nat.zero_le _⟩) hD hS hA (fun u_16 H locs hu_16 hP hD hS => ?_)
      obtain ⟨S_16, E_16⟩ := u_16
      (try dsimp only at hu_16 hP hD)
      obtain ⟨q0, q2, q9, q10, q8⟩ := hu_16
      rcases four9 (S1 10 (10 * rg + i) = 9) (failB S1 (S1 11 (10 * rg + i)).toNatClampNeg (hd L)) (10 ≤ S1 10 (10 * rg + i)) with ⟨h9, hf⟩ | ⟨h9, hf⟩ | ⟨h9, h10⟩ | ⟨h9, h10⟩
      · obtain ⟨z1, z3⟩ := (q9 h9).1 hf
        subst S_16
        rw [if_pos h9, if_pos hf] at hE
        refine lv_goto (tgt := 77) hx hb dMo_rung_52 (by decide) ?_
        refine lv_aload_n hx hb dMo_rung_77 rfl (lv_at hl 0 rfl) ?_
        refine va_get (D := (dC, dI)) (ci := 4) (v := .int (E_16 0 3)) (C := RMo) (T := TMo) (N := 29) hx hb hc inMo hown hK hP 0 rfl rfl 28 (by decide) (hc _ w589) (fun _ h9 => h9) rfl dMo_rung_78 ?_
        refine lv_if_eq (tgt := 87) hx hb dMo_rung_81 (by decide) (fun c_16 => ?_) (fun c_16 => ?_)
        · exact absurd (z3.symm.trans c_16) (by decide)
        · refine lv_bipush (v := 12) hx hb dMo_rung_84 (by decide +kernel) ?_
          exact W.iret (v := 12) hx hb hr (fun t ht hW => ⟨⟨_, (S1, E_16), rfl, (by (try dsimp only) <;> exact rgP_no hE z3 (q0.trans h00) (q2.trans h02)), by rw [ht]; exact hP, va_K.moved hW.alike hK, hD⟩, hS.F ht⟩) hS.2.2 dMo_rung_86
      · rw [if_pos h9, if_neg hf] at hE
        obtain ⟨z1, zk, z3⟩ := (q9 h9).2 hf
        obtain ⟨m0, hm10, em, hB⟩ := gP.1
        obtain ⟨j, hj, ej⟩ := wi_made hm10 (by rw [← em]; exact okO_9 hO h9)
        rw [ej, nI_clamp (by omega)] at hE z1 zk
        subst S_16
        refine lv_goto (tgt := 77) hx hb dMo_rung_52 (by decide) ?_
        refine lv_aload_n hx hb dMo_rung_77 rfl (lv_at hl 0 rfl) ?_
        refine va_get (D := (dC, dI)) (ci := 4) (v := .int (E_16 0 3)) (C := RMo) (T := TMo) (N := 29) hx hb hc inMo hown hK hP 0 rfl rfl 28 (by decide) (hc _ w589) (fun _ h9 => h9) rfl dMo_rung_78 ?_
        refine lv_if_eq (tgt := 87) hx hb dMo_rung_81 (by decide) (fun c_17 => ?_) (fun c_17 => ?_)
        · obtain ⟨v_19, ev_19⟩ : ∃ y : Int32, y = (nI (10 * rg + i)) + 1 := ⟨_, rfl⟩
          refine lv_iinc (v := v_19) (lv' := [(2, .int v_19), (0, .ref (ad 0)), (1, .int (nI rg))]) hx hb dMo_rung_87 hl (k := 2) rfl (by rw [ev_19]; rfl) (by decide) rfl (fun ls hl => ?_)
          refine lv_goto (tgt := 10) hx hb dMo_rung_90 (by decide) ?_
          have gv_19 : v_19 = nI (10 * rg + (i + 1)) := (by rw [ev_19]; exact nI_1 (10 * rg + i))
          clear ev_19
          subst v_19
          exact ih_10 _ _ _ _ (by omega) ⟨(i + 1), (bw S1 j (hd L)), E_16, (outB S1 j (hd L) :: L.tail), rfl, (by omega), (Gd_9 hG hs h9 hm10 em hj), hE, zk, z3, (q0.trans h00), (q2.trans h02), hP, hD, hS, lv_sub hl [1, 2, 0] rfl⟩
        · exact absurd z3 c_17
      · rw [if_neg h9, if_pos h10] at hE
        obtain ⟨z1, zk, z3⟩ := q10 h9 h10
        subst S_16
        refine lv_goto (tgt := 77) hx hb dMo_rung_52 (by decide) ?_
        refine lv_aload_n hx hb dMo_rung_77 rfl (lv_at hl 0 rfl) ?_
        refine va_get (D := (dC, dI)) (ci := 4) (v := .int (E_16 0 3)) (C := RMo) (T := TMo) (N := 29) hx hb hc inMo hown hK hP 0 rfl rfl 28 (by decide) (hc _ w589) (fun _ h9 => h9) rfl dMo_rung_78 ?_
        refine lv_if_eq (tgt := 87) hx hb dMo_rung_81 (by decide) (fun c_19 => ?_) (fun c_19 => ?_)
        · obtain ⟨v_21, ev_21⟩ : ∃ y : Int32, y = (nI (10 * rg + i)) + 1 := ⟨_, rfl⟩
          refine lv_iinc (v := v_21) (lv' := [(2, .int v_21), (0, .ref (ad 0)), (1, .int (nI rg))]) hx hb dMo_rung_87 hl (k := 2) rfl (by rw [ev_21]; rfl) (by decide) rfl (fun ls hl => ?_)
          refine lv_goto (tgt := 10) hx hb dMo_rung_90 (by decide) ?_
          have gv_21 : v_21 = nI (10 * rg + (i + 1)) := (by rw [ev_21]; exact nI_1 (10 * rg + i))
          clear ev_21
          subst v_21
          exact ih_10 _ _ _ _ (by omega) ⟨(i + 1), (asg S1 (S1 10 (10 * rg + i)) (S1 11 (10 * rg + i)).toNatClampNeg (hd L)), E_16, L, rfl, (by omega), (Gd_10 hG hs h10), hE, zk, z3, (q0.trans h00), (q2.trans h02), hP, hD, hS, lv_sub hl [1, 2, 0] rfl⟩
        · exact absurd z3 c_19
      · rw [if_neg h9, if_neg h10] at hE
        obtain ⟨z1, zk, z3⟩ := q8 h9 h10
        subst S_16
        refine lv_goto (tgt := 77) hx hb dMo_rung_52 (by decide) ?_
        refine lv_aload_n hx hb dMo_rung_77 rfl (lv_at hl 0 rfl) ?_
        refine va_get (D := (dC, dI)) (ci := 4) (v := .int (E_16 0 3)) (C := RMo) (T := TMo) (N := 29) hx hb hc inMo hown hK hP 0 rfl rfl 28 (by decide) (hc _ w589) (fun _ h9 => h9) rfl dMo_rung_78 ?_
        refine lv_if_eq (tgt := 87) hx hb dMo_rung_81 (by decide) (fun c_21 => ?_) (fun c_21 => ?_)
        · obtain ⟨v_23, ev_23⟩ : ∃ y : Int32, y = (nI (10 * rg + i)) + 1 := ⟨_, rfl⟩
          refine lv_iinc (v := v_23) (lv' := [(2, .int v_23), (0, .ref (ad 0)), (1, .int (nI rg))]) hx hb dMo_rung_87 hl (k := 2) rfl (by rw [ev_23]; rfl) (by decide) rfl (fun ls hl => ?_)
          refine lv_goto (tgt := 10) hx hb dMo_rung_90 (by decide) ?_
          have gv_23 : v_23 = nI (10 * rg + (i + 1)) := (by rw [ev_23]; exact nI_1 (10 * rg + i))
          clear ev_23
          subst v_23
          exact ih_10 _ _ _ _ (by omega) ⟨(i + 1), S1, E_16, (stA S1 L (S1 10 (10 * rg + i)) (S1 11 (10 * rg + i)).toNatClampNeg), rfl, (by omega), (Gd_8 hG hs hO h10 h9), hE, zk, z3, (q0.trans h00), (q2.trans h02), hP, hD, hS, lv_sub hl [1, 2, 0] rfl⟩
        · exact absurd z3 c_21

set_option maxHeartbeats 4000000 in
set_option maxRecDepth 100000 in
theorem cMo_scanOnce (l : Launch) (dC : Nat → ClassId) (dI : Nat → Nat → Nat) (ad : Nat → Nat) (ca : Nat → ClassId) (sz : Nat) (S E : Ss) (hPr : Pr S) : Met l yMo_scanOnce (kMo_scanOnce :: CW) ({ frames := 5, cells := 0, slots := 0, locals := 114 }) (va_Pc [.ref (ad 0)] (gPre (dC, dI) (mT ca) (MW ad ca S E) sz)) (va_Qv (fun (u : Ss × Ss) => scP (sc1 S) E u.1 u.2) (fun u => gAt (dC, dI) (mT ca) (va_A (MW ad ca S E) sz) (MW ad ca u.1 u.2)) (va_A (MW ad ca S E) sz)) 0 0 (va_A (MW ad ca S E) sz) := by
  refine Met.ofW (cc := bMo_scanOnce) (maxL := 4) (ret := none) (by decide +kernel) rfl ?_
  intro p e s m args below meth c s₁ B hml hv
  obtain ⟨rfl, hsz, hP, hK, hD0⟩ := hv
  have hx := B.exec
  have hb := B.bytes
  have hr := B.returns
  have hts := atoms_spec (ws := kMo_scanOnce :: CW) B.pre
  have hc : ∀ w ∈ CW, w.before _ s = true := fun w h => hts w (List.mem_cons_of_mem _ h)
  have hown : s.vm.findClass RMo = some m.cls := findClass_of_methodNamed B.named
  have hlocks := B.notSynchronized
  subst hsz
  have hD := hD0.self (sz := s.heap.size)
  generalize hAe : va_A (MW ad ca S E) s.heap.size = A at hD ⊢
  have hA : ∀ q : Nat, s.heap.size ≤ q → A q := fun q h => by rw [← hAe]; exact Or.inr h
  have hS : va_S A s.heap s.heap [] := va_S.rf
  have hl := lv_entry ([.ref (ad 0)]) (n := 4) (Nat.le_of_ble_eq_true rfl)
  rw [lg_entry_eq]
  generalize (lg_sl ([.ref (ad 0)]) ++ List.replicate (4 - (lg_sl ([.ref (ad 0)])).length) Slot.unset).toArray = ls at hl ⊢
  have hl : lv_has ls 4 [(0, .ref (ad 0))] := hl
  refine lv_iconst (v := 0) hx hb dMo_scanOnce_0 (by decide +kernel) ?_
  refine lv_istore_n (lv' := [(1, .int 0), (0, .ref (ad 0))]) hx hb dMo_scanOnce_1 rfl hl (by decide) rfl (fun ls hl => ?_)
  refine lv_iconst (v := 0) hx hb dMo_scanOnce_2 (by decide +kernel) ?_
  refine lv_istore_n (lv' := [(2, .int 0), (1, .int 0), (0, .ref (ad 0))]) hx hb dMo_scanOnce_3 rfl hl (by decide) rfl (fun ls hl => ?_)
  refine lv_aload_n hx hb dMo_scanOnce_4 rfl (lv_at hl 2 rfl) ?_
  refine lv_iconst (v := 0) hx hb dMo_scanOnce_5 (by decide +kernel) ?_
  refine va_put (D := (dC, dI)) (ci := 4) (v := .int 0) (ty := .int) (C := RMo) (T := TMo) (N := 29) hx hb hc inMo tyMo tyMo_ok nmMo hown hK hP hD hS 0 rfl rfl 28 (by decide) (hc _ w589) (fun _ h9 => h9) rfl (by decide +kernel) rfl rfl (Nat.le_of_ble_eq_true rfl) dMo_scanOnce_6 (fun H locs hP hD hS => ?_)
  obtain ⟨E_1, eE_1⟩ : ∃ z9 : Ss, z9 = row E 0 (upd (E 0) 3 0) := ⟨_, rfl⟩
  have hP : va_P (dC, dI) vwCl (MW ad ca S E_1) H := by rw [eE_1]; exact hP
  have hD : va_D A (MW ad ca S E_1) := by rw [eE_1]; exact hD
  refine lv_iconst (v := 0) hx hb dMo_scanOnce_9 (by decide +kernel) ?_
  refine lv_istore_n (lv' := [(3, .int 0), (2, .int 0), (1, .int 0), (0, .ref (ad 0))]) hx hb dMo_scanOnce_10 rfl hl (by decide) rfl (fun ls hl => ?_)
  refine g_loop (fun mu9 H locs ls => ∃ (i : Nat), ∃ (S1 : Ss), mu9 = 8 - i ∧ i ≤ 8 ∧ S1 = row S 1 (fillN (S 1) (S 3) i) ∧ va_P (dC, dI) vwCl (MW ad ca S1 E_1) H ∧ va_D A (MW ad ca S1 E_1) ∧ va_S A s.heap H locs ∧ lv_has ls 4 [(0, .ref (ad 0)), (1, .int 0), (2, .int 0), (3, .int (nI i))]) ?_ _ _ _ _ ⟨0, S, rfl, Nat.zero_le _, (frow_0 S 1 _).symm, hP, hD, hS, lv_sub hl [3, 2, 1, 0] rfl⟩
  clear hP hD hS
  rintro mu9 H locs ls ⟨i, S1, en_11, hi, eS1, hP, hD, hS, hl⟩ ih_11
  refine lv_iload_n hx hb dMo_scanOnce_11 rfl (lv_at hl 3 rfl) ?_
  refine lv_bipush (v := 8) hx hb dMo_scanOnce_12 (by decide +kernel) ?_
  refine lv_icmp_ge (tgt := 35) hx hb dMo_scanOnce_14 (by decide) (fun c_1 => ?_) (fun c_1 => ?_)
  · have p_14 : 8 ≤ i := (nI_leI (a := 8) (b := i) (by omega) (by omega)).mp c_1
    refine g_loop (fun mu9 H locs ls => ∃ (t : Nat), ∃ (b : Nat), ∃ (q : Nat), ∃ (S2 : Ss), ∃ (E2 : Ss), mu9 = t ∧ b ≤ 30 ∧ q ≤ 12 ∧ Pr S2 ∧ pgI (pgo 30 0 0 (tin S)) t b q S2 E2 ∧ E2 0 0 = E 0 0 ∧ E2 0 2 = E 0 2 ∧ va_P (dC, dI) vwCl (MW ad ca S2 E2) H ∧ va_D A (MW ad ca S2 E2) ∧ va_S A s.heap H locs ∧ lv_has ls 4 [(0, .ref (ad 0)), (1, .int (nI b)), (2, .int (nI q))]) ?_ _ _ _ _ ⟨31, 0, 0, S1, E_1, rfl, (by decide), (by decide), (by rw [eS1, show i = 8 by omega, tin_fi]; exact Pr_tin hPr), (Or.inl ⟨by rw [eE_1]; rfl, rfl, by rw [eS1, show i = 8 by omega, tin_fi]⟩), (by rw [eE_1]; rfl), (by rw [eE_1]; rfl), hP, hD, hS, lv_sub hl [0, 1, 2] rfl⟩
    clear hP hD hS
    rintro mu9 H locs ls ⟨t, b, q, S2, E2, en_35, hb30, hq12, hP2, hI, h00, h02, hP, hD, hS, hl⟩ ih_35
    refine lv_iload_n hx hb dMo_scanOnce_35 rfl (lv_at hl 2 rfl) ?_
    refine lv_bipush (v := 12) hx hb dMo_scanOnce_36 (by decide +kernel) ?_
    refine lv_icmp_ge (tgt := 74) hx hb dMo_scanOnce_38 (by decide) (fun c_2 => ?_) (fun c_2 => ?_)
    · have p_38 : 12 ≤ q := (nI_leI (a := 12) (b := q) (by omega) (by omega)).mp c_2
      refine lv_aload_n hx hb dMo_scanOnce_74 rfl (lv_at hl 0 rfl) ?_
      refine lv_dup hx hb dMo_scanOnce_75 rfl ?_
      refine va_get (D := (dC, dI)) (ci := 4) (v := .int (E2 0 2)) (C := RMo) (T := TMo) (N := 29) hx hb hc inMo hown hK hP 0 rfl rfl 27 (by decide) (hc _ w588) (fun _ h9 => h9) rfl dMo_scanOnce_76 ?_
      refine lv_iload_n hx hb dMo_scanOnce_79 rfl (lv_at hl 1 rfl) ?_
      refine lv_iadd hx hb dMo_scanOnce_80 ?_
      refine va_put (D := (dC, dI)) (ci := 4) (v := .int ((E2 0 2) + (nI b))) (ty := .int) (C := RMo) (T := TMo) (N := 29) hx hb hc inMo tyMo tyMo_ok nmMo hown hK hP hD hS 0 rfl rfl 27 (by decide) (hc _ w588) (fun _ h9 => h9) rfl (by decide +kernel) rfl rfl (Nat.le_of_ble_eq_true rfl) dMo_scanOnce_81 (fun H locs hP hD hS => ?_)
      obtain ⟨E_4, eE_4⟩ : ∃ z9 : Ss, z9 = row E2 0 (upd (E2 0) 2 ((E2 0 2) + (nI b))) := ⟨_, rfl⟩
      have hP : va_P (dC, dI) vwCl (MW ad ca S2 E_4) H := by rw [eE_4]; exact hP
      have hD : va_D A (MW ad ca S2 E_4) := by rw [eE_4]; exact hD
      have hX := (pgX_q hI (show 12 ≤ q from p_38))
      have hx3 : E_4 0 3 = E2 0 3 := by rw [eE_4]; rfl
      have hx0 : E_4 0 0 = E 0 0 := by rw [eE_4]; exact h00
      have hx2 : E_4 0 2 = E 0 2 + nI b := by rw [eE_4, ← h02]; rfl
      refine lv_iconst (v := 0) hx hb dMo_scanOnce_84 (by decide +kernel) ?_
      refine lv_istore_n (lv' := [(3, .int 0), (0, .ref (ad 0)), (1, .int (nI b)), (2, .int (nI q))]) hx hb dMo_scanOnce_85 rfl hl (by decide) rfl (fun ls hl => ?_)
      refine g_loop (fun mu9 H locs ls => ∃ (i : Nat), ∃ (S3 : Ss), mu9 = 8 - i ∧ i ≤ 8 ∧ S3 = row S2 4 (fillN (S2 4) (if E2 0 3 = 0 then (fun k => rd S2 (8 + k)) else (fun _ => 0)) i) ∧ va_P (dC, dI) vwCl (MW ad ca S3 E_4) H ∧ va_D A (MW ad ca S3 E_4) ∧ va_S A s.heap H locs ∧ lv_has ls 4 [(0, .ref (ad 0)), (3, .int (nI i))]) ?_ _ _ _ _ ⟨0, S2, rfl, Nat.zero_le _, (frow_0 S2 4 _).symm, hP, hD, hS, lv_sub hl [1, 0] rfl⟩
      clear hP hD hS
      rintro mu9 H locs ls ⟨i, S3, en_86, hi, eS3, hP, hD, hS, hl⟩ ih_86
      refine lv_iload_n hx hb dMo_scanOnce_86 rfl (lv_at hl 1 rfl) ?_
      refine lv_bipush (v := 8) hx hb dMo_scanOnce_87 (by decide +kernel) ?_
      refine lv_icmp_ge (tgt := 123) hx hb dMo_scanOnce_89 (by decide) (fun c_4 => ?_) (fun c_4 => ?_)
      · have p_89 : 8 ≤ i := (nI_leI (a := 8) (b := i) (by omega) (by omega)).mp c_4
        refine lv_aload_n hx hb dMo_scanOnce_123 rfl (lv_at hl 0 rfl) ?_
        refine va_get (D := (dC, dI)) (ci := 4) (v := .int (E_4 0 3)) (C := RMo) (T := TMo) (N := 29) hx hb hc inMo hown hK hP 0 rfl rfl 28 (by decide) (hc _ w589) (fun _ h9 => h9) rfl dMo_scanOnce_124 ?_
        refine lv_if_ne (tgt := 143) hx hb dMo_scanOnce_127 (by decide) (fun c_5 => ?_) (fun c_5 => ?_)
        · refine lv_aload_n hx hb dMo_scanOnce_143 rfl (lv_at hl 0 rfl) ?_
          refine lv_dup hx hb dMo_scanOnce_144 rfl ?_
          refine va_get (D := (dC, dI)) (ci := 4) (v := .int (S3 0 2)) (C := RMo) (T := TMo) (N := 29) hx hb hc inMo hown hK hP 0 rfl rfl 25 (by decide) (hc _ w586) (fun _ h9 => h9) rfl dMo_scanOnce_145 ?_
          refine lv_iconst (v := 1) hx hb dMo_scanOnce_148 (by decide +kernel) ?_
          refine lv_iadd hx hb dMo_scanOnce_149 ?_
          refine va_put (D := (dC, dI)) (ci := 4) (v := .int ((S3 0 2) + 1)) (ty := .int) (C := RMo) (T := TMo) (N := 29) hx hb hc inMo tyMo tyMo_ok nmMo hown hK hP hD hS 0 rfl rfl 25 (by decide) (hc _ w586) (fun _ h9 => h9) rfl (by decide +kernel) rfl rfl (Nat.le_of_ble_eq_true rfl) dMo_scanOnce_150 (fun H locs hP hD hS => ?_)
          obtain ⟨S_7, eS_7⟩ : ∃ z9 : Ss, z9 = row S3 0 (upd (S3 0) 2 ((S3 0 2) + 1)) := ⟨_, rfl⟩
          have hP : va_P (dC, dI) vwCl (MW ad ca S_7 E_4) H := by rw [eS_7]; exact hP
          have hD : va_D A (MW ad ca S_7 E_4) := by rw [eS_7]; exact hD
          refine lv_aload_n hx hb dMo_scanOnce_153 rfl (lv_at hl 0 rfl) ?_
          refine lv_iconst (v := 1) hx hb dMo_scanOnce_154 (by decide +kernel) ?_
          refine va_put (D := (dC, dI)) (ci := 4) (v := .int 1) (ty := .boolean) (C := RMo) (T := TMo) (N := 29) hx hb hc inMo tyMo tyMo_ok nmMo hown hK hP hD hS 0 rfl rfl 26 (by decide) (hc _ w587) (fun _ h9 => h9) rfl (by decide +kernel) rfl rfl (Nat.le_of_ble_eq_true rfl) dMo_scanOnce_155 (fun H locs hP hD hS => ?_)
          obtain ⟨S_8, eS_8⟩ : ∃ z9 : Ss, z9 = row S_7 0 (upd (S_7 0) 3 1) := ⟨_, rfl⟩
          have hP : va_P (dC, dI) vwCl (MW ad ca S_8 E_4) H := by rw [eS_8]; exact hP
          have hD : va_D A (MW ad ca S_8 E_4) := by rw [eS_8]; exact hD
          exact W.vret hx hb hr (fun t ht hW => ⟨⟨(S_8, E_4), rfl, (by (try dsimp only) <;> exact scP_no hX (fun z => c_5 (hx3.trans z)) hx3 hx0 (by rw [eS_8, eS_7, eS3, if_neg (fun z => c_5 (hx3.trans z)), show i = 8 by omega]; rfl)), by rw [ht]; exact hP, va_K.moved hW.alike hK, hD⟩, hS.F ht⟩) hS.2.2 dMo_scanOnce_158
        · refine lv_aload_n hx hb dMo_scanOnce_130 rfl (lv_at hl 0 rfl) ?_
          refine lv_dup hx hb dMo_scanOnce_131 rfl ?_
          refine va_get (D := (dC, dI)) (ci := 4) (v := .int (S3 0 1)) (C := RMo) (T := TMo) (N := 29) hx hb hc inMo hown hK hP 0 rfl rfl 24 (by decide) (hc _ w585) (fun _ h9 => h9) rfl dMo_scanOnce_132 ?_
          refine lv_iconst (v := 1) hx hb dMo_scanOnce_135 (by decide +kernel) ?_
          refine lv_iadd hx hb dMo_scanOnce_136 ?_
          refine va_put (D := (dC, dI)) (ci := 4) (v := .int ((S3 0 1) + 1)) (ty := .int) (C := RMo) (T := TMo) (N := 29) hx hb hc inMo tyMo tyMo_ok nmMo hown hK hP hD hS 0 rfl rfl 24 (by decide) (hc _ w585) (fun _ h9 => h9) rfl (by decide +kernel) rfl rfl (Nat.le_of_ble_eq_true rfl) dMo_scanOnce_137 (fun H locs hP hD hS => ?_)
          obtain ⟨S_9, eS_9⟩ : ∃ z9 : Ss, z9 = row S3 0 (upd (S3 0) 1 ((S3 0 1) + 1)) := ⟨_, rfl⟩
          have hP : va_P (dC, dI) vwCl (MW ad ca S_9 E_4) H := by rw [eS_9]; exact hP
          have hD : va_D A (MW ad ca S_9 E_4) := by rw [eS_9]; exact hD
          refine lv_goto (tgt := 158) hx hb dMo_scanOnce_140 (by decide) ?_
          exact W.vret hx hb hr (fun t ht hW => ⟨⟨(S_9, E_4), rfl, (by (try dsimp only) <;> exact scP_ok hX hb30 (hx3.symm.trans c_5) hx0 hx2 (by rw [eS_9, eS3, if_pos (hx3.symm.trans c_5), show i = 8 by omega]; rfl)), by rw [ht]; exact hP, va_K.moved hW.alike hK, hD⟩, hS.F ht⟩) hS.2.2 dMo_scanOnce_158
      · have p_89 : i < 8 := by have := mt (nI_leI (a := 8) (b := i) (by omega) (by omega)).mpr c_4; omega
        refine lv_aload_n hx hb dMo_scanOnce_92 rfl (lv_at hl 0 rfl) ?_
        refine va_get (D := (dC, dI)) (ci := 4) (v := .ref (ad 4)) (C := RMo) (T := TMo) (N := 29) hx hb hc inMo hown hK hP 0 rfl rfl 4 (by decide) (hc _ w565) (fun _ h9 => h9) rfl dMo_scanOnce_93 ?_
        refine lv_iload_n hx hb dMo_scanOnce_96 rfl (lv_at hl 1 rfl) ?_
        refine lv_aload_n hx hb dMo_scanOnce_97 rfl (lv_at hl 0 rfl) ?_
        refine va_get (D := (dC, dI)) (ci := 4) (v := .int (E_4 0 3)) (C := RMo) (T := TMo) (N := 29) hx hb hc inMo hown hK hP 0 rfl rfl 28 (by decide) (hc _ w589) (fun _ h9 => h9) rfl dMo_scanOnce_98 ?_
        refine lv_if_ne (tgt := 115) hx hb dMo_scanOnce_101 (by decide) (fun c_9 => ?_) (fun c_9 => ?_)
        · refine lv_iconst (v := 0) hx hb dMo_scanOnce_115 (by decide +kernel) ?_
          refine va_iast hx hb hK hP hD hS 4 3 rfl rfl (vp_in_nI (by omega) (by decide)) dMo_scanOnce_116 (fun H locs hP hD hS => ?_)
          rw [nI_clamp (by omega)] at hP hD
          obtain ⟨S_11, eS_11⟩ : ∃ z9 : Ss, z9 = row S3 4 (upd (S3 4) i 0) := ⟨_, rfl⟩
          have hP : va_P (dC, dI) vwCl (MW ad ca S_11 E_4) H := by rw [eS_11]; exact hP
          have hD : va_D A (MW ad ca S_11 E_4) := by rw [eS_11]; exact hD
          obtain ⟨v_12, ev_12⟩ : ∃ y : Int32, y = (nI i) + 1 := ⟨_, rfl⟩
          refine lv_iinc (v := v_12) (lv' := [(3, .int v_12), (0, .ref (ad 0))]) hx hb dMo_scanOnce_117 hl (k := 1) rfl (by rw [ev_12]; rfl) (by decide) rfl (fun ls hl => ?_)
          refine lv_goto (tgt := 86) hx hb dMo_scanOnce_120 (by decide) ?_
          have gv_12 : v_12 = nI (i + 1) := (by rw [ev_12]; exact nI_1 i)
          clear ev_12
          subst v_12
          exact ih_86 _ _ _ _ (by omega) ⟨(i + 1), S_11, rfl, (by omega), (by have hv9 : (0 : Int32) = (if E2 0 3 = 0 then (fun k => rd S2 (8 + k)) else (fun _ => 0)) i := (by rw [if_neg (fun z => c_9 (hx3.trans z))]); rw [eS_11, eS3]; exact frow_s hv9), hP, hD, hS, lv_sub hl [1, 0] rfl⟩
        · refine lv_aload_n hx hb dMo_scanOnce_104 rfl (lv_at hl 0 rfl) ?_
          refine lv_bipush (v := 8) hx hb dMo_scanOnce_105 (by decide +kernel) ?_
          refine lv_iload_n hx hb dMo_scanOnce_107 rfl (lv_at hl 1 rfl) ?_
          refine lv_iadd hx hb dMo_scanOnce_108 ?_
          refine lv_topi (fun v_13 ev_13 => ?_)
          rw [eight_a] at ev_13
          subst v_13
          refine vp_callSi (va_Run.run (va_runV (As := [.int (nI (8 + i))]) (rest := [.int (nI i), .ref (ad 4)]) ⟨hx, hb, hml, hown, hc⟩ (cMo_read l dC dI ad ca H.size S3 E_4 (8 + i) (by omega) (by rw [eS3]; exact hP2.2.2.1 (8 + i) (by omega))) (cwV 1 hc (gV w732 w734 s14 w5 qMo_read) rfl rfl rfl (by decide +kernel) ⟨Nat.le_of_ble_eq_true rfl, Nat.le_of_ble_eq_true rfl⟩) ⟨gPre_blind, va_recv hK hP (ci := 4) (q0 := 0) rfl rfl, (gPre_in hP hK hD)⟩ rfl rfl hl.1 rfl (lv_room (Nat.le_of_ble_eq_true rfl)) dMo_scanOnce_109 ⟨Nat.zero_le _, Nat.zero_le _⟩)) (fun r_14 hr_14 => ?_)
          refine lv_goto (tgt := 116) hx hb dMo_scanOnce_112 (by decide) ?_
          refine va_iast hx hb hK hP hD hS 4 3 rfl rfl (vp_in_nI (by omega) (by decide)) dMo_scanOnce_116 (fun H locs hP hD hS => ?_)
          rw [nI_clamp (by omega)] at hP hD
          obtain ⟨S_15, eS_15⟩ : ∃ z9 : Ss, z9 = row S3 4 (upd (S3 4) i r_14) := ⟨_, rfl⟩
          have hP : va_P (dC, dI) vwCl (MW ad ca S_15 E_4) H := by rw [eS_15]; exact hP
          have hD : va_D A (MW ad ca S_15 E_4) := by rw [eS_15]; exact hD
          obtain ⟨v_16, ev_16⟩ : ∃ y : Int32, y = (nI i) + 1 := ⟨_, rfl⟩
          refine lv_iinc (v := v_16) (lv' := [(3, .int v_16), (0, .ref (ad 0))]) hx hb dMo_scanOnce_117 hl (k := 1) rfl (by rw [ev_16]; rfl) (by decide) rfl (fun ls hl => ?_)
          refine lv_goto (tgt := 86) hx hb dMo_scanOnce_120 (by decide) ?_
          have gv_16 : v_16 = nI (i + 1) := (by rw [ev_16]; exact nI_1 i)
          clear ev_16
          subst v_16
          exact ih_86 _ _ _ _ (by omega) ⟨(i + 1), S_15, rfl, (by omega), (by have hv9 : r_14 = (if E2 0 3 = 0 then (fun k => rd S2 (8 + k)) else (fun _ => 0)) i := (by rw [if_pos (hx3.symm.trans c_9), hr_14, eS3]; rfl); rw [eS_15, eS3]; exact frow_s hv9), hP, hD, hS, lv_sub hl [1, 0] rfl⟩
    · have p_38 : q < 12 := by have := mt (nI_leI (a := 12) (b := q) (by omega) (by omega)).mpr c_2; omega
      refine lv_aload_n hx hb dMo_scanOnce_41 rfl (lv_at hl 0 rfl) ?_
      refine va_get (D := (dC, dI)) (ci := 4) (v := .int (E2 0 3)) (C := RMo) (T := TMo) (N := 29) hx hb hc inMo hown hK hP 0 rfl rfl 28 (by decide) (hc _ w589) (fun _ h9 => h9) rfl dMo_scanOnce_42 ?_
      refine lv_if_ne (tgt := 74) hx hb dMo_scanOnce_45 (by decide) (fun c_16 => ?_) (fun c_16 => ?_)
      · refine lv_aload_n hx hb dMo_scanOnce_74 rfl (lv_at hl 0 rfl) ?_
        refine lv_dup hx hb dMo_scanOnce_75 rfl ?_
        refine va_get (D := (dC, dI)) (ci := 4) (v := .int (E2 0 2)) (C := RMo) (T := TMo) (N := 29) hx hb hc inMo hown hK hP 0 rfl rfl 27 (by decide) (hc _ w588) (fun _ h9 => h9) rfl dMo_scanOnce_76 ?_
        refine lv_iload_n hx hb dMo_scanOnce_79 rfl (lv_at hl 1 rfl) ?_
        refine lv_iadd hx hb dMo_scanOnce_80 ?_
        refine va_put (D := (dC, dI)) (ci := 4) (v := .int ((E2 0 2) + (nI b))) (ty := .int) (C := RMo) (T := TMo) (N := 29) hx hb hc inMo tyMo tyMo_ok nmMo hown hK hP hD hS 0 rfl rfl 27 (by decide) (hc _ w588) (fun _ h9 => h9) rfl (by decide +kernel) rfl rfl (Nat.le_of_ble_eq_true rfl) dMo_scanOnce_81 (fun H locs hP hD hS => ?_)
        obtain ⟨E_18, eE_18⟩ : ∃ z9 : Ss, z9 = row E2 0 (upd (E2 0) 2 ((E2 0 2) + (nI b))) := ⟨_, rfl⟩
        have hP : va_P (dC, dI) vwCl (MW ad ca S2 E_18) H := by rw [eE_18]; exact hP
        have hD : va_D A (MW ad ca S2 E_18) := by rw [eE_18]; exact hD
        have hX := (pgX_t hI c_16)
        have hx3 : E_18 0 3 = E2 0 3 := by rw [eE_18]; rfl
        have hx0 : E_18 0 0 = E 0 0 := by rw [eE_18]; exact h00
        have hx2 : E_18 0 2 = E 0 2 + nI b := by rw [eE_18, ← h02]; rfl
        refine lv_iconst (v := 0) hx hb dMo_scanOnce_84 (by decide +kernel) ?_
        refine lv_istore_n (lv' := [(3, .int 0), (0, .ref (ad 0)), (1, .int (nI b)), (2, .int (nI q))]) hx hb dMo_scanOnce_85 rfl hl (by decide) rfl (fun ls hl => ?_)
        refine g_loop (fun mu9 H locs ls => ∃ (i : Nat), ∃ (S3 : Ss), mu9 = 8 - i ∧ i ≤ 8 ∧ S3 = row S2 4 (fillN (S2 4) (if E2 0 3 = 0 then (fun k => rd S2 (8 + k)) else (fun _ => 0)) i) ∧ va_P (dC, dI) vwCl (MW ad ca S3 E_18) H ∧ va_D A (MW ad ca S3 E_18) ∧ va_S A s.heap H locs ∧ lv_has ls 4 [(0, .ref (ad 0)), (3, .int (nI i))]) ?_ _ _ _ _ ⟨0, S2, rfl, Nat.zero_le _, (frow_0 S2 4 _).symm, hP, hD, hS, lv_sub hl [1, 0] rfl⟩
        clear hP hD hS
        rintro mu9 H locs ls ⟨i, S3, en_86, hi, eS3, hP, hD, hS, hl⟩ ih_86
        refine lv_iload_n hx hb dMo_scanOnce_86 rfl (lv_at hl 1 rfl) ?_
        refine lv_bipush (v := 8) hx hb dMo_scanOnce_87 (by decide +kernel) ?_
        refine lv_icmp_ge (tgt := 123) hx hb dMo_scanOnce_89 (by decide) (fun c_18 => ?_) (fun c_18 => ?_)
        · have p_89 : 8 ≤ i := (nI_leI (a := 8) (b := i) (by omega) (by omega)).mp c_18
          refine lv_aload_n hx hb dMo_scanOnce_123 rfl (lv_at hl 0 rfl) ?_
          refine va_get (D := (dC, dI)) (ci := 4) (v := .int (E_18 0 3)) (C := RMo) (T := TMo) (N := 29) hx hb hc inMo hown hK hP 0 rfl rfl 28 (by decide) (hc _ w589) (fun _ h9 => h9) rfl dMo_scanOnce_124 ?_
          refine lv_if_ne (tgt := 143) hx hb dMo_scanOnce_127 (by decide) (fun c_19 => ?_) (fun c_19 => ?_)
          · refine lv_aload_n hx hb dMo_scanOnce_143 rfl (lv_at hl 0 rfl) ?_
            refine lv_dup hx hb dMo_scanOnce_144 rfl ?_
            refine va_get (D := (dC, dI)) (ci := 4) (v := .int (S3 0 2)) (C := RMo) (T := TMo) (N := 29) hx hb hc inMo hown hK hP 0 rfl rfl 25 (by decide) (hc _ w586) (fun _ h9 => h9) rfl dMo_scanOnce_145 ?_
            refine lv_iconst (v := 1) hx hb dMo_scanOnce_148 (by decide +kernel) ?_
            refine lv_iadd hx hb dMo_scanOnce_149 ?_
            refine va_put (D := (dC, dI)) (ci := 4) (v := .int ((S3 0 2) + 1)) (ty := .int) (C := RMo) (T := TMo) (N := 29) hx hb hc inMo tyMo tyMo_ok nmMo hown hK hP hD hS 0 rfl rfl 25 (by decide) (hc _ w586) (fun _ h9 => h9) rfl (by decide +kernel) rfl rfl (Nat.le_of_ble_eq_true rfl) dMo_scanOnce_150 (fun H locs hP hD hS => ?_)
            obtain ⟨S_21, eS_21⟩ : ∃ z9 : Ss, z9 = row S3 0 (upd (S3 0) 2 ((S3 0 2) + 1)) := ⟨_, rfl⟩
            have hP : va_P (dC, dI) vwCl (MW ad ca S_21 E_18) H := by rw [eS_21]; exact hP
            have hD : va_D A (MW ad ca S_21 E_18) := by rw [eS_21]; exact hD
            refine lv_aload_n hx hb dMo_scanOnce_153 rfl (lv_at hl 0 rfl) ?_
            refine lv_iconst (v := 1) hx hb dMo_scanOnce_154 (by decide +kernel) ?_
            refine va_put (D := (dC, dI)) (ci := 4) (v := .int 1) (ty := .boolean) (C := RMo) (T := TMo) (N := 29) hx hb hc inMo tyMo tyMo_ok nmMo hown hK hP hD hS 0 rfl rfl 26 (by decide) (hc _ w587) (fun _ h9 => h9) rfl (by decide +kernel) rfl rfl (Nat.le_of_ble_eq_true rfl) dMo_scanOnce_155 (fun H locs hP hD hS => ?_)
            obtain ⟨S_22, eS_22⟩ : ∃ z9 : Ss, z9 = row S_21 0 (upd (S_21 0) 3 1) := ⟨_, rfl⟩
            have hP : va_P (dC, dI) vwCl (MW ad ca S_22 E_18) H := by rw [eS_22]; exact hP
            have hD : va_D A (MW ad ca S_22 E_18) := by rw [eS_22]; exact hD
            exact W.vret hx hb hr (fun t ht hW => ⟨⟨(S_22, E_18), rfl, (by (try dsimp only) <;> exact scP_no hX (fun z => c_19 (hx3.trans z)) hx3 hx0 (by rw [eS_22, eS_21, eS3, if_neg (fun z => c_19 (hx3.trans z)), show i = 8 by omega]; rfl)), by rw [ht]; exact hP, va_K.moved hW.alike hK, hD⟩, hS.F ht⟩) hS.2.2 dMo_scanOnce_158
          · refine lv_aload_n hx hb dMo_scanOnce_130 rfl (lv_at hl 0 rfl) ?_
            refine lv_dup hx hb dMo_scanOnce_131 rfl ?_
            refine va_get (D := (dC, dI)) (ci := 4) (v := .int (S3 0 1)) (C := RMo) (T := TMo) (N := 29) hx hb hc inMo hown hK hP 0 rfl rfl 24 (by decide) (hc _ w585) (fun _ h9 => h9) rfl dMo_scanOnce_132 ?_
            refine lv_iconst (v := 1) hx hb dMo_scanOnce_135 (by decide +kernel) ?_
            refine lv_iadd hx hb dMo_scanOnce_136 ?_
            refine va_put (D := (dC, dI)) (ci := 4) (v := .int ((S3 0 1) + 1)) (ty := .int) (C := RMo) (T := TMo) (N := 29) hx hb hc inMo tyMo tyMo_ok nmMo hown hK hP hD hS 0 rfl rfl 24 (by decide) (hc _ w585) (fun _ h9 => h9) rfl (by decide +kernel) rfl rfl (Nat.le_of_ble_eq_true rfl) dMo_scanOnce_137 (fun H locs hP hD hS => ?_)
            obtain ⟨S_23, eS_23⟩ : ∃ z9 : Ss, z9 = row S3 0 (upd (S3 0) 1 ((S3 0 1) + 1)) := ⟨_, rfl⟩
            have hP : va_P (dC, dI) vwCl (MW ad ca S_23 E_18) H := by rw [eS_23]; exact hP
            have hD : va_D A (MW ad ca S_23 E_18) := by rw [eS_23]; exact hD
            refine lv_goto (tgt := 158) hx hb dMo_scanOnce_140 (by decide) ?_
            exact W.vret hx hb hr (fun t ht hW => ⟨⟨(S_23, E_18), rfl, (by (try dsimp only) <;> exact scP_ok hX hb30 (hx3.symm.trans c_19) hx0 hx2 (by rw [eS_23, eS3, if_pos (hx3.symm.trans c_19), show i = 8 by omega]; rfl)), by rw [ht]; exact hP, va_K.moved hW.alike hK, hD⟩, hS.F ht⟩) hS.2.2 dMo_scanOnce_158
        · have p_89 : i < 8 := by have := mt (nI_leI (a := 8) (b := i) (by omega) (by omega)).mpr c_18; omega
          refine lv_aload_n hx hb dMo_scanOnce_92 rfl (lv_at hl 0 rfl) ?_
          refine va_get (D := (dC, dI)) (ci := 4) (v := .ref (ad 4)) (C := RMo) (T := TMo) (N := 29) hx hb hc inMo hown hK hP 0 rfl rfl 4 (by decide) (hc _ w565) (fun _ h9 => h9) rfl dMo_scanOnce_93 ?_
          refine lv_iload_n hx hb dMo_scanOnce_96 rfl (lv_at hl 1 rfl) ?_
          refine lv_aload_n hx hb dMo_scanOnce_97 rfl (lv_at hl 0 rfl) ?_
          refine va_get (D := (dC, dI)) (ci := 4) (v := .int (E_18 0 3)) (C := RMo) (T := TMo) (N := 29) hx hb hc inMo hown hK hP 0 rfl rfl 28 (by decide) (hc _ w589) (fun _ h9 => h9) rfl dMo_scanOnce_98 ?_
          refine lv_if_ne (tgt := 115) hx hb dMo_scanOnce_101 (by decide) (fun c_23 => ?_) (fun c_23 => ?_)
          · refine lv_iconst (v := 0) hx hb dMo_scanOnce_115 (by decide +kernel) ?_
            refine va_iast hx hb hK hP hD hS 4 3 rfl rfl (vp_in_nI (by omega) (by decide)) dMo_scanOnce_116 (fun H locs hP hD hS => ?_)
            rw [nI_clamp (by omega)] at hP hD
            obtain ⟨S_25, eS_25⟩ : ∃ z9 : Ss, z9 = row S3 4 (upd (S3 4) i 0) := ⟨_, rfl⟩
            have hP : va_P (dC, dI) vwCl (MW ad ca S_25 E_18) H := by rw [eS_25]; exact hP
            have hD : va_D A (MW ad ca S_25 E_18) := by rw [eS_25]; exact hD
            obtain ⟨v_26, ev_26⟩ : ∃ y : Int32, y = (nI i) + 1 := ⟨_, rfl⟩
            refine lv_iinc (v := v_26) (lv' := [(3, .int v_26), (0, .ref (ad 0))]) hx hb dMo_scanOnce_117 hl (k := 1) rfl (by rw [ev_26]; rfl) (by decide) rfl (fun ls hl => ?_)
            refine lv_goto (tgt := 86) hx hb dMo_scanOnce_120 (by decide) ?_
            have gv_26 : v_26 = nI (i + 1) := (by rw [ev_26]; exact nI_1 i)
            clear ev_26
            subst v_26
            exact ih_86 _ _ _ _ (by omega) ⟨(i + 1), S_25, rfl, (by omega), (by have hv9 : (0 : Int32) = (if E2 0 3 = 0 then (fun k => rd S2 (8 + k)) else (fun _ => 0)) i := (by rw [if_neg (fun z => c_23 (hx3.trans z))]); rw [eS_25, eS3]; exact frow_s hv9), hP, hD, hS, lv_sub hl [1, 0] rfl⟩
          · refine lv_aload_n hx hb dMo_scanOnce_104 rfl (lv_at hl 0 rfl) ?_
            refine lv_bipush (v := 8) hx hb dMo_scanOnce_105 (by decide +kernel) ?_
            refine lv_iload_n hx hb dMo_scanOnce_107 rfl (lv_at hl 1 rfl) ?_
            refine lv_iadd hx hb dMo_scanOnce_108 ?_
            refine lv_topi (fun v_27 ev_27 => ?_)
            rw [eight_a] at ev_27
            subst v_27
            refine vp_callSi (va_Run.run (va_runV (As := [.int (nI (8 + i))]) (rest := [.int (nI i), .ref (ad 4)]) ⟨hx, hb, hml, hown, hc⟩ (cMo_read l dC dI ad ca H.size S3 E_18 (8 + i) (by omega) (by rw [eS3]; exact hP2.2.2.1 (8 + i) (by omega))) (cwV 1 hc (gV w732 w734 s14 w5 qMo_read) rfl rfl rfl (by decide +kernel) ⟨Nat.le_of_ble_eq_true rfl, Nat.le_of_ble_eq_true rfl⟩) ⟨gPre_blind, va_recv hK hP (ci := 4) (q0 := 0) rfl rfl, (gPre_in hP hK hD)⟩ rfl rfl hl.1 rfl (lv_room (Nat.le_of_ble_eq_true rfl)) dMo_scanOnce_109 ⟨Nat.zero_le _, Nat.zero_le _⟩)) (fun r_28 hr_28 => ?_)
            refine lv_goto (tgt := 116) hx hb dMo_scanOnce_112 (by decide) ?_
            refine va_iast hx hb hK hP hD hS 4 3 rfl rfl (vp_in_nI (by omega) (by decide)) dMo_scanOnce_116 (fun H locs hP hD hS => ?_)
            rw [nI_clamp (by omega)] at hP hD
            obtain ⟨S_29, eS_29⟩ : ∃ z9 : Ss, z9 = row S3 4 (upd (S3 4) i r_28) := ⟨_, rfl⟩
            have hP : va_P (dC, dI) vwCl (MW ad ca S_29 E_18) H := by rw [eS_29]; exact hP
            have hD : va_D A (MW ad ca S_29 E_18) := by rw [eS_29]; exact hD
            obtain ⟨v_30, ev_30⟩ : ∃ y : Int32, y = (nI i) + 1 := ⟨_, rfl⟩
            refine lv_iinc (v := v_30) (lv' := [(3, .int v_30), (0, .ref (ad 0))]) hx hb dMo_scanOnce_117 hl (k := 1) rfl (by rw [ev_30]; rfl) (by decide) rfl (fun ls hl => ?_)
            refine lv_goto (tgt := 86) hx hb dMo_scanOnce_120 (by decide) ?_
            have gv_30 : v_30 = nI (i + 1) := (by rw [ev_30]; exact nI_1 i)
            clear ev_30
            subst v_30
            exact ih_86 _ _ _ _ (by omega) ⟨(i + 1), S_29, rfl, (by omega), (by have hv9 : r_28 = (if E2 0 3 = 0 then (fun k => rd S2 (8 + k)) else (fun _ => 0)) i := (by rw [if_pos (hx3.symm.trans c_23), hr_28, eS3]; rfl); rw [eS_29, eS3]; exact frow_s hv9), hP, hD, hS, lv_sub hl [1, 0] rfl⟩
      · obtain ⟨hbt, hPG⟩ := pgI_0 hI c_16
        refine lv_iload_n hx hb dMo_scanOnce_48 rfl (lv_at hl 1 rfl) ?_
        refine lv_bipush (v := 30) hx hb dMo_scanOnce_49 (by decide +kernel) ?_
        refine lv_icmp_ne (tgt := 62) hx hb dMo_scanOnce_51 (by decide) (fun c_30 => ?_) (fun c_30 => ?_)
        · have hb9 : b < 30 := Nat.lt_of_le_of_ne hb30 (fun z => c_30 (by rw [z]; rfl))
          obtain ⟨n, d, hR⟩ := hP2.2.2.2.2.2 q p_38
          obtain ⟨v_32, ev_32⟩ : ∃ y : Int32, y = (nI b) + 1 := ⟨_, rfl⟩
          refine lv_iinc (v := v_32) (lv' := [(1, .int v_32), (0, .ref (ad 0)), (2, .int (nI q))]) hx hb dMo_scanOnce_62 hl (k := 1) rfl (by rw [ev_32]; rfl) (by decide) rfl (fun ls hl => ?_)
          refine lv_aload_n hx hb dMo_scanOnce_65 rfl (lv_at hl 1 rfl) ?_
          refine lv_iload_n hx hb dMo_scanOnce_66 rfl (lv_at hl 2 rfl) ?_
          refine g_calli (va_runV (As := [.int (nI q)]) (rest := []) ⟨hx, hb, hml, hown, hc⟩ (cMo_rung l dC dI ad ca H.size S2 E2 q n d p_38 hP2 hR c_16) (cwV 1 hc (gV w724 w726 s12 w5 qMo_rung) rfl rfl rfl (by decide +kernel) ⟨Nat.le_of_ble_eq_true rfl, Nat.le_of_ble_eq_true rfl⟩) ⟨gPre_blind, va_recv hK hP (ci := 4) (q0 := 0) rfl rfl, (gPre_in hP hK hD)⟩ rfl rfl hl.1 rfl (lv_room (Nat.le_of_ble_eq_true rfl)) dMo_scanOnce_67 ⟨Nat.zero_le _, Nat.zero_le _⟩) hD hS hA (fun r_34 u_33 H locs hu_33 hP hD hS => ?_)
          obtain ⟨S_33, E_33⟩ := u_33
          (try dsimp only at hu_33 hP hD)
          obtain ⟨g1, g2, g3, g4, g5⟩ := hu_33
          subst S_33
          have hk9 := rgr_ok hP2 p_38
          by_cases hm2 : (rgr S2 q).1 = -2
          · obtain ⟨y1, y2⟩ := g1 hm2
            subst y1
            refine W.eq (g2 := F0 m 70 ls [.int (nI 12)]) rfl ?_
            refine lv_istore_n (lv' := [(2, .int (nI 12)), (1, .int v_32), (0, .ref (ad 0))]) hx hb dMo_scanOnce_70 rfl hl (by decide) rfl (fun ls hl => ?_)
            refine lv_goto (tgt := 35) hx hb dMo_scanOnce_71 (by decide) ?_
            have gv_32 : v_32 = nI (b + 1) := (by rw [ev_32]; exact nI_1 b)
            clear ev_32
            subst v_32
            exact ih_35 _ _ _ _ (by omega) ⟨0, (b + 1), 12, (rgr S2 q).2, E_33, rfl, (by omega), (by decide), hk9.1.1, (pgI_f hPG hb9 p_38 hm2 y2), (g4.trans h00), (g5.trans h02), hP, hD, hS, lv_sub hl [2, 1, 0] rfl⟩
          · obtain ⟨y1, y2⟩ := g2 hm2
            obtain ⟨q2, hq2, eq2⟩ := hk9.2.resolve_left hm2
            rw [eq2] at y1
            subst y1
            refine lv_istore_n (lv' := [(2, .int (nI q2)), (1, .int v_32), (0, .ref (ad 0))]) hx hb dMo_scanOnce_70 rfl hl (by decide) rfl (fun ls hl => ?_)
            refine lv_goto (tgt := 35) hx hb dMo_scanOnce_71 (by decide) ?_
            have gv_32 : v_32 = nI (b + 1) := (by rw [ev_32]; exact nI_1 b)
            clear ev_32
            subst v_32
            exact ih_35 _ _ _ _ (by omega) ⟨(t - 1), (b + 1), q2, (rgr S2 q).2, E_33, rfl, (by omega), hq2, hk9.1.1, (pgI_s hPG hb9 p_38 hq2 eq2 y2 (by omega)), (g4.trans h00), (g5.trans h02), hP, hD, hS, lv_sub hl [2, 1, 0] rfl⟩
        · have hb9 : b = 30 := (nI_eq (a := b) (b := 30) (by omega) (by decide)).mp c_30
          refine lv_aload_n hx hb dMo_scanOnce_54 rfl (lv_at hl 0 rfl) ?_
          refine lv_iconst (v := 2) hx hb dMo_scanOnce_55 (by decide +kernel) ?_
          refine va_put (D := (dC, dI)) (ci := 4) (v := .int 2) (ty := .int) (C := RMo) (T := TMo) (N := 29) hx hb hc inMo tyMo tyMo_ok nmMo hown hK hP hD hS 0 rfl rfl 28 (by decide) (hc _ w589) (fun _ h9 => h9) rfl (by decide +kernel) rfl rfl (Nat.le_of_ble_eq_true rfl) dMo_scanOnce_56 (fun H locs hP hD hS => ?_)
          obtain ⟨E_35, eE_35⟩ : ∃ z9 : Ss, z9 = row E2 0 (upd (E2 0) 3 2) := ⟨_, rfl⟩
          have hP : va_P (dC, dI) vwCl (MW ad ca S2 E_35) H := by rw [eE_35]; exact hP
          have hD : va_D A (MW ad ca S2 E_35) := by rw [eE_35]; exact hD
          refine lv_goto (tgt := 35) hx hb dMo_scanOnce_59 (by decide) ?_
          exact ih_35 _ _ _ _ (by omega) ⟨0, b, q, S2, E_35, rfl, hb30, hq12, hP2, (pgI_30 hPG hb9 p_38 (by rw [eE_35]; rfl)), (by rw [eE_35]; exact h00), (by rw [eE_35]; exact h02), hP, hD, hS, lv_sub hl [0, 1, 2] rfl⟩
  · have p_14 : i < 8 := by have := mt (nI_leI (a := 8) (b := i) (by omega) (by omega)).mpr c_1; omega
    refine lv_aload_n hx hb dMo_scanOnce_17 rfl (lv_at hl 0 rfl) ?_
    refine va_get (D := (dC, dI)) (ci := 4) (v := .ref (ad 1)) (C := RMo) (T := TMo) (N := 29) hx hb hc inMo hown hK hP 0 rfl rfl 1 (by decide) (hc _ w562) (fun _ h9 => h9) rfl dMo_scanOnce_18 ?_
    refine lv_iload_n hx hb dMo_scanOnce_21 rfl (lv_at hl 3 rfl) ?_
    refine lv_aload_n hx hb dMo_scanOnce_22 rfl (lv_at hl 0 rfl) ?_
    refine va_get (D := (dC, dI)) (ci := 4) (v := .ref (ad 3)) (C := RMo) (T := TMo) (N := 29) hx hb hc inMo hown hK hP 0 rfl rfl 3 (by decide) (hc _ w564) (fun _ h9 => h9) rfl dMo_scanOnce_23 ?_
    refine lv_iload_n hx hb dMo_scanOnce_26 rfl (lv_at hl 3 rfl) ?_
    refine va_iald hx hb hK hP 3 2 rfl rfl (vp_in_nI (by omega) (by decide)) dMo_scanOnce_27 ?_
    refine lv_topi (fun v_36 ev_36 => ?_)
    rw [nI_clamp (by omega)] at ev_36
    subst v_36
    refine va_iast hx hb hK hP hD hS 1 0 rfl rfl (vp_in_nI (by omega) (by decide)) dMo_scanOnce_28 (fun H locs hP hD hS => ?_)
    rw [nI_clamp (by omega)] at hP hD
    obtain ⟨S_37, eS_37⟩ : ∃ z9 : Ss, z9 = row S1 1 (upd (S1 1) i (S1 3 i)) := ⟨_, rfl⟩
    have hP : va_P (dC, dI) vwCl (MW ad ca S_37 E_1) H := by rw [eS_37]; exact hP
    have hD : va_D A (MW ad ca S_37 E_1) := by rw [eS_37]; exact hD
    obtain ⟨v_38, ev_38⟩ : ∃ y : Int32, y = (nI i) + 1 := ⟨_, rfl⟩
    refine lv_iinc (v := v_38) (lv' := [(3, .int v_38), (0, .ref (ad 0)), (1, .int 0), (2, .int 0)]) hx hb dMo_scanOnce_29 hl (k := 3) rfl (by rw [ev_38]; rfl) (by decide) rfl (fun ls hl => ?_)
    refine lv_goto (tgt := 11) hx hb dMo_scanOnce_32 (by decide) ?_
    have gv_38 : v_38 = nI (i + 1) := (by rw [ev_38]; exact nI_1 i)
    clear ev_38
    subst v_38
    exact ih_11 _ _ _ _ (by omega) ⟨(i + 1), S_37, rfl, (by omega), (by rw [eS_37, eS1]; exact frow_s rfl), hP, hD, hS, lv_sub hl [1, 2, 3, 0] rfl⟩

set_option maxHeartbeats 4000000 in
set_option maxRecDepth 100000 in
theorem cMo_scan (l : Launch) (dC : Nat → ClassId) (dI : Nat → Nat → Nat) (ad : Nat → Nat) (ca : Nat → ClassId) (sz : Nat) (S E : Ss) (a : Int32) (hPr : Pr S) : Met l yMo_scan (kMo_scan :: CW) ({ frames := 6, cells := 0, slots := 0, locals := 137 }) (va_Pc [.ref (ad 0), .int a] (gPre (dC, dI) (mT ca) (MW ad ca S E) sz)) (va_Qi (fun (r : Int32) (u : Ss × Ss) => (oScan S a).1 = u.2 0 0 ∧ ((oScan S a).1 = 0 → r = (oScan S a).2.1) ∧ u.1 = (oScan S a).2.2) (fun u => gAt (dC, dI) (mT ca) (va_A (MW ad ca S E) sz) (MW ad ca u.1 u.2)) (va_A (MW ad ca S E) sz)) 0 0 (va_A (MW ad ca S E) sz) := by
  refine Met.ofW (cc := bMo_scan) (maxL := 3) (ret := (some .int)) (by decide +kernel) rfl ?_
  intro p e s m args below meth c s₁ B hml hv
  obtain ⟨rfl, hsz, hP, hK, hD0⟩ := hv
  have hx := B.exec
  have hb := B.bytes
  have hr := B.returns
  have hts := atoms_spec (ws := kMo_scan :: CW) B.pre
  have hc : ∀ w ∈ CW, w.before _ s = true := fun w h => hts w (List.mem_cons_of_mem _ h)
  have hown : s.vm.findClass RMo = some m.cls := findClass_of_methodNamed B.named
  have hlocks := B.notSynchronized
  subst hsz
  have hD := hD0.self (sz := s.heap.size)
  generalize hAe : va_A (MW ad ca S E) s.heap.size = A at hD ⊢
  have hA : ∀ q : Nat, s.heap.size ≤ q → A q := fun q h => by rw [← hAe]; exact Or.inr h
  have hS : va_S A s.heap s.heap [] := va_S.rf
  have hl := lv_entry ([.ref (ad 0), .int a]) (n := 3) (Nat.le_of_ble_eq_true rfl)
  rw [lg_entry_eq]
  generalize (lg_sl ([.ref (ad 0), .int a]) ++ List.replicate (3 - (lg_sl ([.ref (ad 0), .int a])).length) Slot.unset).toArray = ls at hl ⊢
  have hl : lv_has ls 3 [(0, .ref (ad 0)), (1, .int a)] := hl
  refine lv_aload_n hx hb dMo_scan_0 rfl (lv_at hl 0 rfl) ?_
  refine lv_iconst (v := 0) hx hb dMo_scan_1 (by decide +kernel) ?_
  refine va_put (D := (dC, dI)) (ci := 4) (v := .int 0) (ty := .int) (C := RMo) (T := TMo) (N := 29) hx hb hc inMo tyMo tyMo_ok nmMo hown hK hP hD hS 0 rfl rfl 0 (by decide) (hc _ w561) (fun _ h9 => h9) rfl (by decide +kernel) rfl rfl (Nat.le_of_ble_eq_true rfl) dMo_scan_2 (fun H locs hP hD hS => ?_)
  obtain ⟨E_1, eE_1⟩ : ∃ z9 : Ss, z9 = row E 0 (upd (E 0) 0 0) := ⟨_, rfl⟩
  have hP : va_P (dC, dI) vwCl (MW ad ca S E_1) H := by rw [eE_1]; exact hP
  have hD : va_D A (MW ad ca S E_1) := by rw [eE_1]; exact hD
  refine lv_iload_n hx hb dMo_scan_5 rfl (lv_at hl 1 rfl) ?_
  refine lv_iconst (v := 1) hx hb dMo_scan_6 (by decide +kernel) ?_
  refine lv_bipush (v := 20) hx hb dMo_scan_7 (by decide +kernel) ?_
  refine vp_callSi (va_Run.run (va_runS (As := [.int a, .int 1, .int 20]) (rest := []) ⟨hx, hb, hml, hown, hc⟩ (cMo_in l a 1 20) (va_cwS 3 hc (g_S w658 w659 w5 qMo_in) rfl rfl rfl (by decide +kernel) ⟨Nat.le_of_ble_eq_true rfl, Nat.le_of_ble_eq_true rfl⟩) ⟨tPre_blind, tPre_in⟩ rfl rfl hl.1 rfl (lv_room (Nat.le_of_ble_eq_true rfl)) dMo_scan_9 ⟨Nat.zero_le _, Nat.zero_le _⟩)) (fun r_2 hr_2 => ?_)
  refine lv_if_ne (tgt := 21) hx hb dMo_scan_12 (by decide) (fun c_2 => ?_) (fun c_2 => ?_)
  · have hw20 := br_n hr_2 c_2
    obtain ⟨n, hn20, en⟩ := wi_120 hw20
    subst en
    refine lv_aload_n hx hb dMo_scan_21 rfl (lv_at hl 0 rfl) ?_
    refine va_get (D := (dC, dI)) (ci := 4) (v := .int (S 0 3)) (C := RMo) (T := TMo) (N := 29) hx hb hc inMo hown hK hP 0 rfl rfl 26 (by decide) (hc _ w587) (fun _ h9 => h9) rfl dMo_scan_22 ?_
    refine lv_if_eq (tgt := 34) hx hb dMo_scan_25 (by decide) (fun c_3 => ?_) (fun c_3 => ?_)
    · have hs0 : S 0 3 = 0 := c_3
      refine lv_aload_n hx hb dMo_scan_34 rfl (lv_at hl 0 rfl) ?_
      refine lv_iconst (v := 0) hx hb dMo_scan_35 (by decide +kernel) ?_
      refine va_put (D := (dC, dI)) (ci := 4) (v := .int 0) (ty := .int) (C := RMo) (T := TMo) (N := 29) hx hb hc inMo tyMo tyMo_ok nmMo hown hK hP hD hS 0 rfl rfl 27 (by decide) (hc _ w588) (fun _ h9 => h9) rfl (by decide +kernel) rfl rfl (Nat.le_of_ble_eq_true rfl) dMo_scan_36 (fun H locs hP hD hS => ?_)
      obtain ⟨E_5, eE_5⟩ : ∃ z9 : Ss, z9 = row E_1 0 (upd (E_1 0) 2 0) := ⟨_, rfl⟩
      have hP : va_P (dC, dI) vwCl (MW ad ca S E_5) H := by rw [eE_5]; exact hP
      have hD : va_D A (MW ad ca S E_5) := by rw [eE_5]; exact hD
      refine lv_iconst (v := 0) hx hb dMo_scan_39 (by decide +kernel) ?_
      refine lv_istore_n (lv' := [(2, .int 0), (0, .ref (ad 0)), (1, .int (nI n))]) hx hb dMo_scan_40 rfl hl (by decide) rfl (fun ls hl => ?_)
      refine g_loop (fun mu9 H locs ls => ∃ (i : Nat), ∃ (b : Nat), ∃ (S1 : Ss), ∃ (E1 : Ss), mu9 = n - i ∧ i ≤ n ∧ b ≤ 30 * i ∧ Pr S1 ∧ E1 0 0 = 0 ∧ scI (scn (nI n).toNatClampNeg 0 S) (n - i) b S1 E1 ∧ va_P (dC, dI) vwCl (MW ad ca S1 E1) H ∧ va_D A (MW ad ca S1 E1) ∧ va_S A s.heap H locs ∧ lv_has ls 3 [(0, .ref (ad 0)), (1, .int (nI n)), (2, .int (nI i))]) ?_ _ _ _ _ ⟨0, 0, S, E_5, rfl, Nat.zero_le _, Nat.zero_le _, hPr, (by rw [eE_5, eE_1]; rfl), (Or.inl ⟨hs0, by rw [eE_5, eE_1]; rfl, by rw [nI_clamp (by omega)]; rfl⟩), hP, hD, hS, lv_sub hl [1, 2, 0] rfl⟩
      clear hP hD hS
      rintro mu9 H locs ls ⟨i, b, S1, E1, en_41, hi, hb9, hP1, h00, hI, hP, hD, hS, hl⟩ ih_41
      refine lv_iload_n hx hb dMo_scan_41 rfl (lv_at hl 2 rfl) ?_
      refine lv_iload_n hx hb dMo_scan_42 rfl (lv_at hl 1 rfl) ?_
      refine lv_icmp_ge (tgt := 63) hx hb dMo_scan_43 (by decide) (fun c_5 => ?_) (fun c_5 => ?_)
      · have p_43 : n ≤ i := (nI_leI (a := n) (b := i) (by omega) (by omega)).mp c_5
        refine lv_aload_n hx hb dMo_scan_63 rfl (lv_at hl 0 rfl) ?_
        refine va_get (D := (dC, dI)) (ci := 4) (v := .int (S1 0 3)) (C := RMo) (T := TMo) (N := 29) hx hb hc inMo hown hK hP 0 rfl rfl 26 (by decide) (hc _ w587) (fun _ h9 => h9) rfl dMo_scan_64 ?_
        refine lv_if_eq (tgt := 81) hx hb dMo_scan_67 (by decide) (fun c_6 => ?_) (fun c_6 => ?_)
        · refine lv_aload_n hx hb dMo_scan_81 rfl (lv_at hl 0 rfl) ?_
          refine va_get (D := (dC, dI)) (ci := 4) (v := .int (E1 0 2)) (C := RMo) (T := TMo) (N := 29) hx hb hc inMo hown hK hP 0 rfl rfl 27 (by decide) (hc _ w588) (fun _ h9 => h9) rfl dMo_scan_82 ?_
          exact W.iret (v := (E1 0 2)) hx hb hr (fun t ht hW => ⟨⟨_, (S1, E1), rfl, (by (try dsimp only) <;> exact (by have hO := oScan_1 (b := b) hw20 hs0 (by rw [show n - i = 0 by omega] at hI; exact hI) (by omega) c_6; rw [hO]; exact ⟨h00.symm, fun _ => rfl, rfl⟩)), by rw [ht]; exact hP, va_K.moved hW.alike hK, hD⟩, hS.F ht⟩) hS.2.2 dMo_scan_85
        · refine lv_aload_n hx hb dMo_scan_70 rfl (lv_at hl 0 rfl) ?_
          refine lv_aload_n hx hb dMo_scan_71 rfl (lv_at hl 0 rfl) ?_
          refine va_get (D := (dC, dI)) (ci := 4) (v := .int (E1 0 3)) (C := RMo) (T := TMo) (N := 29) hx hb hc inMo hown hK hP 0 rfl rfl 28 (by decide) (hc _ w589) (fun _ h9 => h9) rfl dMo_scan_72 ?_
          refine g_calli (va_runV (As := [.int (E1 0 3)]) (rest := []) ⟨hx, hb, hml, hown, hc⟩ (cMo_raise l dC dI ad ca H.size S1 E1 (E1 0 3)) (cwV 1 hc (gV w661 w663 s9 w5 qMo_raise) rfl rfl rfl (by decide +kernel) ⟨Nat.le_of_ble_eq_true rfl, Nat.le_of_ble_eq_true rfl⟩) ⟨gPre_blind, va_recv hK hP (ci := 4) (q0 := 0) rfl rfl, (gPre_in hP hK hD)⟩ rfl rfl hl.1 rfl (lv_room (Nat.le_of_ble_eq_true rfl)) dMo_scan_75 ⟨Nat.zero_le _, Nat.zero_le _⟩) hD hS hA (fun r_9 u_8 H locs hu_8 hP hD hS => ?_)
          obtain ⟨S_8, E_8⟩ := u_8
          (try dsimp only at hu_8 hP hD)
          obtain ⟨hr9, hS9, hE9⟩ := hu_8
          subst S_8
          refine lv_goto (tgt := 85) hx hb dMo_scan_78 (by decide) ?_
          exact W.iret (v := r_9) hx hb hr (fun t ht hW => ⟨⟨_, (S1, E_8), rfl, (by (try dsimp only) <;> exact (by obtain ⟨hO, h39⟩ := oScan_2 hw20 hs0 hI c_6; rw [hO]; exact ⟨by rw [hE9]; rfl, fun h => absurd (show E1 0 3 = 0 from h) h39, rfl⟩)), by rw [ht]; exact hP, va_K.moved hW.alike hK, hD⟩, hS.F ht⟩) hS.2.2 dMo_scan_85
      · have p_43 : i < n := by have := mt (nI_leI (a := n) (b := i) (by omega) (by omega)).mpr c_5; omega
        refine lv_aload_n hx hb dMo_scan_46 rfl (lv_at hl 0 rfl) ?_
        refine va_get (D := (dC, dI)) (ci := 4) (v := .int (S1 0 3)) (C := RMo) (T := TMo) (N := 29) hx hb hc inMo hown hK hP 0 rfl rfl 26 (by decide) (hc _ w587) (fun _ h9 => h9) rfl dMo_scan_47 ?_
        refine lv_if_ne (tgt := 63) hx hb dMo_scan_50 (by decide) (fun c_9 => ?_) (fun c_9 => ?_)
        · refine lv_aload_n hx hb dMo_scan_63 rfl (lv_at hl 0 rfl) ?_
          refine va_get (D := (dC, dI)) (ci := 4) (v := .int (S1 0 3)) (C := RMo) (T := TMo) (N := 29) hx hb hc inMo hown hK hP 0 rfl rfl 26 (by decide) (hc _ w587) (fun _ h9 => h9) rfl dMo_scan_64 ?_
          refine lv_if_eq (tgt := 81) hx hb dMo_scan_67 (by decide) (fun c_10 => ?_) (fun c_10 => ?_)
          · exact absurd c_10 c_9
          · refine lv_aload_n hx hb dMo_scan_70 rfl (lv_at hl 0 rfl) ?_
            refine lv_aload_n hx hb dMo_scan_71 rfl (lv_at hl 0 rfl) ?_
            refine va_get (D := (dC, dI)) (ci := 4) (v := .int (E1 0 3)) (C := RMo) (T := TMo) (N := 29) hx hb hc inMo hown hK hP 0 rfl rfl 28 (by decide) (hc _ w589) (fun _ h9 => h9) rfl dMo_scan_72 ?_
            refine g_calli (va_runV (As := [.int (E1 0 3)]) (rest := []) ⟨hx, hb, hml, hown, hc⟩ (cMo_raise l dC dI ad ca H.size S1 E1 (E1 0 3)) (cwV 1 hc (gV w661 w663 s9 w5 qMo_raise) rfl rfl rfl (by decide +kernel) ⟨Nat.le_of_ble_eq_true rfl, Nat.le_of_ble_eq_true rfl⟩) ⟨gPre_blind, va_recv hK hP (ci := 4) (q0 := 0) rfl rfl, (gPre_in hP hK hD)⟩ rfl rfl hl.1 rfl (lv_room (Nat.le_of_ble_eq_true rfl)) dMo_scan_75 ⟨Nat.zero_le _, Nat.zero_le _⟩) hD hS hA (fun r_13 u_12 H locs hu_12 hP hD hS => ?_)
            obtain ⟨S_12, E_12⟩ := u_12
            (try dsimp only at hu_12 hP hD)
            obtain ⟨hr9, hS9, hE9⟩ := hu_12
            subst S_12
            refine lv_goto (tgt := 85) hx hb dMo_scan_78 (by decide) ?_
            exact W.iret (v := r_13) hx hb hr (fun t ht hW => ⟨⟨_, (S1, E_12), rfl, (by (try dsimp only) <;> exact (by obtain ⟨hO, h39⟩ := oScan_2 hw20 hs0 hI c_10; rw [hO]; exact ⟨by rw [hE9]; rfl, fun h => absurd (show E1 0 3 = 0 from h) h39, rfl⟩)), by rw [ht]; exact hP, va_K.moved hW.alike hK, hD⟩, hS.F ht⟩) hS.2.2 dMo_scan_85
        · refine lv_aload_n hx hb dMo_scan_53 rfl (lv_at hl 0 rfl) ?_
          refine g_callv (va_runV (As := []) (rest := []) ⟨hx, hb, hml, hown, hc⟩ (cMo_scanOnce l dC dI ad ca H.size S1 E1 hP1) (cwV 0 hc (gV w720 w722 s11 w5 qMo_scanOnce) rfl rfl rfl (by decide +kernel) ⟨Nat.le_of_ble_eq_true rfl, Nat.le_of_ble_eq_true rfl⟩) ⟨gPre_blind, va_recv hK hP (ci := 4) (q0 := 0) rfl rfl, (gPre_in hP hK hD)⟩ rfl rfl hl.1 rfl (lv_room (Nat.le_of_ble_eq_true rfl)) dMo_scan_54 ⟨Nat.zero_le _, Nat.zero_le _⟩) hD hS hA (fun u_14 H locs hu_14 hP hD hS => ?_)
          obtain ⟨S_14, E_14⟩ := u_14
          (try dsimp only at hu_14 hP hD)
          obtain ⟨p1, p2, b2, hb2, hI2⟩ := scI_s (k := n - (i + 1)) hP1 (by rw [show n - (i + 1) + 1 = n - i by omega]; exact hI) c_9 hu_14
          obtain ⟨v_15, ev_15⟩ : ∃ y : Int32, y = (nI i) + 1 := ⟨_, rfl⟩
          refine lv_iinc (v := v_15) (lv' := [(2, .int v_15), (0, .ref (ad 0)), (1, .int (nI n))]) hx hb dMo_scan_57 hl (k := 2) rfl (by rw [ev_15]; rfl) (by decide) rfl (fun ls hl => ?_)
          refine lv_goto (tgt := 41) hx hb dMo_scan_60 (by decide) ?_
          have gv_15 : v_15 = nI (i + 1) := (by rw [ev_15]; exact nI_1 i)
          clear ev_15
          subst v_15
          exact ih_41 _ _ _ _ (by omega) ⟨(i + 1), b2, S_14, E_14, rfl, (by omega), (by omega), p1, (p2.trans h00), hI2, hP, hD, hS, lv_sub hl [1, 2, 0] rfl⟩
    · refine lv_aload_n hx hb dMo_scan_28 rfl (lv_at hl 0 rfl) ?_
      refine lv_iconst (v := 2) hx hb dMo_scan_29 (by decide +kernel) ?_
      refine g_calli (va_runV (As := [.int 2]) (rest := []) ⟨hx, hb, hml, hown, hc⟩ (cMo_raise l dC dI ad ca H.size S E_1 2) (cwV 1 hc (gV w661 w663 s9 w5 qMo_raise) rfl rfl rfl (by decide +kernel) ⟨Nat.le_of_ble_eq_true rfl, Nat.le_of_ble_eq_true rfl⟩) ⟨gPre_blind, va_recv hK hP (ci := 4) (q0 := 0) rfl rfl, (gPre_in hP hK hD)⟩ rfl rfl hl.1 rfl (lv_room (Nat.le_of_ble_eq_true rfl)) dMo_scan_30 ⟨Nat.zero_le _, Nat.zero_le _⟩) hD hS hA (fun r_17 u_16 H locs hu_16 hP hD hS => ?_)
      obtain ⟨S_16, E_16⟩ := u_16
      (try dsimp only at hu_16 hP hD)
      obtain ⟨hr9, hS9, hE9⟩ := hu_16
      subst S_16
      exact W.iret (v := r_17) hx hb hr (fun t ht hW => ⟨⟨_, (S, E_16), rfl, (by (try dsimp only) <;> exact (by have hO : oScan S (nI n) = (2, 0, S) := (by unfold oScan; rw [if_neg (fun h => h hw20), if_pos c_3]); rw [hO]; exact ⟨by rw [hE9]; rfl, fun h => absurd (show (2 : Int32) = 0 from h) (by decide), rfl⟩)), by rw [ht]; exact hP, va_K.moved hW.alike hK, hD⟩, hS.F ht⟩) hS.2.2 dMo_scan_33
  · refine lv_aload_n hx hb dMo_scan_15 rfl (lv_at hl 0 rfl) ?_
    refine lv_iconst (v := 1) hx hb dMo_scan_16 (by decide +kernel) ?_
    refine g_calli (va_runV (As := [.int 1]) (rest := []) ⟨hx, hb, hml, hown, hc⟩ (cMo_raise l dC dI ad ca H.size S E_1 1) (cwV 1 hc (gV w661 w663 s9 w5 qMo_raise) rfl rfl rfl (by decide +kernel) ⟨Nat.le_of_ble_eq_true rfl, Nat.le_of_ble_eq_true rfl⟩) ⟨gPre_blind, va_recv hK hP (ci := 4) (q0 := 0) rfl rfl, (gPre_in hP hK hD)⟩ rfl rfl hl.1 rfl (lv_room (Nat.le_of_ble_eq_true rfl)) dMo_scan_17 ⟨Nat.zero_le _, Nat.zero_le _⟩) hD hS hA (fun r_19 u_18 H locs hu_18 hP hD hS => ?_)
    obtain ⟨S_18, E_18⟩ := u_18
    (try dsimp only at hu_18 hP hD)
    obtain ⟨hr9, hS9, hE9⟩ := hu_18
    subst S_18
    exact W.iret (v := r_19) hx hb hr (fun t ht hW => ⟨⟨_, (S, E_18), rfl, (by (try dsimp only) <;> exact (by have hO : oScan S a = (1, 0, S) := (by unfold oScan; rw [if_pos (br_0 hr_2 c_2)]); rw [hO]; exact ⟨by rw [hE9]; rfl, fun h => absurd (show (1 : Int32) = 0 from h) (by decide), rfl⟩)), by rw [ht]; exact hP, va_K.moved hW.alike hK, hD⟩, hS.F ht⟩) hS.2.2 dMo_scan_20
