set_option maxHeartbeats 4000000 in
set_option maxRecDepth 100000 in
theorem cMo_calculate (l : Launch) (dC : Nat → ClassId) (dI : Nat → Nat → Nat) (ad : Nat → Nat) (ca : Nat → ClassId) (sz : Nat) (S E : Ss) (j q0 p0 : Nat) (hj : j < 10) (hk9 : S 14 j = 5 ∨ S 14 j = 6 ∨ S 14 j = 7) (hp0 : p0 < 8) (ep : S 15 j = nI p0) (hq0 : q0 < 8) (eq : S 16 j = nI q0) (hv : rng (S 5 p0)) (hf : rng (S 17 j)) (ho : rng (S 18 j)) : Met l yMo_calculate (kMo_calculate :: CW) ({ frames := 1, cells := 0, slots := 0, locals := 23 }) (va_Pc [.ref (ad 0), .int (nI j)] (gPre (dC, dI) (mT ca) (MW ad ca S E) sz)) (va_Qv (fun (u : Ss × Ss) => (S 14 j = 6 ∧ S 17 j = 0 → u.1 = S ∧ u.2 = row E 0 (upd (E 0) 3 3)) ∧ (¬ (S 14 j = 6 ∧ S 17 j = 0) → u.1 = clW S j q0 p0 ∧ u.2 = E)) (fun u => gAt (dC, dI) (mT ca) (va_A (MW ad ca S E) sz) (MW ad ca u.1 u.2)) (va_A (MW ad ca S E) sz)) 0 0 (va_A (MW ad ca S E) sz) := by
  refine Met.ofW (cc := bMo_calculate) (maxL := 4) (ret := none) (by decide +kernel) rfl ?_
  intro p e s m args below meth c s₁ B hml hv
  obtain ⟨rfl, hsz, hP, hK, hD0⟩ := hv
  have hx := B.exec
  have hb := B.bytes
  have hr := B.returns
  have hts := atoms_spec (ws := kMo_calculate :: CW) B.pre
  have hc : ∀ w ∈ CW, w.before _ s = true := fun w h => hts w (List.mem_cons_of_mem _ h)
  have hown : s.vm.findClass RMo = some m.cls := findClass_of_methodNamed B.named
  have hlocks := B.notSynchronized
  subst hsz
  have hD := hD0.self (sz := s.heap.size)
  generalize hAe : va_A (MW ad ca S E) s.heap.size = A at hD ⊢
  have hA : ∀ q : Nat, s.heap.size ≤ q → A q := fun q h => by rw [← hAe]; exact Or.inr h
  have hS : va_S A s.heap s.heap [] := va_S.rf
  have hl := lv_entry ([.ref (ad 0), .int (nI j)]) (n := 4) (Nat.le_of_ble_eq_true rfl)
  rw [lg_entry_eq]
  generalize (lg_sl ([.ref (ad 0), .int (nI j)]) ++ List.replicate (4 - (lg_sl ([.ref (ad 0), .int (nI j)])).length) Slot.unset).toArray = ls at hl ⊢
  have hl : lv_has ls 4 [(0, .ref (ad 0)), (1, .int (nI j))] := hl
  refine lv_aload_n hx hb dMo_calculate_0 rfl (lv_at hl 0 rfl) ?_
  refine va_get (D := (dC, dI)) (ci := 4) (v := .ref (ad 5)) (C := RMo) (T := TMo) (N := 29) hx hb hc inMo hown hK hP 0 rfl rfl 5 (by decide) (hc _ w566) (fun _ h9 => h9) rfl dMo_calculate_1 ?_
  refine lv_aload_n hx hb dMo_calculate_4 rfl (lv_at hl 0 rfl) ?_
  refine va_get (D := (dC, dI)) (ci := 4) (v := .ref (ad 7)) (C := RMo) (T := TMo) (N := 29) hx hb hc inMo hown hK hP 0 rfl rfl 7 (by decide) (hc _ w568) (fun _ h9 => h9) rfl dMo_calculate_5 ?_
  refine lv_iload_n hx hb dMo_calculate_8 rfl (lv_at hl 1 rfl) ?_
  refine va_iald hx hb hK hP 7 6 rfl rfl (vp_in_nI (by omega) (by decide)) dMo_calculate_9 ?_
  refine lv_topi (fun v_1 ev_1 => ?_)
  rw [nI_clamp (by omega)] at ev_1
  subst v_1
  refine W.eq (g2 := F0 m 10 ls [.int (nI p0), .ref (ad 5)]) (by rw [show S 15 j = nI p0 from ep]) ?_
  refine va_lald hx hb hK hP 5 4 rfl rfl (vp_in_nI (by omega) (by decide)) dMo_calculate_10 ?_
  refine lv_topl (fun v_2 ev_2 => ?_)
  rw [nI_clamp (by omega)] at ev_2
  have ev_2 : v_2 = (S 5 p0).toInt64 := ev_2
  subst v_2
  refine lv_lstore_n (lv' := [(2, .long ((S 5 p0).toInt64)), (0, .ref (ad 0)), (1, .int (nI j))]) hx hb dMo_calculate_11 rfl hl (by decide) rfl (fun ls hl => ?_)
  refine lv_aload_n hx hb dMo_calculate_12 rfl (lv_at hl 1 rfl) ?_
  refine va_get (D := (dC, dI)) (ci := 4) (v := .ref (ad 6)) (C := RMo) (T := TMo) (N := 29) hx hb hc inMo hown hK hP 0 rfl rfl 6 (by decide) (hc _ w567) (fun _ h9 => h9) rfl dMo_calculate_13 ?_
  refine lv_iload_n hx hb dMo_calculate_16 rfl (lv_at hl 2 rfl) ?_
  refine va_iald hx hb hK hP 6 5 rfl rfl (vp_in_nI (by omega) (by decide)) dMo_calculate_17 ?_
  refine lv_topi (fun v_3 ev_3 => ?_)
  rw [nI_clamp (by omega)] at ev_3
  subst v_3
  refine lv_iconst (v := 5) hx hb dMo_calculate_18 (by decide +kernel) ?_
  refine lv_icmp_ne (tgt := 61) hx hb dMo_calculate_19 (by decide) (fun c_3 => ?_) (fun c_3 => ?_)
  · refine lv_aload_n hx hb dMo_calculate_61 rfl (lv_at hl 1 rfl) ?_
    refine va_get (D := (dC, dI)) (ci := 4) (v := .ref (ad 6)) (C := RMo) (T := TMo) (N := 29) hx hb hc inMo hown hK hP 0 rfl rfl 6 (by decide) (hc _ w567) (fun _ h9 => h9) rfl dMo_calculate_62 ?_
    refine lv_iload_n hx hb dMo_calculate_65 rfl (lv_at hl 2 rfl) ?_
    refine va_iald hx hb hK hP 6 5 rfl rfl (vp_in_nI (by omega) (by decide)) dMo_calculate_66 ?_
    refine lv_topi (fun v_5 ev_5 => ?_)
    rw [nI_clamp (by omega)] at ev_5
    subst v_5
    refine lv_bipush (v := 7) hx hb dMo_calculate_67 (by decide +kernel) ?_
    refine lv_icmp_ne (tgt := 124) hx hb dMo_calculate_69 (by decide) (fun c_5 => ?_) (fun c_5 => ?_)
    · refine lv_aload_n hx hb dMo_calculate_124 rfl (lv_at hl 1 rfl) ?_
      refine va_get (D := (dC, dI)) (ci := 4) (v := .ref (ad 6)) (C := RMo) (T := TMo) (N := 29) hx hb hc inMo hown hK hP 0 rfl rfl 6 (by decide) (hc _ w567) (fun _ h9 => h9) rfl dMo_calculate_125 ?_
      refine lv_iload_n hx hb dMo_calculate_128 rfl (lv_at hl 2 rfl) ?_
      refine va_iald hx hb hK hP 6 5 rfl rfl (vp_in_nI (by omega) (by decide)) dMo_calculate_129 ?_
      refine lv_topi (fun v_7 ev_7 => ?_)
      rw [nI_clamp (by omega)] at ev_7
      subst v_7
      refine lv_bipush (v := 6) hx hb dMo_calculate_130 (by decide +kernel) ?_
      refine lv_icmp_eq (tgt := 136) hx hb dMo_calculate_132 (by decide) (fun c_7 => ?_) (fun c_7 => ?_)
      · refine lv_aload_n hx hb dMo_calculate_136 rfl (lv_at hl 1 rfl) ?_
        refine va_get (D := (dC, dI)) (ci := 4) (v := .ref (ad 9)) (C := RMo) (T := TMo) (N := 29) hx hb hc inMo hown hK hP 0 rfl rfl 9 (by decide) (hc _ w570) (fun _ h9 => h9) rfl dMo_calculate_137 ?_
        refine lv_iload_n hx hb dMo_calculate_140 rfl (lv_at hl 2 rfl) ?_
        refine va_lald hx hb hK hP 9 8 rfl rfl (vp_in_nI (by omega) (by decide)) dMo_calculate_141 ?_
        refine lv_topl (fun v_9 ev_9 => ?_)
        rw [nI_clamp (by omega)] at ev_9
        have ev_9 : v_9 = (S 17 j).toInt64 := ev_9
        subst v_9
        refine lv_lconst (v := 0) hx hb dMo_calculate_142 (by decide +kernel) ?_
        refine W.lcmp hx hb dMo_calculate_143 ?_
        refine lv_if_ne (tgt := 155) hx hb dMo_calculate_144 (by decide) (fun c_9 => ?_) (fun c_9 => ?_)
        · refine lv_aload_n hx hb dMo_calculate_155 rfl (lv_at hl 1 rfl) ?_
          refine va_get (D := (dC, dI)) (ci := 4) (v := .ref (ad 5)) (C := RMo) (T := TMo) (N := 29) hx hb hc inMo hown hK hP 0 rfl rfl 5 (by decide) (hc _ w566) (fun _ h9 => h9) rfl dMo_calculate_156 ?_
          refine lv_aload_n hx hb dMo_calculate_159 rfl (lv_at hl 1 rfl) ?_
          refine va_get (D := (dC, dI)) (ci := 4) (v := .ref (ad 8)) (C := RMo) (T := TMo) (N := 29) hx hb hc inMo hown hK hP 0 rfl rfl 8 (by decide) (hc _ w569) (fun _ h9 => h9) rfl dMo_calculate_160 ?_
          refine lv_iload_n hx hb dMo_calculate_163 rfl (lv_at hl 2 rfl) ?_
          refine va_iald hx hb hK hP 8 7 rfl rfl (vp_in_nI (by omega) (by decide)) dMo_calculate_164 ?_
          refine lv_topi (fun v_11 ev_11 => ?_)
          rw [nI_clamp (by omega)] at ev_11
          subst v_11
          refine W.eq (g2 := F0 m 165 ls [.int (nI q0), .ref (ad 5)]) (by rw [show S 16 j = nI q0 from eq]) ?_
          refine lv_ldc2 (v := 8) hx hb hown (hc _ w748) dMo_calculate_165 ?_
          refine lv_lload_n hx hb dMo_calculate_168 rfl (lv_at hl 0 rfl) ?_
          refine lv_lmul hx hb dMo_calculate_169 ?_
          refine lv_aload_n hx hb dMo_calculate_170 rfl (lv_at hl 1 rfl) ?_
          refine va_get (D := (dC, dI)) (ci := 4) (v := .ref (ad 9)) (C := RMo) (T := TMo) (N := 29) hx hb hc inMo hown hK hP 0 rfl rfl 9 (by decide) (hc _ w570) (fun _ h9 => h9) rfl dMo_calculate_171 ?_
          refine lv_iload_n hx hb dMo_calculate_174 rfl (lv_at hl 2 rfl) ?_
          refine va_lald hx hb hK hP 9 8 rfl rfl (vp_in_nI (by omega) (by decide)) dMo_calculate_175 ?_
          refine lv_topl (fun v_12 ev_12 => ?_)
          rw [nI_clamp (by omega)] at ev_12
          have ev_12 : v_12 = (S 17 j).toInt64 := ev_12
          subst v_12
          refine vp_callSl (va_Run.run (va_runS (As := [.long (8 * ((S 5 p0).toInt64)), .long ((S 17 j).toInt64)]) (rest := [.int (nI q0), .ref (ad 5)]) ⟨hx, hb, hml, hown, hc⟩ (cMo_down l (8 * ((S 5 p0).toInt64)) ((S 17 j).toInt64) (by rw [lm_8v hv]; have := hv.1; omega) (by rw [lm_8v hv]; have := hv.2; omega) (by rw [Int32.toInt_toInt64]; exact fun h => c_9 ((lg_cmp_eq _ _).mpr (l_z.mpr (Int32.toInt_inj.mp h))))) (va_cwS 2 hc (g_S w749 w750 w5 qMo_down) rfl rfl rfl (by decide +kernel) ⟨Nat.le_of_ble_eq_true rfl, Nat.le_of_ble_eq_true rfl⟩) ⟨tPre_blind, tPre_in⟩ rfl rfl hl.1 rfl (lv_room (Nat.le_of_ble_eq_true rfl)) dMo_calculate_176 ⟨Nat.zero_le _, Nat.zero_le _⟩)) (fun r_13 hr_13 => ?_)
          refine vp_callSl (va_Run.run (va_runS (As := [.long r_13]) (rest := [.int (nI q0), .ref (ad 5)]) ⟨hx, hb, hml, hown, hc⟩ (cMo_fit l r_13) (va_cwS 1 hc (g_S w752 w753 w5 qMo_fit) rfl rfl rfl (by decide +kernel) ⟨Nat.le_of_ble_eq_true rfl, Nat.le_of_ble_eq_true rfl⟩) ⟨tPre_blind, tPre_in⟩ rfl rfl hl.1 rfl (lv_room (Nat.le_of_ble_eq_true rfl)) dMo_calculate_179 ⟨Nat.zero_le _, Nat.zero_le _⟩)) (fun r_14 hr_14 => ?_)
          subst r_14
          refine va_last hx hb hK hP hD hS 5 4 rfl rfl (vp_in_nI (by omega) (by decide)) dMo_calculate_182 (fun H locs hP hD hS => ?_)
          rw [nI_clamp (by omega)] at hP hD
          rw [updL_i] at hP hD
          obtain ⟨S_15, eS_15⟩ : ∃ z9 : Ss, z9 = row S 5 (upd (S 5) q0 (fitI r_13.toInt)) := ⟨_, rfl⟩
          have hP : va_P (dC, dI) vwCl (MW ad ca S_15 E) H := by rw [eS_15]; exact hP
          have hD : va_D A (MW ad ca S_15 E) := by rw [eS_15]; exact hD
          exact W.vret hx hb hr (fun t ht hW => ⟨⟨(S_15, E), rfl, (by (try dsimp only) <;> exact ⟨fun h => absurd ((lg_cmp_eq _ _).mpr (l_z.mpr h.2)) c_9, fun _ => ⟨by rw [eS_15]; unfold clW clc; rw [if_neg (by rw [c_7]; decide), if_neg (by rw [c_7]; decide), hr_13, lm_8v hv, Int32.toInt_toInt64], rfl⟩⟩), by rw [ht]; exact hP, va_K.moved hW.alike hK, hD⟩, hS.F ht⟩) hS.2.2 dMo_calculate_183
        · refine lv_aload_n hx hb dMo_calculate_147 rfl (lv_at hl 1 rfl) ?_
          refine lv_iconst (v := 3) hx hb dMo_calculate_148 (by decide +kernel) ?_
          refine va_put (D := (dC, dI)) (ci := 4) (v := .int 3) (ty := .int) (C := RMo) (T := TMo) (N := 29) hx hb hc inMo tyMo tyMo_ok nmMo hown hK hP hD hS 0 rfl rfl 28 (by decide) (hc _ w589) (fun _ h9 => h9) rfl (by decide +kernel) rfl rfl (Nat.le_of_ble_eq_true rfl) dMo_calculate_149 (fun H locs hP hD hS => ?_)
          obtain ⟨E_16, eE_16⟩ : ∃ z9 : Ss, z9 = row E 0 (upd (E 0) 3 3) := ⟨_, rfl⟩
          have hP : va_P (dC, dI) vwCl (MW ad ca S E_16) H := by rw [eE_16]; exact hP
          have hD : va_D A (MW ad ca S E_16) := by rw [eE_16]; exact hD
          refine lv_goto (tgt := 183) hx hb dMo_calculate_152 (by decide) ?_
          exact W.vret hx hb hr (fun t ht hW => ⟨⟨(S, E_16), rfl, (by (try dsimp only) <;> exact ⟨fun _ => ⟨rfl, eE_16⟩, fun h => absurd ⟨c_7, l_z.mp ((lg_cmp_eq _ _).mp c_9)⟩ h⟩), by rw [ht]; exact hP, va_K.moved hW.alike hK, hD⟩, hS.F ht⟩) hS.2.2 dMo_calculate_183
      · exact hk9.elim (fun h => absurd h c_3) (fun h => h.elim (fun h => absurd h c_7) (fun h => absurd h c_5))
    · refine lv_aload_n hx hb dMo_calculate_72 rfl (lv_at hl 1 rfl) ?_
      refine va_get (D := (dC, dI)) (ci := 4) (v := .ref (ad 5)) (C := RMo) (T := TMo) (N := 29) hx hb hc inMo hown hK hP 0 rfl rfl 5 (by decide) (hc _ w566) (fun _ h9 => h9) rfl dMo_calculate_73 ?_
      refine lv_aload_n hx hb dMo_calculate_76 rfl (lv_at hl 1 rfl) ?_
      refine va_get (D := (dC, dI)) (ci := 4) (v := .ref (ad 8)) (C := RMo) (T := TMo) (N := 29) hx hb hc inMo hown hK hP 0 rfl rfl 8 (by decide) (hc _ w569) (fun _ h9 => h9) rfl dMo_calculate_77 ?_
      refine lv_iload_n hx hb dMo_calculate_80 rfl (lv_at hl 2 rfl) ?_
      refine va_iald hx hb hK hP 8 7 rfl rfl (vp_in_nI (by omega) (by decide)) dMo_calculate_81 ?_
      refine lv_topi (fun v_17 ev_17 => ?_)
      rw [nI_clamp (by omega)] at ev_17
      subst v_17
      refine W.eq (g2 := F0 m 82 ls [.int (nI q0), .ref (ad 5)]) (by rw [show S 16 j = nI q0 from eq]) ?_
      refine lv_lload_n hx hb dMo_calculate_82 rfl (lv_at hl 0 rfl) ?_
      refine lv_aload_n hx hb dMo_calculate_83 rfl (lv_at hl 1 rfl) ?_
      refine va_get (D := (dC, dI)) (ci := 4) (v := .ref (ad 10)) (C := RMo) (T := TMo) (N := 29) hx hb hc inMo hown hK hP 0 rfl rfl 10 (by decide) (hc _ w571) (fun _ h9 => h9) rfl dMo_calculate_84 ?_
      refine lv_iload_n hx hb dMo_calculate_87 rfl (lv_at hl 2 rfl) ?_
      refine va_lald hx hb hK hP 10 9 rfl rfl (vp_in_nI (by omega) (by decide)) dMo_calculate_88 ?_
      refine lv_topl (fun v_18 ev_18 => ?_)
      rw [nI_clamp (by omega)] at ev_18
      have ev_18 : v_18 = (S 18 j).toInt64 := ev_18
      subst v_18
      refine W.lcmp hx hb dMo_calculate_89 ?_
      refine lv_if_ge (tgt := 102) hx hb dMo_calculate_90 (by decide) (fun c_18 => ?_) (fun c_18 => ?_)
      · refine lv_lload_n hx hb dMo_calculate_102 rfl (lv_at hl 0 rfl) ?_
        refine lv_aload_n hx hb dMo_calculate_103 rfl (lv_at hl 1 rfl) ?_
        refine va_get (D := (dC, dI)) (ci := 4) (v := .ref (ad 9)) (C := RMo) (T := TMo) (N := 29) hx hb hc inMo hown hK hP 0 rfl rfl 9 (by decide) (hc _ w570) (fun _ h9 => h9) rfl dMo_calculate_104 ?_
        refine lv_iload_n hx hb dMo_calculate_107 rfl (lv_at hl 2 rfl) ?_
        refine va_lald hx hb hK hP 9 8 rfl rfl (vp_in_nI (by omega) (by decide)) dMo_calculate_108 ?_
        refine lv_topl (fun v_20 ev_20 => ?_)
        rw [nI_clamp (by omega)] at ev_20
        have ev_20 : v_20 = (S 17 j).toInt64 := ev_20
        subst v_20
        refine W.lcmp hx hb dMo_calculate_109 ?_
        refine lv_if_le (tgt := 122) hx hb dMo_calculate_110 (by decide) (fun c_20 => ?_) (fun c_20 => ?_)
        · refine lv_lload_n hx hb dMo_calculate_122 rfl (lv_at hl 0 rfl) ?_
          refine va_last hx hb hK hP hD hS 5 4 rfl rfl (vp_in_nI (by omega) (by decide)) dMo_calculate_123 (fun H locs hP hD hS => ?_)
          rw [nI_clamp (by omega)] at hP hD
          rw [updL_i] at hP hD
          obtain ⟨S_22, eS_22⟩ : ∃ z9 : Ss, z9 = row S 5 (upd (S 5) q0 (S 5 p0)) := ⟨_, rfl⟩
          have hP : va_P (dC, dI) vwCl (MW ad ca S_22 E) H := by rw [eS_22]; exact hP
          have hD : va_D A (MW ad ca S_22 E) := by rw [eS_22]; exact hD
          refine lv_aload_n hx hb dMo_calculate_124 rfl (lv_at hl 1 rfl) ?_
          refine va_get (D := (dC, dI)) (ci := 4) (v := .ref (ad 6)) (C := RMo) (T := TMo) (N := 29) hx hb hc inMo hown hK hP 0 rfl rfl 6 (by decide) (hc _ w567) (fun _ h9 => h9) rfl dMo_calculate_125 ?_
          refine lv_iload_n hx hb dMo_calculate_128 rfl (lv_at hl 2 rfl) ?_
          refine va_iald hx hb hK hP 6 5 rfl rfl (vp_in_nI (by omega) (by decide)) dMo_calculate_129 ?_
          refine lv_topi (fun v_23 ev_23 => ?_)
          rw [nI_clamp (by omega)] at ev_23
          subst v_23
          refine lv_bipush (v := 6) hx hb dMo_calculate_130 (by decide +kernel) ?_
          refine lv_icmp_eq (tgt := 136) hx hb dMo_calculate_132 (by decide) (fun c_23 => ?_) (fun c_23 => ?_)
          · exact absurd (show S 14 j = 6 from (by have z := c_23; rw [eS_22] at z; exact z)) (by rw [c_5]; decide)
          · exact W.vret hx hb hr (fun t ht hW => ⟨⟨(S_22, E), rfl, (by (try dsimp only) <;> exact ⟨fun h => absurd h.1 (by rw [c_5]; decide), fun _ => ⟨by rw [eS_22]; unfold clW clc; rw [if_neg (by rw [c_5]; decide), if_pos c_5, if_neg (Int32.not_lt.mpr (l_le.mp ((lg_cmp_ge _ _).mp c_18))), if_neg (Int32.not_lt.mpr (l_le.mp ((lg_cmp_le _ _).mp c_20)))], rfl⟩⟩), by rw [ht]; exact hP, va_K.moved hW.alike hK, hD⟩, hS.F ht⟩) hS.2.2 dMo_calculate_135
        · refine lv_aload_n hx hb dMo_calculate_113 rfl (lv_at hl 1 rfl) ?_
          refine va_get (D := (dC, dI)) (ci := 4) (v := .ref (ad 9)) (C := RMo) (T := TMo) (N := 29) hx hb hc inMo hown hK hP 0 rfl rfl 9 (by decide) (hc _ w570) (fun _ h9 => h9) rfl dMo_calculate_114 ?_
          refine lv_iload_n hx hb dMo_calculate_117 rfl (lv_at hl 2 rfl) ?_
          refine va_lald hx hb hK hP 9 8 rfl rfl (vp_in_nI (by omega) (by decide)) dMo_calculate_118 ?_
          refine lv_topl (fun v_25 ev_25 => ?_)
          rw [nI_clamp (by omega)] at ev_25
          have ev_25 : v_25 = (S 17 j).toInt64 := ev_25
          subst v_25
          refine lv_goto (tgt := 123) hx hb dMo_calculate_119 (by decide) ?_
          refine va_last hx hb hK hP hD hS 5 4 rfl rfl (vp_in_nI (by omega) (by decide)) dMo_calculate_123 (fun H locs hP hD hS => ?_)
          rw [nI_clamp (by omega)] at hP hD
          rw [updL_i] at hP hD
          obtain ⟨S_26, eS_26⟩ : ∃ z9 : Ss, z9 = row S 5 (upd (S 5) q0 (S 17 j)) := ⟨_, rfl⟩
          have hP : va_P (dC, dI) vwCl (MW ad ca S_26 E) H := by rw [eS_26]; exact hP
          have hD : va_D A (MW ad ca S_26 E) := by rw [eS_26]; exact hD
          refine lv_aload_n hx hb dMo_calculate_124 rfl (lv_at hl 1 rfl) ?_
          refine va_get (D := (dC, dI)) (ci := 4) (v := .ref (ad 6)) (C := RMo) (T := TMo) (N := 29) hx hb hc inMo hown hK hP 0 rfl rfl 6 (by decide) (hc _ w567) (fun _ h9 => h9) rfl dMo_calculate_125 ?_
          refine lv_iload_n hx hb dMo_calculate_128 rfl (lv_at hl 2 rfl) ?_
          refine va_iald hx hb hK hP 6 5 rfl rfl (vp_in_nI (by omega) (by decide)) dMo_calculate_129 ?_
          refine lv_topi (fun v_27 ev_27 => ?_)
          rw [nI_clamp (by omega)] at ev_27
          subst v_27
          refine lv_bipush (v := 6) hx hb dMo_calculate_130 (by decide +kernel) ?_
          refine lv_icmp_eq (tgt := 136) hx hb dMo_calculate_132 (by decide) (fun c_27 => ?_) (fun c_27 => ?_)
          · exact absurd (show S 14 j = 6 from (by have z := c_27; rw [eS_26] at z; exact z)) (by rw [c_5]; decide)
          · exact W.vret hx hb hr (fun t ht hW => ⟨⟨(S_26, E), rfl, (by (try dsimp only) <;> exact ⟨fun h => absurd h.1 (by rw [c_5]; decide), fun _ => ⟨by rw [eS_26]; unfold clW clc; rw [if_neg (by rw [c_5]; decide), if_pos c_5, if_neg (Int32.not_lt.mpr (l_le.mp ((lg_cmp_ge _ _).mp c_18))), if_pos (l_lt.mp (Int64.not_le.mp (fun z => c_20 ((lg_cmp_le _ _).mpr z))))], rfl⟩⟩), by rw [ht]; exact hP, va_K.moved hW.alike hK, hD⟩, hS.F ht⟩) hS.2.2 dMo_calculate_135
      · refine lv_aload_n hx hb dMo_calculate_93 rfl (lv_at hl 1 rfl) ?_
        refine va_get (D := (dC, dI)) (ci := 4) (v := .ref (ad 10)) (C := RMo) (T := TMo) (N := 29) hx hb hc inMo hown hK hP 0 rfl rfl 10 (by decide) (hc _ w571) (fun _ h9 => h9) rfl dMo_calculate_94 ?_
        refine lv_iload_n hx hb dMo_calculate_97 rfl (lv_at hl 2 rfl) ?_
        refine va_lald hx hb hK hP 10 9 rfl rfl (vp_in_nI (by omega) (by decide)) dMo_calculate_98 ?_
        refine lv_topl (fun v_29 ev_29 => ?_)
        rw [nI_clamp (by omega)] at ev_29
        have ev_29 : v_29 = (S 18 j).toInt64 := ev_29
        subst v_29
        refine lv_goto (tgt := 123) hx hb dMo_calculate_99 (by decide) ?_
        refine va_last hx hb hK hP hD hS 5 4 rfl rfl (vp_in_nI (by omega) (by decide)) dMo_calculate_123 (fun H locs hP hD hS => ?_)
        rw [nI_clamp (by omega)] at hP hD
        rw [updL_i] at hP hD
        obtain ⟨S_30, eS_30⟩ : ∃ z9 : Ss, z9 = row S 5 (upd (S 5) q0 (S 18 j)) := ⟨_, rfl⟩
        have hP : va_P (dC, dI) vwCl (MW ad ca S_30 E) H := by rw [eS_30]; exact hP
        have hD : va_D A (MW ad ca S_30 E) := by rw [eS_30]; exact hD
        refine lv_aload_n hx hb dMo_calculate_124 rfl (lv_at hl 1 rfl) ?_
        refine va_get (D := (dC, dI)) (ci := 4) (v := .ref (ad 6)) (C := RMo) (T := TMo) (N := 29) hx hb hc inMo hown hK hP 0 rfl rfl 6 (by decide) (hc _ w567) (fun _ h9 => h9) rfl dMo_calculate_125 ?_
        refine lv_iload_n hx hb dMo_calculate_128 rfl (lv_at hl 2 rfl) ?_
        refine va_iald hx hb hK hP 6 5 rfl rfl (vp_in_nI (by omega) (by decide)) dMo_calculate_129 ?_
        refine lv_topi (fun v_31 ev_31 => ?_)
        rw [nI_clamp (by omega)] at ev_31
        subst v_31
        refine lv_bipush (v := 6) hx hb dMo_calculate_130 (by decide +kernel) ?_
        refine lv_icmp_eq (tgt := 136) hx hb dMo_calculate_132 (by decide) (fun c_31 => ?_) (fun c_31 => ?_)
        · exact absurd (show S 14 j = 6 from (by have z := c_31; rw [eS_30] at z; exact z)) (by rw [c_5]; decide)
        · exact W.vret hx hb hr (fun t ht hW => ⟨⟨(S_30, E), rfl, (by (try dsimp only) <;> exact ⟨fun h => absurd h.1 (by rw [c_5]; decide), fun _ => ⟨by rw [eS_30]; unfold clW clc; rw [if_neg (by rw [c_5]; decide), if_pos c_5, if_pos (l_lt.mp (Int64.not_le.mp (fun z => c_18 ((lg_cmp_ge _ _).mpr z))))], rfl⟩⟩), by rw [ht]; exact hP, va_K.moved hW.alike hK, hD⟩, hS.F ht⟩) hS.2.2 dMo_calculate_135
  · refine lv_aload_n hx hb dMo_calculate_22 rfl (lv_at hl 1 rfl) ?_
    refine va_get (D := (dC, dI)) (ci := 4) (v := .ref (ad 5)) (C := RMo) (T := TMo) (N := 29) hx hb hc inMo hown hK hP 0 rfl rfl 5 (by decide) (hc _ w566) (fun _ h9 => h9) rfl dMo_calculate_23 ?_
    refine lv_aload_n hx hb dMo_calculate_26 rfl (lv_at hl 1 rfl) ?_
    refine va_get (D := (dC, dI)) (ci := 4) (v := .ref (ad 8)) (C := RMo) (T := TMo) (N := 29) hx hb hc inMo hown hK hP 0 rfl rfl 8 (by decide) (hc _ w569) (fun _ h9 => h9) rfl dMo_calculate_27 ?_
    refine lv_iload_n hx hb dMo_calculate_30 rfl (lv_at hl 2 rfl) ?_
    refine va_iald hx hb hK hP 8 7 rfl rfl (vp_in_nI (by omega) (by decide)) dMo_calculate_31 ?_
    refine lv_topi (fun v_33 ev_33 => ?_)
    rw [nI_clamp (by omega)] at ev_33
    subst v_33
    refine W.eq (g2 := F0 m 32 ls [.int (nI q0), .ref (ad 5)]) (by rw [show S 16 j = nI q0 from eq]) ?_
    refine lv_lload_n hx hb dMo_calculate_32 rfl (lv_at hl 0 rfl) ?_
    refine lv_aload_n hx hb dMo_calculate_33 rfl (lv_at hl 1 rfl) ?_
    refine va_get (D := (dC, dI)) (ci := 4) (v := .ref (ad 9)) (C := RMo) (T := TMo) (N := 29) hx hb hc inMo hown hK hP 0 rfl rfl 9 (by decide) (hc _ w570) (fun _ h9 => h9) rfl dMo_calculate_34 ?_
    refine lv_iload_n hx hb dMo_calculate_37 rfl (lv_at hl 2 rfl) ?_
    refine va_lald hx hb hK hP 9 8 rfl rfl (vp_in_nI (by omega) (by decide)) dMo_calculate_38 ?_
    refine lv_topl (fun v_34 ev_34 => ?_)
    rw [nI_clamp (by omega)] at ev_34
    have ev_34 : v_34 = (S 17 j).toInt64 := ev_34
    subst v_34
    refine lv_lmul hx hb dMo_calculate_39 ?_
    refine lv_ldc2 (v := 8) hx hb hown (hc _ w748) dMo_calculate_40 ?_
    refine lv_aload_n hx hb dMo_calculate_43 rfl (lv_at hl 1 rfl) ?_
    refine va_get (D := (dC, dI)) (ci := 4) (v := .ref (ad 10)) (C := RMo) (T := TMo) (N := 29) hx hb hc inMo hown hK hP 0 rfl rfl 10 (by decide) (hc _ w571) (fun _ h9 => h9) rfl dMo_calculate_44 ?_
    refine lv_iload_n hx hb dMo_calculate_47 rfl (lv_at hl 2 rfl) ?_
    refine va_lald hx hb hK hP 10 9 rfl rfl (vp_in_nI (by omega) (by decide)) dMo_calculate_48 ?_
    refine lv_topl (fun v_35 ev_35 => ?_)
    rw [nI_clamp (by omega)] at ev_35
    have ev_35 : v_35 = (S 18 j).toInt64 := ev_35
    subst v_35
    refine lv_lmul hx hb dMo_calculate_49 ?_
    refine lv_ladd hx hb dMo_calculate_50 ?_
    refine lv_ldc2 (v := 8) hx hb hown (hc _ w748) dMo_calculate_51 ?_
    refine vp_callSl (va_Run.run (va_runS (As := [.long ((((S 5 p0).toInt64) * ((S 17 j).toInt64)) + (8 * ((S 18 j).toInt64))), .long 8]) (rest := [.int (nI q0), .ref (ad 5)]) ⟨hx, hb, hml, hown, hc⟩ (cMo_down l ((((S 5 p0).toInt64) * ((S 17 j).toInt64)) + (8 * ((S 18 j).toInt64))) 8 (by rw [(lm_sc hv hf ho).1]; have := (lm_sc hv hf ho).2; omega) (by rw [(lm_sc hv hf ho).1]; have := (lm_sc hv hf ho).2; omega) (by decide)) (va_cwS 2 hc (g_S w749 w750 w5 qMo_down) rfl rfl rfl (by decide +kernel) ⟨Nat.le_of_ble_eq_true rfl, Nat.le_of_ble_eq_true rfl⟩) ⟨tPre_blind, tPre_in⟩ rfl rfl hl.1 rfl (lv_room (Nat.le_of_ble_eq_true rfl)) dMo_calculate_54 ⟨Nat.zero_le _, Nat.zero_le _⟩)) (fun r_36 hr_36 => ?_)
    refine vp_callSl (va_Run.run (va_runS (As := [.long r_36]) (rest := [.int (nI q0), .ref (ad 5)]) ⟨hx, hb, hml, hown, hc⟩ (cMo_fit l r_36) (va_cwS 1 hc (g_S w752 w753 w5 qMo_fit) rfl rfl rfl (by decide +kernel) ⟨Nat.le_of_ble_eq_true rfl, Nat.le_of_ble_eq_true rfl⟩) ⟨tPre_blind, tPre_in⟩ rfl rfl hl.1 rfl (lv_room (Nat.le_of_ble_eq_true rfl)) dMo_calculate_57 ⟨Nat.zero_le _, Nat.zero_le _⟩)) (fun r_37 hr_37 => ?_)
    subst r_37
    refine va_last hx hb hK hP hD hS 5 4 rfl rfl (vp_in_nI (by omega) (by decide)) dMo_calculate_60 (fun H locs hP hD hS => ?_)
    rw [nI_clamp (by omega)] at hP hD
    rw [updL_i] at hP hD
    obtain ⟨S_38, eS_38⟩ : ∃ z9 : Ss, z9 = row S 5 (upd (S 5) q0 (fitI r_36.toInt)) := ⟨_, rfl⟩
    have hP : va_P (dC, dI) vwCl (MW ad ca S_38 E) H := by rw [eS_38]; exact hP
    have hD : va_D A (MW ad ca S_38 E) := by rw [eS_38]; exact hD
    refine lv_aload_n hx hb dMo_calculate_61 rfl (lv_at hl 1 rfl) ?_
    refine va_get (D := (dC, dI)) (ci := 4) (v := .ref (ad 6)) (C := RMo) (T := TMo) (N := 29) hx hb hc inMo hown hK hP 0 rfl rfl 6 (by decide) (hc _ w567) (fun _ h9 => h9) rfl dMo_calculate_62 ?_
    refine lv_iload_n hx hb dMo_calculate_65 rfl (lv_at hl 2 rfl) ?_
    refine va_iald hx hb hK hP 6 5 rfl rfl (vp_in_nI (by omega) (by decide)) dMo_calculate_66 ?_
    refine lv_topi (fun v_39 ev_39 => ?_)
    rw [nI_clamp (by omega)] at ev_39
    subst v_39
    refine lv_bipush (v := 7) hx hb dMo_calculate_67 (by decide +kernel) ?_
    refine lv_icmp_ne (tgt := 124) hx hb dMo_calculate_69 (by decide) (fun c_39 => ?_) (fun c_39 => ?_)
    · refine lv_aload_n hx hb dMo_calculate_124 rfl (lv_at hl 1 rfl) ?_
      refine va_get (D := (dC, dI)) (ci := 4) (v := .ref (ad 6)) (C := RMo) (T := TMo) (N := 29) hx hb hc inMo hown hK hP 0 rfl rfl 6 (by decide) (hc _ w567) (fun _ h9 => h9) rfl dMo_calculate_125 ?_
      refine lv_iload_n hx hb dMo_calculate_128 rfl (lv_at hl 2 rfl) ?_
      refine va_iald hx hb hK hP 6 5 rfl rfl (vp_in_nI (by omega) (by decide)) dMo_calculate_129 ?_
      refine lv_topi (fun v_41 ev_41 => ?_)
      rw [nI_clamp (by omega)] at ev_41
      subst v_41
      refine lv_bipush (v := 6) hx hb dMo_calculate_130 (by decide +kernel) ?_
      refine lv_icmp_eq (tgt := 136) hx hb dMo_calculate_132 (by decide) (fun c_41 => ?_) (fun c_41 => ?_)
      · exact absurd (show S 14 j = 6 from (by have z := c_41; rw [eS_38] at z; exact z)) (by rw [c_3]; decide)
      · exact W.vret hx hb hr (fun t ht hW => ⟨⟨(S_38, E), rfl, (by (try dsimp only) <;> exact ⟨fun h => absurd h.1 (by rw [c_3]; decide), fun _ => ⟨by rw [eS_38]; unfold clW clc; have e8 : (8 : Int64).toInt = 8 := rfl; rw [if_pos c_3, hr_36, (lm_sc hv hf ho).1, e8, fd_8], rfl⟩⟩), by rw [ht]; exact hP, va_K.moved hW.alike hK, hD⟩, hS.F ht⟩) hS.2.2 dMo_calculate_135
    · exact absurd (show S 14 j = 7 from (by have z := c_39; rw [eS_38] at z; exact z)) (by rw [c_3]; decide)
