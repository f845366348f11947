set_option maxHeartbeats 4000000 in
set_option maxRecDepth 100000 in
theorem cMo_work (l : Launch) (dC : Nat → ClassId) (dI : Nat → Nat → Nat) (ad : Nat → Nat) (ca : Nat → ClassId) (sz : Nat) (S E : Ss) (j : Nat) (x : Int32) (hj : j < 10) (hB : okBk S j) (hr9 : ∀ i, i < 8 → rng (S 5 i)) (hF : ∀ i, i < 32 → S 2 i = -1 ∨ b01 (S 2 i)) (hx01 : b01 x) (hE3 : E 0 3 = 0) : Met l yMo_work (kMo_work :: CW) ({ frames := 2, cells := 0, slots := 0, locals := 46 }) (va_Pc [.ref (ad 0), .int (nI j), .int x] (gPre (dC, dI) (mT ca) (MW ad ca S E) sz)) (va_Qv (fun (u : Ss × Ss) => (failB S j x → u.1 = S ∧ u.2 = row E 0 (upd (E 0) 3 3)) ∧ (¬ failB S j x → u.1 = bw S j x ∧ u.2 = E)) (fun u => gAt (dC, dI) (mT ca) (va_A (MW ad ca S E) sz) (MW ad ca u.1 u.2)) (va_A (MW ad ca S E) sz)) 0 0 (va_A (MW ad ca S E) sz) := by
  refine Met.ofW (cc := bMo_work) (maxL := 4) (ret := none) (by decide +kernel) rfl ?_
  intro p e s m args below meth c s₁ B hml hv
  obtain ⟨rfl, hsz, hP, hK, hD0⟩ := hv
  have hx := B.exec
  have hb := B.bytes
  have hr := B.returns
  have hts := atoms_spec (ws := kMo_work :: CW) B.pre
  have hc : ∀ w ∈ CW, w.before _ s = true := fun w h => hts w (List.mem_cons_of_mem _ h)
  have hown : s.vm.findClass RMo = some m.cls := findClass_of_methodNamed B.named
  have hlocks := B.notSynchronized
  subst hsz
  have hD := hD0.self (sz := s.heap.size)
  generalize hAe : va_A (MW ad ca S E) s.heap.size = A at hD ⊢
  have hA : ∀ q : Nat, s.heap.size ≤ q → A q := fun q h => by rw [← hAe]; exact Or.inr h
  have hS : va_S A s.heap s.heap [] := va_S.rf
  have hl := lv_entry ([.ref (ad 0), .int (nI j), .int x]) (n := 4) (Nat.le_of_ble_eq_true rfl)
  rw [lg_entry_eq]
  generalize (lg_sl ([.ref (ad 0), .int (nI j), .int x]) ++ List.replicate (4 - (lg_sl ([.ref (ad 0), .int (nI j), .int x])).length) Slot.unset).toArray = ls at hl ⊢
  have hl : lv_has ls 4 [(0, .ref (ad 0)), (1, .int (nI j)), (2, .int x)] := hl
  obtain ⟨hk7, hp9, hc9, hq2, hp5, hf9, ho9, h79, h19, h21, hcp⟩ := id hB
  refine lv_aload_n hx hb dMo_work_0 rfl (lv_at hl 0 rfl) ?_
  refine va_get (D := (dC, dI)) (ci := 4) (v := .ref (ad 7)) (C := RMo) (T := TMo) (N := 29) hx hb hc inMo hown hK hP 0 rfl rfl 7 (by decide) (hc _ w568) (fun _ h9 => h9) rfl dMo_work_1 ?_
  refine lv_iload_n hx hb dMo_work_4 rfl (lv_at hl 1 rfl) ?_
  refine va_iald hx hb hK hP 7 6 rfl rfl (vp_in_nI (by omega) (by decide)) dMo_work_5 ?_
  refine lv_topi (fun v_1 ev_1 => ?_)
  rw [nI_clamp (by omega)] at ev_1
  subst v_1
  refine lv_istore_n (lv' := [(3, .int (S 15 j)), (0, .ref (ad 0)), (1, .int (nI j)), (2, .int x)]) hx hb dMo_work_6 rfl hl (by decide) rfl (fun ls hl => ?_)
  refine lv_aload_n hx hb dMo_work_7 rfl (lv_at hl 1 rfl) ?_
  refine va_get (D := (dC, dI)) (ci := 4) (v := .ref (ad 6)) (C := RMo) (T := TMo) (N := 29) hx hb hc inMo hown hK hP 0 rfl rfl 6 (by decide) (hc _ w567) (fun _ h9 => h9) rfl dMo_work_8 ?_
  refine lv_iload_n hx hb dMo_work_11 rfl (lv_at hl 2 rfl) ?_
  refine va_iald hx hb hK hP 6 5 rfl rfl (vp_in_nI (by omega) (by decide)) dMo_work_12 ?_
  refine lv_topi (fun v_2 ev_2 => ?_)
  rw [nI_clamp (by omega)] at ev_2
  subst v_2
  by_cases w_2 : S 14 j = 0
  · refine lv_tableIn (tgt := 48) hx hb dMo_work_13 (by rw [w_2]; decide) (by rw [w_2]; decide) (by rw [w_2]; rfl) (by decide) ?_
    refine lv_aload_n hx hb dMo_work_48 rfl (lv_at hl 1 rfl) ?_
    refine va_get (D := (dC, dI)) (ci := 4) (v := .ref (ad 12)) (C := RMo) (T := TMo) (N := 29) hx hb hc inMo hown hK hP 0 rfl rfl 12 (by decide) (hc _ w573) (fun _ h9 => h9) rfl dMo_work_49 ?_
    refine lv_iload_n hx hb dMo_work_52 rfl (lv_at hl 2 rfl) ?_
    refine lv_iload_n hx hb dMo_work_53 rfl (lv_at hl 3 rfl) ?_
    refine lv_if_ne (tgt := 61) hx hb dMo_work_54 (by decide) (fun c_3 => ?_) (fun c_3 => ?_)
    · refine lv_aload_n hx hb dMo_work_61 rfl (lv_at hl 1 rfl) ?_
      refine va_get (D := (dC, dI)) (ci := 4) (v := .ref (ad 12)) (C := RMo) (T := TMo) (N := 29) hx hb hc inMo hown hK hP 0 rfl rfl 12 (by decide) (hc _ w573) (fun _ h9 => h9) rfl dMo_work_62 ?_
      refine lv_iload_n hx hb dMo_work_65 rfl (lv_at hl 2 rfl) ?_
      refine va_iald hx hb hK hP 12 11 rfl rfl (vp_in_nI (by omega) (by decide)) dMo_work_66 ?_
      refine lv_topi (fun v_5 ev_5 => ?_)
      rw [nI_clamp (by omega)] at ev_5
      subst v_5
      refine lv_iload_n hx hb dMo_work_67 rfl (lv_at hl 0 rfl) ?_
      refine lv_icmp_ge (tgt := 82) hx hb dMo_work_68 (by decide) (fun c_5 => ?_) (fun c_5 => ?_)
      · refine lv_iload_n hx hb dMo_work_82 rfl (lv_at hl 0 rfl) ?_
        refine va_iast hx hb hK hP hD hS 12 11 rfl rfl (vp_in_nI (by omega) (by decide)) dMo_work_83 (fun H locs hP hD hS => ?_)
        rw [nI_clamp (by omega)] at hP hD
        obtain ⟨S_7, eS_7⟩ : ∃ z9 : Ss, z9 = row S 20 (upd (S 20) j (S 15 j)) := ⟨_, rfl⟩
        have hP : va_P (dC, dI) vwCl (MW ad ca S_7 E) H := by rw [eS_7]; exact hP
        have hD : va_D A (MW ad ca S_7 E) := by rw [eS_7]; exact hD
        refine lv_aload_n hx hb dMo_work_84 rfl (lv_at hl 1 rfl) ?_
        refine va_get (D := (dC, dI)) (ci := 4) (v := .ref (ad 11)) (C := RMo) (T := TMo) (N := 29) hx hb hc inMo hown hK hP 0 rfl rfl 11 (by decide) (hc _ w572) (fun _ h9 => h9) rfl dMo_work_85 ?_
        refine lv_iload_n hx hb dMo_work_88 rfl (lv_at hl 2 rfl) ?_
        refine lv_iload_n hx hb dMo_work_89 rfl (lv_at hl 3 rfl) ?_
        refine lv_iconst (v := 1) hx hb dMo_work_90 (by decide +kernel) ?_
        refine lv_icmp_ne (tgt := 108) hx hb dMo_work_91 (by decide) (fun c_7 => ?_) (fun c_7 => ?_)
        · exact absurd (hx01.resolve_left c_3) c_7
        · refine lv_aload_n hx hb dMo_work_94 rfl (lv_at hl 1 rfl) ?_
          refine va_get (D := (dC, dI)) (ci := 4) (v := .ref (ad 12)) (C := RMo) (T := TMo) (N := 29) hx hb hc inMo hown hK hP 0 rfl rfl 12 (by decide) (hc _ w573) (fun _ h9 => h9) rfl dMo_work_95 ?_
          refine lv_iload_n hx hb dMo_work_98 rfl (lv_at hl 2 rfl) ?_
          refine va_iald hx hb hK hP 12 11 rfl rfl (vp_in_nI (by omega) (by decide)) dMo_work_99 ?_
          refine lv_topi (fun v_9 ev_9 => ?_)
          rw [nI_clamp (by omega)] at ev_9
          subst v_9
          refine lv_iload_n hx hb dMo_work_100 rfl (lv_at hl 0 rfl) ?_
          refine lv_icmp_ne (tgt := 108) hx hb dMo_work_101 (by decide) (fun c_9 => ?_) (fun c_9 => ?_)
          · refine lv_iconst (v := 0) hx hb dMo_work_108 (by decide +kernel) ?_
            refine va_iast hx hb hK hP hD hS 11 10 rfl rfl (vp_in_nI (by omega) (by decide)) dMo_work_109 (fun H locs hP hD hS => ?_)
            rw [nI_clamp (by omega)] at hP hD
            obtain ⟨S_11, eS_11⟩ : ∃ z9 : Ss, z9 = row S_7 19 (upd (S_7 19) j 0) := ⟨_, rfl⟩
            have hP : va_P (dC, dI) vwCl (MW ad ca S_11 E) H := by rw [eS_11]; exact hP
            have hD : va_D A (MW ad ca S_11 E) := by rw [eS_11]; exact hD
            refine lv_goto (tgt := 334) hx hb dMo_work_110 (by decide) ?_
            refine lv_aload_n hx hb dMo_work_334 rfl (lv_at hl 1 rfl) ?_
            refine va_get (D := (dC, dI)) (ci := 4) (v := .int (E 0 3)) (C := RMo) (T := TMo) (N := 29) hx hb hc inMo hown hK hP 0 rfl rfl 28 (by decide) (hc _ w589) (fun _ h9 => h9) rfl dMo_work_335 ?_
            refine lv_if_ne (tgt := 348) hx hb dMo_work_338 (by decide) (fun c_11 => ?_) (fun c_11 => ?_)
            · exact absurd hE3 c_11
            · refine lv_aload_n hx hb dMo_work_341 rfl (lv_at hl 1 rfl) ?_
              refine va_get (D := (dC, dI)) (ci := 4) (v := .ref (ad 13)) (C := RMo) (T := TMo) (N := 29) hx hb hc inMo hown hK hP 0 rfl rfl 13 (by decide) (hc _ w574) (fun _ h9 => h9) rfl dMo_work_342 ?_
              refine lv_iload_n hx hb dMo_work_345 rfl (lv_at hl 2 rfl) ?_
              refine lv_iload_n hx hb dMo_work_346 rfl (lv_at hl 3 rfl) ?_
              refine va_iast hx hb hK hP hD hS 13 12 rfl rfl (vp_in_nI (by omega) (by decide)) dMo_work_347 (fun H locs hP hD hS => ?_)
              rw [nI_clamp (by omega)] at hP hD
              obtain ⟨S_13, eS_13⟩ : ∃ z9 : Ss, z9 = row S_11 21 (upd (S_11 21) j x) := ⟨_, rfl⟩
              have hP : va_P (dC, dI) vwCl (MW ad ca S_13 E) H := by rw [eS_13]; exact hP
              have hD : va_D A (MW ad ca S_13 E) := by rw [eS_13]; exact hD
              exact W.vret hx hb hr (fun t ht hW => ⟨⟨(S_13, E), rfl, (by (try dsimp only) <;> exact ⟨fun h => absurd h.1 (by rw [w_2]; decide), fun _ => ⟨(by subst S_13; subst S_11; subst S_7; have hC : (S 15 j) = cntB S j x := (by unfold cntB; rw [if_pos w_2, if_pos (hx01.resolve_left c_3), if_neg (Int32.not_lt.mpr c_5)]); have hO : (0 : Int32) = outB S j x := (by unfold outB; rw [if_pos w_2, ← hC]; exact (b2_f (fun h => c_9 ((pk_us (f := S 20) (k := j) (x := (S 15 j))).trans h.2))).symm); exact bw_0 (n5 (Or.inl w_2)) hC hO), rfl⟩⟩), by rw [ht]; exact hP, va_K.moved hW.alike hK, hD⟩, hS.F ht⟩) hS.2.2 dMo_work_348
          · refine lv_iconst (v := 1) hx hb dMo_work_104 (by decide +kernel) ?_
            refine lv_goto (tgt := 109) hx hb dMo_work_105 (by decide) ?_
            refine va_iast hx hb hK hP hD hS 11 10 rfl rfl (vp_in_nI (by omega) (by decide)) dMo_work_109 (fun H locs hP hD hS => ?_)
            rw [nI_clamp (by omega)] at hP hD
            obtain ⟨S_14, eS_14⟩ : ∃ z9 : Ss, z9 = row S_7 19 (upd (S_7 19) j 1) := ⟨_, rfl⟩
            have hP : va_P (dC, dI) vwCl (MW ad ca S_14 E) H := by rw [eS_14]; exact hP
            have hD : va_D A (MW ad ca S_14 E) := by rw [eS_14]; exact hD
            refine lv_goto (tgt := 334) hx hb dMo_work_110 (by decide) ?_
            refine lv_aload_n hx hb dMo_work_334 rfl (lv_at hl 1 rfl) ?_
            refine va_get (D := (dC, dI)) (ci := 4) (v := .int (E 0 3)) (C := RMo) (T := TMo) (N := 29) hx hb hc inMo hown hK hP 0 rfl rfl 28 (by decide) (hc _ w589) (fun _ h9 => h9) rfl dMo_work_335 ?_
            refine lv_if_ne (tgt := 348) hx hb dMo_work_338 (by decide) (fun c_14 => ?_) (fun c_14 => ?_)
            · exact absurd hE3 c_14
            · refine lv_aload_n hx hb dMo_work_341 rfl (lv_at hl 1 rfl) ?_
              refine va_get (D := (dC, dI)) (ci := 4) (v := .ref (ad 13)) (C := RMo) (T := TMo) (N := 29) hx hb hc inMo hown hK hP 0 rfl rfl 13 (by decide) (hc _ w574) (fun _ h9 => h9) rfl dMo_work_342 ?_
              refine lv_iload_n hx hb dMo_work_345 rfl (lv_at hl 2 rfl) ?_
              refine lv_iload_n hx hb dMo_work_346 rfl (lv_at hl 3 rfl) ?_
              refine va_iast hx hb hK hP hD hS 13 12 rfl rfl (vp_in_nI (by omega) (by decide)) dMo_work_347 (fun H locs hP hD hS => ?_)
              rw [nI_clamp (by omega)] at hP hD
              obtain ⟨S_16, eS_16⟩ : ∃ z9 : Ss, z9 = row S_14 21 (upd (S_14 21) j x) := ⟨_, rfl⟩
              have hP : va_P (dC, dI) vwCl (MW ad ca S_16 E) H := by rw [eS_16]; exact hP
              have hD : va_D A (MW ad ca S_16 E) := by rw [eS_16]; exact hD
              exact W.vret hx hb hr (fun t ht hW => ⟨⟨(S_16, E), rfl, (by (try dsimp only) <;> exact ⟨fun h => absurd h.1 (by rw [w_2]; decide), fun _ => ⟨(by subst S_16; subst S_14; subst S_7; have hC : (S 15 j) = cntB S j x := (by unfold cntB; rw [if_pos w_2, if_pos (hx01.resolve_left c_3), if_neg (Int32.not_lt.mpr c_5)]); have hO : (1 : Int32) = outB S j x := (by unfold outB; rw [if_pos w_2, ← hC]; exact (b2_t ⟨(hx01.resolve_left c_3), (pk_us (f := S 20) (k := j) (x := (S 15 j))).symm.trans c_9⟩).symm); exact bw_0 (n5 (Or.inl w_2)) hC hO), rfl⟩⟩), by rw [ht]; exact hP, va_K.moved hW.alike hK, hD⟩, hS.F ht⟩) hS.2.2 dMo_work_348
      · refine lv_aload_n hx hb dMo_work_71 rfl (lv_at hl 1 rfl) ?_
        refine va_get (D := (dC, dI)) (ci := 4) (v := .ref (ad 12)) (C := RMo) (T := TMo) (N := 29) hx hb hc inMo hown hK hP 0 rfl rfl 12 (by decide) (hc _ w573) (fun _ h9 => h9) rfl dMo_work_72 ?_
        refine lv_iload_n hx hb dMo_work_75 rfl (lv_at hl 2 rfl) ?_
        refine va_iald hx hb hK hP 12 11 rfl rfl (vp_in_nI (by omega) (by decide)) dMo_work_76 ?_
        refine lv_topi (fun v_17 ev_17 => ?_)
        rw [nI_clamp (by omega)] at ev_17
        subst v_17
        refine lv_iconst (v := 1) hx hb dMo_work_77 (by decide +kernel) ?_
        refine lv_iadd hx hb dMo_work_78 ?_
        refine lv_goto (tgt := 83) hx hb dMo_work_79 (by decide) ?_
        refine lv_topi (fun v_18 ev_18 => ?_)
        refine va_iast hx hb hK hP hD hS 12 11 rfl rfl (vp_in_nI (by omega) (by decide)) dMo_work_83 (fun H locs hP hD hS => ?_)
        rw [nI_clamp (by omega)] at hP hD
        obtain ⟨S_19, eS_19⟩ : ∃ z9 : Ss, z9 = row S 20 (upd (S 20) j v_18) := ⟨_, rfl⟩
        have hP : va_P (dC, dI) vwCl (MW ad ca S_19 E) H := by rw [eS_19]; exact hP
        have hD : va_D A (MW ad ca S_19 E) := by rw [eS_19]; exact hD
        refine lv_aload_n hx hb dMo_work_84 rfl (lv_at hl 1 rfl) ?_
        refine va_get (D := (dC, dI)) (ci := 4) (v := .ref (ad 11)) (C := RMo) (T := TMo) (N := 29) hx hb hc inMo hown hK hP 0 rfl rfl 11 (by decide) (hc _ w572) (fun _ h9 => h9) rfl dMo_work_85 ?_
        refine lv_iload_n hx hb dMo_work_88 rfl (lv_at hl 2 rfl) ?_
        refine lv_iload_n hx hb dMo_work_89 rfl (lv_at hl 3 rfl) ?_
        refine lv_iconst (v := 1) hx hb dMo_work_90 (by decide +kernel) ?_
        refine lv_icmp_ne (tgt := 108) hx hb dMo_work_91 (by decide) (fun c_19 => ?_) (fun c_19 => ?_)
        · exact absurd (hx01.resolve_left c_3) c_19
        · refine lv_aload_n hx hb dMo_work_94 rfl (lv_at hl 1 rfl) ?_
          refine va_get (D := (dC, dI)) (ci := 4) (v := .ref (ad 12)) (C := RMo) (T := TMo) (N := 29) hx hb hc inMo hown hK hP 0 rfl rfl 12 (by decide) (hc _ w573) (fun _ h9 => h9) rfl dMo_work_95 ?_
          refine lv_iload_n hx hb dMo_work_98 rfl (lv_at hl 2 rfl) ?_
          refine va_iald hx hb hK hP 12 11 rfl rfl (vp_in_nI (by omega) (by decide)) dMo_work_99 ?_
          refine lv_topi (fun v_21 ev_21 => ?_)
          rw [nI_clamp (by omega)] at ev_21
          subst v_21
          refine lv_iload_n hx hb dMo_work_100 rfl (lv_at hl 0 rfl) ?_
          refine lv_icmp_ne (tgt := 108) hx hb dMo_work_101 (by decide) (fun c_21 => ?_) (fun c_21 => ?_)
          · refine lv_iconst (v := 0) hx hb dMo_work_108 (by decide +kernel) ?_
            refine va_iast hx hb hK hP hD hS 11 10 rfl rfl (vp_in_nI (by omega) (by decide)) dMo_work_109 (fun H locs hP hD hS => ?_)
            rw [nI_clamp (by omega)] at hP hD
            obtain ⟨S_23, eS_23⟩ : ∃ z9 : Ss, z9 = row S_19 19 (upd (S_19 19) j 0) := ⟨_, rfl⟩
            have hP : va_P (dC, dI) vwCl (MW ad ca S_23 E) H := by rw [eS_23]; exact hP
            have hD : va_D A (MW ad ca S_23 E) := by rw [eS_23]; exact hD
            refine lv_goto (tgt := 334) hx hb dMo_work_110 (by decide) ?_
            refine lv_aload_n hx hb dMo_work_334 rfl (lv_at hl 1 rfl) ?_
            refine va_get (D := (dC, dI)) (ci := 4) (v := .int (E 0 3)) (C := RMo) (T := TMo) (N := 29) hx hb hc inMo hown hK hP 0 rfl rfl 28 (by decide) (hc _ w589) (fun _ h9 => h9) rfl dMo_work_335 ?_
            refine lv_if_ne (tgt := 348) hx hb dMo_work_338 (by decide) (fun c_23 => ?_) (fun c_23 => ?_)
            · exact absurd hE3 c_23
            · refine lv_aload_n hx hb dMo_work_341 rfl (lv_at hl 1 rfl) ?_
              refine va_get (D := (dC, dI)) (ci := 4) (v := .ref (ad 13)) (C := RMo) (T := TMo) (N := 29) hx hb hc inMo hown hK hP 0 rfl rfl 13 (by decide) (hc _ w574) (fun _ h9 => h9) rfl dMo_work_342 ?_
              refine lv_iload_n hx hb dMo_work_345 rfl (lv_at hl 2 rfl) ?_
              refine lv_iload_n hx hb dMo_work_346 rfl (lv_at hl 3 rfl) ?_
              refine va_iast hx hb hK hP hD hS 13 12 rfl rfl (vp_in_nI (by omega) (by decide)) dMo_work_347 (fun H locs hP hD hS => ?_)
              rw [nI_clamp (by omega)] at hP hD
              obtain ⟨S_25, eS_25⟩ : ∃ z9 : Ss, z9 = row S_23 21 (upd (S_23 21) j x) := ⟨_, rfl⟩
              have hP : va_P (dC, dI) vwCl (MW ad ca S_25 E) H := by rw [eS_25]; exact hP
              have hD : va_D A (MW ad ca S_25 E) := by rw [eS_25]; exact hD
              exact W.vret hx hb hr (fun t ht hW => ⟨⟨(S_25, E), rfl, (by (try dsimp only) <;> exact ⟨fun h => absurd h.1 (by rw [w_2]; decide), fun _ => ⟨(by subst S_25; subst S_23; subst S_19; subst v_18; have hC : (S 20 j + 1) = cntB S j x := (by unfold cntB; rw [if_pos w_2, if_pos (hx01.resolve_left c_3), if_pos (Int32.not_le.mp c_5)]); have hO : (0 : Int32) = outB S j x := (by unfold outB; rw [if_pos w_2, ← hC]; exact (b2_f (fun h => c_21 ((pk_us (f := S 20) (k := j) (x := (S 20 j + 1))).trans h.2))).symm); exact bw_0 (n5 (Or.inl w_2)) hC hO), rfl⟩⟩), by rw [ht]; exact hP, va_K.moved hW.alike hK, hD⟩, hS.F ht⟩) hS.2.2 dMo_work_348
          · refine lv_iconst (v := 1) hx hb dMo_work_104 (by decide +kernel) ?_
            refine lv_goto (tgt := 109) hx hb dMo_work_105 (by decide) ?_
            refine va_iast hx hb hK hP hD hS 11 10 rfl rfl (vp_in_nI (by omega) (by decide)) dMo_work_109 (fun H locs hP hD hS => ?_)
            rw [nI_clamp (by omega)] at hP hD
            obtain ⟨S_26, eS_26⟩ : ∃ z9 : Ss, z9 = row S_19 19 (upd (S_19 19) j 1) := ⟨_, rfl⟩
            have hP : va_P (dC, dI) vwCl (MW ad ca S_26 E) H := by rw [eS_26]; exact hP
            have hD : va_D A (MW ad ca S_26 E) := by rw [eS_26]; exact hD
            refine lv_goto (tgt := 334) hx hb dMo_work_110 (by decide) ?_
            refine lv_aload_n hx hb dMo_work_334 rfl (lv_at hl 1 rfl) ?_
            refine va_get (D := (dC, dI)) (ci := 4) (v := .int (E 0 3)) (C := RMo) (T := TMo) (N := 29) hx hb hc inMo hown hK hP 0 rfl rfl 28 (by decide) (hc _ w589) (fun _ h9 => h9) rfl dMo_work_335 ?_
            refine lv_if_ne (tgt := 348) hx hb dMo_work_338 (by decide) (fun c_26 => ?_) (fun c_26 => ?_)
            · exact absurd hE3 c_26
            · refine lv_aload_n hx hb dMo_work_341 rfl (lv_at hl 1 rfl) ?_
              refine va_get (D := (dC, dI)) (ci := 4) (v := .ref (ad 13)) (C := RMo) (T := TMo) (N := 29) hx hb hc inMo hown hK hP 0 rfl rfl 13 (by decide) (hc _ w574) (fun _ h9 => h9) rfl dMo_work_342 ?_
              refine lv_iload_n hx hb dMo_work_345 rfl (lv_at hl 2 rfl) ?_
              refine lv_iload_n hx hb dMo_work_346 rfl (lv_at hl 3 rfl) ?_
              refine va_iast hx hb hK hP hD hS 13 12 rfl rfl (vp_in_nI (by omega) (by decide)) dMo_work_347 (fun H locs hP hD hS => ?_)
              rw [nI_clamp (by omega)] at hP hD
              obtain ⟨S_28, eS_28⟩ : ∃ z9 : Ss, z9 = row S_26 21 (upd (S_26 21) j x) := ⟨_, rfl⟩
              have hP : va_P (dC, dI) vwCl (MW ad ca S_28 E) H := by rw [eS_28]; exact hP
              have hD : va_D A (MW ad ca S_28 E) := by rw [eS_28]; exact hD
              exact W.vret hx hb hr (fun t ht hW => ⟨⟨(S_28, E), rfl, (by (try dsimp only) <;> exact ⟨fun h => absurd h.1 (by rw [w_2]; decide), fun _ => ⟨(by subst S_28; subst S_26; subst S_19; subst v_18; have hC : (S 20 j + 1) = cntB S j x := (by unfold cntB; rw [if_pos w_2, if_pos (hx01.resolve_left c_3), if_pos (Int32.not_le.mp c_5)]); have hO : (1 : Int32) = outB S j x := (by unfold outB; rw [if_pos w_2, ← hC]; exact (b2_t ⟨(hx01.resolve_left c_3), (pk_us (f := S 20) (k := j) (x := (S 20 j + 1))).symm.trans c_21⟩).symm); exact bw_0 (n5 (Or.inl w_2)) hC hO), rfl⟩⟩), by rw [ht]; exact hP, va_K.moved hW.alike hK, hD⟩, hS.F ht⟩) hS.2.2 dMo_work_348
    · refine lv_iconst (v := 0) hx hb dMo_work_57 (by decide +kernel) ?_
      refine lv_goto (tgt := 83) hx hb dMo_work_58 (by decide) ?_
      refine va_iast hx hb hK hP hD hS 12 11 rfl rfl (vp_in_nI (by omega) (by decide)) dMo_work_83 (fun H locs hP hD hS => ?_)
      rw [nI_clamp (by omega)] at hP hD
      obtain ⟨S_29, eS_29⟩ : ∃ z9 : Ss, z9 = row S 20 (upd (S 20) j 0) := ⟨_, rfl⟩
      have hP : va_P (dC, dI) vwCl (MW ad ca S_29 E) H := by rw [eS_29]; exact hP
      have hD : va_D A (MW ad ca S_29 E) := by rw [eS_29]; exact hD
      refine lv_aload_n hx hb dMo_work_84 rfl (lv_at hl 1 rfl) ?_
      refine va_get (D := (dC, dI)) (ci := 4) (v := .ref (ad 11)) (C := RMo) (T := TMo) (N := 29) hx hb hc inMo hown hK hP 0 rfl rfl 11 (by decide) (hc _ w572) (fun _ h9 => h9) rfl dMo_work_85 ?_
      refine lv_iload_n hx hb dMo_work_88 rfl (lv_at hl 2 rfl) ?_
      refine lv_iload_n hx hb dMo_work_89 rfl (lv_at hl 3 rfl) ?_
      refine lv_iconst (v := 1) hx hb dMo_work_90 (by decide +kernel) ?_
      refine lv_icmp_ne (tgt := 108) hx hb dMo_work_91 (by decide) (fun c_29 => ?_) (fun c_29 => ?_)
      · refine lv_iconst (v := 0) hx hb dMo_work_108 (by decide +kernel) ?_
        refine va_iast hx hb hK hP hD hS 11 10 rfl rfl (vp_in_nI (by omega) (by decide)) dMo_work_109 (fun H locs hP hD hS => ?_)
        rw [nI_clamp (by omega)] at hP hD
        obtain ⟨S_31, eS_31⟩ : ∃ z9 : Ss, z9 = row S_29 19 (upd (S_29 19) j 0) := ⟨_, rfl⟩
        have hP : va_P (dC, dI) vwCl (MW ad ca S_31 E) H := by rw [eS_31]; exact hP
        have hD : va_D A (MW ad ca S_31 E) := by rw [eS_31]; exact hD
        refine lv_goto (tgt := 334) hx hb dMo_work_110 (by decide) ?_
        refine lv_aload_n hx hb dMo_work_334 rfl (lv_at hl 1 rfl) ?_
        refine va_get (D := (dC, dI)) (ci := 4) (v := .int (E 0 3)) (C := RMo) (T := TMo) (N := 29) hx hb hc inMo hown hK hP 0 rfl rfl 28 (by decide) (hc _ w589) (fun _ h9 => h9) rfl dMo_work_335 ?_
        refine lv_if_ne (tgt := 348) hx hb dMo_work_338 (by decide) (fun c_31 => ?_) (fun c_31 => ?_)
        · exact absurd hE3 c_31
        · refine lv_aload_n hx hb dMo_work_341 rfl (lv_at hl 1 rfl) ?_
          refine va_get (D := (dC, dI)) (ci := 4) (v := .ref (ad 13)) (C := RMo) (T := TMo) (N := 29) hx hb hc inMo hown hK hP 0 rfl rfl 13 (by decide) (hc _ w574) (fun _ h9 => h9) rfl dMo_work_342 ?_
          refine lv_iload_n hx hb dMo_work_345 rfl (lv_at hl 2 rfl) ?_
          refine lv_iload_n hx hb dMo_work_346 rfl (lv_at hl 3 rfl) ?_
          refine va_iast hx hb hK hP hD hS 13 12 rfl rfl (vp_in_nI (by omega) (by decide)) dMo_work_347 (fun H locs hP hD hS => ?_)
          rw [nI_clamp (by omega)] at hP hD
          obtain ⟨S_33, eS_33⟩ : ∃ z9 : Ss, z9 = row S_31 21 (upd (S_31 21) j x) := ⟨_, rfl⟩
          have hP : va_P (dC, dI) vwCl (MW ad ca S_33 E) H := by rw [eS_33]; exact hP
          have hD : va_D A (MW ad ca S_33 E) := by rw [eS_33]; exact hD
          exact W.vret hx hb hr (fun t ht hW => ⟨⟨(S_33, E), rfl, (by (try dsimp only) <;> exact ⟨fun h => absurd h.1 (by rw [w_2]; decide), fun _ => ⟨(by subst S_33; subst S_31; subst S_29; have hC : 0 = cntB S j x := (by unfold cntB; rw [if_pos w_2, if_neg (fun h => absurd (c_3.symm.trans h) (by decide))]); have hO : (0 : Int32) = outB S j x := (by unfold outB; rw [if_pos w_2]; exact (b2_f (fun h => (fun h => absurd (c_3.symm.trans h) (by decide)) h.1)).symm); exact bw_0 (n5 (Or.inl w_2)) hC hO), rfl⟩⟩), by rw [ht]; exact hP, va_K.moved hW.alike hK, hD⟩, hS.F ht⟩) hS.2.2 dMo_work_348
      · exact absurd c_29 (fun h => absurd (c_3.symm.trans h) (by decide))
  by_cases w_33 : S 14 j = 1
  · refine lv_tableIn (tgt := 113) hx hb dMo_work_13 (by rw [w_33]; decide) (by rw [w_33]; decide) (by rw [w_33]; rfl) (by decide) ?_
    refine lv_aload_n hx hb dMo_work_113 rfl (lv_at hl 1 rfl) ?_
    refine va_get (D := (dC, dI)) (ci := 4) (v := .ref (ad 12)) (C := RMo) (T := TMo) (N := 29) hx hb hc inMo hown hK hP 0 rfl rfl 12 (by decide) (hc _ w573) (fun _ h9 => h9) rfl dMo_work_114 ?_
    refine lv_iload_n hx hb dMo_work_117 rfl (lv_at hl 2 rfl) ?_
    refine lv_iload_n hx hb dMo_work_118 rfl (lv_at hl 3 rfl) ?_
    refine lv_iconst (v := 1) hx hb dMo_work_119 (by decide +kernel) ?_
    refine lv_icmp_ne (tgt := 127) hx hb dMo_work_120 (by decide) (fun c_34 => ?_) (fun c_34 => ?_)
    · refine lv_aload_n hx hb dMo_work_127 rfl (lv_at hl 1 rfl) ?_
      refine va_get (D := (dC, dI)) (ci := 4) (v := .ref (ad 12)) (C := RMo) (T := TMo) (N := 29) hx hb hc inMo hown hK hP 0 rfl rfl 12 (by decide) (hc _ w573) (fun _ h9 => h9) rfl dMo_work_128 ?_
      refine lv_iload_n hx hb dMo_work_131 rfl (lv_at hl 2 rfl) ?_
      refine va_iald hx hb hK hP 12 11 rfl rfl (vp_in_nI (by omega) (by decide)) dMo_work_132 ?_
      refine lv_topi (fun v_36 ev_36 => ?_)
      rw [nI_clamp (by omega)] at ev_36
      subst v_36
      refine lv_if_le (tgt := 147) hx hb dMo_work_133 (by decide) (fun c_36 => ?_) (fun c_36 => ?_)
      · refine lv_iconst (v := 0) hx hb dMo_work_147 (by decide +kernel) ?_
        refine va_iast hx hb hK hP hD hS 12 11 rfl rfl (vp_in_nI (by omega) (by decide)) dMo_work_148 (fun H locs hP hD hS => ?_)
        rw [nI_clamp (by omega)] at hP hD
        obtain ⟨S_38, eS_38⟩ : ∃ z9 : Ss, z9 = row S 20 (upd (S 20) j 0) := ⟨_, rfl⟩
        have hP : va_P (dC, dI) vwCl (MW ad ca S_38 E) H := by rw [eS_38]; exact hP
        have hD : va_D A (MW ad ca S_38 E) := by rw [eS_38]; exact hD
        refine lv_aload_n hx hb dMo_work_149 rfl (lv_at hl 1 rfl) ?_
        refine va_get (D := (dC, dI)) (ci := 4) (v := .ref (ad 11)) (C := RMo) (T := TMo) (N := 29) hx hb hc inMo hown hK hP 0 rfl rfl 11 (by decide) (hc _ w572) (fun _ h9 => h9) rfl dMo_work_150 ?_
        refine lv_iload_n hx hb dMo_work_153 rfl (lv_at hl 2 rfl) ?_
        refine lv_aload_n hx hb dMo_work_154 rfl (lv_at hl 1 rfl) ?_
        refine va_get (D := (dC, dI)) (ci := 4) (v := .ref (ad 12)) (C := RMo) (T := TMo) (N := 29) hx hb hc inMo hown hK hP 0 rfl rfl 12 (by decide) (hc _ w573) (fun _ h9 => h9) rfl dMo_work_155 ?_
        refine lv_iload_n hx hb dMo_work_158 rfl (lv_at hl 2 rfl) ?_
        refine va_iald hx hb hK hP 12 11 rfl rfl (vp_in_nI (by omega) (by decide)) dMo_work_159 ?_
        refine lv_topi (fun v_39 ev_39 => ?_)
        rw [nI_clamp (by omega)] at ev_39
        subst v_39
        refine lv_if_le (tgt := 167) hx hb dMo_work_160 (by decide) (fun c_39 => ?_) (fun c_39 => ?_)
        · refine lv_iconst (v := 0) hx hb dMo_work_167 (by decide +kernel) ?_
          refine va_iast hx hb hK hP hD hS 11 10 rfl rfl (vp_in_nI (by omega) (by decide)) dMo_work_168 (fun H locs hP hD hS => ?_)
          rw [nI_clamp (by omega)] at hP hD
          obtain ⟨S_41, eS_41⟩ : ∃ z9 : Ss, z9 = row S_38 19 (upd (S_38 19) j 0) := ⟨_, rfl⟩
          have hP : va_P (dC, dI) vwCl (MW ad ca S_41 E) H := by rw [eS_41]; exact hP
          have hD : va_D A (MW ad ca S_41 E) := by rw [eS_41]; exact hD
          refine lv_goto (tgt := 334) hx hb dMo_work_169 (by decide) ?_
          refine lv_aload_n hx hb dMo_work_334 rfl (lv_at hl 1 rfl) ?_
          refine va_get (D := (dC, dI)) (ci := 4) (v := .int (E 0 3)) (C := RMo) (T := TMo) (N := 29) hx hb hc inMo hown hK hP 0 rfl rfl 28 (by decide) (hc _ w589) (fun _ h9 => h9) rfl dMo_work_335 ?_
          refine lv_if_ne (tgt := 348) hx hb dMo_work_338 (by decide) (fun c_41 => ?_) (fun c_41 => ?_)
          · exact absurd hE3 c_41
          · refine lv_aload_n hx hb dMo_work_341 rfl (lv_at hl 1 rfl) ?_
            refine va_get (D := (dC, dI)) (ci := 4) (v := .ref (ad 13)) (C := RMo) (T := TMo) (N := 29) hx hb hc inMo hown hK hP 0 rfl rfl 13 (by decide) (hc _ w574) (fun _ h9 => h9) rfl dMo_work_342 ?_
            refine lv_iload_n hx hb dMo_work_345 rfl (lv_at hl 2 rfl) ?_
            refine lv_iload_n hx hb dMo_work_346 rfl (lv_at hl 3 rfl) ?_
            refine va_iast hx hb hK hP hD hS 13 12 rfl rfl (vp_in_nI (by omega) (by decide)) dMo_work_347 (fun H locs hP hD hS => ?_)
            rw [nI_clamp (by omega)] at hP hD
            obtain ⟨S_43, eS_43⟩ : ∃ z9 : Ss, z9 = row S_41 21 (upd (S_41 21) j x) := ⟨_, rfl⟩
            have hP : va_P (dC, dI) vwCl (MW ad ca S_43 E) H := by rw [eS_43]; exact hP
            have hD : va_D A (MW ad ca S_43 E) := by rw [eS_43]; exact hD
            exact W.vret hx hb hr (fun t ht hW => ⟨⟨(S_43, E), rfl, (by (try dsimp only) <;> exact ⟨fun h => absurd h.1 (by rw [w_33]; decide), fun _ => ⟨(by subst S_43; subst S_41; subst S_38; have hC : 0 = cntB S j x := (by unfold cntB; rw [if_neg w_2, if_pos w_33, if_neg c_34, if_neg (Int32.not_lt.mpr c_36)]); have hO : (0 : Int32) = outB S j x := (by unfold outB; rw [if_neg w_2, if_pos w_33, ← hC]; exact (b2_f (Int32.not_lt.mpr (le_of_eq_of_le9 (pk_us (f := S 20) (k := j) (x := 0)).symm c_39))).symm); exact bw_0 (n5 (Or.inr (Or.inl w_33))) hC hO), rfl⟩⟩), by rw [ht]; exact hP, va_K.moved hW.alike hK, hD⟩, hS.F ht⟩) hS.2.2 dMo_work_348
        · refine lv_iconst (v := 1) hx hb dMo_work_163 (by decide +kernel) ?_
          refine lv_goto (tgt := 168) hx hb dMo_work_164 (by decide) ?_
          refine va_iast hx hb hK hP hD hS 11 10 rfl rfl (vp_in_nI (by omega) (by decide)) dMo_work_168 (fun H locs hP hD hS => ?_)
          rw [nI_clamp (by omega)] at hP hD
          obtain ⟨S_44, eS_44⟩ : ∃ z9 : Ss, z9 = row S_38 19 (upd (S_38 19) j 1) := ⟨_, rfl⟩
          have hP : va_P (dC, dI) vwCl (MW ad ca S_44 E) H := by rw [eS_44]; exact hP
          have hD : va_D A (MW ad ca S_44 E) := by rw [eS_44]; exact hD
          refine lv_goto (tgt := 334) hx hb dMo_work_169 (by decide) ?_
          refine lv_aload_n hx hb dMo_work_334 rfl (lv_at hl 1 rfl) ?_
          refine va_get (D := (dC, dI)) (ci := 4) (v := .int (E 0 3)) (C := RMo) (T := TMo) (N := 29) hx hb hc inMo hown hK hP 0 rfl rfl 28 (by decide) (hc _ w589) (fun _ h9 => h9) rfl dMo_work_335 ?_
          refine lv_if_ne (tgt := 348) hx hb dMo_work_338 (by decide) (fun c_44 => ?_) (fun c_44 => ?_)
          · exact absurd hE3 c_44
          · refine lv_aload_n hx hb dMo_work_341 rfl (lv_at hl 1 rfl) ?_
            refine va_get (D := (dC, dI)) (ci := 4) (v := .ref (ad 13)) (C := RMo) (T := TMo) (N := 29) hx hb hc inMo hown hK hP 0 rfl rfl 13 (by decide) (hc _ w574) (fun _ h9 => h9) rfl dMo_work_342 ?_
            refine lv_iload_n hx hb dMo_work_345 rfl (lv_at hl 2 rfl) ?_
            refine lv_iload_n hx hb dMo_work_346 rfl (lv_at hl 3 rfl) ?_
            refine va_iast hx hb hK hP hD hS 13 12 rfl rfl (vp_in_nI (by omega) (by decide)) dMo_work_347 (fun H locs hP hD hS => ?_)
            rw [nI_clamp (by omega)] at hP hD
            obtain ⟨S_46, eS_46⟩ : ∃ z9 : Ss, z9 = row S_44 21 (upd (S_44 21) j x) := ⟨_, rfl⟩
            have hP : va_P (dC, dI) vwCl (MW ad ca S_46 E) H := by rw [eS_46]; exact hP
            have hD : va_D A (MW ad ca S_46 E) := by rw [eS_46]; exact hD
            exact W.vret hx hb hr (fun t ht hW => ⟨⟨(S_46, E), rfl, (by (try dsimp only) <;> exact ⟨fun h => absurd h.1 (by rw [w_33]; decide), fun _ => ⟨(by subst S_46; subst S_44; subst S_38; have hC : 0 = cntB S j x := (by unfold cntB; rw [if_neg w_2, if_pos w_33, if_neg c_34, if_neg (Int32.not_lt.mpr c_36)]); have hO : (1 : Int32) = outB S j x := (by unfold outB; rw [if_neg w_2, if_pos w_33, ← hC]; exact (b2_t (Int32.not_le.mp (fun h => c_39 (le_of_eq_of_le9 (pk_us (f := S 20) (k := j) (x := 0)) h)))).symm); exact bw_0 (n5 (Or.inr (Or.inl w_33))) hC hO), rfl⟩⟩), by rw [ht]; exact hP, va_K.moved hW.alike hK, hD⟩, hS.F ht⟩) hS.2.2 dMo_work_348
      · refine lv_aload_n hx hb dMo_work_136 rfl (lv_at hl 1 rfl) ?_
        refine va_get (D := (dC, dI)) (ci := 4) (v := .ref (ad 12)) (C := RMo) (T := TMo) (N := 29) hx hb hc inMo hown hK hP 0 rfl rfl 12 (by decide) (hc _ w573) (fun _ h9 => h9) rfl dMo_work_137 ?_
        refine lv_iload_n hx hb dMo_work_140 rfl (lv_at hl 2 rfl) ?_
        refine va_iald hx hb hK hP 12 11 rfl rfl (vp_in_nI (by omega) (by decide)) dMo_work_141 ?_
        refine lv_topi (fun v_47 ev_47 => ?_)
        rw [nI_clamp (by omega)] at ev_47
        subst v_47
        refine lv_iconst (v := 1) hx hb dMo_work_142 (by decide +kernel) ?_
        refine lv_isub hx hb dMo_work_143 ?_
        refine lv_goto (tgt := 148) hx hb dMo_work_144 (by decide) ?_
        refine lv_topi (fun v_48 ev_48 => ?_)
        refine va_iast hx hb hK hP hD hS 12 11 rfl rfl (vp_in_nI (by omega) (by decide)) dMo_work_148 (fun H locs hP hD hS => ?_)
        rw [nI_clamp (by omega)] at hP hD
        obtain ⟨S_49, eS_49⟩ : ∃ z9 : Ss, z9 = row S 20 (upd (S 20) j v_48) := ⟨_, rfl⟩
        have hP : va_P (dC, dI) vwCl (MW ad ca S_49 E) H := by rw [eS_49]; exact hP
        have hD : va_D A (MW ad ca S_49 E) := by rw [eS_49]; exact hD
        refine lv_aload_n hx hb dMo_work_149 rfl (lv_at hl 1 rfl) ?_
        refine va_get (D := (dC, dI)) (ci := 4) (v := .ref (ad 11)) (C := RMo) (T := TMo) (N := 29) hx hb hc inMo hown hK hP 0 rfl rfl 11 (by decide) (hc _ w572) (fun _ h9 => h9) rfl dMo_work_150 ?_
        refine lv_iload_n hx hb dMo_work_153 rfl (lv_at hl 2 rfl) ?_
        refine lv_aload_n hx hb dMo_work_154 rfl (lv_at hl 1 rfl) ?_
        refine va_get (D := (dC, dI)) (ci := 4) (v := .ref (ad 12)) (C := RMo) (T := TMo) (N := 29) hx hb hc inMo hown hK hP 0 rfl rfl 12 (by decide) (hc _ w573) (fun _ h9 => h9) rfl dMo_work_155 ?_
        refine lv_iload_n hx hb dMo_work_158 rfl (lv_at hl 2 rfl) ?_
        refine va_iald hx hb hK hP 12 11 rfl rfl (vp_in_nI (by omega) (by decide)) dMo_work_159 ?_
        refine lv_topi (fun v_50 ev_50 => ?_)
        rw [nI_clamp (by omega)] at ev_50
        subst v_50
        refine lv_if_le (tgt := 167) hx hb dMo_work_160 (by decide) (fun c_50 => ?_) (fun c_50 => ?_)
        · refine lv_iconst (v := 0) hx hb dMo_work_167 (by decide +kernel) ?_
          refine va_iast hx hb hK hP hD hS 11 10 rfl rfl (vp_in_nI (by omega) (by decide)) dMo_work_168 (fun H locs hP hD hS => ?_)
          rw [nI_clamp (by omega)] at hP hD
          obtain ⟨S_52, eS_52⟩ : ∃ z9 : Ss, z9 = row S_49 19 (upd (S_49 19) j 0) := ⟨_, rfl⟩
          have hP : va_P (dC, dI) vwCl (MW ad ca S_52 E) H := by rw [eS_52]; exact hP
          have hD : va_D A (MW ad ca S_52 E) := by rw [eS_52]; exact hD
          refine lv_goto (tgt := 334) hx hb dMo_work_169 (by decide) ?_
          refine lv_aload_n hx hb dMo_work_334 rfl (lv_at hl 1 rfl) ?_
          refine va_get (D := (dC, dI)) (ci := 4) (v := .int (E 0 3)) (C := RMo) (T := TMo) (N := 29) hx hb hc inMo hown hK hP 0 rfl rfl 28 (by decide) (hc _ w589) (fun _ h9 => h9) rfl dMo_work_335 ?_
          refine lv_if_ne (tgt := 348) hx hb dMo_work_338 (by decide) (fun c_52 => ?_) (fun c_52 => ?_)
          · exact absurd hE3 c_52
          · refine lv_aload_n hx hb dMo_work_341 rfl (lv_at hl 1 rfl) ?_
            refine va_get (D := (dC, dI)) (ci := 4) (v := .ref (ad 13)) (C := RMo) (T := TMo) (N := 29) hx hb hc inMo hown hK hP 0 rfl rfl 13 (by decide) (hc _ w574) (fun _ h9 => h9) rfl dMo_work_342 ?_
            refine lv_iload_n hx hb dMo_work_345 rfl (lv_at hl 2 rfl) ?_
            refine lv_iload_n hx hb dMo_work_346 rfl (lv_at hl 3 rfl) ?_
            refine va_iast hx hb hK hP hD hS 13 12 rfl rfl (vp_in_nI (by omega) (by decide)) dMo_work_347 (fun H locs hP hD hS => ?_)
            rw [nI_clamp (by omega)] at hP hD
            obtain ⟨S_54, eS_54⟩ : ∃ z9 : Ss, z9 = row S_52 21 (upd (S_52 21) j x) := ⟨_, rfl⟩
            have hP : va_P (dC, dI) vwCl (MW ad ca S_54 E) H := by rw [eS_54]; exact hP
            have hD : va_D A (MW ad ca S_54 E) := by rw [eS_54]; exact hD
            exact W.vret hx hb hr (fun t ht hW => ⟨⟨(S_54, E), rfl, (by (try dsimp only) <;> exact ⟨fun h => absurd h.1 (by rw [w_33]; decide), fun _ => ⟨(by subst S_54; subst S_52; subst S_49; subst v_48; have hC : (S 20 j - 1) = cntB S j x := (by unfold cntB; rw [if_neg w_2, if_pos w_33, if_neg c_34, if_pos (Int32.not_le.mp c_36)]); have hO : (0 : Int32) = outB S j x := (by unfold outB; rw [if_neg w_2, if_pos w_33, ← hC]; exact (b2_f (Int32.not_lt.mpr (le_of_eq_of_le9 (pk_us (f := S 20) (k := j) (x := (S 20 j - 1))).symm c_50))).symm); exact bw_0 (n5 (Or.inr (Or.inl w_33))) hC hO), rfl⟩⟩), by rw [ht]; exact hP, va_K.moved hW.alike hK, hD⟩, hS.F ht⟩) hS.2.2 dMo_work_348
        · refine lv_iconst (v := 1) hx hb dMo_work_163 (by decide +kernel) ?_
          refine lv_goto (tgt := 168) hx hb dMo_work_164 (by decide) ?_
          refine va_iast hx hb hK hP hD hS 11 10 rfl rfl (vp_in_nI (by omega) (by decide)) dMo_work_168 (fun H locs hP hD hS => ?_)
          rw [nI_clamp (by omega)] at hP hD
          obtain ⟨S_55, eS_55⟩ : ∃ z9 : Ss, z9 = row S_49 19 (upd (S_49 19) j 1) := ⟨_, rfl⟩
          have hP : va_P (dC, dI) vwCl (MW ad ca S_55 E) H := by rw [eS_55]; exact hP
          have hD : va_D A (MW ad ca S_55 E) := by rw [eS_55]; exact hD
          refine lv_goto (tgt := 334) hx hb dMo_work_169 (by decide) ?_
          refine lv_aload_n hx hb dMo_work_334 rfl (lv_at hl 1 rfl) ?_
          refine va_get (D := (dC, dI)) (ci := 4) (v := .int (E 0 3)) (C := RMo) (T := TMo) (N := 29) hx hb hc inMo hown hK hP 0 rfl rfl 28 (by decide) (hc _ w589) (fun _ h9 => h9) rfl dMo_work_335 ?_
          refine lv_if_ne (tgt := 348) hx hb dMo_work_338 (by decide) (fun c_55 => ?_) (fun c_55 => ?_)
          · exact absurd hE3 c_55
          · refine lv_aload_n hx hb dMo_work_341 rfl (lv_at hl 1 rfl) ?_
            refine va_get (D := (dC, dI)) (ci := 4) (v := .ref (ad 13)) (C := RMo) (T := TMo) (N := 29) hx hb hc inMo hown hK hP 0 rfl rfl 13 (by decide) (hc _ w574) (fun _ h9 => h9) rfl dMo_work_342 ?_
            refine lv_iload_n hx hb dMo_work_345 rfl (lv_at hl 2 rfl) ?_
            refine lv_iload_n hx hb dMo_work_346 rfl (lv_at hl 3 rfl) ?_
            refine va_iast hx hb hK hP hD hS 13 12 rfl rfl (vp_in_nI (by omega) (by decide)) dMo_work_347 (fun H locs hP hD hS => ?_)
            rw [nI_clamp (by omega)] at hP hD
            obtain ⟨S_57, eS_57⟩ : ∃ z9 : Ss, z9 = row S_55 21 (upd (S_55 21) j x) := ⟨_, rfl⟩
            have hP : va_P (dC, dI) vwCl (MW ad ca S_57 E) H := by rw [eS_57]; exact hP
            have hD : va_D A (MW ad ca S_57 E) := by rw [eS_57]; exact hD
            exact W.vret hx hb hr (fun t ht hW => ⟨⟨(S_57, E), rfl, (by (try dsimp only) <;> exact ⟨fun h => absurd h.1 (by rw [w_33]; decide), fun _ => ⟨(by subst S_57; subst S_55; subst S_49; subst v_48; have hC : (S 20 j - 1) = cntB S j x := (by unfold cntB; rw [if_neg w_2, if_pos w_33, if_neg c_34, if_pos (Int32.not_le.mp c_36)]); have hO : (1 : Int32) = outB S j x := (by unfold outB; rw [if_neg w_2, if_pos w_33, ← hC]; exact (b2_t (Int32.not_le.mp (fun h => c_50 (le_of_eq_of_le9 (pk_us (f := S 20) (k := j) (x := (S 20 j - 1))) h)))).symm); exact bw_0 (n5 (Or.inr (Or.inl w_33))) hC hO), rfl⟩⟩), by rw [ht]; exact hP, va_K.moved hW.alike hK, hD⟩, hS.F ht⟩) hS.2.2 dMo_work_348
    · refine lv_iload_n hx hb dMo_work_123 rfl (lv_at hl 0 rfl) ?_
      refine lv_goto (tgt := 148) hx hb dMo_work_124 (by decide) ?_
      refine va_iast hx hb hK hP hD hS 12 11 rfl rfl (vp_in_nI (by omega) (by decide)) dMo_work_148 (fun H locs hP hD hS => ?_)
      rw [nI_clamp (by omega)] at hP hD
      obtain ⟨S_58, eS_58⟩ : ∃ z9 : Ss, z9 = row S 20 (upd (S 20) j (S 15 j)) := ⟨_, rfl⟩
      have hP : va_P (dC, dI) vwCl (MW ad ca S_58 E) H := by rw [eS_58]; exact hP
      have hD : va_D A (MW ad ca S_58 E) := by rw [eS_58]; exact hD
      refine lv_aload_n hx hb dMo_work_149 rfl (lv_at hl 1 rfl) ?_
      refine va_get (D := (dC, dI)) (ci := 4) (v := .ref (ad 11)) (C := RMo) (T := TMo) (N := 29) hx hb hc inMo hown hK hP 0 rfl rfl 11 (by decide) (hc _ w572) (fun _ h9 => h9) rfl dMo_work_150 ?_
      refine lv_iload_n hx hb dMo_work_153 rfl (lv_at hl 2 rfl) ?_
      refine lv_aload_n hx hb dMo_work_154 rfl (lv_at hl 1 rfl) ?_
      refine va_get (D := (dC, dI)) (ci := 4) (v := .ref (ad 12)) (C := RMo) (T := TMo) (N := 29) hx hb hc inMo hown hK hP 0 rfl rfl 12 (by decide) (hc _ w573) (fun _ h9 => h9) rfl dMo_work_155 ?_
      refine lv_iload_n hx hb dMo_work_158 rfl (lv_at hl 2 rfl) ?_
      refine va_iald hx hb hK hP 12 11 rfl rfl (vp_in_nI (by omega) (by decide)) dMo_work_159 ?_
      refine lv_topi (fun v_59 ev_59 => ?_)
      rw [nI_clamp (by omega)] at ev_59
      subst v_59
      refine lv_if_le (tgt := 167) hx hb dMo_work_160 (by decide) (fun c_59 => ?_) (fun c_59 => ?_)
      · refine lv_iconst (v := 0) hx hb dMo_work_167 (by decide +kernel) ?_
        refine va_iast hx hb hK hP hD hS 11 10 rfl rfl (vp_in_nI (by omega) (by decide)) dMo_work_168 (fun H locs hP hD hS => ?_)
        rw [nI_clamp (by omega)] at hP hD
        obtain ⟨S_61, eS_61⟩ : ∃ z9 : Ss, z9 = row S_58 19 (upd (S_58 19) j 0) := ⟨_, rfl⟩
        have hP : va_P (dC, dI) vwCl (MW ad ca S_61 E) H := by rw [eS_61]; exact hP
        have hD : va_D A (MW ad ca S_61 E) := by rw [eS_61]; exact hD
        refine lv_goto (tgt := 334) hx hb dMo_work_169 (by decide) ?_
        refine lv_aload_n hx hb dMo_work_334 rfl (lv_at hl 1 rfl) ?_
        refine va_get (D := (dC, dI)) (ci := 4) (v := .int (E 0 3)) (C := RMo) (T := TMo) (N := 29) hx hb hc inMo hown hK hP 0 rfl rfl 28 (by decide) (hc _ w589) (fun _ h9 => h9) rfl dMo_work_335 ?_
        refine lv_if_ne (tgt := 348) hx hb dMo_work_338 (by decide) (fun c_61 => ?_) (fun c_61 => ?_)
        · exact absurd hE3 c_61
        · refine lv_aload_n hx hb dMo_work_341 rfl (lv_at hl 1 rfl) ?_
          refine va_get (D := (dC, dI)) (ci := 4) (v := .ref (ad 13)) (C := RMo) (T := TMo) (N := 29) hx hb hc inMo hown hK hP 0 rfl rfl 13 (by decide) (hc _ w574) (fun _ h9 => h9) rfl dMo_work_342 ?_
          refine lv_iload_n hx hb dMo_work_345 rfl (lv_at hl 2 rfl) ?_
          refine lv_iload_n hx hb dMo_work_346 rfl (lv_at hl 3 rfl) ?_
          refine va_iast hx hb hK hP hD hS 13 12 rfl rfl (vp_in_nI (by omega) (by decide)) dMo_work_347 (fun H locs hP hD hS => ?_)
          rw [nI_clamp (by omega)] at hP hD
          obtain ⟨S_63, eS_63⟩ : ∃ z9 : Ss, z9 = row S_61 21 (upd (S_61 21) j x) := ⟨_, rfl⟩
          have hP : va_P (dC, dI) vwCl (MW ad ca S_63 E) H := by rw [eS_63]; exact hP
          have hD : va_D A (MW ad ca S_63 E) := by rw [eS_63]; exact hD
          exact W.vret hx hb hr (fun t ht hW => ⟨⟨(S_63, E), rfl, (by (try dsimp only) <;> exact ⟨fun h => absurd h.1 (by rw [w_33]; decide), fun _ => ⟨(by subst S_63; subst S_61; subst S_58; have hC : (S 15 j) = cntB S j x := (by unfold cntB; rw [if_neg w_2, if_pos w_33, if_pos c_34]); have hO : (0 : Int32) = outB S j x := (by unfold outB; rw [if_neg w_2, if_pos w_33, ← hC]; exact (b2_f (Int32.not_lt.mpr (le_of_eq_of_le9 (pk_us (f := S 20) (k := j) (x := (S 15 j))).symm c_59))).symm); exact bw_0 (n5 (Or.inr (Or.inl w_33))) hC hO), rfl⟩⟩), by rw [ht]; exact hP, va_K.moved hW.alike hK, hD⟩, hS.F ht⟩) hS.2.2 dMo_work_348
      · refine lv_iconst (v := 1) hx hb dMo_work_163 (by decide +kernel) ?_
        refine lv_goto (tgt := 168) hx hb dMo_work_164 (by decide) ?_
        refine va_iast hx hb hK hP hD hS 11 10 rfl rfl (vp_in_nI (by omega) (by decide)) dMo_work_168 (fun H locs hP hD hS => ?_)
        rw [nI_clamp (by omega)] at hP hD
        obtain ⟨S_64, eS_64⟩ : ∃ z9 : Ss, z9 = row S_58 19 (upd (S_58 19) j 1) := ⟨_, rfl⟩
        have hP : va_P (dC, dI) vwCl (MW ad ca S_64 E) H := by rw [eS_64]; exact hP
        have hD : va_D A (MW ad ca S_64 E) := by rw [eS_64]; exact hD
        refine lv_goto (tgt := 334) hx hb dMo_work_169 (by decide) ?_
        refine lv_aload_n hx hb dMo_work_334 rfl (lv_at hl 1 rfl) ?_
        refine va_get (D := (dC, dI)) (ci := 4) (v := .int (E 0 3)) (C := RMo) (T := TMo) (N := 29) hx hb hc inMo hown hK hP 0 rfl rfl 28 (by decide) (hc _ w589) (fun _ h9 => h9) rfl dMo_work_335 ?_
        refine lv_if_ne (tgt := 348) hx hb dMo_work_338 (by decide) (fun c_64 => ?_) (fun c_64 => ?_)
        · exact absurd hE3 c_64
        · refine lv_aload_n hx hb dMo_work_341 rfl (lv_at hl 1 rfl) ?_
          refine va_get (D := (dC, dI)) (ci := 4) (v := .ref (ad 13)) (C := RMo) (T := TMo) (N := 29) hx hb hc inMo hown hK hP 0 rfl rfl 13 (by decide) (hc _ w574) (fun _ h9 => h9) rfl dMo_work_342 ?_
          refine lv_iload_n hx hb dMo_work_345 rfl (lv_at hl 2 rfl) ?_
          refine lv_iload_n hx hb dMo_work_346 rfl (lv_at hl 3 rfl) ?_
          refine va_iast hx hb hK hP hD hS 13 12 rfl rfl (vp_in_nI (by omega) (by decide)) dMo_work_347 (fun H locs hP hD hS => ?_)
          rw [nI_clamp (by omega)] at hP hD
          obtain ⟨S_66, eS_66⟩ : ∃ z9 : Ss, z9 = row S_64 21 (upd (S_64 21) j x) := ⟨_, rfl⟩
          have hP : va_P (dC, dI) vwCl (MW ad ca S_66 E) H := by rw [eS_66]; exact hP
          have hD : va_D A (MW ad ca S_66 E) := by rw [eS_66]; exact hD
          exact W.vret hx hb hr (fun t ht hW => ⟨⟨(S_66, E), rfl, (by (try dsimp only) <;> exact ⟨fun h => absurd h.1 (by rw [w_33]; decide), fun _ => ⟨(by subst S_66; subst S_64; subst S_58; have hC : (S 15 j) = cntB S j x := (by unfold cntB; rw [if_neg w_2, if_pos w_33, if_pos c_34]); have hO : (1 : Int32) = outB S j x := (by unfold outB; rw [if_neg w_2, if_pos w_33, ← hC]; exact (b2_t (Int32.not_le.mp (fun h => c_59 (le_of_eq_of_le9 (pk_us (f := S 20) (k := j) (x := (S 15 j))) h)))).symm); exact bw_0 (n5 (Or.inr (Or.inl w_33))) hC hO), rfl⟩⟩), by rw [ht]; exact hP, va_K.moved hW.alike hK, hD⟩, hS.F ht⟩) hS.2.2 dMo_work_348
  by_cases w_66 : S 14 j = 2
  · refine lv_tableIn (tgt := 172) hx hb dMo_work_13 (by rw [w_66]; decide) (by rw [w_66]; decide) (by rw [w_66]; rfl) (by decide) ?_
    refine lv_aload_n hx hb dMo_work_172 rfl (lv_at hl 1 rfl) ?_
    refine lv_aload_n hx hb dMo_work_173 rfl (lv_at hl 1 rfl) ?_
    refine va_get (D := (dC, dI)) (ci := 4) (v := .ref (ad 8)) (C := RMo) (T := TMo) (N := 29) hx hb hc inMo hown hK hP 0 rfl rfl 8 (by decide) (hc _ w569) (fun _ h9 => h9) rfl dMo_work_174 ?_
    refine lv_iload_n hx hb dMo_work_177 rfl (lv_at hl 2 rfl) ?_
    refine va_iald hx hb hK hP 8 7 rfl rfl (vp_in_nI (by omega) (by decide)) dMo_work_178 ?_
    refine lv_topi (fun v_68 ev_68 => ?_)
    rw [nI_clamp (by omega)] at ev_68
    subst v_68
    obtain ⟨hq20, hq21⟩ := wi_cl (hq2 w_66) (n := 31) rfl (by decide)
    refine W.eq (g2 := F0 m 179 ls [.int (nI (S 16 j).toNatClampNeg), .ref (ad 0)]) (by rw [← hq21]) ?_
    refine vp_callSi (va_Run.run (va_runV (As := [.int (nI (S 16 j).toNatClampNeg)]) (rest := []) ⟨hx, hb, hml, hown, hc⟩ (cMo_read l dC dI ad ca s.heap.size S E ((S 16 j).toNatClampNeg) (by omega) (hF _ (by omega))) (cwV 1 hc (gV w732 w734 s14 w5 qMo_read) rfl rfl rfl (by decide +kernel) ⟨Nat.le_of_ble_eq_true rfl, Nat.le_of_ble_eq_true rfl⟩) ⟨gPre_blind, va_recv hK hP (ci := 4) (q0 := 0) rfl rfl, (gPre_in hP hK hD)⟩ rfl rfl hl.1 rfl (lv_room (Nat.le_of_ble_eq_true rfl)) dMo_work_179 ⟨Nat.zero_le _, Nat.zero_le _⟩)) (fun r_69 hr_69 => ?_)
    refine lv_iconst (v := 1) hx hb dMo_work_182 (by decide +kernel) ?_
    refine lv_icmp_ne (tgt := 196) hx hb dMo_work_183 (by decide) (fun c_69 => ?_) (fun c_69 => ?_)
    · refine lv_iload_n hx hb dMo_work_196 rfl (lv_at hl 3 rfl) ?_
      refine lv_iconst (v := 1) hx hb dMo_work_197 (by decide +kernel) ?_
      refine lv_icmp_ne (tgt := 230) hx hb dMo_work_198 (by decide) (fun c_70 => ?_) (fun c_70 => ?_)
      · refine lv_aload_n hx hb dMo_work_230 rfl (lv_at hl 1 rfl) ?_
        refine va_get (D := (dC, dI)) (ci := 4) (v := .ref (ad 11)) (C := RMo) (T := TMo) (N := 29) hx hb hc inMo hown hK hP 0 rfl rfl 11 (by decide) (hc _ w572) (fun _ h9 => h9) rfl dMo_work_231 ?_
        refine lv_iload_n hx hb dMo_work_234 rfl (lv_at hl 2 rfl) ?_
        refine lv_aload_n hx hb dMo_work_235 rfl (lv_at hl 1 rfl) ?_
        refine va_get (D := (dC, dI)) (ci := 4) (v := .ref (ad 12)) (C := RMo) (T := TMo) (N := 29) hx hb hc inMo hown hK hP 0 rfl rfl 12 (by decide) (hc _ w573) (fun _ h9 => h9) rfl dMo_work_236 ?_
        refine lv_iload_n hx hb dMo_work_239 rfl (lv_at hl 2 rfl) ?_
        refine va_iald hx hb hK hP 12 11 rfl rfl (vp_in_nI (by omega) (by decide)) dMo_work_240 ?_
        refine lv_topi (fun v_72 ev_72 => ?_)
        rw [nI_clamp (by omega)] at ev_72
        subst v_72
        refine lv_iload_n hx hb dMo_work_241 rfl (lv_at hl 0 rfl) ?_
        refine lv_icmp_ne (tgt := 249) hx hb dMo_work_242 (by decide) (fun c_72 => ?_) (fun c_72 => ?_)
        · refine lv_iconst (v := 0) hx hb dMo_work_249 (by decide +kernel) ?_
          refine va_iast hx hb hK hP hD hS 11 10 rfl rfl (vp_in_nI (by omega) (by decide)) dMo_work_250 (fun H locs hP hD hS => ?_)
          rw [nI_clamp (by omega)] at hP hD
          obtain ⟨S_74, eS_74⟩ : ∃ z9 : Ss, z9 = row S 19 (upd (S 19) j 0) := ⟨_, rfl⟩
          have hP : va_P (dC, dI) vwCl (MW ad ca S_74 E) H := by rw [eS_74]; exact hP
          have hD : va_D A (MW ad ca S_74 E) := by rw [eS_74]; exact hD
          refine lv_goto (tgt := 334) hx hb dMo_work_251 (by decide) ?_
          refine lv_aload_n hx hb dMo_work_334 rfl (lv_at hl 1 rfl) ?_
          refine va_get (D := (dC, dI)) (ci := 4) (v := .int (E 0 3)) (C := RMo) (T := TMo) (N := 29) hx hb hc inMo hown hK hP 0 rfl rfl 28 (by decide) (hc _ w589) (fun _ h9 => h9) rfl dMo_work_335 ?_
          refine lv_if_ne (tgt := 348) hx hb dMo_work_338 (by decide) (fun c_74 => ?_) (fun c_74 => ?_)
          · exact absurd hE3 c_74
          · refine lv_aload_n hx hb dMo_work_341 rfl (lv_at hl 1 rfl) ?_
            refine va_get (D := (dC, dI)) (ci := 4) (v := .ref (ad 13)) (C := RMo) (T := TMo) (N := 29) hx hb hc inMo hown hK hP 0 rfl rfl 13 (by decide) (hc _ w574) (fun _ h9 => h9) rfl dMo_work_342 ?_
            refine lv_iload_n hx hb dMo_work_345 rfl (lv_at hl 2 rfl) ?_
            refine lv_iload_n hx hb dMo_work_346 rfl (lv_at hl 3 rfl) ?_
            refine va_iast hx hb hK hP hD hS 13 12 rfl rfl (vp_in_nI (by omega) (by decide)) dMo_work_347 (fun H locs hP hD hS => ?_)
            rw [nI_clamp (by omega)] at hP hD
            obtain ⟨S_76, eS_76⟩ : ∃ z9 : Ss, z9 = row S_74 21 (upd (S_74 21) j x) := ⟨_, rfl⟩
            have hP : va_P (dC, dI) vwCl (MW ad ca S_76 E) H := by rw [eS_76]; exact hP
            have hD : va_D A (MW ad ca S_76 E) := by rw [eS_76]; exact hD
            exact W.vret hx hb hr (fun t ht hW => ⟨⟨(S_76, E), rfl, (by (try dsimp only) <;> exact ⟨fun h => absurd h.1 (by rw [w_66]; decide), fun _ => ⟨(by have hC : S 20 j = cntB S j x := (by unfold cntB; rw [if_neg w_2, if_neg w_33, if_pos w_66, if_neg (by rw [← hr_69]; exact c_69), if_neg (fun h => c_70 h.1)]); have hO : (0 : Int32) = outB S j x := (by unfold outB; rw [if_neg w_2, if_neg w_33, if_pos w_66, ← hC]; exact (b2_f c_72).symm); subst S_76; subst S_74; exact bw_3 (fun h => (n5 (Or.inr (Or.inr (Or.inl w_66)))) h.1) hC hO), rfl⟩⟩), by rw [ht]; exact hP, va_K.moved hW.alike hK, hD⟩, hS.F ht⟩) hS.2.2 dMo_work_348
        · refine lv_iconst (v := 1) hx hb dMo_work_245 (by decide +kernel) ?_
          refine lv_goto (tgt := 250) hx hb dMo_work_246 (by decide) ?_
          refine va_iast hx hb hK hP hD hS 11 10 rfl rfl (vp_in_nI (by omega) (by decide)) dMo_work_250 (fun H locs hP hD hS => ?_)
          rw [nI_clamp (by omega)] at hP hD
          obtain ⟨S_77, eS_77⟩ : ∃ z9 : Ss, z9 = row S 19 (upd (S 19) j 1) := ⟨_, rfl⟩
          have hP : va_P (dC, dI) vwCl (MW ad ca S_77 E) H := by rw [eS_77]; exact hP
          have hD : va_D A (MW ad ca S_77 E) := by rw [eS_77]; exact hD
          refine lv_goto (tgt := 334) hx hb dMo_work_251 (by decide) ?_
          refine lv_aload_n hx hb dMo_work_334 rfl (lv_at hl 1 rfl) ?_
          refine va_get (D := (dC, dI)) (ci := 4) (v := .int (E 0 3)) (C := RMo) (T := TMo) (N := 29) hx hb hc inMo hown hK hP 0 rfl rfl 28 (by decide) (hc _ w589) (fun _ h9 => h9) rfl dMo_work_335 ?_
          refine lv_if_ne (tgt := 348) hx hb dMo_work_338 (by decide) (fun c_77 => ?_) (fun c_77 => ?_)
          · exact absurd hE3 c_77
          · refine lv_aload_n hx hb dMo_work_341 rfl (lv_at hl 1 rfl) ?_
            refine va_get (D := (dC, dI)) (ci := 4) (v := .ref (ad 13)) (C := RMo) (T := TMo) (N := 29) hx hb hc inMo hown hK hP 0 rfl rfl 13 (by decide) (hc _ w574) (fun _ h9 => h9) rfl dMo_work_342 ?_
            refine lv_iload_n hx hb dMo_work_345 rfl (lv_at hl 2 rfl) ?_
            refine lv_iload_n hx hb dMo_work_346 rfl (lv_at hl 3 rfl) ?_
            refine va_iast hx hb hK hP hD hS 13 12 rfl rfl (vp_in_nI (by omega) (by decide)) dMo_work_347 (fun H locs hP hD hS => ?_)
            rw [nI_clamp (by omega)] at hP hD
            obtain ⟨S_79, eS_79⟩ : ∃ z9 : Ss, z9 = row S_77 21 (upd (S_77 21) j x) := ⟨_, rfl⟩
            have hP : va_P (dC, dI) vwCl (MW ad ca S_79 E) H := by rw [eS_79]; exact hP
            have hD : va_D A (MW ad ca S_79 E) := by rw [eS_79]; exact hD
            exact W.vret hx hb hr (fun t ht hW => ⟨⟨(S_79, E), rfl, (by (try dsimp only) <;> exact ⟨fun h => absurd h.1 (by rw [w_66]; decide), fun _ => ⟨(by have hC : S 20 j = cntB S j x := (by unfold cntB; rw [if_neg w_2, if_neg w_33, if_pos w_66, if_neg (by rw [← hr_69]; exact c_69), if_neg (fun h => c_70 h.1)]); have hO : (1 : Int32) = outB S j x := (by unfold outB; rw [if_neg w_2, if_neg w_33, if_pos w_66, ← hC]; exact (b2_t c_72).symm); subst S_79; subst S_77; exact bw_3 (fun h => (n5 (Or.inr (Or.inr (Or.inl w_66)))) h.1) hC hO), rfl⟩⟩), by rw [ht]; exact hP, va_K.moved hW.alike hK, hD⟩, hS.F ht⟩) hS.2.2 dMo_work_348
      · refine lv_aload_n hx hb dMo_work_201 rfl (lv_at hl 1 rfl) ?_
        refine va_get (D := (dC, dI)) (ci := 4) (v := .ref (ad 13)) (C := RMo) (T := TMo) (N := 29) hx hb hc inMo hown hK hP 0 rfl rfl 13 (by decide) (hc _ w574) (fun _ h9 => h9) rfl dMo_work_202 ?_
        refine lv_iload_n hx hb dMo_work_205 rfl (lv_at hl 2 rfl) ?_
        refine va_iald hx hb hK hP 13 12 rfl rfl (vp_in_nI (by omega) (by decide)) dMo_work_206 ?_
        refine lv_topi (fun v_80 ev_80 => ?_)
        rw [nI_clamp (by omega)] at ev_80
        subst v_80
        refine lv_if_ne (tgt := 230) hx hb dMo_work_207 (by decide) (fun c_80 => ?_) (fun c_80 => ?_)
        · refine lv_aload_n hx hb dMo_work_230 rfl (lv_at hl 1 rfl) ?_
          refine va_get (D := (dC, dI)) (ci := 4) (v := .ref (ad 11)) (C := RMo) (T := TMo) (N := 29) hx hb hc inMo hown hK hP 0 rfl rfl 11 (by decide) (hc _ w572) (fun _ h9 => h9) rfl dMo_work_231 ?_
          refine lv_iload_n hx hb dMo_work_234 rfl (lv_at hl 2 rfl) ?_
          refine lv_aload_n hx hb dMo_work_235 rfl (lv_at hl 1 rfl) ?_
          refine va_get (D := (dC, dI)) (ci := 4) (v := .ref (ad 12)) (C := RMo) (T := TMo) (N := 29) hx hb hc inMo hown hK hP 0 rfl rfl 12 (by decide) (hc _ w573) (fun _ h9 => h9) rfl dMo_work_236 ?_
          refine lv_iload_n hx hb dMo_work_239 rfl (lv_at hl 2 rfl) ?_
          refine va_iald hx hb hK hP 12 11 rfl rfl (vp_in_nI (by omega) (by decide)) dMo_work_240 ?_
          refine lv_topi (fun v_82 ev_82 => ?_)
          rw [nI_clamp (by omega)] at ev_82
          subst v_82
          refine lv_iload_n hx hb dMo_work_241 rfl (lv_at hl 0 rfl) ?_
          refine lv_icmp_ne (tgt := 249) hx hb dMo_work_242 (by decide) (fun c_82 => ?_) (fun c_82 => ?_)
          · refine lv_iconst (v := 0) hx hb dMo_work_249 (by decide +kernel) ?_
            refine va_iast hx hb hK hP hD hS 11 10 rfl rfl (vp_in_nI (by omega) (by decide)) dMo_work_250 (fun H locs hP hD hS => ?_)
            rw [nI_clamp (by omega)] at hP hD
            obtain ⟨S_84, eS_84⟩ : ∃ z9 : Ss, z9 = row S 19 (upd (S 19) j 0) := ⟨_, rfl⟩
            have hP : va_P (dC, dI) vwCl (MW ad ca S_84 E) H := by rw [eS_84]; exact hP
            have hD : va_D A (MW ad ca S_84 E) := by rw [eS_84]; exact hD
            refine lv_goto (tgt := 334) hx hb dMo_work_251 (by decide) ?_
            refine lv_aload_n hx hb dMo_work_334 rfl (lv_at hl 1 rfl) ?_
            refine va_get (D := (dC, dI)) (ci := 4) (v := .int (E 0 3)) (C := RMo) (T := TMo) (N := 29) hx hb hc inMo hown hK hP 0 rfl rfl 28 (by decide) (hc _ w589) (fun _ h9 => h9) rfl dMo_work_335 ?_
            refine lv_if_ne (tgt := 348) hx hb dMo_work_338 (by decide) (fun c_84 => ?_) (fun c_84 => ?_)
            · exact absurd hE3 c_84
            · refine lv_aload_n hx hb dMo_work_341 rfl (lv_at hl 1 rfl) ?_
              refine va_get (D := (dC, dI)) (ci := 4) (v := .ref (ad 13)) (C := RMo) (T := TMo) (N := 29) hx hb hc inMo hown hK hP 0 rfl rfl 13 (by decide) (hc _ w574) (fun _ h9 => h9) rfl dMo_work_342 ?_
              refine lv_iload_n hx hb dMo_work_345 rfl (lv_at hl 2 rfl) ?_
              refine lv_iload_n hx hb dMo_work_346 rfl (lv_at hl 3 rfl) ?_
              refine va_iast hx hb hK hP hD hS 13 12 rfl rfl (vp_in_nI (by omega) (by decide)) dMo_work_347 (fun H locs hP hD hS => ?_)
              rw [nI_clamp (by omega)] at hP hD
              obtain ⟨S_86, eS_86⟩ : ∃ z9 : Ss, z9 = row S_84 21 (upd (S_84 21) j x) := ⟨_, rfl⟩
              have hP : va_P (dC, dI) vwCl (MW ad ca S_86 E) H := by rw [eS_86]; exact hP
              have hD : va_D A (MW ad ca S_86 E) := by rw [eS_86]; exact hD
              exact W.vret hx hb hr (fun t ht hW => ⟨⟨(S_86, E), rfl, (by (try dsimp only) <;> exact ⟨fun h => absurd h.1 (by rw [w_66]; decide), fun _ => ⟨(by have hC : S 20 j = cntB S j x := (by unfold cntB; rw [if_neg w_2, if_neg w_33, if_pos w_66, if_neg (by rw [← hr_69]; exact c_69), if_neg (fun h => c_80 h.2)]); have hO : (0 : Int32) = outB S j x := (by unfold outB; rw [if_neg w_2, if_neg w_33, if_pos w_66, ← hC]; exact (b2_f c_82).symm); subst S_86; subst S_84; exact bw_3 (fun h => (n5 (Or.inr (Or.inr (Or.inl w_66)))) h.1) hC hO), rfl⟩⟩), by rw [ht]; exact hP, va_K.moved hW.alike hK, hD⟩, hS.F ht⟩) hS.2.2 dMo_work_348
          · refine lv_iconst (v := 1) hx hb dMo_work_245 (by decide +kernel) ?_
            refine lv_goto (tgt := 250) hx hb dMo_work_246 (by decide) ?_
            refine va_iast hx hb hK hP hD hS 11 10 rfl rfl (vp_in_nI (by omega) (by decide)) dMo_work_250 (fun H locs hP hD hS => ?_)
            rw [nI_clamp (by omega)] at hP hD
            obtain ⟨S_87, eS_87⟩ : ∃ z9 : Ss, z9 = row S 19 (upd (S 19) j 1) := ⟨_, rfl⟩
            have hP : va_P (dC, dI) vwCl (MW ad ca S_87 E) H := by rw [eS_87]; exact hP
            have hD : va_D A (MW ad ca S_87 E) := by rw [eS_87]; exact hD
            refine lv_goto (tgt := 334) hx hb dMo_work_251 (by decide) ?_
            refine lv_aload_n hx hb dMo_work_334 rfl (lv_at hl 1 rfl) ?_
            refine va_get (D := (dC, dI)) (ci := 4) (v := .int (E 0 3)) (C := RMo) (T := TMo) (N := 29) hx hb hc inMo hown hK hP 0 rfl rfl 28 (by decide) (hc _ w589) (fun _ h9 => h9) rfl dMo_work_335 ?_
            refine lv_if_ne (tgt := 348) hx hb dMo_work_338 (by decide) (fun c_87 => ?_) (fun c_87 => ?_)
            · exact absurd hE3 c_87
            · refine lv_aload_n hx hb dMo_work_341 rfl (lv_at hl 1 rfl) ?_
              refine va_get (D := (dC, dI)) (ci := 4) (v := .ref (ad 13)) (C := RMo) (T := TMo) (N := 29) hx hb hc inMo hown hK hP 0 rfl rfl 13 (by decide) (hc _ w574) (fun _ h9 => h9) rfl dMo_work_342 ?_
              refine lv_iload_n hx hb dMo_work_345 rfl (lv_at hl 2 rfl) ?_
              refine lv_iload_n hx hb dMo_work_346 rfl (lv_at hl 3 rfl) ?_
              refine va_iast hx hb hK hP hD hS 13 12 rfl rfl (vp_in_nI (by omega) (by decide)) dMo_work_347 (fun H locs hP hD hS => ?_)
              rw [nI_clamp (by omega)] at hP hD
              obtain ⟨S_89, eS_89⟩ : ∃ z9 : Ss, z9 = row S_87 21 (upd (S_87 21) j x) := ⟨_, rfl⟩
              have hP : va_P (dC, dI) vwCl (MW ad ca S_89 E) H := by rw [eS_89]; exact hP
              have hD : va_D A (MW ad ca S_89 E) := by rw [eS_89]; exact hD
              exact W.vret hx hb hr (fun t ht hW => ⟨⟨(S_89, E), rfl, (by (try dsimp only) <;> exact ⟨fun h => absurd h.1 (by rw [w_66]; decide), fun _ => ⟨(by have hC : S 20 j = cntB S j x := (by unfold cntB; rw [if_neg w_2, if_neg w_33, if_pos w_66, if_neg (by rw [← hr_69]; exact c_69), if_neg (fun h => c_80 h.2)]); have hO : (1 : Int32) = outB S j x := (by unfold outB; rw [if_neg w_2, if_neg w_33, if_pos w_66, ← hC]; exact (b2_t c_82).symm); subst S_89; subst S_87; exact bw_3 (fun h => (n5 (Or.inr (Or.inr (Or.inl w_66)))) h.1) hC hO), rfl⟩⟩), by rw [ht]; exact hP, va_K.moved hW.alike hK, hD⟩, hS.F ht⟩) hS.2.2 dMo_work_348
        · refine lv_aload_n hx hb dMo_work_210 rfl (lv_at hl 1 rfl) ?_
          refine va_get (D := (dC, dI)) (ci := 4) (v := .ref (ad 12)) (C := RMo) (T := TMo) (N := 29) hx hb hc inMo hown hK hP 0 rfl rfl 12 (by decide) (hc _ w573) (fun _ h9 => h9) rfl dMo_work_211 ?_
          refine lv_iload_n hx hb dMo_work_214 rfl (lv_at hl 2 rfl) ?_
          refine va_iald hx hb hK hP 12 11 rfl rfl (vp_in_nI (by omega) (by decide)) dMo_work_215 ?_
          refine lv_topi (fun v_90 ev_90 => ?_)
          rw [nI_clamp (by omega)] at ev_90
          subst v_90
          refine lv_iload_n hx hb dMo_work_216 rfl (lv_at hl 0 rfl) ?_
          refine lv_icmp_ge (tgt := 230) hx hb dMo_work_217 (by decide) (fun c_90 => ?_) (fun c_90 => ?_)
          · refine lv_aload_n hx hb dMo_work_230 rfl (lv_at hl 1 rfl) ?_
            refine va_get (D := (dC, dI)) (ci := 4) (v := .ref (ad 11)) (C := RMo) (T := TMo) (N := 29) hx hb hc inMo hown hK hP 0 rfl rfl 11 (by decide) (hc _ w572) (fun _ h9 => h9) rfl dMo_work_231 ?_
            refine lv_iload_n hx hb dMo_work_234 rfl (lv_at hl 2 rfl) ?_
            refine lv_aload_n hx hb dMo_work_235 rfl (lv_at hl 1 rfl) ?_
            refine va_get (D := (dC, dI)) (ci := 4) (v := .ref (ad 12)) (C := RMo) (T := TMo) (N := 29) hx hb hc inMo hown hK hP 0 rfl rfl 12 (by decide) (hc _ w573) (fun _ h9 => h9) rfl dMo_work_236 ?_
            refine lv_iload_n hx hb dMo_work_239 rfl (lv_at hl 2 rfl) ?_
            refine va_iald hx hb hK hP 12 11 rfl rfl (vp_in_nI (by omega) (by decide)) dMo_work_240 ?_
            refine lv_topi (fun v_92 ev_92 => ?_)
            rw [nI_clamp (by omega)] at ev_92
            subst v_92
            refine lv_iload_n hx hb dMo_work_241 rfl (lv_at hl 0 rfl) ?_
            refine lv_icmp_ne (tgt := 249) hx hb dMo_work_242 (by decide) (fun c_92 => ?_) (fun c_92 => ?_)
            · refine lv_iconst (v := 0) hx hb dMo_work_249 (by decide +kernel) ?_
              refine va_iast hx hb hK hP hD hS 11 10 rfl rfl (vp_in_nI (by omega) (by decide)) dMo_work_250 (fun H locs hP hD hS => ?_)
              rw [nI_clamp (by omega)] at hP hD
              obtain ⟨S_94, eS_94⟩ : ∃ z9 : Ss, z9 = row S 19 (upd (S 19) j 0) := ⟨_, rfl⟩
              have hP : va_P (dC, dI) vwCl (MW ad ca S_94 E) H := by rw [eS_94]; exact hP
              have hD : va_D A (MW ad ca S_94 E) := by rw [eS_94]; exact hD
              refine lv_goto (tgt := 334) hx hb dMo_work_251 (by decide) ?_
              refine lv_aload_n hx hb dMo_work_334 rfl (lv_at hl 1 rfl) ?_
              refine va_get (D := (dC, dI)) (ci := 4) (v := .int (E 0 3)) (C := RMo) (T := TMo) (N := 29) hx hb hc inMo hown hK hP 0 rfl rfl 28 (by decide) (hc _ w589) (fun _ h9 => h9) rfl dMo_work_335 ?_
              refine lv_if_ne (tgt := 348) hx hb dMo_work_338 (by decide) (fun c_94 => ?_) (fun c_94 => ?_)
              · exact absurd hE3 c_94
              · refine lv_aload_n hx hb dMo_work_341 rfl (lv_at hl 1 rfl) ?_
                refine va_get (D := (dC, dI)) (ci := 4) (v := .ref (ad 13)) (C := RMo) (T := TMo) (N := 29) hx hb hc inMo hown hK hP 0 rfl rfl 13 (by decide) (hc _ w574) (fun _ h9 => h9) rfl dMo_work_342 ?_
                refine lv_iload_n hx hb dMo_work_345 rfl (lv_at hl 2 rfl) ?_
                refine lv_iload_n hx hb dMo_work_346 rfl (lv_at hl 3 rfl) ?_
                refine va_iast hx hb hK hP hD hS 13 12 rfl rfl (vp_in_nI (by omega) (by decide)) dMo_work_347 (fun H locs hP hD hS => ?_)
                rw [nI_clamp (by omega)] at hP hD
                obtain ⟨S_96, eS_96⟩ : ∃ z9 : Ss, z9 = row S_94 21 (upd (S_94 21) j x) := ⟨_, rfl⟩
                have hP : va_P (dC, dI) vwCl (MW ad ca S_96 E) H := by rw [eS_96]; exact hP
                have hD : va_D A (MW ad ca S_96 E) := by rw [eS_96]; exact hD
                exact W.vret hx hb hr (fun t ht hW => ⟨⟨(S_96, E), rfl, (by (try dsimp only) <;> exact ⟨fun h => absurd h.1 (by rw [w_66]; decide), fun _ => ⟨(by have hC : S 20 j = cntB S j x := (by unfold cntB; rw [if_neg w_2, if_neg w_33, if_pos w_66, if_neg (by rw [← hr_69]; exact c_69), if_pos ⟨c_70, c_80⟩, if_neg (Int32.not_lt.mpr c_90)]; exact Int32.le_antisymm (hcp w_66) c_90); have hO : (0 : Int32) = outB S j x := (by unfold outB; rw [if_neg w_2, if_neg w_33, if_pos w_66, ← hC]; exact (b2_f c_92).symm); subst S_96; subst S_94; exact bw_3 (fun h => (n5 (Or.inr (Or.inr (Or.inl w_66)))) h.1) hC hO), rfl⟩⟩), by rw [ht]; exact hP, va_K.moved hW.alike hK, hD⟩, hS.F ht⟩) hS.2.2 dMo_work_348
            · refine lv_iconst (v := 1) hx hb dMo_work_245 (by decide +kernel) ?_
              refine lv_goto (tgt := 250) hx hb dMo_work_246 (by decide) ?_
              refine va_iast hx hb hK hP hD hS 11 10 rfl rfl (vp_in_nI (by omega) (by decide)) dMo_work_250 (fun H locs hP hD hS => ?_)
              rw [nI_clamp (by omega)] at hP hD
              obtain ⟨S_97, eS_97⟩ : ∃ z9 : Ss, z9 = row S 19 (upd (S 19) j 1) := ⟨_, rfl⟩
              have hP : va_P (dC, dI) vwCl (MW ad ca S_97 E) H := by rw [eS_97]; exact hP
              have hD : va_D A (MW ad ca S_97 E) := by rw [eS_97]; exact hD
              refine lv_goto (tgt := 334) hx hb dMo_work_251 (by decide) ?_
              refine lv_aload_n hx hb dMo_work_334 rfl (lv_at hl 1 rfl) ?_
              refine va_get (D := (dC, dI)) (ci := 4) (v := .int (E 0 3)) (C := RMo) (T := TMo) (N := 29) hx hb hc inMo hown hK hP 0 rfl rfl 28 (by decide) (hc _ w589) (fun _ h9 => h9) rfl dMo_work_335 ?_
              refine lv_if_ne (tgt := 348) hx hb dMo_work_338 (by decide) (fun c_97 => ?_) (fun c_97 => ?_)
              · exact absurd hE3 c_97
              · refine lv_aload_n hx hb dMo_work_341 rfl (lv_at hl 1 rfl) ?_
                refine va_get (D := (dC, dI)) (ci := 4) (v := .ref (ad 13)) (C := RMo) (T := TMo) (N := 29) hx hb hc inMo hown hK hP 0 rfl rfl 13 (by decide) (hc _ w574) (fun _ h9 => h9) rfl dMo_work_342 ?_
                refine lv_iload_n hx hb dMo_work_345 rfl (lv_at hl 2 rfl) ?_
                refine lv_iload_n hx hb dMo_work_346 rfl (lv_at hl 3 rfl) ?_
                refine va_iast hx hb hK hP hD hS 13 12 rfl rfl (vp_in_nI (by omega) (by decide)) dMo_work_347 (fun H locs hP hD hS => ?_)
                rw [nI_clamp (by omega)] at hP hD
                obtain ⟨S_99, eS_99⟩ : ∃ z9 : Ss, z9 = row S_97 21 (upd (S_97 21) j x) := ⟨_, rfl⟩
                have hP : va_P (dC, dI) vwCl (MW ad ca S_99 E) H := by rw [eS_99]; exact hP
                have hD : va_D A (MW ad ca S_99 E) := by rw [eS_99]; exact hD
                exact W.vret hx hb hr (fun t ht hW => ⟨⟨(S_99, E), rfl, (by (try dsimp only) <;> exact ⟨fun h => absurd h.1 (by rw [w_66]; decide), fun _ => ⟨(by have hC : S 20 j = cntB S j x := (by unfold cntB; rw [if_neg w_2, if_neg w_33, if_pos w_66, if_neg (by rw [← hr_69]; exact c_69), if_pos ⟨c_70, c_80⟩, if_neg (Int32.not_lt.mpr c_90)]; exact Int32.le_antisymm (hcp w_66) c_90); have hO : (1 : Int32) = outB S j x := (by unfold outB; rw [if_neg w_2, if_neg w_33, if_pos w_66, ← hC]; exact (b2_t c_92).symm); subst S_99; subst S_97; exact bw_3 (fun h => (n5 (Or.inr (Or.inr (Or.inl w_66)))) h.1) hC hO), rfl⟩⟩), by rw [ht]; exact hP, va_K.moved hW.alike hK, hD⟩, hS.F ht⟩) hS.2.2 dMo_work_348
          · refine lv_aload_n hx hb dMo_work_220 rfl (lv_at hl 1 rfl) ?_
            refine va_get (D := (dC, dI)) (ci := 4) (v := .ref (ad 12)) (C := RMo) (T := TMo) (N := 29) hx hb hc inMo hown hK hP 0 rfl rfl 12 (by decide) (hc _ w573) (fun _ h9 => h9) rfl dMo_work_221 ?_
            refine lv_iload_n hx hb dMo_work_224 rfl (lv_at hl 2 rfl) ?_
            refine lv_dup2_11 hx hb dMo_work_225 rfl rfl ?_
            refine va_iald hx hb hK hP 12 11 rfl rfl (vp_in_nI (by omega) (by decide)) dMo_work_226 ?_
            refine lv_topi (fun v_100 ev_100 => ?_)
            rw [nI_clamp (by omega)] at ev_100
            subst v_100
            refine lv_iconst (v := 1) hx hb dMo_work_227 (by decide +kernel) ?_
            refine lv_iadd hx hb dMo_work_228 ?_
            refine lv_topi (fun v_101 ev_101 => ?_)
            refine va_iast hx hb hK hP hD hS 12 11 rfl rfl (vp_in_nI (by omega) (by decide)) dMo_work_229 (fun H locs hP hD hS => ?_)
            rw [nI_clamp (by omega)] at hP hD
            obtain ⟨S_102, eS_102⟩ : ∃ z9 : Ss, z9 = row S 20 (upd (S 20) j v_101) := ⟨_, rfl⟩
            have hP : va_P (dC, dI) vwCl (MW ad ca S_102 E) H := by rw [eS_102]; exact hP
            have hD : va_D A (MW ad ca S_102 E) := by rw [eS_102]; exact hD
            refine lv_aload_n hx hb dMo_work_230 rfl (lv_at hl 1 rfl) ?_
            refine va_get (D := (dC, dI)) (ci := 4) (v := .ref (ad 11)) (C := RMo) (T := TMo) (N := 29) hx hb hc inMo hown hK hP 0 rfl rfl 11 (by decide) (hc _ w572) (fun _ h9 => h9) rfl dMo_work_231 ?_
            refine lv_iload_n hx hb dMo_work_234 rfl (lv_at hl 2 rfl) ?_
            refine lv_aload_n hx hb dMo_work_235 rfl (lv_at hl 1 rfl) ?_
            refine va_get (D := (dC, dI)) (ci := 4) (v := .ref (ad 12)) (C := RMo) (T := TMo) (N := 29) hx hb hc inMo hown hK hP 0 rfl rfl 12 (by decide) (hc _ w573) (fun _ h9 => h9) rfl dMo_work_236 ?_
            refine lv_iload_n hx hb dMo_work_239 rfl (lv_at hl 2 rfl) ?_
            refine va_iald hx hb hK hP 12 11 rfl rfl (vp_in_nI (by omega) (by decide)) dMo_work_240 ?_
            refine lv_topi (fun v_103 ev_103 => ?_)
            rw [nI_clamp (by omega)] at ev_103
            subst v_103
            refine lv_iload_n hx hb dMo_work_241 rfl (lv_at hl 0 rfl) ?_
            refine lv_icmp_ne (tgt := 249) hx hb dMo_work_242 (by decide) (fun c_103 => ?_) (fun c_103 => ?_)
            · refine lv_iconst (v := 0) hx hb dMo_work_249 (by decide +kernel) ?_
              refine va_iast hx hb hK hP hD hS 11 10 rfl rfl (vp_in_nI (by omega) (by decide)) dMo_work_250 (fun H locs hP hD hS => ?_)
              rw [nI_clamp (by omega)] at hP hD
              obtain ⟨S_105, eS_105⟩ : ∃ z9 : Ss, z9 = row S_102 19 (upd (S_102 19) j 0) := ⟨_, rfl⟩
              have hP : va_P (dC, dI) vwCl (MW ad ca S_105 E) H := by rw [eS_105]; exact hP
              have hD : va_D A (MW ad ca S_105 E) := by rw [eS_105]; exact hD
              refine lv_goto (tgt := 334) hx hb dMo_work_251 (by decide) ?_
              refine lv_aload_n hx hb dMo_work_334 rfl (lv_at hl 1 rfl) ?_
              refine va_get (D := (dC, dI)) (ci := 4) (v := .int (E 0 3)) (C := RMo) (T := TMo) (N := 29) hx hb hc inMo hown hK hP 0 rfl rfl 28 (by decide) (hc _ w589) (fun _ h9 => h9) rfl dMo_work_335 ?_
              refine lv_if_ne (tgt := 348) hx hb dMo_work_338 (by decide) (fun c_105 => ?_) (fun c_105 => ?_)
              · exact absurd hE3 c_105
              · refine lv_aload_n hx hb dMo_work_341 rfl (lv_at hl 1 rfl) ?_
                refine va_get (D := (dC, dI)) (ci := 4) (v := .ref (ad 13)) (C := RMo) (T := TMo) (N := 29) hx hb hc inMo hown hK hP 0 rfl rfl 13 (by decide) (hc _ w574) (fun _ h9 => h9) rfl dMo_work_342 ?_
                refine lv_iload_n hx hb dMo_work_345 rfl (lv_at hl 2 rfl) ?_
                refine lv_iload_n hx hb dMo_work_346 rfl (lv_at hl 3 rfl) ?_
                refine va_iast hx hb hK hP hD hS 13 12 rfl rfl (vp_in_nI (by omega) (by decide)) dMo_work_347 (fun H locs hP hD hS => ?_)
                rw [nI_clamp (by omega)] at hP hD
                obtain ⟨S_107, eS_107⟩ : ∃ z9 : Ss, z9 = row S_105 21 (upd (S_105 21) j x) := ⟨_, rfl⟩
                have hP : va_P (dC, dI) vwCl (MW ad ca S_107 E) H := by rw [eS_107]; exact hP
                have hD : va_D A (MW ad ca S_107 E) := by rw [eS_107]; exact hD
                exact W.vret hx hb hr (fun t ht hW => ⟨⟨(S_107, E), rfl, (by (try dsimp only) <;> exact ⟨fun h => absurd h.1 (by rw [w_66]; decide), fun _ => ⟨(by subst S_107; subst S_105; subst S_102; subst v_101; have hC : (S 20 j + 1) = cntB S j x := (by unfold cntB; rw [if_neg w_2, if_neg w_33, if_pos w_66, if_neg (by rw [← hr_69]; exact c_69), if_pos ⟨c_70, c_80⟩, if_pos (Int32.not_le.mp c_90)]); have hO : (0 : Int32) = outB S j x := (by unfold outB; rw [if_neg w_2, if_neg w_33, if_pos w_66, ← hC]; exact (b2_f (fun h => c_103 ((pk_us (f := S 20) (k := j) (x := (S 20 j + 1))).trans h))).symm); exact bw_0 (n5 (Or.inr (Or.inr (Or.inl w_66)))) hC hO), rfl⟩⟩), by rw [ht]; exact hP, va_K.moved hW.alike hK, hD⟩, hS.F ht⟩) hS.2.2 dMo_work_348
            · refine lv_iconst (v := 1) hx hb dMo_work_245 (by decide +kernel) ?_
              refine lv_goto (tgt := 250) hx hb dMo_work_246 (by decide) ?_
              refine va_iast hx hb hK hP hD hS 11 10 rfl rfl (vp_in_nI (by omega) (by decide)) dMo_work_250 (fun H locs hP hD hS => ?_)
              rw [nI_clamp (by omega)] at hP hD
              obtain ⟨S_108, eS_108⟩ : ∃ z9 : Ss, z9 = row S_102 19 (upd (S_102 19) j 1) := ⟨_, rfl⟩
              have hP : va_P (dC, dI) vwCl (MW ad ca S_108 E) H := by rw [eS_108]; exact hP
              have hD : va_D A (MW ad ca S_108 E) := by rw [eS_108]; exact hD
              refine lv_goto (tgt := 334) hx hb dMo_work_251 (by decide) ?_
              refine lv_aload_n hx hb dMo_work_334 rfl (lv_at hl 1 rfl) ?_
              refine va_get (D := (dC, dI)) (ci := 4) (v := .int (E 0 3)) (C := RMo) (T := TMo) (N := 29) hx hb hc inMo hown hK hP 0 rfl rfl 28 (by decide) (hc _ w589) (fun _ h9 => h9) rfl dMo_work_335 ?_
              refine lv_if_ne (tgt := 348) hx hb dMo_work_338 (by decide) (fun c_108 => ?_) (fun c_108 => ?_)
              · exact absurd hE3 c_108
              · refine lv_aload_n hx hb dMo_work_341 rfl (lv_at hl 1 rfl) ?_
                refine va_get (D := (dC, dI)) (ci := 4) (v := .ref (ad 13)) (C := RMo) (T := TMo) (N := 29) hx hb hc inMo hown hK hP 0 rfl rfl 13 (by decide) (hc _ w574) (fun _ h9 => h9) rfl dMo_work_342 ?_
                refine lv_iload_n hx hb dMo_work_345 rfl (lv_at hl 2 rfl) ?_
                refine lv_iload_n hx hb dMo_work_346 rfl (lv_at hl 3 rfl) ?_
                refine va_iast hx hb hK hP hD hS 13 12 rfl rfl (vp_in_nI (by omega) (by decide)) dMo_work_347 (fun H locs hP hD hS => ?_)
                rw [nI_clamp (by omega)] at hP hD
                obtain ⟨S_110, eS_110⟩ : ∃ z9 : Ss, z9 = row S_108 21 (upd (S_108 21) j x) := ⟨_, rfl⟩
                have hP : va_P (dC, dI) vwCl (MW ad ca S_110 E) H := by rw [eS_110]; exact hP
                have hD : va_D A (MW ad ca S_110 E) := by rw [eS_110]; exact hD
                exact W.vret hx hb hr (fun t ht hW => ⟨⟨(S_110, E), rfl, (by (try dsimp only) <;> exact ⟨fun h => absurd h.1 (by rw [w_66]; decide), fun _ => ⟨(by subst S_110; subst S_108; subst S_102; subst v_101; have hC : (S 20 j + 1) = cntB S j x := (by unfold cntB; rw [if_neg w_2, if_neg w_33, if_pos w_66, if_neg (by rw [← hr_69]; exact c_69), if_pos ⟨c_70, c_80⟩, if_pos (Int32.not_le.mp c_90)]); have hO : (1 : Int32) = outB S j x := (by unfold outB; rw [if_neg w_2, if_neg w_33, if_pos w_66, ← hC]; exact (b2_t ((pk_us (f := S 20) (k := j) (x := (S 20 j + 1))).symm.trans c_103)).symm); exact bw_0 (n5 (Or.inr (Or.inr (Or.inl w_66)))) hC hO), rfl⟩⟩), by rw [ht]; exact hP, va_K.moved hW.alike hK, hD⟩, hS.F ht⟩) hS.2.2 dMo_work_348
    · refine lv_aload_n hx hb dMo_work_186 rfl (lv_at hl 1 rfl) ?_
      refine va_get (D := (dC, dI)) (ci := 4) (v := .ref (ad 12)) (C := RMo) (T := TMo) (N := 29) hx hb hc inMo hown hK hP 0 rfl rfl 12 (by decide) (hc _ w573) (fun _ h9 => h9) rfl dMo_work_187 ?_
      refine lv_iload_n hx hb dMo_work_190 rfl (lv_at hl 2 rfl) ?_
      refine lv_iconst (v := 0) hx hb dMo_work_191 (by decide +kernel) ?_
      refine va_iast hx hb hK hP hD hS 12 11 rfl rfl (vp_in_nI (by omega) (by decide)) dMo_work_192 (fun H locs hP hD hS => ?_)
      rw [nI_clamp (by omega)] at hP hD
      obtain ⟨S_111, eS_111⟩ : ∃ z9 : Ss, z9 = row S 20 (upd (S 20) j 0) := ⟨_, rfl⟩
      have hP : va_P (dC, dI) vwCl (MW ad ca S_111 E) H := by rw [eS_111]; exact hP
      have hD : va_D A (MW ad ca S_111 E) := by rw [eS_111]; exact hD
      refine lv_goto (tgt := 230) hx hb dMo_work_193 (by decide) ?_
      refine lv_aload_n hx hb dMo_work_230 rfl (lv_at hl 1 rfl) ?_
      refine va_get (D := (dC, dI)) (ci := 4) (v := .ref (ad 11)) (C := RMo) (T := TMo) (N := 29) hx hb hc inMo hown hK hP 0 rfl rfl 11 (by decide) (hc _ w572) (fun _ h9 => h9) rfl dMo_work_231 ?_
      refine lv_iload_n hx hb dMo_work_234 rfl (lv_at hl 2 rfl) ?_
      refine lv_aload_n hx hb dMo_work_235 rfl (lv_at hl 1 rfl) ?_
      refine va_get (D := (dC, dI)) (ci := 4) (v := .ref (ad 12)) (C := RMo) (T := TMo) (N := 29) hx hb hc inMo hown hK hP 0 rfl rfl 12 (by decide) (hc _ w573) (fun _ h9 => h9) rfl dMo_work_236 ?_
      refine lv_iload_n hx hb dMo_work_239 rfl (lv_at hl 2 rfl) ?_
      refine va_iald hx hb hK hP 12 11 rfl rfl (vp_in_nI (by omega) (by decide)) dMo_work_240 ?_
      refine lv_topi (fun v_112 ev_112 => ?_)
      rw [nI_clamp (by omega)] at ev_112
      subst v_112
      refine lv_iload_n hx hb dMo_work_241 rfl (lv_at hl 0 rfl) ?_
      refine lv_icmp_ne (tgt := 249) hx hb dMo_work_242 (by decide) (fun c_112 => ?_) (fun c_112 => ?_)
      · refine lv_iconst (v := 0) hx hb dMo_work_249 (by decide +kernel) ?_
        refine va_iast hx hb hK hP hD hS 11 10 rfl rfl (vp_in_nI (by omega) (by decide)) dMo_work_250 (fun H locs hP hD hS => ?_)
        rw [nI_clamp (by omega)] at hP hD
        obtain ⟨S_114, eS_114⟩ : ∃ z9 : Ss, z9 = row S_111 19 (upd (S_111 19) j 0) := ⟨_, rfl⟩
        have hP : va_P (dC, dI) vwCl (MW ad ca S_114 E) H := by rw [eS_114]; exact hP
        have hD : va_D A (MW ad ca S_114 E) := by rw [eS_114]; exact hD
        refine lv_goto (tgt := 334) hx hb dMo_work_251 (by decide) ?_
        refine lv_aload_n hx hb dMo_work_334 rfl (lv_at hl 1 rfl) ?_
        refine va_get (D := (dC, dI)) (ci := 4) (v := .int (E 0 3)) (C := RMo) (T := TMo) (N := 29) hx hb hc inMo hown hK hP 0 rfl rfl 28 (by decide) (hc _ w589) (fun _ h9 => h9) rfl dMo_work_335 ?_
        refine lv_if_ne (tgt := 348) hx hb dMo_work_338 (by decide) (fun c_114 => ?_) (fun c_114 => ?_)
        · exact absurd hE3 c_114
        · refine lv_aload_n hx hb dMo_work_341 rfl (lv_at hl 1 rfl) ?_
          refine va_get (D := (dC, dI)) (ci := 4) (v := .ref (ad 13)) (C := RMo) (T := TMo) (N := 29) hx hb hc inMo hown hK hP 0 rfl rfl 13 (by decide) (hc _ w574) (fun _ h9 => h9) rfl dMo_work_342 ?_
          refine lv_iload_n hx hb dMo_work_345 rfl (lv_at hl 2 rfl) ?_
          refine lv_iload_n hx hb dMo_work_346 rfl (lv_at hl 3 rfl) ?_
          refine va_iast hx hb hK hP hD hS 13 12 rfl rfl (vp_in_nI (by omega) (by decide)) dMo_work_347 (fun H locs hP hD hS => ?_)
          rw [nI_clamp (by omega)] at hP hD
          obtain ⟨S_116, eS_116⟩ : ∃ z9 : Ss, z9 = row S_114 21 (upd (S_114 21) j x) := ⟨_, rfl⟩
          have hP : va_P (dC, dI) vwCl (MW ad ca S_116 E) H := by rw [eS_116]; exact hP
          have hD : va_D A (MW ad ca S_116 E) := by rw [eS_116]; exact hD
          exact W.vret hx hb hr (fun t ht hW => ⟨⟨(S_116, E), rfl, (by (try dsimp only) <;> exact ⟨fun h => absurd h.1 (by rw [w_66]; decide), fun _ => ⟨(by subst S_116; subst S_114; subst S_111; have hC : 0 = cntB S j x := (by unfold cntB; rw [if_neg w_2, if_neg w_33, if_pos w_66, if_pos (by rw [← hr_69]; exact c_69)]); have hO : (0 : Int32) = outB S j x := (by unfold outB; rw [if_neg w_2, if_neg w_33, if_pos w_66, ← hC]; exact (b2_f (fun h => c_112 ((pk_us (f := S 20) (k := j) (x := 0)).trans h))).symm); exact bw_0 (n5 (Or.inr (Or.inr (Or.inl w_66)))) hC hO), rfl⟩⟩), by rw [ht]; exact hP, va_K.moved hW.alike hK, hD⟩, hS.F ht⟩) hS.2.2 dMo_work_348
      · refine lv_iconst (v := 1) hx hb dMo_work_245 (by decide +kernel) ?_
        refine lv_goto (tgt := 250) hx hb dMo_work_246 (by decide) ?_
        refine va_iast hx hb hK hP hD hS 11 10 rfl rfl (vp_in_nI (by omega) (by decide)) dMo_work_250 (fun H locs hP hD hS => ?_)
        rw [nI_clamp (by omega)] at hP hD
        obtain ⟨S_117, eS_117⟩ : ∃ z9 : Ss, z9 = row S_111 19 (upd (S_111 19) j 1) := ⟨_, rfl⟩
        have hP : va_P (dC, dI) vwCl (MW ad ca S_117 E) H := by rw [eS_117]; exact hP
        have hD : va_D A (MW ad ca S_117 E) := by rw [eS_117]; exact hD
        refine lv_goto (tgt := 334) hx hb dMo_work_251 (by decide) ?_
        refine lv_aload_n hx hb dMo_work_334 rfl (lv_at hl 1 rfl) ?_
        refine va_get (D := (dC, dI)) (ci := 4) (v := .int (E 0 3)) (C := RMo) (T := TMo) (N := 29) hx hb hc inMo hown hK hP 0 rfl rfl 28 (by decide) (hc _ w589) (fun _ h9 => h9) rfl dMo_work_335 ?_
        refine lv_if_ne (tgt := 348) hx hb dMo_work_338 (by decide) (fun c_117 => ?_) (fun c_117 => ?_)
        · exact absurd hE3 c_117
        · refine lv_aload_n hx hb dMo_work_341 rfl (lv_at hl 1 rfl) ?_
          refine va_get (D := (dC, dI)) (ci := 4) (v := .ref (ad 13)) (C := RMo) (T := TMo) (N := 29) hx hb hc inMo hown hK hP 0 rfl rfl 13 (by decide) (hc _ w574) (fun _ h9 => h9) rfl dMo_work_342 ?_
          refine lv_iload_n hx hb dMo_work_345 rfl (lv_at hl 2 rfl) ?_
          refine lv_iload_n hx hb dMo_work_346 rfl (lv_at hl 3 rfl) ?_
          refine va_iast hx hb hK hP hD hS 13 12 rfl rfl (vp_in_nI (by omega) (by decide)) dMo_work_347 (fun H locs hP hD hS => ?_)
          rw [nI_clamp (by omega)] at hP hD
          obtain ⟨S_119, eS_119⟩ : ∃ z9 : Ss, z9 = row S_117 21 (upd (S_117 21) j x) := ⟨_, rfl⟩
          have hP : va_P (dC, dI) vwCl (MW ad ca S_119 E) H := by rw [eS_119]; exact hP
          have hD : va_D A (MW ad ca S_119 E) := by rw [eS_119]; exact hD
          exact W.vret hx hb hr (fun t ht hW => ⟨⟨(S_119, E), rfl, (by (try dsimp only) <;> exact ⟨fun h => absurd h.1 (by rw [w_66]; decide), fun _ => ⟨(by subst S_119; subst S_117; subst S_111; have hC : 0 = cntB S j x := (by unfold cntB; rw [if_neg w_2, if_neg w_33, if_pos w_66, if_pos (by rw [← hr_69]; exact c_69)]); have hO : (1 : Int32) = outB S j x := (by unfold outB; rw [if_neg w_2, if_neg w_33, if_pos w_66, ← hC]; exact (b2_t ((pk_us (f := S 20) (k := j) (x := 0)).symm.trans c_112)).symm); exact bw_0 (n5 (Or.inr (Or.inr (Or.inl w_66)))) hC hO), rfl⟩⟩), by rw [ht]; exact hP, va_K.moved hW.alike hK, hD⟩, hS.F ht⟩) hS.2.2 dMo_work_348
  by_cases w_119 : S 14 j = 3
  · refine lv_tableIn (tgt := 254) hx hb dMo_work_13 (by rw [w_119]; decide) (by rw [w_119]; decide) (by rw [w_119]; rfl) (by decide) ?_
    refine lv_aload_n hx hb dMo_work_254 rfl (lv_at hl 1 rfl) ?_
    refine va_get (D := (dC, dI)) (ci := 4) (v := .ref (ad 11)) (C := RMo) (T := TMo) (N := 29) hx hb hc inMo hown hK hP 0 rfl rfl 11 (by decide) (hc _ w572) (fun _ h9 => h9) rfl dMo_work_255 ?_
    refine lv_iload_n hx hb dMo_work_258 rfl (lv_at hl 2 rfl) ?_
    refine lv_iload_n hx hb dMo_work_259 rfl (lv_at hl 3 rfl) ?_
    refine lv_iconst (v := 1) hx hb dMo_work_260 (by decide +kernel) ?_
    refine lv_icmp_ne (tgt := 277) hx hb dMo_work_261 (by decide) (fun c_120 => ?_) (fun c_120 => ?_)
    · refine lv_iconst (v := 0) hx hb dMo_work_277 (by decide +kernel) ?_
      refine va_iast hx hb hK hP hD hS 11 10 rfl rfl (vp_in_nI (by omega) (by decide)) dMo_work_278 (fun H locs hP hD hS => ?_)
      rw [nI_clamp (by omega)] at hP hD
      obtain ⟨S_122, eS_122⟩ : ∃ z9 : Ss, z9 = row S 19 (upd (S 19) j 0) := ⟨_, rfl⟩
      have hP : va_P (dC, dI) vwCl (MW ad ca S_122 E) H := by rw [eS_122]; exact hP
      have hD : va_D A (MW ad ca S_122 E) := by rw [eS_122]; exact hD
      refine lv_goto (tgt := 334) hx hb dMo_work_279 (by decide) ?_
      refine lv_aload_n hx hb dMo_work_334 rfl (lv_at hl 1 rfl) ?_
      refine va_get (D := (dC, dI)) (ci := 4) (v := .int (E 0 3)) (C := RMo) (T := TMo) (N := 29) hx hb hc inMo hown hK hP 0 rfl rfl 28 (by decide) (hc _ w589) (fun _ h9 => h9) rfl dMo_work_335 ?_
      refine lv_if_ne (tgt := 348) hx hb dMo_work_338 (by decide) (fun c_122 => ?_) (fun c_122 => ?_)
      · exact absurd hE3 c_122
      · refine lv_aload_n hx hb dMo_work_341 rfl (lv_at hl 1 rfl) ?_
        refine va_get (D := (dC, dI)) (ci := 4) (v := .ref (ad 13)) (C := RMo) (T := TMo) (N := 29) hx hb hc inMo hown hK hP 0 rfl rfl 13 (by decide) (hc _ w574) (fun _ h9 => h9) rfl dMo_work_342 ?_
        refine lv_iload_n hx hb dMo_work_345 rfl (lv_at hl 2 rfl) ?_
        refine lv_iload_n hx hb dMo_work_346 rfl (lv_at hl 3 rfl) ?_
        refine va_iast hx hb hK hP hD hS 13 12 rfl rfl (vp_in_nI (by omega) (by decide)) dMo_work_347 (fun H locs hP hD hS => ?_)
        rw [nI_clamp (by omega)] at hP hD
        obtain ⟨S_124, eS_124⟩ : ∃ z9 : Ss, z9 = row S_122 21 (upd (S_122 21) j x) := ⟨_, rfl⟩
        have hP : va_P (dC, dI) vwCl (MW ad ca S_124 E) H := by rw [eS_124]; exact hP
        have hD : va_D A (MW ad ca S_124 E) := by rw [eS_124]; exact hD
        exact W.vret hx hb hr (fun t ht hW => ⟨⟨(S_124, E), rfl, (by (try dsimp only) <;> exact ⟨fun h => absurd h.1 (by rw [w_119]; decide), fun _ => ⟨(by subst S_124; subst S_122; have hC : S 20 j = cntB S j x := (by unfold cntB; rw [if_neg w_2, if_neg w_33, if_neg w_66]); have hO : (0 : Int32) = outB S j x := (by unfold outB; rw [if_neg w_2, if_neg w_33, if_neg w_66, if_pos w_119]; exact (b2_f (fun h => c_120 h.1)).symm); exact bw_3 (fun h => n5 (Or.inr (Or.inr (Or.inr (Or.inl w_119)))) h.1) hC hO), rfl⟩⟩), by rw [ht]; exact hP, va_K.moved hW.alike hK, hD⟩, hS.F ht⟩) hS.2.2 dMo_work_348
    · refine lv_aload_n hx hb dMo_work_264 rfl (lv_at hl 1 rfl) ?_
      refine va_get (D := (dC, dI)) (ci := 4) (v := .ref (ad 13)) (C := RMo) (T := TMo) (N := 29) hx hb hc inMo hown hK hP 0 rfl rfl 13 (by decide) (hc _ w574) (fun _ h9 => h9) rfl dMo_work_265 ?_
      refine lv_iload_n hx hb dMo_work_268 rfl (lv_at hl 2 rfl) ?_
      refine va_iald hx hb hK hP 13 12 rfl rfl (vp_in_nI (by omega) (by decide)) dMo_work_269 ?_
      refine lv_topi (fun v_125 ev_125 => ?_)
      rw [nI_clamp (by omega)] at ev_125
      subst v_125
      refine lv_if_ne (tgt := 277) hx hb dMo_work_270 (by decide) (fun c_125 => ?_) (fun c_125 => ?_)
      · refine lv_iconst (v := 0) hx hb dMo_work_277 (by decide +kernel) ?_
        refine va_iast hx hb hK hP hD hS 11 10 rfl rfl (vp_in_nI (by omega) (by decide)) dMo_work_278 (fun H locs hP hD hS => ?_)
        rw [nI_clamp (by omega)] at hP hD
        obtain ⟨S_127, eS_127⟩ : ∃ z9 : Ss, z9 = row S 19 (upd (S 19) j 0) := ⟨_, rfl⟩
        have hP : va_P (dC, dI) vwCl (MW ad ca S_127 E) H := by rw [eS_127]; exact hP
        have hD : va_D A (MW ad ca S_127 E) := by rw [eS_127]; exact hD
        refine lv_goto (tgt := 334) hx hb dMo_work_279 (by decide) ?_
        refine lv_aload_n hx hb dMo_work_334 rfl (lv_at hl 1 rfl) ?_
        refine va_get (D := (dC, dI)) (ci := 4) (v := .int (E 0 3)) (C := RMo) (T := TMo) (N := 29) hx hb hc inMo hown hK hP 0 rfl rfl 28 (by decide) (hc _ w589) (fun _ h9 => h9) rfl dMo_work_335 ?_
        refine lv_if_ne (tgt := 348) hx hb dMo_work_338 (by decide) (fun c_127 => ?_) (fun c_127 => ?_)
        · exact absurd hE3 c_127
        · refine lv_aload_n hx hb dMo_work_341 rfl (lv_at hl 1 rfl) ?_
          refine va_get (D := (dC, dI)) (ci := 4) (v := .ref (ad 13)) (C := RMo) (T := TMo) (N := 29) hx hb hc inMo hown hK hP 0 rfl rfl 13 (by decide) (hc _ w574) (fun _ h9 => h9) rfl dMo_work_342 ?_
          refine lv_iload_n hx hb dMo_work_345 rfl (lv_at hl 2 rfl) ?_
          refine lv_iload_n hx hb dMo_work_346 rfl (lv_at hl 3 rfl) ?_
          refine va_iast hx hb hK hP hD hS 13 12 rfl rfl (vp_in_nI (by omega) (by decide)) dMo_work_347 (fun H locs hP hD hS => ?_)
          rw [nI_clamp (by omega)] at hP hD
          obtain ⟨S_129, eS_129⟩ : ∃ z9 : Ss, z9 = row S_127 21 (upd (S_127 21) j x) := ⟨_, rfl⟩
          have hP : va_P (dC, dI) vwCl (MW ad ca S_129 E) H := by rw [eS_129]; exact hP
          have hD : va_D A (MW ad ca S_129 E) := by rw [eS_129]; exact hD
          exact W.vret hx hb hr (fun t ht hW => ⟨⟨(S_129, E), rfl, (by (try dsimp only) <;> exact ⟨fun h => absurd h.1 (by rw [w_119]; decide), fun _ => ⟨(by subst S_129; subst S_127; have hC : S 20 j = cntB S j x := (by unfold cntB; rw [if_neg w_2, if_neg w_33, if_neg w_66]); have hO : (0 : Int32) = outB S j x := (by unfold outB; rw [if_neg w_2, if_neg w_33, if_neg w_66, if_pos w_119]; exact (b2_f (fun h => c_125 h.2)).symm); exact bw_3 (fun h => n5 (Or.inr (Or.inr (Or.inr (Or.inl w_119)))) h.1) hC hO), rfl⟩⟩), by rw [ht]; exact hP, va_K.moved hW.alike hK, hD⟩, hS.F ht⟩) hS.2.2 dMo_work_348
      · refine lv_iconst (v := 1) hx hb dMo_work_273 (by decide +kernel) ?_
        refine lv_goto (tgt := 278) hx hb dMo_work_274 (by decide) ?_
        refine va_iast hx hb hK hP hD hS 11 10 rfl rfl (vp_in_nI (by omega) (by decide)) dMo_work_278 (fun H locs hP hD hS => ?_)
        rw [nI_clamp (by omega)] at hP hD
        obtain ⟨S_130, eS_130⟩ : ∃ z9 : Ss, z9 = row S 19 (upd (S 19) j 1) := ⟨_, rfl⟩
        have hP : va_P (dC, dI) vwCl (MW ad ca S_130 E) H := by rw [eS_130]; exact hP
        have hD : va_D A (MW ad ca S_130 E) := by rw [eS_130]; exact hD
        refine lv_goto (tgt := 334) hx hb dMo_work_279 (by decide) ?_
        refine lv_aload_n hx hb dMo_work_334 rfl (lv_at hl 1 rfl) ?_
        refine va_get (D := (dC, dI)) (ci := 4) (v := .int (E 0 3)) (C := RMo) (T := TMo) (N := 29) hx hb hc inMo hown hK hP 0 rfl rfl 28 (by decide) (hc _ w589) (fun _ h9 => h9) rfl dMo_work_335 ?_
        refine lv_if_ne (tgt := 348) hx hb dMo_work_338 (by decide) (fun c_130 => ?_) (fun c_130 => ?_)
        · exact absurd hE3 c_130
        · refine lv_aload_n hx hb dMo_work_341 rfl (lv_at hl 1 rfl) ?_
          refine va_get (D := (dC, dI)) (ci := 4) (v := .ref (ad 13)) (C := RMo) (T := TMo) (N := 29) hx hb hc inMo hown hK hP 0 rfl rfl 13 (by decide) (hc _ w574) (fun _ h9 => h9) rfl dMo_work_342 ?_
          refine lv_iload_n hx hb dMo_work_345 rfl (lv_at hl 2 rfl) ?_
          refine lv_iload_n hx hb dMo_work_346 rfl (lv_at hl 3 rfl) ?_
          refine va_iast hx hb hK hP hD hS 13 12 rfl rfl (vp_in_nI (by omega) (by decide)) dMo_work_347 (fun H locs hP hD hS => ?_)
          rw [nI_clamp (by omega)] at hP hD
          obtain ⟨S_132, eS_132⟩ : ∃ z9 : Ss, z9 = row S_130 21 (upd (S_130 21) j x) := ⟨_, rfl⟩
          have hP : va_P (dC, dI) vwCl (MW ad ca S_132 E) H := by rw [eS_132]; exact hP
          have hD : va_D A (MW ad ca S_132 E) := by rw [eS_132]; exact hD
          exact W.vret hx hb hr (fun t ht hW => ⟨⟨(S_132, E), rfl, (by (try dsimp only) <;> exact ⟨fun h => absurd h.1 (by rw [w_119]; decide), fun _ => ⟨(by subst S_132; subst S_130; have hC : S 20 j = cntB S j x := (by unfold cntB; rw [if_neg w_2, if_neg w_33, if_neg w_66]); have hO : (1 : Int32) = outB S j x := (by unfold outB; rw [if_neg w_2, if_neg w_33, if_neg w_66, if_pos w_119]; exact (b2_t ⟨c_120, c_125⟩).symm); exact bw_3 (fun h => n5 (Or.inr (Or.inr (Or.inr (Or.inl w_119)))) h.1) hC hO), rfl⟩⟩), by rw [ht]; exact hP, va_K.moved hW.alike hK, hD⟩, hS.F ht⟩) hS.2.2 dMo_work_348
  by_cases w_132 : S 14 j = 4
  · refine lv_tableIn (tgt := 282) hx hb dMo_work_13 (by rw [w_132]; decide) (by rw [w_132]; decide) (by rw [w_132]; rfl) (by decide) ?_
    refine lv_aload_n hx hb dMo_work_282 rfl (lv_at hl 1 rfl) ?_
    refine va_get (D := (dC, dI)) (ci := 4) (v := .ref (ad 11)) (C := RMo) (T := TMo) (N := 29) hx hb hc inMo hown hK hP 0 rfl rfl 11 (by decide) (hc _ w572) (fun _ h9 => h9) rfl dMo_work_283 ?_
    refine lv_iload_n hx hb dMo_work_286 rfl (lv_at hl 2 rfl) ?_
    refine lv_iload_n hx hb dMo_work_287 rfl (lv_at hl 3 rfl) ?_
    refine lv_if_ne (tgt := 305) hx hb dMo_work_288 (by decide) (fun c_133 => ?_) (fun c_133 => ?_)
    · refine lv_iconst (v := 0) hx hb dMo_work_305 (by decide +kernel) ?_
      refine va_iast hx hb hK hP hD hS 11 10 rfl rfl (vp_in_nI (by omega) (by decide)) dMo_work_306 (fun H locs hP hD hS => ?_)
      rw [nI_clamp (by omega)] at hP hD
      obtain ⟨S_135, eS_135⟩ : ∃ z9 : Ss, z9 = row S 19 (upd (S 19) j 0) := ⟨_, rfl⟩
      have hP : va_P (dC, dI) vwCl (MW ad ca S_135 E) H := by rw [eS_135]; exact hP
      have hD : va_D A (MW ad ca S_135 E) := by rw [eS_135]; exact hD
      refine lv_goto (tgt := 334) hx hb dMo_work_307 (by decide) ?_
      refine lv_aload_n hx hb dMo_work_334 rfl (lv_at hl 1 rfl) ?_
      refine va_get (D := (dC, dI)) (ci := 4) (v := .int (E 0 3)) (C := RMo) (T := TMo) (N := 29) hx hb hc inMo hown hK hP 0 rfl rfl 28 (by decide) (hc _ w589) (fun _ h9 => h9) rfl dMo_work_335 ?_
      refine lv_if_ne (tgt := 348) hx hb dMo_work_338 (by decide) (fun c_135 => ?_) (fun c_135 => ?_)
      · exact absurd hE3 c_135
      · refine lv_aload_n hx hb dMo_work_341 rfl (lv_at hl 1 rfl) ?_
        refine va_get (D := (dC, dI)) (ci := 4) (v := .ref (ad 13)) (C := RMo) (T := TMo) (N := 29) hx hb hc inMo hown hK hP 0 rfl rfl 13 (by decide) (hc _ w574) (fun _ h9 => h9) rfl dMo_work_342 ?_
        refine lv_iload_n hx hb dMo_work_345 rfl (lv_at hl 2 rfl) ?_
        refine lv_iload_n hx hb dMo_work_346 rfl (lv_at hl 3 rfl) ?_
        refine va_iast hx hb hK hP hD hS 13 12 rfl rfl (vp_in_nI (by omega) (by decide)) dMo_work_347 (fun H locs hP hD hS => ?_)
        rw [nI_clamp (by omega)] at hP hD
        obtain ⟨S_137, eS_137⟩ : ∃ z9 : Ss, z9 = row S_135 21 (upd (S_135 21) j x) := ⟨_, rfl⟩
        have hP : va_P (dC, dI) vwCl (MW ad ca S_137 E) H := by rw [eS_137]; exact hP
        have hD : va_D A (MW ad ca S_137 E) := by rw [eS_137]; exact hD
        exact W.vret hx hb hr (fun t ht hW => ⟨⟨(S_137, E), rfl, (by (try dsimp only) <;> exact ⟨fun h => absurd h.1 (by rw [w_132]; decide), fun _ => ⟨(by subst S_137; subst S_135; have hC : S 20 j = cntB S j x := (by unfold cntB; rw [if_neg w_2, if_neg w_33, if_neg w_66]); have hO : (0 : Int32) = outB S j x := (by unfold outB; rw [if_neg w_2, if_neg w_33, if_neg w_66, if_neg w_119, if_pos w_132]; exact (b2_f (fun h => c_133 h.1)).symm); exact bw_3 (fun h => n5 (Or.inr (Or.inr (Or.inr (Or.inr w_132)))) h.1) hC hO), rfl⟩⟩), by rw [ht]; exact hP, va_K.moved hW.alike hK, hD⟩, hS.F ht⟩) hS.2.2 dMo_work_348
    · refine lv_aload_n hx hb dMo_work_291 rfl (lv_at hl 1 rfl) ?_
      refine va_get (D := (dC, dI)) (ci := 4) (v := .ref (ad 13)) (C := RMo) (T := TMo) (N := 29) hx hb hc inMo hown hK hP 0 rfl rfl 13 (by decide) (hc _ w574) (fun _ h9 => h9) rfl dMo_work_292 ?_
      refine lv_iload_n hx hb dMo_work_295 rfl (lv_at hl 2 rfl) ?_
      refine va_iald hx hb hK hP 13 12 rfl rfl (vp_in_nI (by omega) (by decide)) dMo_work_296 ?_
      refine lv_topi (fun v_138 ev_138 => ?_)
      rw [nI_clamp (by omega)] at ev_138
      subst v_138
      refine lv_iconst (v := 1) hx hb dMo_work_297 (by decide +kernel) ?_
      refine lv_icmp_ne (tgt := 305) hx hb dMo_work_298 (by decide) (fun c_138 => ?_) (fun c_138 => ?_)
      · refine lv_iconst (v := 0) hx hb dMo_work_305 (by decide +kernel) ?_
        refine va_iast hx hb hK hP hD hS 11 10 rfl rfl (vp_in_nI (by omega) (by decide)) dMo_work_306 (fun H locs hP hD hS => ?_)
        rw [nI_clamp (by omega)] at hP hD
        obtain ⟨S_140, eS_140⟩ : ∃ z9 : Ss, z9 = row S 19 (upd (S 19) j 0) := ⟨_, rfl⟩
        have hP : va_P (dC, dI) vwCl (MW ad ca S_140 E) H := by rw [eS_140]; exact hP
        have hD : va_D A (MW ad ca S_140 E) := by rw [eS_140]; exact hD
        refine lv_goto (tgt := 334) hx hb dMo_work_307 (by decide) ?_
        refine lv_aload_n hx hb dMo_work_334 rfl (lv_at hl 1 rfl) ?_
        refine va_get (D := (dC, dI)) (ci := 4) (v := .int (E 0 3)) (C := RMo) (T := TMo) (N := 29) hx hb hc inMo hown hK hP 0 rfl rfl 28 (by decide) (hc _ w589) (fun _ h9 => h9) rfl dMo_work_335 ?_
        refine lv_if_ne (tgt := 348) hx hb dMo_work_338 (by decide) (fun c_140 => ?_) (fun c_140 => ?_)
        · exact absurd hE3 c_140
        · refine lv_aload_n hx hb dMo_work_341 rfl (lv_at hl 1 rfl) ?_
          refine va_get (D := (dC, dI)) (ci := 4) (v := .ref (ad 13)) (C := RMo) (T := TMo) (N := 29) hx hb hc inMo hown hK hP 0 rfl rfl 13 (by decide) (hc _ w574) (fun _ h9 => h9) rfl dMo_work_342 ?_
          refine lv_iload_n hx hb dMo_work_345 rfl (lv_at hl 2 rfl) ?_
          refine lv_iload_n hx hb dMo_work_346 rfl (lv_at hl 3 rfl) ?_
          refine va_iast hx hb hK hP hD hS 13 12 rfl rfl (vp_in_nI (by omega) (by decide)) dMo_work_347 (fun H locs hP hD hS => ?_)
          rw [nI_clamp (by omega)] at hP hD
          obtain ⟨S_142, eS_142⟩ : ∃ z9 : Ss, z9 = row S_140 21 (upd (S_140 21) j x) := ⟨_, rfl⟩
          have hP : va_P (dC, dI) vwCl (MW ad ca S_142 E) H := by rw [eS_142]; exact hP
          have hD : va_D A (MW ad ca S_142 E) := by rw [eS_142]; exact hD
          exact W.vret hx hb hr (fun t ht hW => ⟨⟨(S_142, E), rfl, (by (try dsimp only) <;> exact ⟨fun h => absurd h.1 (by rw [w_132]; decide), fun _ => ⟨(by subst S_142; subst S_140; have hC : S 20 j = cntB S j x := (by unfold cntB; rw [if_neg w_2, if_neg w_33, if_neg w_66]); have hO : (0 : Int32) = outB S j x := (by unfold outB; rw [if_neg w_2, if_neg w_33, if_neg w_66, if_neg w_119, if_pos w_132]; exact (b2_f (fun h => c_138 h.2)).symm); exact bw_3 (fun h => n5 (Or.inr (Or.inr (Or.inr (Or.inr w_132)))) h.1) hC hO), rfl⟩⟩), by rw [ht]; exact hP, va_K.moved hW.alike hK, hD⟩, hS.F ht⟩) hS.2.2 dMo_work_348
      · refine lv_iconst (v := 1) hx hb dMo_work_301 (by decide +kernel) ?_
        refine lv_goto (tgt := 306) hx hb dMo_work_302 (by decide) ?_
        refine va_iast hx hb hK hP hD hS 11 10 rfl rfl (vp_in_nI (by omega) (by decide)) dMo_work_306 (fun H locs hP hD hS => ?_)
        rw [nI_clamp (by omega)] at hP hD
        obtain ⟨S_143, eS_143⟩ : ∃ z9 : Ss, z9 = row S 19 (upd (S 19) j 1) := ⟨_, rfl⟩
        have hP : va_P (dC, dI) vwCl (MW ad ca S_143 E) H := by rw [eS_143]; exact hP
        have hD : va_D A (MW ad ca S_143 E) := by rw [eS_143]; exact hD
        refine lv_goto (tgt := 334) hx hb dMo_work_307 (by decide) ?_
        refine lv_aload_n hx hb dMo_work_334 rfl (lv_at hl 1 rfl) ?_
        refine va_get (D := (dC, dI)) (ci := 4) (v := .int (E 0 3)) (C := RMo) (T := TMo) (N := 29) hx hb hc inMo hown hK hP 0 rfl rfl 28 (by decide) (hc _ w589) (fun _ h9 => h9) rfl dMo_work_335 ?_
        refine lv_if_ne (tgt := 348) hx hb dMo_work_338 (by decide) (fun c_143 => ?_) (fun c_143 => ?_)
        · exact absurd hE3 c_143
        · refine lv_aload_n hx hb dMo_work_341 rfl (lv_at hl 1 rfl) ?_
          refine va_get (D := (dC, dI)) (ci := 4) (v := .ref (ad 13)) (C := RMo) (T := TMo) (N := 29) hx hb hc inMo hown hK hP 0 rfl rfl 13 (by decide) (hc _ w574) (fun _ h9 => h9) rfl dMo_work_342 ?_
          refine lv_iload_n hx hb dMo_work_345 rfl (lv_at hl 2 rfl) ?_
          refine lv_iload_n hx hb dMo_work_346 rfl (lv_at hl 3 rfl) ?_
          refine va_iast hx hb hK hP hD hS 13 12 rfl rfl (vp_in_nI (by omega) (by decide)) dMo_work_347 (fun H locs hP hD hS => ?_)
          rw [nI_clamp (by omega)] at hP hD
          obtain ⟨S_145, eS_145⟩ : ∃ z9 : Ss, z9 = row S_143 21 (upd (S_143 21) j x) := ⟨_, rfl⟩
          have hP : va_P (dC, dI) vwCl (MW ad ca S_145 E) H := by rw [eS_145]; exact hP
          have hD : va_D A (MW ad ca S_145 E) := by rw [eS_145]; exact hD
          exact W.vret hx hb hr (fun t ht hW => ⟨⟨(S_145, E), rfl, (by (try dsimp only) <;> exact ⟨fun h => absurd h.1 (by rw [w_132]; decide), fun _ => ⟨(by subst S_145; subst S_143; have hC : S 20 j = cntB S j x := (by unfold cntB; rw [if_neg w_2, if_neg w_33, if_neg w_66]); have hO : (1 : Int32) = outB S j x := (by unfold outB; rw [if_neg w_2, if_neg w_33, if_neg w_66, if_neg w_119, if_pos w_132]; exact (b2_t ⟨c_133, c_138⟩).symm); exact bw_3 (fun h => n5 (Or.inr (Or.inr (Or.inr (Or.inr w_132)))) h.1) hC hO), rfl⟩⟩), by rw [ht]; exact hP, va_K.moved hW.alike hK, hD⟩, hS.F ht⟩) hS.2.2 dMo_work_348
  have iw_2 : (S 14 j : Int32).toInt ≠ 0 := fun z => w_2 (Int32.toInt_inj.mp (by rw [z]; rfl))
  have iw_33 : (S 14 j : Int32).toInt ≠ 1 := fun z => w_33 (Int32.toInt_inj.mp (by rw [z]; rfl))
  have iw_66 : (S 14 j : Int32).toInt ≠ 2 := fun z => w_66 (Int32.toInt_inj.mp (by rw [z]; rfl))
  have iw_119 : (S 14 j : Int32).toInt ≠ 3 := fun z => w_119 (Int32.toInt_inj.mp (by rw [z]; rfl))
  have iw_132 : (S 14 j : Int32).toInt ≠ 4 := fun z => w_132 (Int32.toInt_inj.mp (by rw [z]; rfl))
  refine lv_tableOut (tgt := 310) hx hb dMo_work_13 (by omega) (by decide) ?_
  refine lv_iload_n hx hb dMo_work_310 rfl (lv_at hl 3 rfl) ?_
  refine lv_iconst (v := 1) hx hb dMo_work_311 (by decide +kernel) ?_
  refine lv_icmp_ne (tgt := 320) hx hb dMo_work_312 (by decide) (fun c_145 => ?_) (fun c_145 => ?_)
  · refine lv_aload_n hx hb dMo_work_320 rfl (lv_at hl 1 rfl) ?_
    refine va_get (D := (dC, dI)) (ci := 4) (v := .int (E 0 3)) (C := RMo) (T := TMo) (N := 29) hx hb hc inMo hown hK hP 0 rfl rfl 28 (by decide) (hc _ w589) (fun _ h9 => h9) rfl dMo_work_321 ?_
    refine lv_if_ne (tgt := 334) hx hb dMo_work_324 (by decide) (fun c_146 => ?_) (fun c_146 => ?_)
    · exact absurd hE3 c_146
    · refine lv_aload_n hx hb dMo_work_327 rfl (lv_at hl 1 rfl) ?_
      refine va_get (D := (dC, dI)) (ci := 4) (v := .ref (ad 11)) (C := RMo) (T := TMo) (N := 29) hx hb hc inMo hown hK hP 0 rfl rfl 11 (by decide) (hc _ w572) (fun _ h9 => h9) rfl dMo_work_328 ?_
      refine lv_iload_n hx hb dMo_work_331 rfl (lv_at hl 2 rfl) ?_
      refine lv_iload_n hx hb dMo_work_332 rfl (lv_at hl 3 rfl) ?_
      refine va_iast hx hb hK hP hD hS 11 10 rfl rfl (vp_in_nI (by omega) (by decide)) dMo_work_333 (fun H locs hP hD hS => ?_)
      rw [nI_clamp (by omega)] at hP hD
      obtain ⟨S_148, eS_148⟩ : ∃ z9 : Ss, z9 = row S 19 (upd (S 19) j x) := ⟨_, rfl⟩
      have hP : va_P (dC, dI) vwCl (MW ad ca S_148 E) H := by rw [eS_148]; exact hP
      have hD : va_D A (MW ad ca S_148 E) := by rw [eS_148]; exact hD
      refine lv_aload_n hx hb dMo_work_334 rfl (lv_at hl 1 rfl) ?_
      refine va_get (D := (dC, dI)) (ci := 4) (v := .int (E 0 3)) (C := RMo) (T := TMo) (N := 29) hx hb hc inMo hown hK hP 0 rfl rfl 28 (by decide) (hc _ w589) (fun _ h9 => h9) rfl dMo_work_335 ?_
      refine lv_if_ne (tgt := 348) hx hb dMo_work_338 (by decide) (fun c_148 => ?_) (fun c_148 => ?_)
      · exact absurd hE3 c_148
      · refine lv_aload_n hx hb dMo_work_341 rfl (lv_at hl 1 rfl) ?_
        refine va_get (D := (dC, dI)) (ci := 4) (v := .ref (ad 13)) (C := RMo) (T := TMo) (N := 29) hx hb hc inMo hown hK hP 0 rfl rfl 13 (by decide) (hc _ w574) (fun _ h9 => h9) rfl dMo_work_342 ?_
        refine lv_iload_n hx hb dMo_work_345 rfl (lv_at hl 2 rfl) ?_
        refine lv_iload_n hx hb dMo_work_346 rfl (lv_at hl 3 rfl) ?_
        refine va_iast hx hb hK hP hD hS 13 12 rfl rfl (vp_in_nI (by omega) (by decide)) dMo_work_347 (fun H locs hP hD hS => ?_)
        rw [nI_clamp (by omega)] at hP hD
        obtain ⟨S_150, eS_150⟩ : ∃ z9 : Ss, z9 = row S_148 21 (upd (S_148 21) j x) := ⟨_, rfl⟩
        have hP : va_P (dC, dI) vwCl (MW ad ca S_150 E) H := by rw [eS_150]; exact hP
        have hD : va_D A (MW ad ca S_150 E) := by rw [eS_150]; exact hD
        exact W.vret hx hb hr (fun t ht hW => ⟨⟨(S_150, E), rfl, (by (try dsimp only) <;> exact ⟨fun h => absurd h.2.1 c_145, fun _ => ⟨(by subst S_150; subst S_148; have hC : S 20 j = cntB S j x := (by unfold cntB; rw [if_neg w_2, if_neg w_33, if_neg w_66]); have hO : x = outB S j x := (by unfold outB; rw [if_neg w_2, if_neg w_33, if_neg w_66, if_neg w_119, if_neg w_132]); exact bw_3 (fun h => c_145 h.2) hC hO), rfl⟩⟩), by rw [ht]; exact hP, va_K.moved hW.alike hK, hD⟩, hS.F ht⟩) hS.2.2 dMo_work_348
  · refine lv_aload_n hx hb dMo_work_315 rfl (lv_at hl 1 rfl) ?_
    refine lv_iload_n hx hb dMo_work_316 rfl (lv_at hl 2 rfl) ?_
    have hp8 := wi_cl (hp5 (kk5 hk7 w_2 w_33 w_66 w_119 w_132)).1 (n := 7) rfl (by decide)
    have hq8 := wi_cl (hp5 (kk5 hk7 w_2 w_33 w_66 w_119 w_132)).2 (n := 7) rfl (by decide)
    refine g_callv (va_runV (As := [.int (nI j)]) (rest := []) ⟨hx, hb, hml, hown, hc⟩ (cMo_calculate l dC dI ad ca s.heap.size S E j (S 16 j).toNatClampNeg (S 15 j).toNatClampNeg (by omega) (k567 hk7 (kk5 hk7 w_2 w_33 w_66 w_119 w_132)) (by omega) hp8.2 (by omega) hq8.2 (hr9 _ (by omega)) hf9 ho9) (cwV 1 hc (gV w744 w746 s17 w5 qMo_calculate) rfl rfl rfl (by decide +kernel) ⟨Nat.le_of_ble_eq_true rfl, Nat.le_of_ble_eq_true rfl⟩) ⟨gPre_blind, va_recv hK hP (ci := 4) (q0 := 0) rfl rfl, (gPre_in hP hK hD)⟩ rfl rfl hl.1 rfl (lv_room (Nat.le_of_ble_eq_true rfl)) dMo_work_317 ⟨Nat.zero_le _, Nat.zero_le _⟩) hD hS hA (fun u_151 H locs hu_151 hP hD hS => ?_)
    obtain ⟨S_151, E_151⟩ := u_151
    (try dsimp only at hu_151 hP hD)
    by_cases hz : S 14 j = 6 ∧ S 17 j = 0
    · obtain ⟨hz1, hz2⟩ := hu_151.1 hz
      subst S_151
      subst E_151
      refine lv_aload_n hx hb dMo_work_320 rfl (lv_at hl 1 rfl) ?_
      refine va_get (D := (dC, dI)) (ci := 4) (v := .int ((row E 0 (upd (E 0) 3 3)) 0 3)) (C := RMo) (T := TMo) (N := 29) hx hb hc inMo hown hK hP 0 rfl rfl 28 (by decide) (hc _ w589) (fun _ h9 => h9) rfl dMo_work_321 ?_
      refine lv_if_ne (tgt := 334) hx hb dMo_work_324 (by decide) (fun c_151 => ?_) (fun c_151 => ?_)
      · refine lv_aload_n hx hb dMo_work_334 rfl (lv_at hl 1 rfl) ?_
        refine va_get (D := (dC, dI)) (ci := 4) (v := .int ((row E 0 (upd (E 0) 3 3)) 0 3)) (C := RMo) (T := TMo) (N := 29) hx hb hc inMo hown hK hP 0 rfl rfl 28 (by decide) (hc _ w589) (fun _ h9 => h9) rfl dMo_work_335 ?_
        refine lv_if_ne (tgt := 348) hx hb dMo_work_338 (by decide) (fun c_152 => ?_) (fun c_152 => ?_)
        · exact W.vret hx hb hr (fun t ht hW => ⟨⟨(S, (row E 0 (upd (E 0) 3 3))), rfl, (by (try dsimp only) <;> exact ⟨fun _ => ⟨rfl, rfl⟩, fun h => absurd ⟨hz.1, c_145, hz.2⟩ h⟩), by rw [ht]; exact hP, va_K.moved hW.alike hK, hD⟩, hS.F ht⟩) hS.2.2 dMo_work_348
        · exact absurd (show (3 : Int32) = 0 from c_152) (by decide)
      · exact absurd (show (3 : Int32) = 0 from c_151) (by decide)
    · obtain ⟨hz1, hz2⟩ := hu_151.2 hz
      subst S_151
      subst E_151
      refine lv_aload_n hx hb dMo_work_320 rfl (lv_at hl 1 rfl) ?_
      refine va_get (D := (dC, dI)) (ci := 4) (v := .int (E 0 3)) (C := RMo) (T := TMo) (N := 29) hx hb hc inMo hown hK hP 0 rfl rfl 28 (by decide) (hc _ w589) (fun _ h9 => h9) rfl dMo_work_321 ?_
      refine lv_if_ne (tgt := 334) hx hb dMo_work_324 (by decide) (fun c_153 => ?_) (fun c_153 => ?_)
      · exact absurd hE3 c_153
      · refine lv_aload_n hx hb dMo_work_327 rfl (lv_at hl 1 rfl) ?_
        refine va_get (D := (dC, dI)) (ci := 4) (v := .ref (ad 11)) (C := RMo) (T := TMo) (N := 29) hx hb hc inMo hown hK hP 0 rfl rfl 11 (by decide) (hc _ w572) (fun _ h9 => h9) rfl dMo_work_328 ?_
        refine lv_iload_n hx hb dMo_work_331 rfl (lv_at hl 2 rfl) ?_
        refine lv_iload_n hx hb dMo_work_332 rfl (lv_at hl 3 rfl) ?_
        refine va_iast hx hb hK hP hD hS 11 10 rfl rfl (vp_in_nI (by omega) (by decide)) dMo_work_333 (fun H locs hP hD hS => ?_)
        rw [nI_clamp (by omega)] at hP hD
        obtain ⟨S_155, eS_155⟩ : ∃ z9 : Ss, z9 = row (clW S j (S 16 j).toNatClampNeg (S 15 j).toNatClampNeg) 19 (upd ((clW S j (S 16 j).toNatClampNeg (S 15 j).toNatClampNeg) 19) j x) := ⟨_, rfl⟩
        have hP : va_P (dC, dI) vwCl (MW ad ca S_155 E) H := by rw [eS_155]; exact hP
        have hD : va_D A (MW ad ca S_155 E) := by rw [eS_155]; exact hD
        refine lv_aload_n hx hb dMo_work_334 rfl (lv_at hl 1 rfl) ?_
        refine va_get (D := (dC, dI)) (ci := 4) (v := .int (E 0 3)) (C := RMo) (T := TMo) (N := 29) hx hb hc inMo hown hK hP 0 rfl rfl 28 (by decide) (hc _ w589) (fun _ h9 => h9) rfl dMo_work_335 ?_
        refine lv_if_ne (tgt := 348) hx hb dMo_work_338 (by decide) (fun c_155 => ?_) (fun c_155 => ?_)
        · exact absurd hE3 c_155
        · refine lv_aload_n hx hb dMo_work_341 rfl (lv_at hl 1 rfl) ?_
          refine va_get (D := (dC, dI)) (ci := 4) (v := .ref (ad 13)) (C := RMo) (T := TMo) (N := 29) hx hb hc inMo hown hK hP 0 rfl rfl 13 (by decide) (hc _ w574) (fun _ h9 => h9) rfl dMo_work_342 ?_
          refine lv_iload_n hx hb dMo_work_345 rfl (lv_at hl 2 rfl) ?_
          refine lv_iload_n hx hb dMo_work_346 rfl (lv_at hl 3 rfl) ?_
          refine va_iast hx hb hK hP hD hS 13 12 rfl rfl (vp_in_nI (by omega) (by decide)) dMo_work_347 (fun H locs hP hD hS => ?_)
          rw [nI_clamp (by omega)] at hP hD
          obtain ⟨S_157, eS_157⟩ : ∃ z9 : Ss, z9 = row S_155 21 (upd (S_155 21) j x) := ⟨_, rfl⟩
          have hP : va_P (dC, dI) vwCl (MW ad ca S_157 E) H := by rw [eS_157]; exact hP
          have hD : va_D A (MW ad ca S_157 E) := by rw [eS_157]; exact hD
          exact W.vret hx hb hr (fun t ht hW => ⟨⟨(S_157, E), rfl, (by (try dsimp only) <;> exact ⟨fun h => absurd ⟨h.1, h.2.2⟩ hz, fun _ => ⟨(by subst S_157; subst S_155; have hC : S 20 j = cntB S j x := (by unfold cntB; rw [if_neg w_2, if_neg w_33, if_neg w_66]); have hO : x = outB S j x := (by unfold outB; rw [if_neg w_2, if_neg w_33, if_neg w_66, if_neg w_119, if_neg w_132]); exact bw_5 ⟨(kk5 hk7 w_2 w_33 w_66 w_119 w_132), c_145⟩ hq8.2 (by omega) rfl hC hO), rfl⟩⟩), by rw [ht]; exact hP, va_K.moved hW.alike hK, hD⟩, hS.F ht⟩) hS.2.2 dMo_work_348

set_option maxHeartbeats 4000000 in
set_option maxRecDepth 100000 in
theorem cMo_push (l : Launch) (dC : Nat → ClassId) (dI : Nat → Nat → Nat) (ad : Nat → Nat) (ca : Nat → ClassId) (sz : Nat) (S E : Ss) (x : Int32) (t : Nat) (ht4 : t ≤ 3) (et : E 0 1 = nI t) : Met l yMo_push (kMo_push :: CW) ({ frames := 0, cells := 0, slots := 0, locals := 0 }) (va_Pc [.ref (ad 0), .int x] (gPre (dC, dI) (mT ca) (MW ad ca S E) sz)) (va_Qv (fun (u : Ss × Ss) => u.1 = S ∧ u.2 = row (row E 1 (upd (E 1) t x)) 0 (upd (E 0) 1 (nI (t + 1)))) (fun u => gAt (dC, dI) (mT ca) (va_A (MW ad ca S E) sz) (MW ad ca u.1 u.2)) (va_A (MW ad ca S E) sz)) 0 0 (va_A (MW ad ca S E) sz) := by
  refine Met.ofW (cc := bMo_push) (maxL := 2) (ret := none) (by decide +kernel) rfl ?_
  intro p e s m args below meth c s₁ B hml hv
  obtain ⟨rfl, hsz, hP, hK, hD0⟩ := hv
  have hx := B.exec
  have hb := B.bytes
  have hr := B.returns
  have hts := atoms_spec (ws := kMo_push :: CW) B.pre
  have hc : ∀ w ∈ CW, w.before _ s = true := fun w h => hts w (List.mem_cons_of_mem _ h)
  have hown : s.vm.findClass RMo = some m.cls := findClass_of_methodNamed B.named
  have hlocks := B.notSynchronized
  subst hsz
  have hD := hD0.self (sz := s.heap.size)
  generalize hAe : va_A (MW ad ca S E) s.heap.size = A at hD ⊢
  have hA : ∀ q : Nat, s.heap.size ≤ q → A q := fun q h => by rw [← hAe]; exact Or.inr h
  have hS : va_S A s.heap s.heap [] := va_S.rf
  have hl := lv_entry ([.ref (ad 0), .int x]) (n := 2) (Nat.le_of_ble_eq_true rfl)
  rw [lg_entry_eq]
  generalize (lg_sl ([.ref (ad 0), .int x]) ++ List.replicate (2 - (lg_sl ([.ref (ad 0), .int x])).length) Slot.unset).toArray = ls at hl ⊢
  have hl : lv_has ls 2 [(0, .ref (ad 0)), (1, .int x)] := hl
  refine lv_aload_n hx hb dMo_push_0 rfl (lv_at hl 0 rfl) ?_
  refine va_get (D := (dC, dI)) (ci := 4) (v := .ref (ad 21)) (C := RMo) (T := TMo) (N := 29) hx hb hc inMo hown hK hP 0 rfl rfl 22 (by decide) (hc _ w583) (fun _ h9 => h9) rfl dMo_push_1 ?_
  refine lv_aload_n hx hb dMo_push_4 rfl (lv_at hl 0 rfl) ?_
  refine va_get (D := (dC, dI)) (ci := 4) (v := .int (E 0 1)) (C := RMo) (T := TMo) (N := 29) hx hb hc inMo hown hK hP 0 rfl rfl 23 (by decide) (hc _ w584) (fun _ h9 => h9) rfl dMo_push_5 ?_
  refine W.eq (g2 := F0 m 8 ls [.int (nI t), .ref (ad 21)]) (by rw [et]) ?_
  refine lv_iload_n hx hb dMo_push_8 rfl (lv_at hl 1 rfl) ?_
  refine va_iast hx hb hK hP hD hS 21 20 rfl rfl (vp_in_nI (by omega) (by decide)) dMo_push_9 (fun H locs hP hD hS => ?_)
  rw [nI_clamp (by omega)] at hP hD
  obtain ⟨E_1, eE_1⟩ : ∃ z9 : Ss, z9 = row E 1 (upd (E 1) t x) := ⟨_, rfl⟩
  have hP : va_P (dC, dI) vwCl (MW ad ca S E_1) H := by rw [eE_1]; exact hP
  have hD : va_D A (MW ad ca S E_1) := by rw [eE_1]; exact hD
  refine lv_aload_n hx hb dMo_push_10 rfl (lv_at hl 0 rfl) ?_
  refine lv_dup hx hb dMo_push_11 rfl ?_
  refine va_get (D := (dC, dI)) (ci := 4) (v := .int (E_1 0 1)) (C := RMo) (T := TMo) (N := 29) hx hb hc inMo hown hK hP 0 rfl rfl 23 (by decide) (hc _ w584) (fun _ h9 => h9) rfl dMo_push_12 ?_
  refine lv_iconst (v := 1) hx hb dMo_push_15 (by decide +kernel) ?_
  refine lv_iadd hx hb dMo_push_16 ?_
  refine va_put (D := (dC, dI)) (ci := 4) (v := .int ((E_1 0 1) + 1)) (ty := .int) (C := RMo) (T := TMo) (N := 29) hx hb hc inMo tyMo tyMo_ok nmMo hown hK hP hD hS 0 rfl rfl 23 (by decide) (hc _ w584) (fun _ h9 => h9) rfl (by decide +kernel) rfl rfl (Nat.le_of_ble_eq_true rfl) dMo_push_17 (fun H locs hP hD hS => ?_)
  obtain ⟨E_2, eE_2⟩ : ∃ z9 : Ss, z9 = row E_1 0 (upd (E_1 0) 1 ((E_1 0 1) + 1)) := ⟨_, rfl⟩
  have hP : va_P (dC, dI) vwCl (MW ad ca S E_2) H := by rw [eE_2]; exact hP
  have hD : va_D A (MW ad ca S E_2) := by rw [eE_2]; exact hD
  exact W.vret hx hb hr (fun t ht hW => ⟨⟨(S, E_2), rfl, (by (try dsimp only) <;> exact ⟨rfl, by subst E_2; subst E_1; rw [← nI_1, ← et]; rfl⟩), by rw [ht]; exact hP, va_K.moved hW.alike hK, hD⟩, hS.F ht⟩) hS.2.2 dMo_push_20
