set_option maxHeartbeats 4000000 in
set_option maxRecDepth 100000 in
theorem cMo_tune (l : Launch) (dC : Nat → ClassId) (dI : Nat → Nat → Nat) (ad : Nat → Nat) (ca : Nat → ClassId) (sz : Nat) (S E : Ss) (a f b : Int32) (m0 : Nat) (hm : m0 ≤ 10) (em : S 0 0 = nI m0) : Met l yMo_tune (kMo_tune :: CW) ({ frames := 1, cells := 0, slots := 0, locals := 23 }) (va_Pc [.ref (ad 0), .int a, .double (eD f), .double (eD b)] (gPre (dC, dI) (mT ca) (MW ad ca S E) sz)) (va_Qd (fun (r : UInt64) (u : Ss × Ss) => (oTune S a f b).1 = u.2 0 0 ∧ ((oTune S a f b).1 = 0 → r = (oTune S a f b).2.1) ∧ u.1 = (oTune S a f b).2.2) (fun u => gAt (dC, dI) (mT ca) (va_A (MW ad ca S E) sz) (MW ad ca u.1 u.2)) (va_A (MW ad ca S E) sz)) 0 0 (va_A (MW ad ca S E) sz) := by
  refine Met.ofW (cc := bMo_tune) (maxL := 8) (ret := (some .double)) (by decide +kernel) rfl ?_
  intro p e s m args below meth c s₁ B hml hv
  obtain ⟨rfl, hsz, hP, hK, hD0⟩ := hv
  have hx := B.exec
  have hb := B.bytes
  have hr := B.returns
  have hts := atoms_spec (ws := kMo_tune :: CW) B.pre
  have hc : ∀ w ∈ CW, w.before _ s = true := fun w h => hts w (List.mem_cons_of_mem _ h)
  have hown : s.vm.findClass RMo = some m.cls := findClass_of_methodNamed B.named
  have hlocks := B.notSynchronized
  subst hsz
  have hD := hD0.self (sz := s.heap.size)
  generalize hAe : va_A (MW ad ca S E) s.heap.size = A at hD ⊢
  have hA : ∀ q : Nat, s.heap.size ≤ q → A q := fun q h => by rw [← hAe]; exact Or.inr h
  have hS : va_S A s.heap s.heap [] := va_S.rf
  have hl := lv_entry ([.ref (ad 0), .int a, .double (eD f), .double (eD b)]) (n := 8) (Nat.le_of_ble_eq_true rfl)
  rw [lg_entry_eq]
  generalize (lg_sl ([.ref (ad 0), .int a, .double (eD f), .double (eD b)]) ++ List.replicate (8 - (lg_sl ([.ref (ad 0), .int a, .double (eD f), .double (eD b)])).length) Slot.unset).toArray = ls at hl ⊢
  have hl : lv_has ls 8 [(0, .ref (ad 0)), (1, .int a), (2, .double (eD f)), (4, .double (eD b))] := hl
  refine lv_aload_n hx hb dMo_tune_0 rfl (lv_at hl 0 rfl) ?_
  refine lv_iconst (v := 0) hx hb dMo_tune_1 (by decide +kernel) ?_
  refine va_put (D := (dC, dI)) (ci := 4) (v := .int 0) (ty := .int) (C := RMo) (T := TMo) (N := 29) hx hb hc inMo tyMo tyMo_ok nmMo hown hK hP hD hS 0 rfl rfl 0 (by decide) (hc _ w561) (fun _ h9 => h9) rfl (by decide +kernel) rfl rfl (Nat.le_of_ble_eq_true rfl) dMo_tune_2 (fun H locs hP hD hS => ?_)
  obtain ⟨E_1, eE_1⟩ : ∃ z9 : Ss, z9 = row E 0 (upd (E 0) 0 0) := ⟨_, rfl⟩
  have hP : va_P (dC, dI) vwCl (MW ad ca S E_1) H := by rw [eE_1]; exact hP
  have hD : va_D A (MW ad ca S E_1) := by rw [eE_1]; exact hD
  refine lv_iload_n hx hb dMo_tune_5 rfl (lv_at hl 1 rfl) ?_
  refine lv_iconst (v := 0) hx hb dMo_tune_6 (by decide +kernel) ?_
  refine lv_aload_n hx hb dMo_tune_7 rfl (lv_at hl 0 rfl) ?_
  refine va_get (D := (dC, dI)) (ci := 4) (v := .int (S 0 0)) (C := RMo) (T := TMo) (N := 29) hx hb hc inMo hown hK hP 0 rfl rfl 14 (by decide) (hc _ w575) (fun _ h9 => h9) rfl dMo_tune_8 ?_
  refine lv_iconst (v := 1) hx hb dMo_tune_11 (by decide +kernel) ?_
  refine lv_isub hx hb dMo_tune_12 ?_
  refine vp_callSi (va_Run.run (va_runS (As := [.int a, .int 0, .int ((S 0 0) - 1)]) (rest := []) ⟨hx, hb, hml, hown, hc⟩ (cMo_in l a 0 ((S 0 0) - 1)) (va_cwS 3 hc (g_S w658 w659 w5 qMo_in) rfl rfl rfl (by decide +kernel) ⟨Nat.le_of_ble_eq_true rfl, Nat.le_of_ble_eq_true rfl⟩) ⟨tPre_blind, tPre_in⟩ rfl rfl hl.1 rfl (lv_room (Nat.le_of_ble_eq_true rfl)) dMo_tune_13 ⟨Nat.zero_le _, Nat.zero_le _⟩)) (fun r_2 hr_2 => ?_)
  refine lv_if_ne (tgt := 26) hx hb dMo_tune_16 (by decide) (fun c_2 => ?_) (fun c_2 => ?_)
  · obtain ⟨j, hj, ej⟩ := wi_made hm (by rw [← em]; exact br_n hr_2 c_2)
    subst ej
    refine lv_aload_n hx hb dMo_tune_26 rfl (lv_at hl 0 rfl) ?_
    refine va_get (D := (dC, dI)) (ci := 4) (v := .ref (ad 6)) (C := RMo) (T := TMo) (N := 29) hx hb hc inMo hown hK hP 0 rfl rfl 6 (by decide) (hc _ w567) (fun _ h9 => h9) rfl dMo_tune_27 ?_
    refine lv_iload_n hx hb dMo_tune_30 rfl (lv_at hl 1 rfl) ?_
    refine va_iald hx hb hK hP 6 5 rfl rfl (vp_in_nI (by omega) (by decide)) dMo_tune_31 ?_
    refine lv_topi (fun v_4 ev_4 => ?_)
    rw [nI_clamp (by omega)] at ev_4
    subst v_4
    refine lv_iconst (v := 5) hx hb dMo_tune_32 (by decide +kernel) ?_
    refine lv_icmp_ge (tgt := 43) hx hb dMo_tune_33 (by decide) (fun c_4 => ?_) (fun c_4 => ?_)
    · refine lv_dload_n hx hb dMo_tune_43 rfl (lv_at hl 2 rfl) ?_
      refine vp_callSi (va_Run.run (va_runS (As := [.double (eD f)]) (rest := []) ⟨hx, hb, hml, hown, hc⟩ (cMo_number l f) (va_cwS 1 hc (g_S w669 w670 w5 qMo_number) rfl rfl rfl (by decide +kernel) ⟨Nat.le_of_ble_eq_true rfl, Nat.le_of_ble_eq_true rfl⟩) ⟨tPre_blind, tPre_in⟩ rfl rfl hl.1 rfl (lv_room (Nat.le_of_ble_eq_true rfl)) dMo_tune_44 ⟨Nat.zero_le _, Nat.zero_le _⟩)) (fun r_6 hr_6 => ?_)
      refine lv_if_eq (tgt := 91) hx hb dMo_tune_47 (by decide) (fun c_6 => ?_) (fun c_6 => ?_)
      · refine lv_aload_n hx hb dMo_tune_91 rfl (lv_at hl 0 rfl) ?_
        refine lv_iconst (v := 3) hx hb dMo_tune_92 (by decide +kernel) ?_
        refine g_calli (va_runV (As := [.int 3]) (rest := []) ⟨hx, hb, hml, hown, hc⟩ (cMo_raise l dC dI ad ca H.size S E_1 3) (cwV 1 hc (gV w661 w663 s9 w5 qMo_raise) rfl rfl rfl (by decide +kernel) ⟨Nat.le_of_ble_eq_true rfl, Nat.le_of_ble_eq_true rfl⟩) ⟨gPre_blind, va_recv hK hP (ci := 4) (q0 := 0) rfl rfl, (gPre_in hP hK hD)⟩ rfl rfl hl.1 rfl (lv_room (Nat.le_of_ble_eq_true rfl)) dMo_tune_93 ⟨Nat.zero_le _, Nat.zero_le _⟩) hD hS hA (fun r_9 u_8 H locs hu_8 hP hD hS => ?_)
        obtain ⟨S_8, E_8⟩ := u_8
        (try dsimp only at hu_8 hP hD)
        obtain ⟨hr9, hS9, hE9⟩ := hu_8
        subst S_8
        refine lv_i2d hx hb dMo_tune_96 ?_
        exact W.dret (v := (FP.i2d r_9)) hx hb hr (fun t ht hW => ⟨⟨_, (S, E_8), rfl, (by (try dsimp only) <;> exact (by have hO : oTune S (nI j) f b = (3, 0, S) := (by unfold oTune; rw [if_neg (fun h => h (br_n hr_2 c_2)), nI_clamp (by omega), if_neg (Int32.not_lt.mpr c_4), if_pos (Or.inl (fun h => br_0 hr_6 c_6 h.1))]); rw [hO]; exact ⟨by rw [hE9]; rfl, fun h => absurd (show (3 : Int32) = 0 from h) (by decide), rfl⟩)), by rw [ht]; exact hP, va_K.moved hW.alike hK, hD⟩, hS.F ht⟩) hS.2.2 dMo_tune_97
      · refine lv_dload hx hb dMo_tune_50 (lv_at hl 3 rfl) ?_
        refine vp_callSi (va_Run.run (va_runS (As := [.double (eD b)]) (rest := []) ⟨hx, hb, hml, hown, hc⟩ (cMo_number l b) (va_cwS 1 hc (g_S w669 w670 w5 qMo_number) rfl rfl rfl (by decide +kernel) ⟨Nat.le_of_ble_eq_true rfl, Nat.le_of_ble_eq_true rfl⟩) ⟨tPre_blind, tPre_in⟩ rfl rfl hl.1 rfl (lv_room (Nat.le_of_ble_eq_true rfl)) dMo_tune_52 ⟨Nat.zero_le _, Nat.zero_le _⟩)) (fun r_10 hr_10 => ?_)
        refine lv_if_eq (tgt := 91) hx hb dMo_tune_55 (by decide) (fun c_10 => ?_) (fun c_10 => ?_)
        · refine lv_aload_n hx hb dMo_tune_91 rfl (lv_at hl 0 rfl) ?_
          refine lv_iconst (v := 3) hx hb dMo_tune_92 (by decide +kernel) ?_
          refine g_calli (va_runV (As := [.int 3]) (rest := []) ⟨hx, hb, hml, hown, hc⟩ (cMo_raise l dC dI ad ca H.size S E_1 3) (cwV 1 hc (gV w661 w663 s9 w5 qMo_raise) rfl rfl rfl (by decide +kernel) ⟨Nat.le_of_ble_eq_true rfl, Nat.le_of_ble_eq_true rfl⟩) ⟨gPre_blind, va_recv hK hP (ci := 4) (q0 := 0) rfl rfl, (gPre_in hP hK hD)⟩ rfl rfl hl.1 rfl (lv_room (Nat.le_of_ble_eq_true rfl)) dMo_tune_93 ⟨Nat.zero_le _, Nat.zero_le _⟩) hD hS hA (fun r_13 u_12 H locs hu_12 hP hD hS => ?_)
          obtain ⟨S_12, E_12⟩ := u_12
          (try dsimp only at hu_12 hP hD)
          obtain ⟨hr9, hS9, hE9⟩ := hu_12
          subst S_12
          refine lv_i2d hx hb dMo_tune_96 ?_
          exact W.dret (v := (FP.i2d r_13)) hx hb hr (fun t ht hW => ⟨⟨_, (S, E_12), rfl, (by (try dsimp only) <;> exact (by have hO : oTune S (nI j) f b = (3, 0, S) := (by unfold oTune; rw [if_neg (fun h => h (br_n hr_2 c_2)), nI_clamp (by omega), if_neg (Int32.not_lt.mpr c_4), if_pos (Or.inl (fun h => br_0 hr_10 c_10 h.2))]); rw [hO]; exact ⟨by rw [hE9]; rfl, fun h => absurd (show (3 : Int32) = 0 from h) (by decide), rfl⟩)), by rw [ht]; exact hP, va_K.moved hW.alike hK, hD⟩, hS.F ht⟩) hS.2.2 dMo_tune_97
        · refine lv_dload_n hx hb dMo_tune_58 rfl (lv_at hl 2 rfl) ?_
          refine vp_callSi (va_Run.run (va_runS (As := [.double (eD f)]) (rest := []) ⟨hx, hb, hml, hown, hc⟩ (cMo_whole l f) (va_cwS 1 hc (g_S w674 w675 w5 qMo_whole) rfl rfl rfl (by decide +kernel) ⟨Nat.le_of_ble_eq_true rfl, Nat.le_of_ble_eq_true rfl⟩) ⟨tPre_blind, tPre_in⟩ rfl rfl hl.1 rfl (lv_room (Nat.le_of_ble_eq_true rfl)) dMo_tune_59 ⟨Nat.zero_le _, Nat.zero_le _⟩)) (fun r_14 hr_14 => ?_)
          refine lv_if_eq (tgt := 91) hx hb dMo_tune_62 (by decide) (fun c_14 => ?_) (fun c_14 => ?_)
          · exact absurd (by rw [hr_14] at c_14; exact c_14) (by decide : ¬ (1 : Int32) = 0)
          · refine lv_dload hx hb dMo_tune_65 (lv_at hl 3 rfl) ?_
            refine vp_callSi (va_Run.run (va_runS (As := [.double (eD b)]) (rest := []) ⟨hx, hb, hml, hown, hc⟩ (cMo_whole l b) (va_cwS 1 hc (g_S w674 w675 w5 qMo_whole) rfl rfl rfl (by decide +kernel) ⟨Nat.le_of_ble_eq_true rfl, Nat.le_of_ble_eq_true rfl⟩) ⟨tPre_blind, tPre_in⟩ rfl rfl hl.1 rfl (lv_room (Nat.le_of_ble_eq_true rfl)) dMo_tune_67 ⟨Nat.zero_le _, Nat.zero_le _⟩)) (fun r_16 hr_16 => ?_)
            refine lv_if_eq (tgt := 91) hx hb dMo_tune_70 (by decide) (fun c_16 => ?_) (fun c_16 => ?_)
            · exact absurd (by rw [hr_16] at c_16; exact c_16) (by decide : ¬ (1 : Int32) = 0)
            · refine lv_aload_n hx hb dMo_tune_73 rfl (lv_at hl 0 rfl) ?_
              refine va_get (D := (dC, dI)) (ci := 4) (v := .ref (ad 6)) (C := RMo) (T := TMo) (N := 29) hx hb hc inMo hown hK hP 0 rfl rfl 6 (by decide) (hc _ w567) (fun _ h9 => h9) rfl dMo_tune_74 ?_
              refine lv_iload_n hx hb dMo_tune_77 rfl (lv_at hl 1 rfl) ?_
              refine va_iald hx hb hK hP 6 5 rfl rfl (vp_in_nI (by omega) (by decide)) dMo_tune_78 ?_
              refine lv_topi (fun v_18 ev_18 => ?_)
              rw [nI_clamp (by omega)] at ev_18
              subst v_18
              refine lv_bipush (v := 7) hx hb dMo_tune_79 (by decide +kernel) ?_
              refine lv_icmp_ne (tgt := 98) hx hb dMo_tune_81 (by decide) (fun c_18 => ?_) (fun c_18 => ?_)
              · refine lv_aload_n hx hb dMo_tune_98 rfl (lv_at hl 0 rfl) ?_
                refine va_get (D := (dC, dI)) (ci := 4) (v := .ref (ad 9)) (C := RMo) (T := TMo) (N := 29) hx hb hc inMo hown hK hP 0 rfl rfl 9 (by decide) (hc _ w570) (fun _ h9 => h9) rfl dMo_tune_99 ?_
                refine lv_iload_n hx hb dMo_tune_102 rfl (lv_at hl 1 rfl) ?_
                refine va_lald hx hb hK hP 9 8 rfl rfl (vp_in_nI (by omega) (by decide)) dMo_tune_103 ?_
                refine lv_topl (fun v_20 ev_20 => ?_)
                rw [nI_clamp (by omega)] at ev_20
                have ev_20 : v_20 = (S 17 j).toInt64 := ev_20
                subst v_20
                refine lv_lstore (lv' := [(6, .long ((S 17 j).toInt64)), (0, .ref (ad 0)), (1, .int (nI j)), (2, .double (eD f)), (4, .double (eD b))]) hx hb dMo_tune_104 hl (by decide) rfl (fun ls hl => ?_)
                refine lv_aload_n hx hb dMo_tune_106 rfl (lv_at hl 1 rfl) ?_
                refine va_get (D := (dC, dI)) (ci := 4) (v := .ref (ad 9)) (C := RMo) (T := TMo) (N := 29) hx hb hc inMo hown hK hP 0 rfl rfl 9 (by decide) (hc _ w570) (fun _ h9 => h9) rfl dMo_tune_107 ?_
                refine lv_iload_n hx hb dMo_tune_110 rfl (lv_at hl 2 rfl) ?_
                refine lv_dload_n hx hb dMo_tune_111 rfl (lv_at hl 3 rfl) ?_
                refine vp_callSl (va_Run.run (va_runS (As := [.double (eD f)]) (rest := [.int (nI j), .ref (ad 9)]) ⟨hx, hb, hml, hown, hc⟩ (cMo_eighths l f) (va_cwS 1 hc (g_S w678 w679 w5 qMo_eighths) rfl rfl rfl (by decide +kernel) ⟨Nat.le_of_ble_eq_true rfl, Nat.le_of_ble_eq_true rfl⟩) ⟨tPre_blind, tPre_in⟩ rfl rfl hl.1 rfl (lv_room (Nat.le_of_ble_eq_true rfl)) dMo_tune_112 ⟨Nat.zero_le _, Nat.zero_le _⟩)) (fun r_21 hr_21 => ?_)
                subst r_21
                refine va_last hx hb hK hP hD hS 9 8 rfl rfl (vp_in_nI (by omega) (by decide)) dMo_tune_115 (fun H locs hP hD hS => ?_)
                rw [nI_clamp (by omega)] at hP hD
                rw [updL_i] at hP hD
                obtain ⟨S_22, eS_22⟩ : ∃ z9 : Ss, z9 = row S 17 (upd (S 17) j f) := ⟨_, rfl⟩
                have hP : va_P (dC, dI) vwCl (MW ad ca S_22 E_1) H := by rw [eS_22]; exact hP
                have hD : va_D A (MW ad ca S_22 E_1) := by rw [eS_22]; exact hD
                refine lv_aload_n hx hb dMo_tune_116 rfl (lv_at hl 1 rfl) ?_
                refine va_get (D := (dC, dI)) (ci := 4) (v := .ref (ad 10)) (C := RMo) (T := TMo) (N := 29) hx hb hc inMo hown hK hP 0 rfl rfl 10 (by decide) (hc _ w571) (fun _ h9 => h9) rfl dMo_tune_117 ?_
                refine lv_iload_n hx hb dMo_tune_120 rfl (lv_at hl 2 rfl) ?_
                refine lv_dload hx hb dMo_tune_121 (lv_at hl 4 rfl) ?_
                refine vp_callSl (va_Run.run (va_runS (As := [.double (eD b)]) (rest := [.int (nI j), .ref (ad 10)]) ⟨hx, hb, hml, hown, hc⟩ (cMo_eighths l b) (va_cwS 1 hc (g_S w678 w679 w5 qMo_eighths) rfl rfl rfl (by decide +kernel) ⟨Nat.le_of_ble_eq_true rfl, Nat.le_of_ble_eq_true rfl⟩) ⟨tPre_blind, tPre_in⟩ rfl rfl hl.1 rfl (lv_room (Nat.le_of_ble_eq_true rfl)) dMo_tune_123 ⟨Nat.zero_le _, Nat.zero_le _⟩)) (fun r_23 hr_23 => ?_)
                subst r_23
                refine va_last hx hb hK hP hD hS 10 9 rfl rfl (vp_in_nI (by omega) (by decide)) dMo_tune_126 (fun H locs hP hD hS => ?_)
                rw [nI_clamp (by omega)] at hP hD
                rw [updL_i] at hP hD
                obtain ⟨S_24, eS_24⟩ : ∃ z9 : Ss, z9 = row S_22 18 (upd (S_22 18) j b) := ⟨_, rfl⟩
                have hP : va_P (dC, dI) vwCl (MW ad ca S_24 E_1) H := by rw [eS_24]; exact hP
                have hD : va_D A (MW ad ca S_24 E_1) := by rw [eS_24]; exact hD
                refine lv_lload hx hb dMo_tune_127 (lv_at hl 0 rfl) ?_
                refine lv_l2d hx hb dMo_tune_129 ?_
                refine lv_topd (fun v_25 ev_25 => ?_)
                rw [e8_l2d] at ev_25
                subst v_25
                refine lv_ldc2d (v := 4593671619917905920) hx hb hown (hc _ w681) dMo_tune_130 ?_
                refine lv_dmul hx hb dMo_tune_133 (e8_n (e8_eD (S 17 j))) ?_
                refine W.eq (g2 := F0 m 134 ls [.double (eD (S 17 j))]) rfl ?_
                exact W.dret (v := (eD (S 17 j))) hx hb hr (fun t ht hW => ⟨⟨_, (S_24, E_1), rfl, (by (try dsimp only) <;> exact (by have hO : oTune S (nI j) f b = (0, eD (S 17 j), S_24) := (by unfold oTune; rw [if_neg (fun h => h (br_n hr_2 c_2)), nI_clamp (by omega), if_neg (Int32.not_lt.mpr c_4), if_neg (fun h => h.elim (fun h => h ⟨br_n hr_6 c_6, br_n hr_10 c_10⟩) (fun h => c_18 h.1)), eS_24, eS_22]; rfl); rw [hO]; exact ⟨by rw [eE_1]; rfl, fun _ => rfl, rfl⟩)), by rw [ht]; exact hP, va_K.moved hW.alike hK, hD⟩, hS.F ht⟩) hS.2.2 dMo_tune_134
              · refine lv_dload_n hx hb dMo_tune_84 rfl (lv_at hl 2 rfl) ?_
                refine lv_dload hx hb dMo_tune_85 (lv_at hl 3 rfl) ?_
                refine lv_dcmp hx hb dMo_tune_87 ?_
                refine lv_topi (fun v_26 ev_26 => ?_)
                rw [e8_cmp] at ev_26
                have fv_26 := e8_c (a := f.toInt) (b := b.toInt) (.g : CmpOp)
                rw [← ev_26] at fv_26
                refine lv_if_ge (tgt := 98) hx hb dMo_tune_88 (by decide) (fun c_26 => ?_) (fun c_26 => ?_)
                · rw [fv_26.2.2.2.2] at c_26
                  refine lv_aload_n hx hb dMo_tune_98 rfl (lv_at hl 0 rfl) ?_
                  refine va_get (D := (dC, dI)) (ci := 4) (v := .ref (ad 9)) (C := RMo) (T := TMo) (N := 29) hx hb hc inMo hown hK hP 0 rfl rfl 9 (by decide) (hc _ w570) (fun _ h9 => h9) rfl dMo_tune_99 ?_
                  refine lv_iload_n hx hb dMo_tune_102 rfl (lv_at hl 1 rfl) ?_
                  refine va_lald hx hb hK hP 9 8 rfl rfl (vp_in_nI (by omega) (by decide)) dMo_tune_103 ?_
                  refine lv_topl (fun v_28 ev_28 => ?_)
                  rw [nI_clamp (by omega)] at ev_28
                  have ev_28 : v_28 = (S 17 j).toInt64 := ev_28
                  subst v_28
                  refine lv_lstore (lv' := [(6, .long ((S 17 j).toInt64)), (0, .ref (ad 0)), (1, .int (nI j)), (2, .double (eD f)), (4, .double (eD b))]) hx hb dMo_tune_104 hl (by decide) rfl (fun ls hl => ?_)
                  refine lv_aload_n hx hb dMo_tune_106 rfl (lv_at hl 1 rfl) ?_
                  refine va_get (D := (dC, dI)) (ci := 4) (v := .ref (ad 9)) (C := RMo) (T := TMo) (N := 29) hx hb hc inMo hown hK hP 0 rfl rfl 9 (by decide) (hc _ w570) (fun _ h9 => h9) rfl dMo_tune_107 ?_
                  refine lv_iload_n hx hb dMo_tune_110 rfl (lv_at hl 2 rfl) ?_
                  refine lv_dload_n hx hb dMo_tune_111 rfl (lv_at hl 3 rfl) ?_
                  refine vp_callSl (va_Run.run (va_runS (As := [.double (eD f)]) (rest := [.int (nI j), .ref (ad 9)]) ⟨hx, hb, hml, hown, hc⟩ (cMo_eighths l f) (va_cwS 1 hc (g_S w678 w679 w5 qMo_eighths) rfl rfl rfl (by decide +kernel) ⟨Nat.le_of_ble_eq_true rfl, Nat.le_of_ble_eq_true rfl⟩) ⟨tPre_blind, tPre_in⟩ rfl rfl hl.1 rfl (lv_room (Nat.le_of_ble_eq_true rfl)) dMo_tune_112 ⟨Nat.zero_le _, Nat.zero_le _⟩)) (fun r_29 hr_29 => ?_)
                  subst r_29
                  refine va_last hx hb hK hP hD hS 9 8 rfl rfl (vp_in_nI (by omega) (by decide)) dMo_tune_115 (fun H locs hP hD hS => ?_)
                  rw [nI_clamp (by omega)] at hP hD
                  rw [updL_i] at hP hD
                  obtain ⟨S_30, eS_30⟩ : ∃ z9 : Ss, z9 = row S 17 (upd (S 17) j f) := ⟨_, rfl⟩
                  have hP : va_P (dC, dI) vwCl (MW ad ca S_30 E_1) H := by rw [eS_30]; exact hP
                  have hD : va_D A (MW ad ca S_30 E_1) := by rw [eS_30]; exact hD
                  refine lv_aload_n hx hb dMo_tune_116 rfl (lv_at hl 1 rfl) ?_
                  refine va_get (D := (dC, dI)) (ci := 4) (v := .ref (ad 10)) (C := RMo) (T := TMo) (N := 29) hx hb hc inMo hown hK hP 0 rfl rfl 10 (by decide) (hc _ w571) (fun _ h9 => h9) rfl dMo_tune_117 ?_
                  refine lv_iload_n hx hb dMo_tune_120 rfl (lv_at hl 2 rfl) ?_
                  refine lv_dload hx hb dMo_tune_121 (lv_at hl 4 rfl) ?_
                  refine vp_callSl (va_Run.run (va_runS (As := [.double (eD b)]) (rest := [.int (nI j), .ref (ad 10)]) ⟨hx, hb, hml, hown, hc⟩ (cMo_eighths l b) (va_cwS 1 hc (g_S w678 w679 w5 qMo_eighths) rfl rfl rfl (by decide +kernel) ⟨Nat.le_of_ble_eq_true rfl, Nat.le_of_ble_eq_true rfl⟩) ⟨tPre_blind, tPre_in⟩ rfl rfl hl.1 rfl (lv_room (Nat.le_of_ble_eq_true rfl)) dMo_tune_123 ⟨Nat.zero_le _, Nat.zero_le _⟩)) (fun r_31 hr_31 => ?_)
                  subst r_31
                  refine va_last hx hb hK hP hD hS 10 9 rfl rfl (vp_in_nI (by omega) (by decide)) dMo_tune_126 (fun H locs hP hD hS => ?_)
                  rw [nI_clamp (by omega)] at hP hD
                  rw [updL_i] at hP hD
                  obtain ⟨S_32, eS_32⟩ : ∃ z9 : Ss, z9 = row S_30 18 (upd (S_30 18) j b) := ⟨_, rfl⟩
                  have hP : va_P (dC, dI) vwCl (MW ad ca S_32 E_1) H := by rw [eS_32]; exact hP
                  have hD : va_D A (MW ad ca S_32 E_1) := by rw [eS_32]; exact hD
                  refine lv_lload hx hb dMo_tune_127 (lv_at hl 0 rfl) ?_
                  refine lv_l2d hx hb dMo_tune_129 ?_
                  refine lv_topd (fun v_33 ev_33 => ?_)
                  rw [e8_l2d] at ev_33
                  subst v_33
                  refine lv_ldc2d (v := 4593671619917905920) hx hb hown (hc _ w681) dMo_tune_130 ?_
                  refine lv_dmul hx hb dMo_tune_133 (e8_n (e8_eD (S 17 j))) ?_
                  refine W.eq (g2 := F0 m 134 ls [.double (eD (S 17 j))]) rfl ?_
                  exact W.dret (v := (eD (S 17 j))) hx hb hr (fun t ht hW => ⟨⟨_, (S_32, E_1), rfl, (by (try dsimp only) <;> exact (by have hO : oTune S (nI j) f b = (0, eD (S 17 j), S_32) := (by unfold oTune; rw [if_neg (fun h => h (br_n hr_2 c_2)), nI_clamp (by omega), if_neg (Int32.not_lt.mpr c_4), if_neg (fun h => h.elim (fun h => h ⟨br_n hr_6 c_6, br_n hr_10 c_10⟩) (fun h => absurd (Int32.lt_iff_toInt_lt.mp h.2) (Int.not_lt.mpr c_26))), eS_32, eS_30]; rfl); rw [hO]; exact ⟨by rw [eE_1]; rfl, fun _ => rfl, rfl⟩)), by rw [ht]; exact hP, va_K.moved hW.alike hK, hD⟩, hS.F ht⟩) hS.2.2 dMo_tune_134
                · rw [fv_26.2.2.2.2] at c_26
                  refine lv_aload_n hx hb dMo_tune_91 rfl (lv_at hl 0 rfl) ?_
                  refine lv_iconst (v := 3) hx hb dMo_tune_92 (by decide +kernel) ?_
                  refine g_calli (va_runV (As := [.int 3]) (rest := []) ⟨hx, hb, hml, hown, hc⟩ (cMo_raise l dC dI ad ca H.size S E_1 3) (cwV 1 hc (gV w661 w663 s9 w5 qMo_raise) rfl rfl rfl (by decide +kernel) ⟨Nat.le_of_ble_eq_true rfl, Nat.le_of_ble_eq_true rfl⟩) ⟨gPre_blind, va_recv hK hP (ci := 4) (q0 := 0) rfl rfl, (gPre_in hP hK hD)⟩ rfl rfl hl.1 rfl (lv_room (Nat.le_of_ble_eq_true rfl)) dMo_tune_93 ⟨Nat.zero_le _, Nat.zero_le _⟩) hD hS hA (fun r_35 u_34 H locs hu_34 hP hD hS => ?_)
                  obtain ⟨S_34, E_34⟩ := u_34
                  (try dsimp only at hu_34 hP hD)
                  obtain ⟨hr9, hS9, hE9⟩ := hu_34
                  subst S_34
                  refine lv_i2d hx hb dMo_tune_96 ?_
                  exact W.dret (v := (FP.i2d r_35)) hx hb hr (fun t ht hW => ⟨⟨_, (S, E_34), rfl, (by (try dsimp only) <;> exact (by have hO : oTune S (nI j) f b = (3, 0, S) := (by unfold oTune; rw [if_neg (fun h => h (br_n hr_2 c_2)), nI_clamp (by omega), if_neg (Int32.not_lt.mpr c_4), if_pos (Or.inr ⟨c_18, Int32.lt_iff_toInt_lt.mpr (Int.not_le.mp c_26)⟩)]); rw [hO]; exact ⟨by rw [hE9]; rfl, fun h => absurd (show (3 : Int32) = 0 from h) (by decide), rfl⟩)), by rw [ht]; exact hP, va_K.moved hW.alike hK, hD⟩, hS.F ht⟩) hS.2.2 dMo_tune_97
    · refine lv_aload_n hx hb dMo_tune_36 rfl (lv_at hl 0 rfl) ?_
      refine lv_iconst (v := 2) hx hb dMo_tune_37 (by decide +kernel) ?_
      refine g_calli (va_runV (As := [.int 2]) (rest := []) ⟨hx, hb, hml, hown, hc⟩ (cMo_raise l dC dI ad ca H.size S E_1 2) (cwV 1 hc (gV w661 w663 s9 w5 qMo_raise) rfl rfl rfl (by decide +kernel) ⟨Nat.le_of_ble_eq_true rfl, Nat.le_of_ble_eq_true rfl⟩) ⟨gPre_blind, va_recv hK hP (ci := 4) (q0 := 0) rfl rfl, (gPre_in hP hK hD)⟩ rfl rfl hl.1 rfl (lv_room (Nat.le_of_ble_eq_true rfl)) dMo_tune_38 ⟨Nat.zero_le _, Nat.zero_le _⟩) hD hS hA (fun r_37 u_36 H locs hu_36 hP hD hS => ?_)
      obtain ⟨S_36, E_36⟩ := u_36
      (try dsimp only at hu_36 hP hD)
      obtain ⟨hr9, hS9, hE9⟩ := hu_36
      subst S_36
      refine lv_i2d hx hb dMo_tune_41 ?_
      exact W.dret (v := (FP.i2d r_37)) hx hb hr (fun t ht hW => ⟨⟨_, (S, E_36), rfl, (by (try dsimp only) <;> exact (by have hO : oTune S (nI j) f b = (2, 0, S) := (by unfold oTune; rw [if_neg (fun h => h (br_n hr_2 c_2)), nI_clamp (by omega), if_pos (Int32.not_le.mp c_4)]); rw [hO]; exact ⟨by rw [hE9]; rfl, fun h => absurd (show (2 : Int32) = 0 from h) (by decide), rfl⟩)), by rw [ht]; exact hP, va_K.moved hW.alike hK, hD⟩, hS.F ht⟩) hS.2.2 dMo_tune_42
  · refine lv_aload_n hx hb dMo_tune_19 rfl (lv_at hl 0 rfl) ?_
    refine lv_iconst (v := 1) hx hb dMo_tune_20 (by decide +kernel) ?_
    refine g_calli (va_runV (As := [.int 1]) (rest := []) ⟨hx, hb, hml, hown, hc⟩ (cMo_raise l dC dI ad ca H.size S E_1 1) (cwV 1 hc (gV w661 w663 s9 w5 qMo_raise) rfl rfl rfl (by decide +kernel) ⟨Nat.le_of_ble_eq_true rfl, Nat.le_of_ble_eq_true rfl⟩) ⟨gPre_blind, va_recv hK hP (ci := 4) (q0 := 0) rfl rfl, (gPre_in hP hK hD)⟩ rfl rfl hl.1 rfl (lv_room (Nat.le_of_ble_eq_true rfl)) dMo_tune_21 ⟨Nat.zero_le _, Nat.zero_le _⟩) hD hS hA (fun r_39 u_38 H locs hu_38 hP hD hS => ?_)
    obtain ⟨S_38, E_38⟩ := u_38
    (try dsimp only at hu_38 hP hD)
    obtain ⟨hr9, hS9, hE9⟩ := hu_38
    subst S_38
    refine lv_i2d hx hb dMo_tune_24 ?_
    exact W.dret (v := (FP.i2d r_39)) hx hb hr (fun t ht hW => ⟨⟨_, (S, E_38), rfl, (by (try dsimp only) <;> exact (by have hO : oTune S a f b = (1, 0, S) := (by unfold oTune; rw [if_pos (br_0 hr_2 c_2)]); rw [hO]; exact ⟨by rw [hE9]; rfl, fun h => absurd (show (1 : Int32) = 0 from h) (by decide), rfl⟩)), by rw [ht]; exact hP, va_K.moved hW.alike hK, hD⟩, hS.F ht⟩) hS.2.2 dMo_tune_25

set_option maxHeartbeats 4000000 in
set_option maxRecDepth 100000 in
theorem cMo_step (l : Launch) (dC : Nat → ClassId) (dI : Nat → Nat → Nat) (ad : Nat → Nat) (ca : Nat → ClassId) (sz : Nat) (S E : Ss) (a b d : Int32) (n h0 : Nat) (hn : a.toNatClampNeg < 12 → n ≤ 10 ∧ S 8 a.toNatClampNeg = nI n ∧ h0 ≤ 4 ∧ S 9 a.toNatClampNeg = nI h0) : Met l yMo_step (kMo_step :: CW) ({ frames := 2, cells := 0, slots := 0, locals := 44 }) (va_Pc [.ref (ad 0), .int a, .int b, .int d] (gPre (dC, dI) (mT ca) (MW ad ca S E) sz)) (va_Qi (fun (r : Int32) (u : Ss × Ss) => (oStep S a b d).1 = u.2 0 0 ∧ ((oStep S a b d).1 = 0 → r = (oStep S a b d).2.1) ∧ u.1 = (oStep S a b d).2.2) (fun u => gAt (dC, dI) (mT ca) (va_A (MW ad ca S E) sz) (MW ad ca u.1 u.2)) (va_A (MW ad ca S E) sz)) 0 0 (va_A (MW ad ca S E) sz) := by
  refine Met.ofW (cc := bMo_step) (maxL := 5) (ret := (some .int)) (by decide +kernel) rfl ?_
  intro p e s m args below meth c s₁ B hml hv
  obtain ⟨rfl, hsz, hP, hK, hD0⟩ := hv
  have hx := B.exec
  have hb := B.bytes
  have hr := B.returns
  have hts := atoms_spec (ws := kMo_step :: CW) B.pre
  have hc : ∀ w ∈ CW, w.before _ s = true := fun w h => hts w (List.mem_cons_of_mem _ h)
  have hown : s.vm.findClass RMo = some m.cls := findClass_of_methodNamed B.named
  have hlocks := B.notSynchronized
  subst hsz
  have hD := hD0.self (sz := s.heap.size)
  generalize hAe : va_A (MW ad ca S E) s.heap.size = A at hD ⊢
  have hA : ∀ q : Nat, s.heap.size ≤ q → A q := fun q h => by rw [← hAe]; exact Or.inr h
  have hS : va_S A s.heap s.heap [] := va_S.rf
  have hl := lv_entry ([.ref (ad 0), .int a, .int b, .int d]) (n := 5) (Nat.le_of_ble_eq_true rfl)
  rw [lg_entry_eq]
  generalize (lg_sl ([.ref (ad 0), .int a, .int b, .int d]) ++ List.replicate (5 - (lg_sl ([.ref (ad 0), .int a, .int b, .int d])).length) Slot.unset).toArray = ls at hl ⊢
  have hl : lv_has ls 5 [(0, .ref (ad 0)), (1, .int a), (2, .int b), (3, .int d)] := hl
  refine lv_aload_n hx hb dMo_step_0 rfl (lv_at hl 0 rfl) ?_
  refine lv_iconst (v := 0) hx hb dMo_step_1 (by decide +kernel) ?_
  refine va_put (D := (dC, dI)) (ci := 4) (v := .int 0) (ty := .int) (C := RMo) (T := TMo) (N := 29) hx hb hc inMo tyMo tyMo_ok nmMo hown hK hP hD hS 0 rfl rfl 0 (by decide) (hc _ w561) (fun _ h9 => h9) rfl (by decide +kernel) rfl rfl (Nat.le_of_ble_eq_true rfl) dMo_step_2 (fun H locs hP hD hS => ?_)
  obtain ⟨E_1, eE_1⟩ : ∃ z9 : Ss, z9 = row E 0 (upd (E 0) 0 0) := ⟨_, rfl⟩
  have hP : va_P (dC, dI) vwCl (MW ad ca S E_1) H := by rw [eE_1]; exact hP
  have hD : va_D A (MW ad ca S E_1) := by rw [eE_1]; exact hD
  refine lv_iload_n hx hb dMo_step_5 rfl (lv_at hl 1 rfl) ?_
  refine lv_iconst (v := 0) hx hb dMo_step_6 (by decide +kernel) ?_
  refine lv_bipush (v := 11) hx hb dMo_step_7 (by decide +kernel) ?_
  refine vp_callSi (va_Run.run (va_runS (As := [.int a, .int 0, .int 11]) (rest := []) ⟨hx, hb, hml, hown, hc⟩ (cMo_in l a 0 11) (va_cwS 3 hc (g_S w658 w659 w5 qMo_in) rfl rfl rfl (by decide +kernel) ⟨Nat.le_of_ble_eq_true rfl, Nat.le_of_ble_eq_true rfl⟩) ⟨tPre_blind, tPre_in⟩ rfl rfl hl.1 rfl (lv_room (Nat.le_of_ble_eq_true rfl)) dMo_step_9 ⟨Nat.zero_le _, Nat.zero_le _⟩)) (fun r_2 hr_2 => ?_)
  refine lv_if_eq (tgt := 24) hx hb dMo_step_12 (by decide) (fun c_2 => ?_) (fun c_2 => ?_)
  · refine lv_aload_n hx hb dMo_step_24 rfl (lv_at hl 0 rfl) ?_
    refine lv_iconst (v := 1) hx hb dMo_step_25 (by decide +kernel) ?_
    refine g_calli (va_runV (As := [.int 1]) (rest := []) ⟨hx, hb, hml, hown, hc⟩ (cMo_raise l dC dI ad ca H.size S E_1 1) (cwV 1 hc (gV w661 w663 s9 w5 qMo_raise) rfl rfl rfl (by decide +kernel) ⟨Nat.le_of_ble_eq_true rfl, Nat.le_of_ble_eq_true rfl⟩) ⟨gPre_blind, va_recv hK hP (ci := 4) (q0 := 0) rfl rfl, (gPre_in hP hK hD)⟩ rfl rfl hl.1 rfl (lv_room (Nat.le_of_ble_eq_true rfl)) dMo_step_26 ⟨Nat.zero_le _, Nat.zero_le _⟩) hD hS hA (fun r_5 u_4 H locs hu_4 hP hD hS => ?_)
    obtain ⟨S_4, E_4⟩ := u_4
    (try dsimp only at hu_4 hP hD)
    obtain ⟨hr9, hS9, hE9⟩ := hu_4
    subst S_4
    exact W.iret (v := r_5) hx hb hr (fun t ht hW => ⟨⟨_, (S, E_4), rfl, (by (try dsimp only) <;> exact (by have hO : oStep S a b d = (1, 0, S) := (by unfold oStep; rw [if_pos (fun h => (br_0 hr_2 c_2) h.1)]); rw [hO]; exact ⟨by rw [hE9]; rfl, fun h => absurd (show (1 : Int32) = 0 from h) (by decide), rfl⟩)), by rw [ht]; exact hP, va_K.moved hW.alike hK, hD⟩, hS.F ht⟩) hS.2.2 dMo_step_29
  · refine lv_aload_n hx hb dMo_step_15 rfl (lv_at hl 0 rfl) ?_
    refine lv_iload_n hx hb dMo_step_16 rfl (lv_at hl 2 rfl) ?_
    refine lv_iload_n hx hb dMo_step_17 rfl (lv_at hl 3 rfl) ?_
    refine vp_callSi (va_Run.run (va_runV (As := [.int b, .int d]) (rest := []) ⟨hx, hb, hml, hown, hc⟩ (cMo_fits l dC dI ad ca H.size S E_1 b d) (cwV 2 hc (gV w686 w688 s10 w5 qMo_fits) rfl rfl rfl (by decide +kernel) ⟨Nat.le_of_ble_eq_true rfl, Nat.le_of_ble_eq_true rfl⟩) ⟨gPre_blind, va_recv hK hP (ci := 4) (q0 := 0) rfl rfl, (gPre_in hP hK hD)⟩ rfl rfl hl.1 rfl (lv_room (Nat.le_of_ble_eq_true rfl)) dMo_step_18 ⟨Nat.zero_le _, Nat.zero_le _⟩)) (fun r_6 hr_6 => ?_)
    refine lv_if_ne (tgt := 30) hx hb dMo_step_21 (by decide) (fun c_6 => ?_) (fun c_6 => ?_)
    · obtain ⟨k, hk, ek⟩ := wi_ex (br_n hr_2 c_2) (n := 11) rfl (by decide)
      subst ek
      rw [nI_clamp (by omega)] at hn
      obtain ⟨hn10, hen, hh4, heh⟩ := hn (by omega)
      have hO9 := br_n hr_6 c_6
      refine lv_aload_n hx hb dMo_step_30 rfl (lv_at hl 0 rfl) ?_
      refine va_get (D := (dC, dI)) (ci := 4) (v := .ref (ad 17)) (C := RMo) (T := TMo) (N := 29) hx hb hc inMo hown hK hP 0 rfl rfl 18 (by decide) (hc _ w579) (fun _ h9 => h9) rfl dMo_step_31 ?_
      refine lv_iload_n hx hb dMo_step_34 rfl (lv_at hl 1 rfl) ?_
      refine va_iald hx hb hK hP 17 16 rfl rfl (vp_in_nI (by omega) (by decide)) dMo_step_35 ?_
      refine lv_topi (fun v_8 ev_8 => ?_)
      rw [nI_clamp (by omega)] at ev_8
      subst v_8
      refine lv_istore (lv' := [(4, .int (S 9 k)), (0, .ref (ad 0)), (1, .int (nI k)), (2, .int b), (3, .int d)]) hx hb dMo_step_36 hl (by decide) rfl (fun ls hl => ?_)
      refine lv_iload_n hx hb dMo_step_38 rfl (lv_at hl 3 rfl) ?_
      refine vp_callSi (va_Run.run (va_runS (As := [.int b]) (rest := []) ⟨hx, hb, hml, hown, hc⟩ (cMo_pushes l b) (va_cwS 1 hc (g_S w690 w691 w5 qMo_pushes) rfl rfl rfl (by decide +kernel) ⟨Nat.le_of_ble_eq_true rfl, Nat.le_of_ble_eq_true rfl⟩) ⟨tPre_blind, tPre_in⟩ rfl rfl hl.1 rfl (lv_room (Nat.le_of_ble_eq_true rfl)) dMo_step_39 ⟨Nat.zero_le _, Nat.zero_le _⟩)) (fun r_9 hr_9 => ?_)
      refine lv_if_eq (tgt := 54) hx hb dMo_step_42 (by decide) (fun c_9 => ?_) (fun c_9 => ?_)
      · refine lv_iload hx hb dMo_step_54 (lv_at hl 0 rfl) ?_
        refine lv_iload_n hx hb dMo_step_56 rfl (lv_at hl 3 rfl) ?_
        refine vp_callSi (va_Run.run (va_runS (As := [.int b]) (rest := [.int (S 9 k)]) ⟨hx, hb, hml, hown, hc⟩ (cMo_joins l b) (va_cwS 1 hc (g_S w693 w694 w5 qMo_joins) rfl rfl rfl (by decide +kernel) ⟨Nat.le_of_ble_eq_true rfl, Nat.le_of_ble_eq_true rfl⟩) ⟨tPre_blind, tPre_in⟩ rfl rfl hl.1 rfl (lv_room (Nat.le_of_ble_eq_true rfl)) dMo_step_57 ⟨Nat.zero_le _, Nat.zero_le _⟩)) (fun r_11 hr_11 => ?_)
        refine lv_if_eq (tgt := 67) hx hb dMo_step_60 (by decide) (fun c_11 => ?_) (fun c_11 => ?_)
        · refine lv_iconst (v := 1) hx hb dMo_step_67 (by decide +kernel) ?_
          refine lv_icmp_ge (tgt := 77) hx hb dMo_step_68 (by decide) (fun c_12 => ?_) (fun c_12 => ?_)
          · refine lv_aload_n hx hb dMo_step_77 rfl (lv_at hl 1 rfl) ?_
            refine va_get (D := (dC, dI)) (ci := 4) (v := .ref (ad 16)) (C := RMo) (T := TMo) (N := 29) hx hb hc inMo hown hK hP 0 rfl rfl 17 (by decide) (hc _ w578) (fun _ h9 => h9) rfl dMo_step_78 ?_
            refine lv_iload_n hx hb dMo_step_81 rfl (lv_at hl 2 rfl) ?_
            refine va_iald hx hb hK hP 16 15 rfl rfl (vp_in_nI (by omega) (by decide)) dMo_step_82 ?_
            refine lv_topi (fun v_14 ev_14 => ?_)
            rw [nI_clamp (by omega)] at ev_14
            subst v_14
            refine lv_bipush (v := 10) hx hb dMo_step_83 (by decide +kernel) ?_
            refine lv_icmp_ne (tgt := 94) hx hb dMo_step_85 (by decide) (fun c_14 => ?_) (fun c_14 => ?_)
            · have hn9 : n < 10 := by rw [hen] at c_14; exact Nat.lt_of_le_of_ne hn10 (fun z => c_14 (by rw [z]; rfl))
              refine lv_aload_n hx hb dMo_step_94 rfl (lv_at hl 1 rfl) ?_
              refine va_get (D := (dC, dI)) (ci := 4) (v := .ref (ad 14)) (C := RMo) (T := TMo) (N := 29) hx hb hc inMo hown hK hP 0 rfl rfl 15 (by decide) (hc _ w576) (fun _ h9 => h9) rfl dMo_step_95 ?_
              refine lv_bipush (v := 10) hx hb dMo_step_98 (by decide +kernel) ?_
              refine lv_iload_n hx hb dMo_step_100 rfl (lv_at hl 2 rfl) ?_
              refine lv_imul hx hb dMo_step_101 ?_
              refine lv_aload_n hx hb dMo_step_102 rfl (lv_at hl 1 rfl) ?_
              refine va_get (D := (dC, dI)) (ci := 4) (v := .ref (ad 16)) (C := RMo) (T := TMo) (N := 29) hx hb hc inMo hown hK hP 0 rfl rfl 17 (by decide) (hc _ w578) (fun _ h9 => h9) rfl dMo_step_103 ?_
              refine lv_iload_n hx hb dMo_step_106 rfl (lv_at hl 2 rfl) ?_
              refine va_iald hx hb hK hP 16 15 rfl rfl (vp_in_nI (by omega) (by decide)) dMo_step_107 ?_
              refine lv_topi (fun v_16 ev_16 => ?_)
              rw [nI_clamp (by omega)] at ev_16
              subst v_16
              refine lv_iadd hx hb dMo_step_108 ?_
              refine lv_topi (fun v_17 ev_17 => ?_)
              have gv_17 : v_17 = nI (10 * k + n) := by rw [ev_17, show S 8 k = nI n from hen]; exact ix10' k n
              clear ev_17
              subst v_17
              refine lv_iload_n hx hb dMo_step_109 rfl (lv_at hl 3 rfl) ?_
              refine va_iast hx hb hK hP hD hS 14 13 rfl rfl (vp_in_nI (by omega) (by decide)) dMo_step_110 (fun H locs hP hD hS => ?_)
              rw [nI_clamp (by omega)] at hP hD
              obtain ⟨S_18, eS_18⟩ : ∃ z9 : Ss, z9 = row S 6 (upd (S 6) (10 * k + n) b) := ⟨_, rfl⟩
              have hP : va_P (dC, dI) vwCl (MW ad ca S_18 E_1) H := by rw [eS_18]; exact hP
              have hD : va_D A (MW ad ca S_18 E_1) := by rw [eS_18]; exact hD
              refine lv_aload_n hx hb dMo_step_111 rfl (lv_at hl 1 rfl) ?_
              refine va_get (D := (dC, dI)) (ci := 4) (v := .ref (ad 15)) (C := RMo) (T := TMo) (N := 29) hx hb hc inMo hown hK hP 0 rfl rfl 16 (by decide) (hc _ w577) (fun _ h9 => h9) rfl dMo_step_112 ?_
              refine lv_bipush (v := 10) hx hb dMo_step_115 (by decide +kernel) ?_
              refine lv_iload_n hx hb dMo_step_117 rfl (lv_at hl 2 rfl) ?_
              refine lv_imul hx hb dMo_step_118 ?_
              refine lv_aload_n hx hb dMo_step_119 rfl (lv_at hl 1 rfl) ?_
              refine va_get (D := (dC, dI)) (ci := 4) (v := .ref (ad 16)) (C := RMo) (T := TMo) (N := 29) hx hb hc inMo hown hK hP 0 rfl rfl 17 (by decide) (hc _ w578) (fun _ h9 => h9) rfl dMo_step_120 ?_
              refine lv_iload_n hx hb dMo_step_123 rfl (lv_at hl 2 rfl) ?_
              refine va_iald hx hb hK hP 16 15 rfl rfl (vp_in_nI (by omega) (by decide)) dMo_step_124 ?_
              refine lv_topi (fun v_19 ev_19 => ?_)
              rw [nI_clamp (by omega)] at ev_19
              subst v_19
              refine lv_iadd hx hb dMo_step_125 ?_
              refine lv_topi (fun v_20 ev_20 => ?_)
              have gv_20 : v_20 = nI (10 * k + n) := by rw [ev_20, show S_18 8 k = nI n from by rw [eS_18]; exact hen]; exact ix10' k n
              clear ev_20
              subst v_20
              refine lv_iload_n hx hb dMo_step_126 rfl (lv_at hl 4 rfl) ?_
              refine va_iast hx hb hK hP hD hS 15 14 rfl rfl (vp_in_nI (by omega) (by decide)) dMo_step_127 (fun H locs hP hD hS => ?_)
              rw [nI_clamp (by omega)] at hP hD
              obtain ⟨S_21, eS_21⟩ : ∃ z9 : Ss, z9 = row S_18 7 (upd (S_18 7) (10 * k + n) d) := ⟨_, rfl⟩
              have hP : va_P (dC, dI) vwCl (MW ad ca S_21 E_1) H := by rw [eS_21]; exact hP
              have hD : va_D A (MW ad ca S_21 E_1) := by rw [eS_21]; exact hD
              refine lv_aload_n hx hb dMo_step_128 rfl (lv_at hl 1 rfl) ?_
              refine va_get (D := (dC, dI)) (ci := 4) (v := .ref (ad 16)) (C := RMo) (T := TMo) (N := 29) hx hb hc inMo hown hK hP 0 rfl rfl 17 (by decide) (hc _ w578) (fun _ h9 => h9) rfl dMo_step_129 ?_
              refine lv_iload_n hx hb dMo_step_132 rfl (lv_at hl 2 rfl) ?_
              refine lv_dup2_11 hx hb dMo_step_133 rfl rfl ?_
              refine va_iald hx hb hK hP 16 15 rfl rfl (vp_in_nI (by omega) (by decide)) dMo_step_134 ?_
              refine lv_topi (fun v_22 ev_22 => ?_)
              rw [nI_clamp (by omega)] at ev_22
              subst v_22
              refine lv_iconst (v := 1) hx hb dMo_step_135 (by decide +kernel) ?_
              refine lv_iadd hx hb dMo_step_136 ?_
              refine lv_topi (fun v_23 ev_23 => ?_)
              refine va_iast hx hb hK hP hD hS 16 15 rfl rfl (vp_in_nI (by omega) (by decide)) dMo_step_137 (fun H locs hP hD hS => ?_)
              rw [nI_clamp (by omega)] at hP hD
              obtain ⟨S_24, eS_24⟩ : ∃ z9 : Ss, z9 = row S_21 8 (upd (S_21 8) k v_23) := ⟨_, rfl⟩
              have hP : va_P (dC, dI) vwCl (MW ad ca S_24 E_1) H := by rw [eS_24]; exact hP
              have hD : va_D A (MW ad ca S_24 E_1) := by rw [eS_24]; exact hD
              refine lv_aload_n hx hb dMo_step_138 rfl (lv_at hl 1 rfl) ?_
              refine va_get (D := (dC, dI)) (ci := 4) (v := .ref (ad 17)) (C := RMo) (T := TMo) (N := 29) hx hb hc inMo hown hK hP 0 rfl rfl 18 (by decide) (hc _ w579) (fun _ h9 => h9) rfl dMo_step_139 ?_
              refine lv_iload_n hx hb dMo_step_142 rfl (lv_at hl 2 rfl) ?_
              refine lv_iload_n hx hb dMo_step_143 rfl (lv_at hl 3 rfl) ?_
              refine vp_callSi (va_Run.run (va_runS (As := [.int b]) (rest := [.int (nI k), .ref (ad 17)]) ⟨hx, hb, hml, hown, hc⟩ (cMo_pushes l b) (va_cwS 1 hc (g_S w690 w691 w5 qMo_pushes) rfl rfl rfl (by decide +kernel) ⟨Nat.le_of_ble_eq_true rfl, Nat.le_of_ble_eq_true rfl⟩) ⟨tPre_blind, tPre_in⟩ rfl rfl hl.1 rfl (lv_room (Nat.le_of_ble_eq_true rfl)) dMo_step_144 ⟨Nat.zero_le _, Nat.zero_le _⟩)) (fun r_25 hr_25 => ?_)
              refine lv_if_eq (tgt := 157) hx hb dMo_step_147 (by decide) (fun c_25 => ?_) (fun c_25 => ?_)
              · refine lv_iload_n hx hb dMo_step_157 rfl (lv_at hl 3 rfl) ?_
                refine vp_callSi (va_Run.run (va_runS (As := [.int b]) (rest := [.int (nI k), .ref (ad 17)]) ⟨hx, hb, hml, hown, hc⟩ (cMo_joins l b) (va_cwS 1 hc (g_S w693 w694 w5 qMo_joins) rfl rfl rfl (by decide +kernel) ⟨Nat.le_of_ble_eq_true rfl, Nat.le_of_ble_eq_true rfl⟩) ⟨tPre_blind, tPre_in⟩ rfl rfl hl.1 rfl (lv_room (Nat.le_of_ble_eq_true rfl)) dMo_step_158 ⟨Nat.zero_le _, Nat.zero_le _⟩)) (fun r_27 hr_27 => ?_)
                refine lv_if_eq (tgt := 171) hx hb dMo_step_161 (by decide) (fun c_27 => ?_) (fun c_27 => ?_)
                · refine lv_iload hx hb dMo_step_171 (lv_at hl 0 rfl) ?_
                  refine va_iast hx hb hK hP hD hS 17 16 rfl rfl (vp_in_nI (by omega) (by decide)) dMo_step_173 (fun H locs hP hD hS => ?_)
                  rw [nI_clamp (by omega)] at hP hD
                  obtain ⟨S_29, eS_29⟩ : ∃ z9 : Ss, z9 = row S_24 9 (upd (S_24 9) k (S 9 k)) := ⟨_, rfl⟩
                  have hP : va_P (dC, dI) vwCl (MW ad ca S_29 E_1) H := by rw [eS_29]; exact hP
                  have hD : va_D A (MW ad ca S_29 E_1) := by rw [eS_29]; exact hD
                  refine lv_aload_n hx hb dMo_step_174 rfl (lv_at hl 1 rfl) ?_
                  refine va_get (D := (dC, dI)) (ci := 4) (v := .ref (ad 17)) (C := RMo) (T := TMo) (N := 29) hx hb hc inMo hown hK hP 0 rfl rfl 18 (by decide) (hc _ w579) (fun _ h9 => h9) rfl dMo_step_175 ?_
                  refine lv_iload_n hx hb dMo_step_178 rfl (lv_at hl 2 rfl) ?_
                  refine va_iald hx hb hK hP 17 16 rfl rfl (vp_in_nI (by omega) (by decide)) dMo_step_179 ?_
                  refine lv_topi (fun v_30 ev_30 => ?_)
                  rw [nI_clamp (by omega)] at ev_30
                  subst v_30
                  exact W.iret (v := (S_29 9 k)) hx hb hr (fun t ht hW => ⟨⟨_, (S_29, E_1), rfl, (by (try dsimp only) <;> exact (by have hO : oStep S (nI k) b d = (0, S_29 9 k, S_29) := (by have hg : S 9 k + grw b = S 9 k := (by rw [grw_e (fun z => br_0 hr_9 c_9 ((psh_iff hO9).mpr z)) (br_0 hr_11 c_11)]; exact Int32.add_zero _); subst S_29; subst S_24; subst v_23; subst S_21; subst S_18; unfold oStep; rw [if_neg (fun h => h ⟨(br_n hr_2 c_2), (br_n hr_6 c_6)⟩), nI_clamp (by omega), if_neg (fun h : ¬ (ndd b ≤ S 9 k ∧ S 9 k + grw b ≤ 4) => h ((st_else (fun z => br_0 hr_9 c_9 ((psh_iff hO9).mpr z)) (br_0 hr_11 c_11) hh4 heh).mpr c_12)), if_neg (by rw [hen]; exact nI_ge hn9 (by decide)), hen, nI_clamp (by omega)]; unfold addW; rw [hg]; exact stp_eq); rw [hO]; exact ⟨by rw [eE_1]; rfl, fun _ => rfl, rfl⟩)), by rw [ht]; exact hP, va_K.moved hW.alike hK, hD⟩, hS.F ht⟩) hS.2.2 dMo_step_180
                · exact absurd (br_n hr_27 c_27) (br_0 hr_11 c_11)
              · exact absurd ((psh_iff hO9).mp (br_n hr_25 c_25)) (fun z => br_0 hr_9 c_9 ((psh_iff hO9).mpr z))
            · refine lv_aload_n hx hb dMo_step_88 rfl (lv_at hl 1 rfl) ?_
              refine lv_iconst (v := 3) hx hb dMo_step_89 (by decide +kernel) ?_
              refine g_calli (va_runV (As := [.int 3]) (rest := []) ⟨hx, hb, hml, hown, hc⟩ (cMo_raise l dC dI ad ca H.size S E_1 3) (cwV 1 hc (gV w661 w663 s9 w5 qMo_raise) rfl rfl rfl (by decide +kernel) ⟨Nat.le_of_ble_eq_true rfl, Nat.le_of_ble_eq_true rfl⟩) ⟨gPre_blind, va_recv hK hP (ci := 4) (q0 := 0) rfl rfl, (gPre_in hP hK hD)⟩ rfl rfl hl.1 rfl (lv_room (Nat.le_of_ble_eq_true rfl)) dMo_step_90 ⟨Nat.zero_le _, Nat.zero_le _⟩) hD hS hA (fun r_32 u_31 H locs hu_31 hP hD hS => ?_)
              obtain ⟨S_31, E_31⟩ := u_31
              (try dsimp only at hu_31 hP hD)
              obtain ⟨hr9, hS9, hE9⟩ := hu_31
              subst S_31
              exact W.iret (v := r_32) hx hb hr (fun t ht hW => ⟨⟨_, (S, E_31), rfl, (by (try dsimp only) <;> exact (by have hO : oStep S (nI k) b d = (3, 0, S) := (by unfold oStep; rw [if_neg (fun h => h ⟨(br_n hr_2 c_2), (br_n hr_6 c_6)⟩), nI_clamp (by omega), if_neg (fun h : ¬ (ndd b ≤ S 9 k ∧ S 9 k + grw b ≤ 4) => h ((st_else (fun z => br_0 hr_9 c_9 ((psh_iff hO9).mpr z)) (br_0 hr_11 c_11) hh4 heh).mpr c_12)), if_pos (by rw [c_14]; decide)]); rw [hO]; exact ⟨by rw [hE9]; rfl, fun h => absurd (show (3 : Int32) = 0 from h) (by decide), rfl⟩)), by rw [ht]; exact hP, va_K.moved hW.alike hK, hD⟩, hS.F ht⟩) hS.2.2 dMo_step_93
          · refine lv_aload_n hx hb dMo_step_71 rfl (lv_at hl 1 rfl) ?_
            refine lv_iconst (v := 2) hx hb dMo_step_72 (by decide +kernel) ?_
            refine g_calli (va_runV (As := [.int 2]) (rest := []) ⟨hx, hb, hml, hown, hc⟩ (cMo_raise l dC dI ad ca H.size S E_1 2) (cwV 1 hc (gV w661 w663 s9 w5 qMo_raise) rfl rfl rfl (by decide +kernel) ⟨Nat.le_of_ble_eq_true rfl, Nat.le_of_ble_eq_true rfl⟩) ⟨gPre_blind, va_recv hK hP (ci := 4) (q0 := 0) rfl rfl, (gPre_in hP hK hD)⟩ rfl rfl hl.1 rfl (lv_room (Nat.le_of_ble_eq_true rfl)) dMo_step_73 ⟨Nat.zero_le _, Nat.zero_le _⟩) hD hS hA (fun r_34 u_33 H locs hu_33 hP hD hS => ?_)
            obtain ⟨S_33, E_33⟩ := u_33
            (try dsimp only at hu_33 hP hD)
            obtain ⟨hr9, hS9, hE9⟩ := hu_33
            subst S_33
            exact W.iret (v := r_34) hx hb hr (fun t ht hW => ⟨⟨_, (S, E_33), rfl, (by (try dsimp only) <;> exact (by have hO : oStep S (nI k) b d = (2, 0, S) := (by unfold oStep; rw [if_neg (fun h => h ⟨(br_n hr_2 c_2), (br_n hr_6 c_6)⟩), nI_clamp (by omega), if_pos (show ¬ (ndd b ≤ S 9 k ∧ S 9 k + grw b ≤ 4) from (fun z => c_12 ((st_else (fun z => br_0 hr_9 c_9 ((psh_iff hO9).mpr z)) (br_0 hr_11 c_11) hh4 heh).mp z)))]); rw [hO]; exact ⟨by rw [hE9]; rfl, fun h => absurd (show (2 : Int32) = 0 from h) (by decide), rfl⟩)), by rw [ht]; exact hP, va_K.moved hW.alike hK, hD⟩, hS.F ht⟩) hS.2.2 dMo_step_76
        · refine lv_iconst (v := 2) hx hb dMo_step_63 (by decide +kernel) ?_
          refine lv_goto (tgt := 68) hx hb dMo_step_64 (by decide) ?_
          refine lv_icmp_ge (tgt := 77) hx hb dMo_step_68 (by decide) (fun c_34 => ?_) (fun c_34 => ?_)
          · refine lv_aload_n hx hb dMo_step_77 rfl (lv_at hl 1 rfl) ?_
            refine va_get (D := (dC, dI)) (ci := 4) (v := .ref (ad 16)) (C := RMo) (T := TMo) (N := 29) hx hb hc inMo hown hK hP 0 rfl rfl 17 (by decide) (hc _ w578) (fun _ h9 => h9) rfl dMo_step_78 ?_
            refine lv_iload_n hx hb dMo_step_81 rfl (lv_at hl 2 rfl) ?_
            refine va_iald hx hb hK hP 16 15 rfl rfl (vp_in_nI (by omega) (by decide)) dMo_step_82 ?_
            refine lv_topi (fun v_36 ev_36 => ?_)
            rw [nI_clamp (by omega)] at ev_36
            subst v_36
            refine lv_bipush (v := 10) hx hb dMo_step_83 (by decide +kernel) ?_
            refine lv_icmp_ne (tgt := 94) hx hb dMo_step_85 (by decide) (fun c_36 => ?_) (fun c_36 => ?_)
            · have hn9 : n < 10 := by rw [hen] at c_36; exact Nat.lt_of_le_of_ne hn10 (fun z => c_36 (by rw [z]; rfl))
              refine lv_aload_n hx hb dMo_step_94 rfl (lv_at hl 1 rfl) ?_
              refine va_get (D := (dC, dI)) (ci := 4) (v := .ref (ad 14)) (C := RMo) (T := TMo) (N := 29) hx hb hc inMo hown hK hP 0 rfl rfl 15 (by decide) (hc _ w576) (fun _ h9 => h9) rfl dMo_step_95 ?_
              refine lv_bipush (v := 10) hx hb dMo_step_98 (by decide +kernel) ?_
              refine lv_iload_n hx hb dMo_step_100 rfl (lv_at hl 2 rfl) ?_
              refine lv_imul hx hb dMo_step_101 ?_
              refine lv_aload_n hx hb dMo_step_102 rfl (lv_at hl 1 rfl) ?_
              refine va_get (D := (dC, dI)) (ci := 4) (v := .ref (ad 16)) (C := RMo) (T := TMo) (N := 29) hx hb hc inMo hown hK hP 0 rfl rfl 17 (by decide) (hc _ w578) (fun _ h9 => h9) rfl dMo_step_103 ?_
              refine lv_iload_n hx hb dMo_step_106 rfl (lv_at hl 2 rfl) ?_
              refine va_iald hx hb hK hP 16 15 rfl rfl (vp_in_nI (by omega) (by decide)) dMo_step_107 ?_
              refine lv_topi (fun v_38 ev_38 => ?_)
              rw [nI_clamp (by omega)] at ev_38
              subst v_38
              refine lv_iadd hx hb dMo_step_108 ?_
              refine lv_topi (fun v_39 ev_39 => ?_)
              have gv_39 : v_39 = nI (10 * k + n) := by rw [ev_39, show S 8 k = nI n from hen]; exact ix10' k n
              clear ev_39
              subst v_39
              refine lv_iload_n hx hb dMo_step_109 rfl (lv_at hl 3 rfl) ?_
              refine va_iast hx hb hK hP hD hS 14 13 rfl rfl (vp_in_nI (by omega) (by decide)) dMo_step_110 (fun H locs hP hD hS => ?_)
              rw [nI_clamp (by omega)] at hP hD
              obtain ⟨S_40, eS_40⟩ : ∃ z9 : Ss, z9 = row S 6 (upd (S 6) (10 * k + n) b) := ⟨_, rfl⟩
              have hP : va_P (dC, dI) vwCl (MW ad ca S_40 E_1) H := by rw [eS_40]; exact hP
              have hD : va_D A (MW ad ca S_40 E_1) := by rw [eS_40]; exact hD
              refine lv_aload_n hx hb dMo_step_111 rfl (lv_at hl 1 rfl) ?_
              refine va_get (D := (dC, dI)) (ci := 4) (v := .ref (ad 15)) (C := RMo) (T := TMo) (N := 29) hx hb hc inMo hown hK hP 0 rfl rfl 16 (by decide) (hc _ w577) (fun _ h9 => h9) rfl dMo_step_112 ?_
              refine lv_bipush (v := 10) hx hb dMo_step_115 (by decide +kernel) ?_
              refine lv_iload_n hx hb dMo_step_117 rfl (lv_at hl 2 rfl) ?_
              refine lv_imul hx hb dMo_step_118 ?_
              refine lv_aload_n hx hb dMo_step_119 rfl (lv_at hl 1 rfl) ?_
              refine va_get (D := (dC, dI)) (ci := 4) (v := .ref (ad 16)) (C := RMo) (T := TMo) (N := 29) hx hb hc inMo hown hK hP 0 rfl rfl 17 (by decide) (hc _ w578) (fun _ h9 => h9) rfl dMo_step_120 ?_
              refine lv_iload_n hx hb dMo_step_123 rfl (lv_at hl 2 rfl) ?_
              refine va_iald hx hb hK hP 16 15 rfl rfl (vp_in_nI (by omega) (by decide)) dMo_step_124 ?_
              refine lv_topi (fun v_41 ev_41 => ?_)
              rw [nI_clamp (by omega)] at ev_41
              subst v_41
              refine lv_iadd hx hb dMo_step_125 ?_
              refine lv_topi (fun v_42 ev_42 => ?_)
              have gv_42 : v_42 = nI (10 * k + n) := by rw [ev_42, show S_40 8 k = nI n from by rw [eS_40]; exact hen]; exact ix10' k n
              clear ev_42
              subst v_42
              refine lv_iload_n hx hb dMo_step_126 rfl (lv_at hl 4 rfl) ?_
              refine va_iast hx hb hK hP hD hS 15 14 rfl rfl (vp_in_nI (by omega) (by decide)) dMo_step_127 (fun H locs hP hD hS => ?_)
              rw [nI_clamp (by omega)] at hP hD
              obtain ⟨S_43, eS_43⟩ : ∃ z9 : Ss, z9 = row S_40 7 (upd (S_40 7) (10 * k + n) d) := ⟨_, rfl⟩
              have hP : va_P (dC, dI) vwCl (MW ad ca S_43 E_1) H := by rw [eS_43]; exact hP
              have hD : va_D A (MW ad ca S_43 E_1) := by rw [eS_43]; exact hD
              refine lv_aload_n hx hb dMo_step_128 rfl (lv_at hl 1 rfl) ?_
              refine va_get (D := (dC, dI)) (ci := 4) (v := .ref (ad 16)) (C := RMo) (T := TMo) (N := 29) hx hb hc inMo hown hK hP 0 rfl rfl 17 (by decide) (hc _ w578) (fun _ h9 => h9) rfl dMo_step_129 ?_
              refine lv_iload_n hx hb dMo_step_132 rfl (lv_at hl 2 rfl) ?_
              refine lv_dup2_11 hx hb dMo_step_133 rfl rfl ?_
              refine va_iald hx hb hK hP 16 15 rfl rfl (vp_in_nI (by omega) (by decide)) dMo_step_134 ?_
              refine lv_topi (fun v_44 ev_44 => ?_)
              rw [nI_clamp (by omega)] at ev_44
              subst v_44
              refine lv_iconst (v := 1) hx hb dMo_step_135 (by decide +kernel) ?_
              refine lv_iadd hx hb dMo_step_136 ?_
              refine lv_topi (fun v_45 ev_45 => ?_)
              refine va_iast hx hb hK hP hD hS 16 15 rfl rfl (vp_in_nI (by omega) (by decide)) dMo_step_137 (fun H locs hP hD hS => ?_)
              rw [nI_clamp (by omega)] at hP hD
              obtain ⟨S_46, eS_46⟩ : ∃ z9 : Ss, z9 = row S_43 8 (upd (S_43 8) k v_45) := ⟨_, rfl⟩
              have hP : va_P (dC, dI) vwCl (MW ad ca S_46 E_1) H := by rw [eS_46]; exact hP
              have hD : va_D A (MW ad ca S_46 E_1) := by rw [eS_46]; exact hD
              refine lv_aload_n hx hb dMo_step_138 rfl (lv_at hl 1 rfl) ?_
              refine va_get (D := (dC, dI)) (ci := 4) (v := .ref (ad 17)) (C := RMo) (T := TMo) (N := 29) hx hb hc inMo hown hK hP 0 rfl rfl 18 (by decide) (hc _ w579) (fun _ h9 => h9) rfl dMo_step_139 ?_
              refine lv_iload_n hx hb dMo_step_142 rfl (lv_at hl 2 rfl) ?_
              refine lv_iload_n hx hb dMo_step_143 rfl (lv_at hl 3 rfl) ?_
              refine vp_callSi (va_Run.run (va_runS (As := [.int b]) (rest := [.int (nI k), .ref (ad 17)]) ⟨hx, hb, hml, hown, hc⟩ (cMo_pushes l b) (va_cwS 1 hc (g_S w690 w691 w5 qMo_pushes) rfl rfl rfl (by decide +kernel) ⟨Nat.le_of_ble_eq_true rfl, Nat.le_of_ble_eq_true rfl⟩) ⟨tPre_blind, tPre_in⟩ rfl rfl hl.1 rfl (lv_room (Nat.le_of_ble_eq_true rfl)) dMo_step_144 ⟨Nat.zero_le _, Nat.zero_le _⟩)) (fun r_47 hr_47 => ?_)
              refine lv_if_eq (tgt := 157) hx hb dMo_step_147 (by decide) (fun c_47 => ?_) (fun c_47 => ?_)
              · refine lv_iload_n hx hb dMo_step_157 rfl (lv_at hl 3 rfl) ?_
                refine vp_callSi (va_Run.run (va_runS (As := [.int b]) (rest := [.int (nI k), .ref (ad 17)]) ⟨hx, hb, hml, hown, hc⟩ (cMo_joins l b) (va_cwS 1 hc (g_S w693 w694 w5 qMo_joins) rfl rfl rfl (by decide +kernel) ⟨Nat.le_of_ble_eq_true rfl, Nat.le_of_ble_eq_true rfl⟩) ⟨tPre_blind, tPre_in⟩ rfl rfl hl.1 rfl (lv_room (Nat.le_of_ble_eq_true rfl)) dMo_step_158 ⟨Nat.zero_le _, Nat.zero_le _⟩)) (fun r_49 hr_49 => ?_)
                refine lv_if_eq (tgt := 171) hx hb dMo_step_161 (by decide) (fun c_49 => ?_) (fun c_49 => ?_)
                · exact absurd (br_n hr_11 c_11) (br_0 hr_49 c_49)
                · refine lv_iload hx hb dMo_step_164 (lv_at hl 0 rfl) ?_
                  refine lv_iconst (v := 1) hx hb dMo_step_166 (by decide +kernel) ?_
                  refine lv_isub hx hb dMo_step_167 ?_
                  refine lv_goto (tgt := 173) hx hb dMo_step_168 (by decide) ?_
                  refine lv_topi (fun v_51 ev_51 => ?_)
                  refine va_iast hx hb hK hP hD hS 17 16 rfl rfl (vp_in_nI (by omega) (by decide)) dMo_step_173 (fun H locs hP hD hS => ?_)
                  rw [nI_clamp (by omega)] at hP hD
                  obtain ⟨S_52, eS_52⟩ : ∃ z9 : Ss, z9 = row S_46 9 (upd (S_46 9) k v_51) := ⟨_, rfl⟩
                  have hP : va_P (dC, dI) vwCl (MW ad ca S_52 E_1) H := by rw [eS_52]; exact hP
                  have hD : va_D A (MW ad ca S_52 E_1) := by rw [eS_52]; exact hD
                  refine lv_aload_n hx hb dMo_step_174 rfl (lv_at hl 1 rfl) ?_
                  refine va_get (D := (dC, dI)) (ci := 4) (v := .ref (ad 17)) (C := RMo) (T := TMo) (N := 29) hx hb hc inMo hown hK hP 0 rfl rfl 18 (by decide) (hc _ w579) (fun _ h9 => h9) rfl dMo_step_175 ?_
                  refine lv_iload_n hx hb dMo_step_178 rfl (lv_at hl 2 rfl) ?_
                  refine va_iald hx hb hK hP 17 16 rfl rfl (vp_in_nI (by omega) (by decide)) dMo_step_179 ?_
                  refine lv_topi (fun v_53 ev_53 => ?_)
                  rw [nI_clamp (by omega)] at ev_53
                  subst v_53
                  exact W.iret (v := (S_52 9 k)) hx hb hr (fun t ht hW => ⟨⟨_, (S_52, E_1), rfl, (by (try dsimp only) <;> exact (by have hO : oStep S (nI k) b d = (0, S_52 9 k, S_52) := (by have hg : S 9 k + grw b = S 9 k - 1 := (by rw [grw_j (fun z => br_0 hr_9 c_9 ((psh_iff hO9).mpr z)) (br_n hr_11 c_11)]; exact (Int32.sub_eq_add_neg ..).symm); subst S_52; subst v_51; subst S_46; subst v_45; subst S_43; subst S_40; unfold oStep; rw [if_neg (fun h => h ⟨(br_n hr_2 c_2), (br_n hr_6 c_6)⟩), nI_clamp (by omega), if_neg (fun h : ¬ (ndd b ≤ S 9 k ∧ S 9 k + grw b ≤ 4) => h ((st_join (fun z => br_0 hr_9 c_9 ((psh_iff hO9).mpr z)) (br_n hr_11 c_11) hh4 heh).mpr c_34)), if_neg (by rw [hen]; exact nI_ge hn9 (by decide)), hen, nI_clamp (by omega)]; unfold addW; rw [hg]; exact stp_eq); rw [hO]; exact ⟨by rw [eE_1]; rfl, fun _ => rfl, rfl⟩)), by rw [ht]; exact hP, va_K.moved hW.alike hK, hD⟩, hS.F ht⟩) hS.2.2 dMo_step_180
              · exact absurd ((psh_iff hO9).mp (br_n hr_47 c_47)) (fun z => br_0 hr_9 c_9 ((psh_iff hO9).mpr z))
            · refine lv_aload_n hx hb dMo_step_88 rfl (lv_at hl 1 rfl) ?_
              refine lv_iconst (v := 3) hx hb dMo_step_89 (by decide +kernel) ?_
              refine g_calli (va_runV (As := [.int 3]) (rest := []) ⟨hx, hb, hml, hown, hc⟩ (cMo_raise l dC dI ad ca H.size S E_1 3) (cwV 1 hc (gV w661 w663 s9 w5 qMo_raise) rfl rfl rfl (by decide +kernel) ⟨Nat.le_of_ble_eq_true rfl, Nat.le_of_ble_eq_true rfl⟩) ⟨gPre_blind, va_recv hK hP (ci := 4) (q0 := 0) rfl rfl, (gPre_in hP hK hD)⟩ rfl rfl hl.1 rfl (lv_room (Nat.le_of_ble_eq_true rfl)) dMo_step_90 ⟨Nat.zero_le _, Nat.zero_le _⟩) hD hS hA (fun r_55 u_54 H locs hu_54 hP hD hS => ?_)
              obtain ⟨S_54, E_54⟩ := u_54
              (try dsimp only at hu_54 hP hD)
              obtain ⟨hr9, hS9, hE9⟩ := hu_54
              subst S_54
              exact W.iret (v := r_55) hx hb hr (fun t ht hW => ⟨⟨_, (S, E_54), rfl, (by (try dsimp only) <;> exact (by have hO : oStep S (nI k) b d = (3, 0, S) := (by unfold oStep; rw [if_neg (fun h => h ⟨(br_n hr_2 c_2), (br_n hr_6 c_6)⟩), nI_clamp (by omega), if_neg (fun h : ¬ (ndd b ≤ S 9 k ∧ S 9 k + grw b ≤ 4) => h ((st_join (fun z => br_0 hr_9 c_9 ((psh_iff hO9).mpr z)) (br_n hr_11 c_11) hh4 heh).mpr c_34)), if_pos (by rw [c_36]; decide)]); rw [hO]; exact ⟨by rw [hE9]; rfl, fun h => absurd (show (3 : Int32) = 0 from h) (by decide), rfl⟩)), by rw [ht]; exact hP, va_K.moved hW.alike hK, hD⟩, hS.F ht⟩) hS.2.2 dMo_step_93
          · refine lv_aload_n hx hb dMo_step_71 rfl (lv_at hl 1 rfl) ?_
            refine lv_iconst (v := 2) hx hb dMo_step_72 (by decide +kernel) ?_
            refine g_calli (va_runV (As := [.int 2]) (rest := []) ⟨hx, hb, hml, hown, hc⟩ (cMo_raise l dC dI ad ca H.size S E_1 2) (cwV 1 hc (gV w661 w663 s9 w5 qMo_raise) rfl rfl rfl (by decide +kernel) ⟨Nat.le_of_ble_eq_true rfl, Nat.le_of_ble_eq_true rfl⟩) ⟨gPre_blind, va_recv hK hP (ci := 4) (q0 := 0) rfl rfl, (gPre_in hP hK hD)⟩ rfl rfl hl.1 rfl (lv_room (Nat.le_of_ble_eq_true rfl)) dMo_step_73 ⟨Nat.zero_le _, Nat.zero_le _⟩) hD hS hA (fun r_57 u_56 H locs hu_56 hP hD hS => ?_)
            obtain ⟨S_56, E_56⟩ := u_56
            (try dsimp only at hu_56 hP hD)
            obtain ⟨hr9, hS9, hE9⟩ := hu_56
            subst S_56
            exact W.iret (v := r_57) hx hb hr (fun t ht hW => ⟨⟨_, (S, E_56), rfl, (by (try dsimp only) <;> exact (by have hO : oStep S (nI k) b d = (2, 0, S) := (by unfold oStep; rw [if_neg (fun h => h ⟨(br_n hr_2 c_2), (br_n hr_6 c_6)⟩), nI_clamp (by omega), if_pos (show ¬ (ndd b ≤ S 9 k ∧ S 9 k + grw b ≤ 4) from (fun z => c_34 ((st_join (fun z => br_0 hr_9 c_9 ((psh_iff hO9).mpr z)) (br_n hr_11 c_11) hh4 heh).mp z)))]); rw [hO]; exact ⟨by rw [hE9]; rfl, fun h => absurd (show (2 : Int32) = 0 from h) (by decide), rfl⟩)), by rw [ht]; exact hP, va_K.moved hW.alike hK, hD⟩, hS.F ht⟩) hS.2.2 dMo_step_76
      · refine lv_iload hx hb dMo_step_45 (lv_at hl 0 rfl) ?_
        refine lv_iconst (v := 4) hx hb dMo_step_47 (by decide +kernel) ?_
        refine lv_icmp_ne (tgt := 77) hx hb dMo_step_48 (by decide) (fun c_57 => ?_) (fun c_57 => ?_)
        · refine lv_aload_n hx hb dMo_step_77 rfl (lv_at hl 1 rfl) ?_
          refine va_get (D := (dC, dI)) (ci := 4) (v := .ref (ad 16)) (C := RMo) (T := TMo) (N := 29) hx hb hc inMo hown hK hP 0 rfl rfl 17 (by decide) (hc _ w578) (fun _ h9 => h9) rfl dMo_step_78 ?_
          refine lv_iload_n hx hb dMo_step_81 rfl (lv_at hl 2 rfl) ?_
          refine va_iald hx hb hK hP 16 15 rfl rfl (vp_in_nI (by omega) (by decide)) dMo_step_82 ?_
          refine lv_topi (fun v_59 ev_59 => ?_)
          rw [nI_clamp (by omega)] at ev_59
          subst v_59
          refine lv_bipush (v := 10) hx hb dMo_step_83 (by decide +kernel) ?_
          refine lv_icmp_ne (tgt := 94) hx hb dMo_step_85 (by decide) (fun c_59 => ?_) (fun c_59 => ?_)
          · have hn9 : n < 10 := by rw [hen] at c_59; exact Nat.lt_of_le_of_ne hn10 (fun z => c_59 (by rw [z]; rfl))
            refine lv_aload_n hx hb dMo_step_94 rfl (lv_at hl 1 rfl) ?_
            refine va_get (D := (dC, dI)) (ci := 4) (v := .ref (ad 14)) (C := RMo) (T := TMo) (N := 29) hx hb hc inMo hown hK hP 0 rfl rfl 15 (by decide) (hc _ w576) (fun _ h9 => h9) rfl dMo_step_95 ?_
            refine lv_bipush (v := 10) hx hb dMo_step_98 (by decide +kernel) ?_
            refine lv_iload_n hx hb dMo_step_100 rfl (lv_at hl 2 rfl) ?_
            refine lv_imul hx hb dMo_step_101 ?_
            refine lv_aload_n hx hb dMo_step_102 rfl (lv_at hl 1 rfl) ?_
            refine va_get (D := (dC, dI)) (ci := 4) (v := .ref (ad 16)) (C := RMo) (T := TMo) (N := 29) hx hb hc inMo hown hK hP 0 rfl rfl 17 (by decide) (hc _ w578) (fun _ h9 => h9) rfl dMo_step_103 ?_
            refine lv_iload_n hx hb dMo_step_106 rfl (lv_at hl 2 rfl) ?_
            refine va_iald hx hb hK hP 16 15 rfl rfl (vp_in_nI (by omega) (by decide)) dMo_step_107 ?_
            refine lv_topi (fun v_61 ev_61 => ?_)
            rw [nI_clamp (by omega)] at ev_61
            subst v_61
            refine lv_iadd hx hb dMo_step_108 ?_
            refine lv_topi (fun v_62 ev_62 => ?_)
            have gv_62 : v_62 = nI (10 * k + n) := by rw [ev_62, show S 8 k = nI n from hen]; exact ix10' k n
            clear ev_62
            subst v_62
            refine lv_iload_n hx hb dMo_step_109 rfl (lv_at hl 3 rfl) ?_
            refine va_iast hx hb hK hP hD hS 14 13 rfl rfl (vp_in_nI (by omega) (by decide)) dMo_step_110 (fun H locs hP hD hS => ?_)
            rw [nI_clamp (by omega)] at hP hD
            obtain ⟨S_63, eS_63⟩ : ∃ z9 : Ss, z9 = row S 6 (upd (S 6) (10 * k + n) b) := ⟨_, rfl⟩
            have hP : va_P (dC, dI) vwCl (MW ad ca S_63 E_1) H := by rw [eS_63]; exact hP
            have hD : va_D A (MW ad ca S_63 E_1) := by rw [eS_63]; exact hD
            refine lv_aload_n hx hb dMo_step_111 rfl (lv_at hl 1 rfl) ?_
            refine va_get (D := (dC, dI)) (ci := 4) (v := .ref (ad 15)) (C := RMo) (T := TMo) (N := 29) hx hb hc inMo hown hK hP 0 rfl rfl 16 (by decide) (hc _ w577) (fun _ h9 => h9) rfl dMo_step_112 ?_
            refine lv_bipush (v := 10) hx hb dMo_step_115 (by decide +kernel) ?_
            refine lv_iload_n hx hb dMo_step_117 rfl (lv_at hl 2 rfl) ?_
            refine lv_imul hx hb dMo_step_118 ?_
            refine lv_aload_n hx hb dMo_step_119 rfl (lv_at hl 1 rfl) ?_
            refine va_get (D := (dC, dI)) (ci := 4) (v := .ref (ad 16)) (C := RMo) (T := TMo) (N := 29) hx hb hc inMo hown hK hP 0 rfl rfl 17 (by decide) (hc _ w578) (fun _ h9 => h9) rfl dMo_step_120 ?_
            refine lv_iload_n hx hb dMo_step_123 rfl (lv_at hl 2 rfl) ?_
            refine va_iald hx hb hK hP 16 15 rfl rfl (vp_in_nI (by omega) (by decide)) dMo_step_124 ?_
            refine lv_topi (fun v_64 ev_64 => ?_)
            rw [nI_clamp (by omega)] at ev_64
            subst v_64
            refine lv_iadd hx hb dMo_step_125 ?_
            refine lv_topi (fun v_65 ev_65 => ?_)
            have gv_65 : v_65 = nI (10 * k + n) := by rw [ev_65, show S_63 8 k = nI n from by rw [eS_63]; exact hen]; exact ix10' k n
            clear ev_65
            subst v_65
            refine lv_iload_n hx hb dMo_step_126 rfl (lv_at hl 4 rfl) ?_
            refine va_iast hx hb hK hP hD hS 15 14 rfl rfl (vp_in_nI (by omega) (by decide)) dMo_step_127 (fun H locs hP hD hS => ?_)
            rw [nI_clamp (by omega)] at hP hD
            obtain ⟨S_66, eS_66⟩ : ∃ z9 : Ss, z9 = row S_63 7 (upd (S_63 7) (10 * k + n) d) := ⟨_, rfl⟩
            have hP : va_P (dC, dI) vwCl (MW ad ca S_66 E_1) H := by rw [eS_66]; exact hP
            have hD : va_D A (MW ad ca S_66 E_1) := by rw [eS_66]; exact hD
            refine lv_aload_n hx hb dMo_step_128 rfl (lv_at hl 1 rfl) ?_
            refine va_get (D := (dC, dI)) (ci := 4) (v := .ref (ad 16)) (C := RMo) (T := TMo) (N := 29) hx hb hc inMo hown hK hP 0 rfl rfl 17 (by decide) (hc _ w578) (fun _ h9 => h9) rfl dMo_step_129 ?_
            refine lv_iload_n hx hb dMo_step_132 rfl (lv_at hl 2 rfl) ?_
            refine lv_dup2_11 hx hb dMo_step_133 rfl rfl ?_
            refine va_iald hx hb hK hP 16 15 rfl rfl (vp_in_nI (by omega) (by decide)) dMo_step_134 ?_
            refine lv_topi (fun v_67 ev_67 => ?_)
            rw [nI_clamp (by omega)] at ev_67
            subst v_67
            refine lv_iconst (v := 1) hx hb dMo_step_135 (by decide +kernel) ?_
            refine lv_iadd hx hb dMo_step_136 ?_
            refine lv_topi (fun v_68 ev_68 => ?_)
            refine va_iast hx hb hK hP hD hS 16 15 rfl rfl (vp_in_nI (by omega) (by decide)) dMo_step_137 (fun H locs hP hD hS => ?_)
            rw [nI_clamp (by omega)] at hP hD
            obtain ⟨S_69, eS_69⟩ : ∃ z9 : Ss, z9 = row S_66 8 (upd (S_66 8) k v_68) := ⟨_, rfl⟩
            have hP : va_P (dC, dI) vwCl (MW ad ca S_69 E_1) H := by rw [eS_69]; exact hP
            have hD : va_D A (MW ad ca S_69 E_1) := by rw [eS_69]; exact hD
            refine lv_aload_n hx hb dMo_step_138 rfl (lv_at hl 1 rfl) ?_
            refine va_get (D := (dC, dI)) (ci := 4) (v := .ref (ad 17)) (C := RMo) (T := TMo) (N := 29) hx hb hc inMo hown hK hP 0 rfl rfl 18 (by decide) (hc _ w579) (fun _ h9 => h9) rfl dMo_step_139 ?_
            refine lv_iload_n hx hb dMo_step_142 rfl (lv_at hl 2 rfl) ?_
            refine lv_iload_n hx hb dMo_step_143 rfl (lv_at hl 3 rfl) ?_
            refine vp_callSi (va_Run.run (va_runS (As := [.int b]) (rest := [.int (nI k), .ref (ad 17)]) ⟨hx, hb, hml, hown, hc⟩ (cMo_pushes l b) (va_cwS 1 hc (g_S w690 w691 w5 qMo_pushes) rfl rfl rfl (by decide +kernel) ⟨Nat.le_of_ble_eq_true rfl, Nat.le_of_ble_eq_true rfl⟩) ⟨tPre_blind, tPre_in⟩ rfl rfl hl.1 rfl (lv_room (Nat.le_of_ble_eq_true rfl)) dMo_step_144 ⟨Nat.zero_le _, Nat.zero_le _⟩)) (fun r_70 hr_70 => ?_)
            refine lv_if_eq (tgt := 157) hx hb dMo_step_147 (by decide) (fun c_70 => ?_) (fun c_70 => ?_)
            · exact absurd ((psh_iff hO9).mpr ((psh_iff hO9).mp (br_n hr_9 c_9))) (br_0 hr_70 c_70)
            · refine lv_iload hx hb dMo_step_150 (lv_at hl 0 rfl) ?_
              refine lv_iconst (v := 1) hx hb dMo_step_152 (by decide +kernel) ?_
              refine lv_iadd hx hb dMo_step_153 ?_
              refine lv_goto (tgt := 173) hx hb dMo_step_154 (by decide) ?_
              refine lv_topi (fun v_72 ev_72 => ?_)
              refine va_iast hx hb hK hP hD hS 17 16 rfl rfl (vp_in_nI (by omega) (by decide)) dMo_step_173 (fun H locs hP hD hS => ?_)
              rw [nI_clamp (by omega)] at hP hD
              obtain ⟨S_73, eS_73⟩ : ∃ z9 : Ss, z9 = row S_69 9 (upd (S_69 9) k v_72) := ⟨_, rfl⟩
              have hP : va_P (dC, dI) vwCl (MW ad ca S_73 E_1) H := by rw [eS_73]; exact hP
              have hD : va_D A (MW ad ca S_73 E_1) := by rw [eS_73]; exact hD
              refine lv_aload_n hx hb dMo_step_174 rfl (lv_at hl 1 rfl) ?_
              refine va_get (D := (dC, dI)) (ci := 4) (v := .ref (ad 17)) (C := RMo) (T := TMo) (N := 29) hx hb hc inMo hown hK hP 0 rfl rfl 18 (by decide) (hc _ w579) (fun _ h9 => h9) rfl dMo_step_175 ?_
              refine lv_iload_n hx hb dMo_step_178 rfl (lv_at hl 2 rfl) ?_
              refine va_iald hx hb hK hP 17 16 rfl rfl (vp_in_nI (by omega) (by decide)) dMo_step_179 ?_
              refine lv_topi (fun v_74 ev_74 => ?_)
              rw [nI_clamp (by omega)] at ev_74
              subst v_74
              exact W.iret (v := (S_73 9 k)) hx hb hr (fun t ht hW => ⟨⟨_, (S_73, E_1), rfl, (by (try dsimp only) <;> exact (by have hO : oStep S (nI k) b d = (0, S_73 9 k, S_73) := (by have hg : S 9 k + grw b = S 9 k + 1 := (by rw [grw_p ((psh_iff hO9).mp (br_n hr_9 c_9))]); subst S_73; subst v_72; subst S_69; subst v_68; subst S_66; subst S_63; unfold oStep; rw [if_neg (fun h => h ⟨(br_n hr_2 c_2), (br_n hr_6 c_6)⟩), nI_clamp (by omega), if_neg (fun h : ¬ (ndd b ≤ S 9 k ∧ S 9 k + grw b ≤ 4) => h ((st_push ((psh_iff hO9).mp (br_n hr_9 c_9)) hh4 heh).mpr c_57)), if_neg (by rw [hen]; exact nI_ge hn9 (by decide)), hen, nI_clamp (by omega)]; unfold addW; rw [hg]; exact stp_eq); rw [hO]; exact ⟨by rw [eE_1]; rfl, fun _ => rfl, rfl⟩)), by rw [ht]; exact hP, va_K.moved hW.alike hK, hD⟩, hS.F ht⟩) hS.2.2 dMo_step_180
          · refine lv_aload_n hx hb dMo_step_88 rfl (lv_at hl 1 rfl) ?_
            refine lv_iconst (v := 3) hx hb dMo_step_89 (by decide +kernel) ?_
            refine g_calli (va_runV (As := [.int 3]) (rest := []) ⟨hx, hb, hml, hown, hc⟩ (cMo_raise l dC dI ad ca H.size S E_1 3) (cwV 1 hc (gV w661 w663 s9 w5 qMo_raise) rfl rfl rfl (by decide +kernel) ⟨Nat.le_of_ble_eq_true rfl, Nat.le_of_ble_eq_true rfl⟩) ⟨gPre_blind, va_recv hK hP (ci := 4) (q0 := 0) rfl rfl, (gPre_in hP hK hD)⟩ rfl rfl hl.1 rfl (lv_room (Nat.le_of_ble_eq_true rfl)) dMo_step_90 ⟨Nat.zero_le _, Nat.zero_le _⟩) hD hS hA (fun r_76 u_75 H locs hu_75 hP hD hS => ?_)
            obtain ⟨S_75, E_75⟩ := u_75
            (try dsimp only at hu_75 hP hD)
            obtain ⟨hr9, hS9, hE9⟩ := hu_75
            subst S_75
            exact W.iret (v := r_76) hx hb hr (fun t ht hW => ⟨⟨_, (S, E_75), rfl, (by (try dsimp only) <;> exact (by have hO : oStep S (nI k) b d = (3, 0, S) := (by unfold oStep; rw [if_neg (fun h => h ⟨(br_n hr_2 c_2), (br_n hr_6 c_6)⟩), nI_clamp (by omega), if_neg (fun h : ¬ (ndd b ≤ S 9 k ∧ S 9 k + grw b ≤ 4) => h ((st_push ((psh_iff hO9).mp (br_n hr_9 c_9)) hh4 heh).mpr c_57)), if_pos (by rw [c_59]; decide)]); rw [hO]; exact ⟨by rw [hE9]; rfl, fun h => absurd (show (3 : Int32) = 0 from h) (by decide), rfl⟩)), by rw [ht]; exact hP, va_K.moved hW.alike hK, hD⟩, hS.F ht⟩) hS.2.2 dMo_step_93
        · refine lv_goto (tgt := 71) hx hb dMo_step_51 (by decide) ?_
          refine lv_aload_n hx hb dMo_step_71 rfl (lv_at hl 1 rfl) ?_
          refine lv_iconst (v := 2) hx hb dMo_step_72 (by decide +kernel) ?_
          refine g_calli (va_runV (As := [.int 2]) (rest := []) ⟨hx, hb, hml, hown, hc⟩ (cMo_raise l dC dI ad ca H.size S E_1 2) (cwV 1 hc (gV w661 w663 s9 w5 qMo_raise) rfl rfl rfl (by decide +kernel) ⟨Nat.le_of_ble_eq_true rfl, Nat.le_of_ble_eq_true rfl⟩) ⟨gPre_blind, va_recv hK hP (ci := 4) (q0 := 0) rfl rfl, (gPre_in hP hK hD)⟩ rfl rfl hl.1 rfl (lv_room (Nat.le_of_ble_eq_true rfl)) dMo_step_73 ⟨Nat.zero_le _, Nat.zero_le _⟩) hD hS hA (fun r_78 u_77 H locs hu_77 hP hD hS => ?_)
          obtain ⟨S_77, E_77⟩ := u_77
          (try dsimp only at hu_77 hP hD)
          obtain ⟨hr9, hS9, hE9⟩ := hu_77
          subst S_77
          exact W.iret (v := r_78) hx hb hr (fun t ht hW => ⟨⟨_, (S, E_77), rfl, (by (try dsimp only) <;> exact (by have hO : oStep S (nI k) b d = (2, 0, S) := (by unfold oStep; rw [if_neg (fun h => h ⟨(br_n hr_2 c_2), (br_n hr_6 c_6)⟩), nI_clamp (by omega), if_pos (show ¬ (ndd b ≤ S 9 k ∧ S 9 k + grw b ≤ 4) from (fun z => (st_push ((psh_iff hO9).mp (br_n hr_9 c_9)) hh4 heh).mp z c_57))]); rw [hO]; exact ⟨by rw [hE9]; rfl, fun h => absurd (show (2 : Int32) = 0 from h) (by decide), rfl⟩)), by rw [ht]; exact hP, va_K.moved hW.alike hK, hD⟩, hS.F ht⟩) hS.2.2 dMo_step_76
    · refine lv_aload_n hx hb dMo_step_24 rfl (lv_at hl 0 rfl) ?_
      refine lv_iconst (v := 1) hx hb dMo_step_25 (by decide +kernel) ?_
      refine g_calli (va_runV (As := [.int 1]) (rest := []) ⟨hx, hb, hml, hown, hc⟩ (cMo_raise l dC dI ad ca H.size S E_1 1) (cwV 1 hc (gV w661 w663 s9 w5 qMo_raise) rfl rfl rfl (by decide +kernel) ⟨Nat.le_of_ble_eq_true rfl, Nat.le_of_ble_eq_true rfl⟩) ⟨gPre_blind, va_recv hK hP (ci := 4) (q0 := 0) rfl rfl, (gPre_in hP hK hD)⟩ rfl rfl hl.1 rfl (lv_room (Nat.le_of_ble_eq_true rfl)) dMo_step_26 ⟨Nat.zero_le _, Nat.zero_le _⟩) hD hS hA (fun r_80 u_79 H locs hu_79 hP hD hS => ?_)
      obtain ⟨S_79, E_79⟩ := u_79
      (try dsimp only at hu_79 hP hD)
      obtain ⟨hr9, hS9, hE9⟩ := hu_79
      subst S_79
      exact W.iret (v := r_80) hx hb hr (fun t ht hW => ⟨⟨_, (S, E_79), rfl, (by (try dsimp only) <;> exact (by have hO : oStep S a b d = (1, 0, S) := (by unfold oStep; rw [if_pos (fun h => (br_0 hr_6 c_6) h.2)]); rw [hO]; exact ⟨by rw [hE9]; rfl, fun h => absurd (show (1 : Int32) = 0 from h) (by decide), rfl⟩)), by rw [ht]; exact hP, va_K.moved hW.alike hK, hD⟩, hS.F ht⟩) hS.2.2 dMo_step_29

set_option maxHeartbeats 4000000 in
set_option maxRecDepth 100000 in
theorem cMo_restart (l : Launch) (dC : Nat → ClassId) (dI : Nat → Nat → Nat) (ad : Nat → Nat) (ca : Nat → ClassId) (sz : Nat) (S E : Ss) : Met l yMo_restart (kMo_restart :: CW) ({ frames := 0, cells := 0, slots := 0, locals := 0 }) (va_Pc [.ref (ad 0)] (gPre (dC, dI) (mT ca) (MW ad ca S E) sz)) (va_Qi (fun (r : Int32) (u : Ss × Ss) => oRestart S = (r, u.1)) (fun u => gAt (dC, dI) (mT ca) (va_A (MW ad ca S E) sz) (MW ad ca u.1 u.2)) (va_A (MW ad ca S E) sz)) 0 0 (va_A (MW ad ca S E) sz) := by
  refine Met.ofW (cc := bMo_restart) (maxL := 2) (ret := (some .int)) (by decide +kernel) rfl ?_
  intro p e s m args below meth c s₁ B hml hv
  obtain ⟨rfl, hsz, hP, hK, hD0⟩ := hv
  have hx := B.exec
  have hb := B.bytes
  have hr := B.returns
  have hts := atoms_spec (ws := kMo_restart :: CW) B.pre
  have hc : ∀ w ∈ CW, w.before _ s = true := fun w h => hts w (List.mem_cons_of_mem _ h)
  have hown : s.vm.findClass RMo = some m.cls := findClass_of_methodNamed B.named
  have hlocks := B.notSynchronized
  subst hsz
  have hD := hD0.self (sz := s.heap.size)
  generalize hAe : va_A (MW ad ca S E) s.heap.size = A at hD ⊢
  have hA : ∀ q : Nat, s.heap.size ≤ q → A q := fun q h => by rw [← hAe]; exact Or.inr h
  have hS : va_S A s.heap s.heap [] := va_S.rf
  have hl := lv_entry ([.ref (ad 0)]) (n := 2) (Nat.le_of_ble_eq_true rfl)
  rw [lg_entry_eq]
  generalize (lg_sl ([.ref (ad 0)]) ++ List.replicate (2 - (lg_sl ([.ref (ad 0)])).length) Slot.unset).toArray = ls at hl ⊢
  have hl : lv_has ls 2 [(0, .ref (ad 0))] := hl
  refine lv_aload_n hx hb dMo_restart_0 rfl (lv_at hl 0 rfl) ?_
  refine lv_iconst (v := 0) hx hb dMo_restart_1 (by decide +kernel) ?_
  refine va_put (D := (dC, dI)) (ci := 4) (v := .int 0) (ty := .int) (C := RMo) (T := TMo) (N := 29) hx hb hc inMo tyMo tyMo_ok nmMo hown hK hP hD hS 0 rfl rfl 0 (by decide) (hc _ w561) (fun _ h9 => h9) rfl (by decide +kernel) rfl rfl (Nat.le_of_ble_eq_true rfl) dMo_restart_2 (fun H locs hP hD hS => ?_)
  obtain ⟨E_1, eE_1⟩ : ∃ z9 : Ss, z9 = row E 0 (upd (E 0) 0 0) := ⟨_, rfl⟩
  have hP : va_P (dC, dI) vwCl (MW ad ca S E_1) H := by rw [eE_1]; exact hP
  have hD : va_D A (MW ad ca S E_1) := by rw [eE_1]; exact hD
  refine lv_aload_n hx hb dMo_restart_5 rfl (lv_at hl 0 rfl) ?_
  refine va_get (D := (dC, dI)) (ci := 4) (v := .int (S 0 3)) (C := RMo) (T := TMo) (N := 29) hx hb hc inMo hown hK hP 0 rfl rfl 26 (by decide) (hc _ w587) (fun _ h9 => h9) rfl dMo_restart_6 ?_
  refine lv_istore_n (lv' := [(1, .int (S 0 3)), (0, .ref (ad 0))]) hx hb dMo_restart_9 rfl hl (by decide) rfl (fun ls hl => ?_)
  refine lv_aload_n hx hb dMo_restart_10 rfl (lv_at hl 1 rfl) ?_
  refine lv_iconst (v := 0) hx hb dMo_restart_11 (by decide +kernel) ?_
  refine va_put (D := (dC, dI)) (ci := 4) (v := .int 0) (ty := .boolean) (C := RMo) (T := TMo) (N := 29) hx hb hc inMo tyMo tyMo_ok nmMo hown hK hP hD hS 0 rfl rfl 26 (by decide) (hc _ w587) (fun _ h9 => h9) rfl (by decide +kernel) rfl rfl (Nat.le_of_ble_eq_true rfl) dMo_restart_12 (fun H locs hP hD hS => ?_)
  obtain ⟨S_2, eS_2⟩ : ∃ z9 : Ss, z9 = row S 0 (upd (S 0) 3 0) := ⟨_, rfl⟩
  have hP : va_P (dC, dI) vwCl (MW ad ca S_2 E_1) H := by rw [eS_2]; exact hP
  have hD : va_D A (MW ad ca S_2 E_1) := by rw [eS_2]; exact hD
  refine lv_iload_n hx hb dMo_restart_15 rfl (lv_at hl 0 rfl) ?_
  refine lv_if_eq (tgt := 23) hx hb dMo_restart_16 (by decide) (fun c_2 => ?_) (fun c_2 => ?_)
  · refine lv_iconst (v := 0) hx hb dMo_restart_23 (by decide +kernel) ?_
    exact W.iret (v := 0) hx hb hr (fun t ht hW => ⟨⟨_, (S_2, E_1), rfl, (by (try dsimp only) <;> exact (by rw [eS_2]; unfold oRestart; first | rw [if_pos c_2] | rw [if_neg c_2])), by rw [ht]; exact hP, va_K.moved hW.alike hK, hD⟩, hS.F ht⟩) hS.2.2 dMo_restart_24
  · refine lv_iconst (v := 1) hx hb dMo_restart_19 (by decide +kernel) ?_
    refine lv_goto (tgt := 24) hx hb dMo_restart_20 (by decide) ?_
    exact W.iret (v := 1) hx hb hr (fun t ht hW => ⟨⟨_, (S_2, E_1), rfl, (by (try dsimp only) <;> exact (by rw [eS_2]; unfold oRestart; first | rw [if_pos c_2] | rw [if_neg c_2])), by rw [ht]; exact hP, va_K.moved hW.alike hK, hD⟩, hS.F ht⟩) hS.2.2 dMo_restart_24

set_option maxHeartbeats 4000000 in
set_option maxRecDepth 100000 in
theorem cMo_download (l : Launch) (dC : Nat → ClassId) (dI : Nat → Nat → Nat) (ad : Nat → Nat) (ca : Nat → ClassId) (sz : Nat) (S E : Ss) : Met l yMo_download (kMo_download :: CW) ({ frames := 0, cells := 0, slots := 0, locals := 0 }) (va_Pc [.ref (ad 0)] (gPre (dC, dI) (mT ca) (MW ad ca S E) sz)) (va_Qi (fun (r : Int32) (u : Ss × Ss) => oDown S = (r, u.1)) (fun u => gAt (dC, dI) (mT ca) (va_A (MW ad ca S E) sz) (MW ad ca u.1 u.2)) (va_A (MW ad ca S E) sz)) 0 0 (va_A (MW ad ca S E) sz) := by
  refine Met.ofW (cc := bMo_download) (maxL := 3) (ret := (some .int)) (by decide +kernel) rfl ?_
  intro p e s m args below meth c s₁ B hml hv
  obtain ⟨rfl, hsz, hP, hK, hD0⟩ := hv
  have hx := B.exec
  have hb := B.bytes
  have hr := B.returns
  have hts := atoms_spec (ws := kMo_download :: CW) B.pre
  have hc : ∀ w ∈ CW, w.before _ s = true := fun w h => hts w (List.mem_cons_of_mem _ h)
  have hown : s.vm.findClass RMo = some m.cls := findClass_of_methodNamed B.named
  have hlocks := B.notSynchronized
  subst hsz
  have hD := hD0.self (sz := s.heap.size)
  generalize hAe : va_A (MW ad ca S E) s.heap.size = A at hD ⊢
  have hA : ∀ q : Nat, s.heap.size ≤ q → A q := fun q h => by rw [← hAe]; exact Or.inr h
  have hS : va_S A s.heap s.heap [] := va_S.rf
  have hl := lv_entry ([.ref (ad 0)]) (n := 3) (Nat.le_of_ble_eq_true rfl)
  rw [lg_entry_eq]
  generalize (lg_sl ([.ref (ad 0)]) ++ List.replicate (3 - (lg_sl ([.ref (ad 0)])).length) Slot.unset).toArray = ls at hl ⊢
  have hl : lv_has ls 3 [(0, .ref (ad 0))] := hl
  refine lv_aload_n hx hb dMo_download_0 rfl (lv_at hl 0 rfl) ?_
  refine lv_iconst (v := 0) hx hb dMo_download_1 (by decide +kernel) ?_
  refine va_put (D := (dC, dI)) (ci := 4) (v := .int 0) (ty := .int) (C := RMo) (T := TMo) (N := 29) hx hb hc inMo tyMo tyMo_ok nmMo hown hK hP hD hS 0 rfl rfl 0 (by decide) (hc _ w561) (fun _ h9 => h9) rfl (by decide +kernel) rfl rfl (Nat.le_of_ble_eq_true rfl) dMo_download_2 (fun H locs hP hD hS => ?_)
  obtain ⟨E_1, eE_1⟩ : ∃ z9 : Ss, z9 = row E 0 (upd (E 0) 0 0) := ⟨_, rfl⟩
  have hP : va_P (dC, dI) vwCl (MW ad ca S E_1) H := by rw [eE_1]; exact hP
  have hD : va_D A (MW ad ca S E_1) := by rw [eE_1]; exact hD
  refine lv_iconst (v := 0) hx hb dMo_download_5 (by decide +kernel) ?_
  refine lv_istore_n (lv' := [(1, .int 0), (0, .ref (ad 0))]) hx hb dMo_download_6 rfl hl (by decide) rfl (fun ls hl => ?_)
  refine lv_iconst (v := 0) hx hb dMo_download_7 (by decide +kernel) ?_
  refine lv_istore_n (lv' := [(2, .int 0), (1, .int 0), (0, .ref (ad 0))]) hx hb dMo_download_8 rfl hl (by decide) rfl (fun ls hl => ?_)
  refine g_loop (fun mu9 H locs ls => ∃ (i : Nat), ∃ (S1 : Ss), mu9 = 120 - i ∧ i ≤ 120 ∧ S1 = dw1 S i ∧ va_P (dC, dI) vwCl (MW ad ca S1 E_1) H ∧ va_D A (MW ad ca S1 E_1) ∧ va_S A s.heap H locs ∧ lv_has ls 3 [(0, .ref (ad 0)), (1, .int 0), (2, .int (nI i))]) ?_ _ _ _ _ ⟨0, S, rfl, Nat.zero_le _, (dw1_0 S).symm, hP, hD, hS, lv_sub hl [2, 1, 0] rfl⟩
  clear hP hD hS
  rintro mu9 H locs ls ⟨i, S1, en_9, hi, eS1, hP, hD, hS, hl⟩ ih_9
  refine lv_iload_n hx hb dMo_download_9 rfl (lv_at hl 2 rfl) ?_
  refine lv_bipush (v := 120) hx hb dMo_download_10 (by decide +kernel) ?_
  refine lv_icmp_ge (tgt := 45) hx hb dMo_download_12 (by decide) (fun c_1 => ?_) (fun c_1 => ?_)
  · have p_12 : 120 ≤ i := (nI_leI (a := 120) (b := i) (by omega) (by omega)).mp c_1
    refine lv_iconst (v := 0) hx hb dMo_download_45 (by decide +kernel) ?_
    refine lv_istore_n (lv' := [(2, .int 0), (0, .ref (ad 0)), (1, .int 0)]) hx hb dMo_download_46 rfl hl (by decide) rfl (fun ls hl => ?_)
    refine g_loop (fun mu9 H locs ls => ∃ (i : Nat), ∃ (v : Int32), ∃ (S2 : Ss), mu9 = 12 - i ∧ i ≤ 12 ∧ S2 = row (dw1 S 120) 12 (fillN (dw1 S 120 12) (S 8) i) ∧ v = sumN (S 8) 0 i ∧ va_P (dC, dI) vwCl (MW ad ca S2 E_1) H ∧ va_D A (MW ad ca S2 E_1) ∧ va_S A s.heap H locs ∧ lv_has ls 3 [(0, .ref (ad 0)), (1, .int v), (2, .int (nI i))]) ?_ _ _ _ _ ⟨0, 0, S1, rfl, Nat.zero_le _, (by rw [eS1, show i = 120 by omega]; exact (frow_0 (dw1 S 120) 12 (S 8)).symm), rfl, hP, hD, hS, lv_sub hl [1, 2, 0] rfl⟩
    clear hP hD hS
    rintro mu9 H locs ls ⟨i, v, S2, en_47, hi, eS2, ev, hP, hD, hS, hl⟩ ih_47
    refine lv_iload_n hx hb dMo_download_47 rfl (lv_at hl 2 rfl) ?_
    refine lv_bipush (v := 12) hx hb dMo_download_48 (by decide +kernel) ?_
    refine lv_icmp_ge (tgt := 80) hx hb dMo_download_50 (by decide) (fun c_2 => ?_) (fun c_2 => ?_)
    · have p_50 : 12 ≤ i := (nI_leI (a := 12) (b := i) (by omega) (by omega)).mp c_2
      refine lv_iload_n hx hb dMo_download_80 rfl (lv_at hl 1 rfl) ?_
      exact W.iret (v := v) hx hb hr (fun t ht hW => ⟨⟨_, (S2, E_1), rfl, (by (try dsimp only) <;> exact (by rw [ev, eS2, show i = 12 by omega]; unfold oDown; rw [← sum_fill (S 12) (S 8) 12]; rfl)), by rw [ht]; exact hP, va_K.moved hW.alike hK, hD⟩, hS.F ht⟩) hS.2.2 dMo_download_81
    · have p_50 : i < 12 := by have := mt (nI_leI (a := 12) (b := i) (by omega) (by omega)).mpr c_2; omega
      refine lv_aload_n hx hb dMo_download_53 rfl (lv_at hl 0 rfl) ?_
      refine va_get (D := (dC, dI)) (ci := 4) (v := .ref (ad 20)) (C := RMo) (T := TMo) (N := 29) hx hb hc inMo hown hK hP 0 rfl rfl 21 (by decide) (hc _ w582) (fun _ h9 => h9) rfl dMo_download_54 ?_
      refine lv_iload_n hx hb dMo_download_57 rfl (lv_at hl 2 rfl) ?_
      refine lv_aload_n hx hb dMo_download_58 rfl (lv_at hl 0 rfl) ?_
      refine va_get (D := (dC, dI)) (ci := 4) (v := .ref (ad 16)) (C := RMo) (T := TMo) (N := 29) hx hb hc inMo hown hK hP 0 rfl rfl 17 (by decide) (hc _ w578) (fun _ h9 => h9) rfl dMo_download_59 ?_
      refine lv_iload_n hx hb dMo_download_62 rfl (lv_at hl 2 rfl) ?_
      refine va_iald hx hb hK hP 16 15 rfl rfl (vp_in_nI (by omega) (by decide)) dMo_download_63 ?_
      refine lv_topi (fun v_4 ev_4 => ?_)
      rw [nI_clamp (by omega)] at ev_4
      subst v_4
      refine va_iast hx hb hK hP hD hS 20 19 rfl rfl (vp_in_nI (by omega) (by decide)) dMo_download_64 (fun H locs hP hD hS => ?_)
      rw [nI_clamp (by omega)] at hP hD
      obtain ⟨S_5, eS_5⟩ : ∃ z9 : Ss, z9 = row S2 12 (upd (S2 12) i (S2 8 i)) := ⟨_, rfl⟩
      have hP : va_P (dC, dI) vwCl (MW ad ca S_5 E_1) H := by rw [eS_5]; exact hP
      have hD : va_D A (MW ad ca S_5 E_1) := by rw [eS_5]; exact hD
      refine lv_iload_n hx hb dMo_download_65 rfl (lv_at hl 1 rfl) ?_
      refine lv_aload_n hx hb dMo_download_66 rfl (lv_at hl 0 rfl) ?_
      refine va_get (D := (dC, dI)) (ci := 4) (v := .ref (ad 16)) (C := RMo) (T := TMo) (N := 29) hx hb hc inMo hown hK hP 0 rfl rfl 17 (by decide) (hc _ w578) (fun _ h9 => h9) rfl dMo_download_67 ?_
      refine lv_iload_n hx hb dMo_download_70 rfl (lv_at hl 2 rfl) ?_
      refine va_iald hx hb hK hP 16 15 rfl rfl (vp_in_nI (by omega) (by decide)) dMo_download_71 ?_
      refine lv_topi (fun v_6 ev_6 => ?_)
      rw [nI_clamp (by omega)] at ev_6
      subst v_6
      refine lv_iadd hx hb dMo_download_72 ?_
      refine lv_topi (fun v_7 ev_7 => ?_)
      refine lv_istore_n (lv' := [(1, .int v_7), (0, .ref (ad 0)), (2, .int (nI i))]) hx hb dMo_download_73 rfl hl (by decide) rfl (fun ls hl => ?_)
      obtain ⟨v_8, ev_8⟩ : ∃ y : Int32, y = (nI i) + 1 := ⟨_, rfl⟩
      refine lv_iinc (v := v_8) (lv' := [(2, .int v_8), (1, .int v_7), (0, .ref (ad 0))]) hx hb dMo_download_74 hl (k := 2) rfl (by rw [ev_8]; rfl) (by decide) rfl (fun ls hl => ?_)
      refine lv_goto (tgt := 47) hx hb dMo_download_77 (by decide) ?_
      have gv_8 : v_8 = nI (i + 1) := (by rw [ev_8]; exact nI_1 i)
      clear ev_8
      subst v_8
      exact ih_47 _ _ _ _ (by omega) ⟨(i + 1), v_7, S_5, rfl, (by omega), (by rw [eS_5, eS2]; exact frow_s rfl), (by rw [ev_7, ev, eS_5, eS2]; show _ = sumN (S 8) 0 i + S 8 (0 + i); rw [Nat.zero_add]; rfl), hP, hD, hS, lv_sub hl [2, 1, 0] rfl⟩
  · have p_12 : i < 120 := by have := mt (nI_leI (a := 120) (b := i) (by omega) (by omega)).mpr c_1; omega
    refine lv_aload_n hx hb dMo_download_15 rfl (lv_at hl 0 rfl) ?_
    refine va_get (D := (dC, dI)) (ci := 4) (v := .ref (ad 18)) (C := RMo) (T := TMo) (N := 29) hx hb hc inMo hown hK hP 0 rfl rfl 19 (by decide) (hc _ w580) (fun _ h9 => h9) rfl dMo_download_16 ?_
    refine lv_iload_n hx hb dMo_download_19 rfl (lv_at hl 2 rfl) ?_
    refine lv_aload_n hx hb dMo_download_20 rfl (lv_at hl 0 rfl) ?_
    refine va_get (D := (dC, dI)) (ci := 4) (v := .ref (ad 14)) (C := RMo) (T := TMo) (N := 29) hx hb hc inMo hown hK hP 0 rfl rfl 15 (by decide) (hc _ w576) (fun _ h9 => h9) rfl dMo_download_21 ?_
    refine lv_iload_n hx hb dMo_download_24 rfl (lv_at hl 2 rfl) ?_
    refine va_iald hx hb hK hP 14 13 rfl rfl (vp_in_nI (by omega) (by decide)) dMo_download_25 ?_
    refine lv_topi (fun v_9 ev_9 => ?_)
    rw [nI_clamp (by omega)] at ev_9
    subst v_9
    refine va_iast hx hb hK hP hD hS 18 17 rfl rfl (vp_in_nI (by omega) (by decide)) dMo_download_26 (fun H locs hP hD hS => ?_)
    rw [nI_clamp (by omega)] at hP hD
    obtain ⟨S_10, eS_10⟩ : ∃ z9 : Ss, z9 = row S1 10 (upd (S1 10) i (S1 6 i)) := ⟨_, rfl⟩
    have hP : va_P (dC, dI) vwCl (MW ad ca S_10 E_1) H := by rw [eS_10]; exact hP
    have hD : va_D A (MW ad ca S_10 E_1) := by rw [eS_10]; exact hD
    refine lv_aload_n hx hb dMo_download_27 rfl (lv_at hl 0 rfl) ?_
    refine va_get (D := (dC, dI)) (ci := 4) (v := .ref (ad 19)) (C := RMo) (T := TMo) (N := 29) hx hb hc inMo hown hK hP 0 rfl rfl 20 (by decide) (hc _ w581) (fun _ h9 => h9) rfl dMo_download_28 ?_
    refine lv_iload_n hx hb dMo_download_31 rfl (lv_at hl 2 rfl) ?_
    refine lv_aload_n hx hb dMo_download_32 rfl (lv_at hl 0 rfl) ?_
    refine va_get (D := (dC, dI)) (ci := 4) (v := .ref (ad 15)) (C := RMo) (T := TMo) (N := 29) hx hb hc inMo hown hK hP 0 rfl rfl 16 (by decide) (hc _ w577) (fun _ h9 => h9) rfl dMo_download_33 ?_
    refine lv_iload_n hx hb dMo_download_36 rfl (lv_at hl 2 rfl) ?_
    refine va_iald hx hb hK hP 15 14 rfl rfl (vp_in_nI (by omega) (by decide)) dMo_download_37 ?_
    refine lv_topi (fun v_11 ev_11 => ?_)
    rw [nI_clamp (by omega)] at ev_11
    subst v_11
    refine va_iast hx hb hK hP hD hS 19 18 rfl rfl (vp_in_nI (by omega) (by decide)) dMo_download_38 (fun H locs hP hD hS => ?_)
    rw [nI_clamp (by omega)] at hP hD
    obtain ⟨S_12, eS_12⟩ : ∃ z9 : Ss, z9 = row S_10 11 (upd (S_10 11) i (S_10 7 i)) := ⟨_, rfl⟩
    have hP : va_P (dC, dI) vwCl (MW ad ca S_12 E_1) H := by rw [eS_12]; exact hP
    have hD : va_D A (MW ad ca S_12 E_1) := by rw [eS_12]; exact hD
    obtain ⟨v_13, ev_13⟩ : ∃ y : Int32, y = (nI i) + 1 := ⟨_, rfl⟩
    refine lv_iinc (v := v_13) (lv' := [(2, .int v_13), (0, .ref (ad 0)), (1, .int 0)]) hx hb dMo_download_39 hl (k := 2) rfl (by rw [ev_13]; rfl) (by decide) rfl (fun ls hl => ?_)
    refine lv_goto (tgt := 9) hx hb dMo_download_42 (by decide) ?_
    have gv_13 : v_13 = nI (i + 1) := (by rw [ev_13]; exact nI_1 i)
    clear ev_13
    subst v_13
    exact ih_9 _ _ _ _ (by omega) ⟨(i + 1), S_12, rfl, (by omega), (by rw [eS_12, eS_10, eS1]; exact dw1_s S i), hP, hD, hS, lv_sub hl [1, 2, 0] rfl⟩

set_option maxHeartbeats 4000000 in
set_option maxRecDepth 100000 in
theorem cMo_fail (l : Launch) (dC : Nat → ClassId) (dI : Nat → Nat → Nat) (ad : Nat → Nat) (ca : Nat → ClassId) (sz : Nat) (S E : Ss) : Met l yMo_fail (kMo_fail :: CW) ({ frames := 0, cells := 0, slots := 0, locals := 0 }) (va_Pc [.ref (ad 0)] (gPre (dC, dI) (mT ca) (MW ad ca S E) sz)) (va_Qi (fun (r : Int32) (u : Ss × Ss) => oFail S = (r, u.1)) (fun u => gAt (dC, dI) (mT ca) (va_A (MW ad ca S E) sz) (MW ad ca u.1 u.2)) (va_A (MW ad ca S E) sz)) 0 0 (va_A (MW ad ca S E) sz) := by
  refine Met.ofW (cc := bMo_fail) (maxL := 3) (ret := (some .int)) (by decide +kernel) rfl ?_
  intro p e s m args below meth c s₁ B hml hv
  obtain ⟨rfl, hsz, hP, hK, hD0⟩ := hv
  have hx := B.exec
  have hb := B.bytes
  have hr := B.returns
  have hts := atoms_spec (ws := kMo_fail :: CW) B.pre
  have hc : ∀ w ∈ CW, w.before _ s = true := fun w h => hts w (List.mem_cons_of_mem _ h)
  have hown : s.vm.findClass RMo = some m.cls := findClass_of_methodNamed B.named
  have hlocks := B.notSynchronized
  subst hsz
  have hD := hD0.self (sz := s.heap.size)
  generalize hAe : va_A (MW ad ca S E) s.heap.size = A at hD ⊢
  have hA : ∀ q : Nat, s.heap.size ≤ q → A q := fun q h => by rw [← hAe]; exact Or.inr h
  have hS : va_S A s.heap s.heap [] := va_S.rf
  have hl := lv_entry ([.ref (ad 0)]) (n := 3) (Nat.le_of_ble_eq_true rfl)
  rw [lg_entry_eq]
  generalize (lg_sl ([.ref (ad 0)]) ++ List.replicate (3 - (lg_sl ([.ref (ad 0)])).length) Slot.unset).toArray = ls at hl ⊢
  have hl : lv_has ls 3 [(0, .ref (ad 0))] := hl
  refine lv_aload_n hx hb dMo_fail_0 rfl (lv_at hl 0 rfl) ?_
  refine lv_iconst (v := 0) hx hb dMo_fail_1 (by decide +kernel) ?_
  refine va_put (D := (dC, dI)) (ci := 4) (v := .int 0) (ty := .int) (C := RMo) (T := TMo) (N := 29) hx hb hc inMo tyMo tyMo_ok nmMo hown hK hP hD hS 0 rfl rfl 0 (by decide) (hc _ w561) (fun _ h9 => h9) rfl (by decide +kernel) rfl rfl (Nat.le_of_ble_eq_true rfl) dMo_fail_2 (fun H locs hP hD hS => ?_)
  obtain ⟨E_1, eE_1⟩ : ∃ z9 : Ss, z9 = row E 0 (upd (E 0) 0 0) := ⟨_, rfl⟩
  have hP : va_P (dC, dI) vwCl (MW ad ca S E_1) H := by rw [eE_1]; exact hP
  have hD : va_D A (MW ad ca S E_1) := by rw [eE_1]; exact hD
  refine lv_iconst (v := 0) hx hb dMo_fail_5 (by decide +kernel) ?_
  refine lv_istore_n (lv' := [(1, .int 0), (0, .ref (ad 0))]) hx hb dMo_fail_6 rfl hl (by decide) rfl (fun ls hl => ?_)
  refine lv_iconst (v := 0) hx hb dMo_fail_7 (by decide +kernel) ?_
  refine lv_istore_n (lv' := [(2, .int 0), (1, .int 0), (0, .ref (ad 0))]) hx hb dMo_fail_8 rfl hl (by decide) rfl (fun ls hl => ?_)
  refine g_loop (fun mu9 H locs ls => ∃ (i : Nat), ∃ (S1 : Ss), mu9 = 24 - i ∧ i ≤ 24 ∧ S1 = row S 1 (fillN (S 1) (fun _ => 0) i) ∧ va_P (dC, dI) vwCl (MW ad ca S1 E_1) H ∧ va_D A (MW ad ca S1 E_1) ∧ va_S A s.heap H locs ∧ lv_has ls 3 [(0, .ref (ad 0)), (1, .int 0), (2, .int (nI i))]) ?_ _ _ _ _ ⟨0, S, rfl, Nat.zero_le _, (frow_0 S 1 _).symm, hP, hD, hS, lv_sub hl [2, 1, 0] rfl⟩
  clear hP hD hS
  rintro mu9 H locs ls ⟨i, S1, en_9, hi, eS1, hP, hD, hS, hl⟩ ih_9
  refine lv_iload_n hx hb dMo_fail_9 rfl (lv_at hl 2 rfl) ?_
  refine lv_bipush (v := 24) hx hb dMo_fail_10 (by decide +kernel) ?_
  refine lv_icmp_ge (tgt := 28) hx hb dMo_fail_12 (by decide) (fun c_1 => ?_) (fun c_1 => ?_)
  · have p_12 : 24 ≤ i := (nI_leI (a := 24) (b := i) (by omega) (by omega)).mp c_1
    refine lv_bipush (v := 24) hx hb dMo_fail_28 (by decide +kernel) ?_
    refine lv_istore_n (lv' := [(2, .int 24), (0, .ref (ad 0)), (1, .int 0)]) hx hb dMo_fail_30 rfl hl (by decide) rfl (fun ls hl => ?_)
    refine g_loop (fun mu9 H locs ls => ∃ (i : Nat), ∃ (v : Int32), ∃ (S2 : Ss), mu9 = 8 - i ∧ i ≤ 8 ∧ S2 = (row S 1 (fillN (S 1) (fun _ => 0) 24)) ∧ v = sumN ((row S 1 (fillN (S 1) (fun _ => 0) 24)) 1) 24 i ∧ va_P (dC, dI) vwCl (MW ad ca S2 E_1) H ∧ va_D A (MW ad ca S2 E_1) ∧ va_S A s.heap H locs ∧ lv_has ls 3 [(0, .ref (ad 0)), (1, .int v), (2, .int (nI (24 + i)))]) ?_ _ _ _ _ ⟨0, 0, S1, rfl, Nat.zero_le _, (by rw [eS1, show i = 24 by omega]), rfl, hP, hD, hS, lv_sub hl [1, 2, 0] rfl⟩
    clear hP hD hS
    rintro mu9 H locs ls ⟨i, v, S2, en_31, hi, eS2, ev, hP, hD, hS, hl⟩ ih_31
    refine lv_iload_n hx hb dMo_fail_31 rfl (lv_at hl 2 rfl) ?_
    refine lv_bipush (v := 32) hx hb dMo_fail_32 (by decide +kernel) ?_
    refine lv_icmp_ge (tgt := 52) hx hb dMo_fail_34 (by decide) (fun c_2 => ?_) (fun c_2 => ?_)
    · have p_34 : 32 ≤ (24 + i) := (nI_leI (a := 32) (b := (24 + i)) (by omega) (by omega)).mp c_2
      refine lv_iconst (v := 0) hx hb dMo_fail_52 (by decide +kernel) ?_
      refine lv_istore_n (lv' := [(2, .int 0), (0, .ref (ad 0)), (1, .int v)]) hx hb dMo_fail_53 rfl hl (by decide) rfl (fun ls hl => ?_)
      refine g_loop (fun mu9 H locs ls => ∃ (i : Nat), ∃ (S3 : Ss), mu9 = 8 - i ∧ i ≤ 8 ∧ S3 = row (row S 1 (fillN (S 1) (fun _ => 0) 24)) 4 (fillN ((row S 1 (fillN (S 1) (fun _ => 0) 24)) 4) (fun _ => 0) i) ∧ v = sumN ((row S 1 (fillN (S 1) (fun _ => 0) 24)) 1) 24 8 ∧ va_P (dC, dI) vwCl (MW ad ca S3 E_1) H ∧ va_D A (MW ad ca S3 E_1) ∧ va_S A s.heap H locs ∧ lv_has ls 3 [(0, .ref (ad 0)), (1, .int v), (2, .int (nI i))]) ?_ _ _ _ _ ⟨0, S2, rfl, Nat.zero_le _, (by rw [eS2]; exact (frow_0 _ 4 _).symm), (by rw [ev, show i = 8 by omega]), hP, hD, hS, lv_sub hl [1, 2, 0] rfl⟩
      clear hP hD hS
      rintro mu9 H locs ls ⟨i, S3, en_54, hi, eS3, ev8, hP, hD, hS, hl⟩ ih_54
      refine lv_iload_n hx hb dMo_fail_54 rfl (lv_at hl 2 rfl) ?_
      refine lv_bipush (v := 8) hx hb dMo_fail_55 (by decide +kernel) ?_
      refine lv_icmp_ge (tgt := 73) hx hb dMo_fail_57 (by decide) (fun c_3 => ?_) (fun c_3 => ?_)
      · have p_57 : 8 ≤ i := (nI_leI (a := 8) (b := i) (by omega) (by omega)).mp c_3
        refine lv_iconst (v := 0) hx hb dMo_fail_73 (by decide +kernel) ?_
        refine lv_istore_n (lv' := [(2, .int 0), (0, .ref (ad 0)), (1, .int v)]) hx hb dMo_fail_74 rfl hl (by decide) rfl (fun ls hl => ?_)
        refine g_loop (fun mu9 H locs ls => ∃ (i : Nat), ∃ (S4 : Ss), mu9 = 10 - i ∧ i ≤ 10 ∧ S4 = lpB (row (row S 1 (fillN (S 1) (fun _ => 0) 24)) 4 (fillN ((row S 1 (fillN (S 1) (fun _ => 0) 24)) 4) (fun _ => 0) 8)) i ∧ va_P (dC, dI) vwCl (MW ad ca S4 E_1) H ∧ va_D A (MW ad ca S4 E_1) ∧ va_S A s.heap H locs ∧ lv_has ls 3 [(0, .ref (ad 0)), (1, .int v), (2, .int (nI i))]) ?_ _ _ _ _ ⟨0, S3, rfl, Nat.zero_le _, (by rw [eS3, show i = 8 by omega]; exact (lpB_0 _).symm), hP, hD, hS, lv_sub hl [1, 2, 0] rfl⟩
        clear hP hD hS
        rintro mu9 H locs ls ⟨i, S4, en_75, hi, eS4, hP, hD, hS, hl⟩ ih_75
        refine lv_iload_n hx hb dMo_fail_75 rfl (lv_at hl 2 rfl) ?_
        refine lv_bipush (v := 10) hx hb dMo_fail_76 (by decide +kernel) ?_
        refine lv_icmp_ge (tgt := 108) hx hb dMo_fail_78 (by decide) (fun c_4 => ?_) (fun c_4 => ?_)
        · have p_78 : 10 ≤ i := (nI_leI (a := 10) (b := i) (by omega) (by omega)).mp c_4
          refine lv_aload_n hx hb dMo_fail_108 rfl (lv_at hl 0 rfl) ?_
          refine lv_iconst (v := 0) hx hb dMo_fail_109 (by decide +kernel) ?_
          refine va_put (D := (dC, dI)) (ci := 4) (v := .int 0) (ty := .boolean) (C := RMo) (T := TMo) (N := 29) hx hb hc inMo tyMo tyMo_ok nmMo hown hK hP hD hS 0 rfl rfl 26 (by decide) (hc _ w587) (fun _ h9 => h9) rfl (by decide +kernel) rfl rfl (Nat.le_of_ble_eq_true rfl) dMo_fail_110 (fun H locs hP hD hS => ?_)
          obtain ⟨S_6, eS_6⟩ : ∃ z9 : Ss, z9 = row S4 0 (upd (S4 0) 3 0) := ⟨_, rfl⟩
          have hP : va_P (dC, dI) vwCl (MW ad ca S_6 E_1) H := by rw [eS_6]; exact hP
          have hD : va_D A (MW ad ca S_6 E_1) := by rw [eS_6]; exact hD
          refine lv_iload_n hx hb dMo_fail_113 rfl (lv_at hl 1 rfl) ?_
          exact W.iret (v := v) hx hb hr (fun t ht hW => ⟨⟨_, (S_6, E_1), rfl, (by (try dsimp only) <;> exact (by rw [ev8, eS_6, eS4, show i = 10 by omega]; rfl)), by rw [ht]; exact hP, va_K.moved hW.alike hK, hD⟩, hS.F ht⟩) hS.2.2 dMo_fail_114
        · have p_78 : i < 10 := by have := mt (nI_leI (a := 10) (b := i) (by omega) (by omega)).mpr c_4; omega
          refine lv_aload_n hx hb dMo_fail_81 rfl (lv_at hl 0 rfl) ?_
          refine va_get (D := (dC, dI)) (ci := 4) (v := .ref (ad 11)) (C := RMo) (T := TMo) (N := 29) hx hb hc inMo hown hK hP 0 rfl rfl 11 (by decide) (hc _ w572) (fun _ h9 => h9) rfl dMo_fail_82 ?_
          refine lv_iload_n hx hb dMo_fail_85 rfl (lv_at hl 2 rfl) ?_
          refine lv_iconst (v := 0) hx hb dMo_fail_86 (by decide +kernel) ?_
          refine va_iast hx hb hK hP hD hS 11 10 rfl rfl (vp_in_nI (by omega) (by decide)) dMo_fail_87 (fun H locs hP hD hS => ?_)
          rw [nI_clamp (by omega)] at hP hD
          obtain ⟨S_7, eS_7⟩ : ∃ z9 : Ss, z9 = row S4 19 (upd (S4 19) i 0) := ⟨_, rfl⟩
          have hP : va_P (dC, dI) vwCl (MW ad ca S_7 E_1) H := by rw [eS_7]; exact hP
          have hD : va_D A (MW ad ca S_7 E_1) := by rw [eS_7]; exact hD
          refine lv_aload_n hx hb dMo_fail_88 rfl (lv_at hl 0 rfl) ?_
          refine va_get (D := (dC, dI)) (ci := 4) (v := .ref (ad 12)) (C := RMo) (T := TMo) (N := 29) hx hb hc inMo hown hK hP 0 rfl rfl 12 (by decide) (hc _ w573) (fun _ h9 => h9) rfl dMo_fail_89 ?_
          refine lv_iload_n hx hb dMo_fail_92 rfl (lv_at hl 2 rfl) ?_
          refine lv_iconst (v := 0) hx hb dMo_fail_93 (by decide +kernel) ?_
          refine va_iast hx hb hK hP hD hS 12 11 rfl rfl (vp_in_nI (by omega) (by decide)) dMo_fail_94 (fun H locs hP hD hS => ?_)
          rw [nI_clamp (by omega)] at hP hD
          obtain ⟨S_8, eS_8⟩ : ∃ z9 : Ss, z9 = row S_7 20 (upd (S_7 20) i 0) := ⟨_, rfl⟩
          have hP : va_P (dC, dI) vwCl (MW ad ca S_8 E_1) H := by rw [eS_8]; exact hP
          have hD : va_D A (MW ad ca S_8 E_1) := by rw [eS_8]; exact hD
          refine lv_aload_n hx hb dMo_fail_95 rfl (lv_at hl 0 rfl) ?_
          refine va_get (D := (dC, dI)) (ci := 4) (v := .ref (ad 13)) (C := RMo) (T := TMo) (N := 29) hx hb hc inMo hown hK hP 0 rfl rfl 13 (by decide) (hc _ w574) (fun _ h9 => h9) rfl dMo_fail_96 ?_
          refine lv_iload_n hx hb dMo_fail_99 rfl (lv_at hl 2 rfl) ?_
          refine lv_iconst (v := 0) hx hb dMo_fail_100 (by decide +kernel) ?_
          refine va_iast hx hb hK hP hD hS 13 12 rfl rfl (vp_in_nI (by omega) (by decide)) dMo_fail_101 (fun H locs hP hD hS => ?_)
          rw [nI_clamp (by omega)] at hP hD
          obtain ⟨S_9, eS_9⟩ : ∃ z9 : Ss, z9 = row S_8 21 (upd (S_8 21) i 0) := ⟨_, rfl⟩
          have hP : va_P (dC, dI) vwCl (MW ad ca S_9 E_1) H := by rw [eS_9]; exact hP
          have hD : va_D A (MW ad ca S_9 E_1) := by rw [eS_9]; exact hD
          obtain ⟨v_10, ev_10⟩ : ∃ y : Int32, y = (nI i) + 1 := ⟨_, rfl⟩
          refine lv_iinc (v := v_10) (lv' := [(2, .int v_10), (0, .ref (ad 0)), (1, .int v)]) hx hb dMo_fail_102 hl (k := 2) rfl (by rw [ev_10]; rfl) (by decide) rfl (fun ls hl => ?_)
          refine lv_goto (tgt := 75) hx hb dMo_fail_105 (by decide) ?_
          have gv_10 : v_10 = nI (i + 1) := (by rw [ev_10]; exact nI_1 i)
          clear ev_10
          subst v_10
          exact ih_75 _ _ _ _ (by omega) ⟨(i + 1), S_9, rfl, (by omega), (by rw [eS_9, eS_8, eS_7, eS4]; exact lpB_s _ i), hP, hD, hS, lv_sub hl [1, 2, 0] rfl⟩
      · have p_57 : i < 8 := by have := mt (nI_leI (a := 8) (b := i) (by omega) (by omega)).mpr c_3; omega
        refine lv_aload_n hx hb dMo_fail_60 rfl (lv_at hl 0 rfl) ?_
        refine va_get (D := (dC, dI)) (ci := 4) (v := .ref (ad 4)) (C := RMo) (T := TMo) (N := 29) hx hb hc inMo hown hK hP 0 rfl rfl 4 (by decide) (hc _ w565) (fun _ h9 => h9) rfl dMo_fail_61 ?_
        refine lv_iload_n hx hb dMo_fail_64 rfl (lv_at hl 2 rfl) ?_
        refine lv_iconst (v := 0) hx hb dMo_fail_65 (by decide +kernel) ?_
        refine va_iast hx hb hK hP hD hS 4 3 rfl rfl (vp_in_nI (by omega) (by decide)) dMo_fail_66 (fun H locs hP hD hS => ?_)
        rw [nI_clamp (by omega)] at hP hD
        obtain ⟨S_11, eS_11⟩ : ∃ z9 : Ss, z9 = row S3 4 (upd (S3 4) i 0) := ⟨_, rfl⟩
        have hP : va_P (dC, dI) vwCl (MW ad ca S_11 E_1) H := by rw [eS_11]; exact hP
        have hD : va_D A (MW ad ca S_11 E_1) := by rw [eS_11]; exact hD
        obtain ⟨v_12, ev_12⟩ : ∃ y : Int32, y = (nI i) + 1 := ⟨_, rfl⟩
        refine lv_iinc (v := v_12) (lv' := [(2, .int v_12), (0, .ref (ad 0)), (1, .int v)]) hx hb dMo_fail_67 hl (k := 2) rfl (by rw [ev_12]; rfl) (by decide) rfl (fun ls hl => ?_)
        refine lv_goto (tgt := 54) hx hb dMo_fail_70 (by decide) ?_
        have gv_12 : v_12 = nI (i + 1) := (by rw [ev_12]; exact nI_1 i)
        clear ev_12
        subst v_12
        exact ih_54 _ _ _ _ (by omega) ⟨(i + 1), S_11, rfl, (by omega), (by rw [eS_11, eS3]; exact frow_s rfl), ev8, hP, hD, hS, lv_sub hl [1, 2, 0] rfl⟩
    · have p_34 : (24 + i) < 32 := by have := mt (nI_leI (a := 32) (b := (24 + i)) (by omega) (by omega)).mpr c_2; omega
      refine lv_iload_n hx hb dMo_fail_37 rfl (lv_at hl 1 rfl) ?_
      refine lv_aload_n hx hb dMo_fail_38 rfl (lv_at hl 0 rfl) ?_
      refine va_get (D := (dC, dI)) (ci := 4) (v := .ref (ad 1)) (C := RMo) (T := TMo) (N := 29) hx hb hc inMo hown hK hP 0 rfl rfl 1 (by decide) (hc _ w562) (fun _ h9 => h9) rfl dMo_fail_39 ?_
      refine lv_iload_n hx hb dMo_fail_42 rfl (lv_at hl 2 rfl) ?_
      refine va_iald hx hb hK hP 1 0 rfl rfl (vp_in_nI (by omega) (by decide)) dMo_fail_43 ?_
      refine lv_topi (fun v_13 ev_13 => ?_)
      rw [nI_clamp (by omega)] at ev_13
      subst v_13
      refine lv_iadd hx hb dMo_fail_44 ?_
      refine lv_topi (fun v_14 ev_14 => ?_)
      refine lv_istore_n (lv' := [(1, .int v_14), (0, .ref (ad 0)), (2, .int (nI (24 + i)))]) hx hb dMo_fail_45 rfl hl (by decide) rfl (fun ls hl => ?_)
      obtain ⟨v_15, ev_15⟩ : ∃ y : Int32, y = (nI (24 + i)) + 1 := ⟨_, rfl⟩
      refine lv_iinc (v := v_15) (lv' := [(2, .int v_15), (1, .int v_14), (0, .ref (ad 0))]) hx hb dMo_fail_46 hl (k := 2) rfl (by rw [ev_15]; rfl) (by decide) rfl (fun ls hl => ?_)
      refine lv_goto (tgt := 31) hx hb dMo_fail_49 (by decide) ?_
      have gv_15 : v_15 = nI (24 + (i + 1)) := (by rw [ev_15]; exact nI_1 (24 + i))
      clear ev_15
      subst v_15
      exact ih_31 _ _ _ _ (by omega) ⟨(i + 1), v_14, S2, rfl, (by omega), eS2, (by rw [ev_14, ev, eS2]; rfl), hP, hD, hS, lv_sub hl [2, 1, 0] rfl⟩
  · have p_12 : i < 24 := by have := mt (nI_leI (a := 24) (b := i) (by omega) (by omega)).mpr c_1; omega
    refine lv_aload_n hx hb dMo_fail_15 rfl (lv_at hl 0 rfl) ?_
    refine va_get (D := (dC, dI)) (ci := 4) (v := .ref (ad 1)) (C := RMo) (T := TMo) (N := 29) hx hb hc inMo hown hK hP 0 rfl rfl 1 (by decide) (hc _ w562) (fun _ h9 => h9) rfl dMo_fail_16 ?_
    refine lv_iload_n hx hb dMo_fail_19 rfl (lv_at hl 2 rfl) ?_
    refine lv_iconst (v := 0) hx hb dMo_fail_20 (by decide +kernel) ?_
    refine va_iast hx hb hK hP hD hS 1 0 rfl rfl (vp_in_nI (by omega) (by decide)) dMo_fail_21 (fun H locs hP hD hS => ?_)
    rw [nI_clamp (by omega)] at hP hD
    obtain ⟨S_16, eS_16⟩ : ∃ z9 : Ss, z9 = row S1 1 (upd (S1 1) i 0) := ⟨_, rfl⟩
    have hP : va_P (dC, dI) vwCl (MW ad ca S_16 E_1) H := by rw [eS_16]; exact hP
    have hD : va_D A (MW ad ca S_16 E_1) := by rw [eS_16]; exact hD
    obtain ⟨v_17, ev_17⟩ : ∃ y : Int32, y = (nI i) + 1 := ⟨_, rfl⟩
    refine lv_iinc (v := v_17) (lv' := [(2, .int v_17), (0, .ref (ad 0)), (1, .int 0)]) hx hb dMo_fail_22 hl (k := 2) rfl (by rw [ev_17]; rfl) (by decide) rfl (fun ls hl => ?_)
    refine lv_goto (tgt := 9) hx hb dMo_fail_25 (by decide) ?_
    have gv_17 : v_17 = nI (i + 1) := (by rw [ev_17]; exact nI_1 i)
    clear ev_17
    subst v_17
    exact ih_9 _ _ _ _ (by omega) ⟨(i + 1), S_16, rfl, (by omega), (by rw [eS_16, eS1]; exact frow_s rfl), hP, hD, hS, lv_sub hl [1, 2, 0] rfl⟩

set_option maxHeartbeats 4000000 in
set_option maxRecDepth 100000 in
theorem cMo_count (l : Launch) (dC : Nat → ClassId) (dI : Nat → Nat → Nat) (ad : Nat → Nat) (ca : Nat → ClassId) (sz : Nat) (S E : Ss) (a : Int32) (hF : ∀ i, i < 32 → S 2 i = -1 ∨ b01 (S 2 i)) : Met l yMo_count (kMo_count :: CW) ({ frames := 1, cells := 0, slots := 0, locals := 21 }) (va_Pc [.ref (ad 0), .int a] (gPre (dC, dI) (mT ca) (MW ad ca S E) sz)) (va_Qi (fun (r : Int32) (u : Ss × Ss) => (oCount S a).1 = u.2 0 0 ∧ ((oCount S a).1 = 0 → r = (oCount S a).2.1) ∧ u.1 = (oCount S a).2.2) (fun u => gAt (dC, dI) (mT ca) (va_A (MW ad ca S E) sz) (MW ad ca u.1 u.2)) (va_A (MW ad ca S E) sz)) 0 0 (va_A (MW ad ca S E) sz) := by
  refine Met.ofW (cc := bMo_count) (maxL := 4) (ret := (some .int)) (by decide +kernel) rfl ?_
  intro p e s m args below meth c s₁ B hml hv
  obtain ⟨rfl, hsz, hP, hK, hD0⟩ := hv
  have hx := B.exec
  have hb := B.bytes
  have hr := B.returns
  have hts := atoms_spec (ws := kMo_count :: CW) B.pre
  have hc : ∀ w ∈ CW, w.before _ s = true := fun w h => hts w (List.mem_cons_of_mem _ h)
  have hown : s.vm.findClass RMo = some m.cls := findClass_of_methodNamed B.named
  have hlocks := B.notSynchronized
  subst hsz
  have hD := hD0.self (sz := s.heap.size)
  generalize hAe : va_A (MW ad ca S E) s.heap.size = A at hD ⊢
  have hA : ∀ q : Nat, s.heap.size ≤ q → A q := fun q h => by rw [← hAe]; exact Or.inr h
  have hS : va_S A s.heap s.heap [] := va_S.rf
  have hl := lv_entry ([.ref (ad 0), .int a]) (n := 4) (Nat.le_of_ble_eq_true rfl)
  rw [lg_entry_eq]
  generalize (lg_sl ([.ref (ad 0), .int a]) ++ List.replicate (4 - (lg_sl ([.ref (ad 0), .int a])).length) Slot.unset).toArray = ls at hl ⊢
  have hl : lv_has ls 4 [(0, .ref (ad 0)), (1, .int a)] := hl
  refine lv_aload_n hx hb dMo_count_0 rfl (lv_at hl 0 rfl) ?_
  refine lv_iconst (v := 0) hx hb dMo_count_1 (by decide +kernel) ?_
  refine va_put (D := (dC, dI)) (ci := 4) (v := .int 0) (ty := .int) (C := RMo) (T := TMo) (N := 29) hx hb hc inMo tyMo tyMo_ok nmMo hown hK hP hD hS 0 rfl rfl 0 (by decide) (hc _ w561) (fun _ h9 => h9) rfl (by decide +kernel) rfl rfl (Nat.le_of_ble_eq_true rfl) dMo_count_2 (fun H locs hP hD hS => ?_)
  obtain ⟨E_1, eE_1⟩ : ∃ z9 : Ss, z9 = row E 0 (upd (E 0) 0 0) := ⟨_, rfl⟩
  have hP : va_P (dC, dI) vwCl (MW ad ca S E_1) H := by rw [eE_1]; exact hP
  have hD : va_D A (MW ad ca S E_1) := by rw [eE_1]; exact hD
  refine lv_iconst (v := 0) hx hb dMo_count_5 (by decide +kernel) ?_
  refine lv_istore_n (lv' := [(2, .int 0), (0, .ref (ad 0)), (1, .int a)]) hx hb dMo_count_6 rfl hl (by decide) rfl (fun ls hl => ?_)
  refine lv_iload_n hx hb dMo_count_7 rfl (lv_at hl 2 rfl) ?_
  by_cases w_1 : a = 0
  · refine lv_tableIn (tgt := 48) hx hb dMo_count_8 (by rw [w_1]; decide) (by rw [w_1]; decide) (by rw [w_1]; rfl) (by decide) ?_
    refine lv_aload_n hx hb dMo_count_48 rfl (lv_at hl 1 rfl) ?_
    refine va_get (D := (dC, dI)) (ci := 4) (v := .int (S 0 1)) (C := RMo) (T := TMo) (N := 29) hx hb hc inMo hown hK hP 0 rfl rfl 24 (by decide) (hc _ w585) (fun _ h9 => h9) rfl dMo_count_49 ?_
    exact W.iret (v := (S 0 1)) hx hb hr (fun t ht hW => ⟨⟨_, (S, E_1), rfl, (by (try dsimp only) <;> exact (by have hO : oCount S a = (0, S 0 1, S) := (by unfold oCount; rw [if_pos w_1]); rw [hO]; exact ⟨by rw [eE_1]; rfl, fun _ => rfl, rfl⟩)), by rw [ht]; exact hP, va_K.moved hW.alike hK, hD⟩, hS.F ht⟩) hS.2.2 dMo_count_52
  by_cases w_2 : a = 1
  · refine lv_tableIn (tgt := 53) hx hb dMo_count_8 (by rw [w_2]; decide) (by rw [w_2]; decide) (by rw [w_2]; rfl) (by decide) ?_
    refine lv_aload_n hx hb dMo_count_53 rfl (lv_at hl 1 rfl) ?_
    refine va_get (D := (dC, dI)) (ci := 4) (v := .int (S 0 2)) (C := RMo) (T := TMo) (N := 29) hx hb hc inMo hown hK hP 0 rfl rfl 25 (by decide) (hc _ w586) (fun _ h9 => h9) rfl dMo_count_54 ?_
    exact W.iret (v := (S 0 2)) hx hb hr (fun t ht hW => ⟨⟨_, (S, E_1), rfl, (by (try dsimp only) <;> exact (by have hO : oCount S a = (0, S 0 2, S) := (by unfold oCount; rw [if_neg w_1, if_pos w_2]); rw [hO]; exact ⟨by rw [eE_1]; rfl, fun _ => rfl, rfl⟩)), by rw [ht]; exact hP, va_K.moved hW.alike hK, hD⟩, hS.F ht⟩) hS.2.2 dMo_count_57
  by_cases w_3 : a = 2
  · refine lv_tableIn (tgt := 58) hx hb dMo_count_8 (by rw [w_3]; decide) (by rw [w_3]; decide) (by rw [w_3]; rfl) (by decide) ?_
    refine lv_aload_n hx hb dMo_count_58 rfl (lv_at hl 1 rfl) ?_
    refine va_get (D := (dC, dI)) (ci := 4) (v := .int (S 0 3)) (C := RMo) (T := TMo) (N := 29) hx hb hc inMo hown hK hP 0 rfl rfl 26 (by decide) (hc _ w587) (fun _ h9 => h9) rfl dMo_count_59 ?_
    refine lv_if_eq (tgt := 69) hx hb dMo_count_62 (by decide) (fun c_4 => ?_) (fun c_4 => ?_)
    · refine lv_iconst (v := 0) hx hb dMo_count_69 (by decide +kernel) ?_
      exact W.iret (v := 0) hx hb hr (fun t ht hW => ⟨⟨_, (S, E_1), rfl, (by (try dsimp only) <;> exact (by have hO : oCount S a = (0, 0, S) := (by unfold oCount; rw [if_neg w_1, if_neg w_2, if_pos w_3]; first | rw [if_pos c_4] | rw [if_neg c_4]); rw [hO]; exact ⟨by rw [eE_1]; rfl, fun _ => rfl, rfl⟩)), by rw [ht]; exact hP, va_K.moved hW.alike hK, hD⟩, hS.F ht⟩) hS.2.2 dMo_count_70
    · refine lv_iconst (v := 1) hx hb dMo_count_65 (by decide +kernel) ?_
      refine lv_goto (tgt := 70) hx hb dMo_count_66 (by decide) ?_
      exact W.iret (v := 1) hx hb hr (fun t ht hW => ⟨⟨_, (S, E_1), rfl, (by (try dsimp only) <;> exact (by have hO : oCount S a = (0, 1, S) := (by unfold oCount; rw [if_neg w_1, if_neg w_2, if_pos w_3]; first | rw [if_pos c_4] | rw [if_neg c_4]); rw [hO]; exact ⟨by rw [eE_1]; rfl, fun _ => rfl, rfl⟩)), by rw [ht]; exact hP, va_K.moved hW.alike hK, hD⟩, hS.F ht⟩) hS.2.2 dMo_count_70
  by_cases w_5 : a = 3
  · refine lv_tableIn (tgt := 71) hx hb dMo_count_8 (by rw [w_5]; decide) (by rw [w_5]; decide) (by rw [w_5]; rfl) (by decide) ?_
    refine lv_aload_n hx hb dMo_count_71 rfl (lv_at hl 1 rfl) ?_
    refine va_get (D := (dC, dI)) (ci := 4) (v := .int (S 0 0)) (C := RMo) (T := TMo) (N := 29) hx hb hc inMo hown hK hP 0 rfl rfl 14 (by decide) (hc _ w575) (fun _ h9 => h9) rfl dMo_count_72 ?_
    exact W.iret (v := (S 0 0)) hx hb hr (fun t ht hW => ⟨⟨_, (S, E_1), rfl, (by (try dsimp only) <;> exact (by have hO : oCount S a = (0, S 0 0, S) := (by unfold oCount; rw [if_neg w_1, if_neg w_2, if_neg w_3, if_pos w_5]); rw [hO]; exact ⟨by rw [eE_1]; rfl, fun _ => rfl, rfl⟩)), by rw [ht]; exact hP, va_K.moved hW.alike hK, hD⟩, hS.F ht⟩) hS.2.2 dMo_count_75
  by_cases w_6 : a = 4
  · refine lv_tableIn (tgt := 76) hx hb dMo_count_8 (by rw [w_6]; decide) (by rw [w_6]; decide) (by rw [w_6]; rfl) (by decide) ?_
    refine lv_iconst (v := 0) hx hb dMo_count_76 (by decide +kernel) ?_
    refine lv_istore_n (lv' := [(3, .int 0), (2, .int 0), (0, .ref (ad 0)), (1, .int a)]) hx hb dMo_count_77 rfl hl (by decide) rfl (fun ls hl => ?_)
    refine g_loop (fun mu9 H locs ls => ∃ (i : Nat), ∃ (v : Int32), ∃ (S2 : Ss), mu9 = 12 - i ∧ i ≤ 12 ∧ S2 = S ∧ v = sumN (S 12) 0 i ∧ va_P (dC, dI) vwCl (MW ad ca S2 E_1) H ∧ va_D A (MW ad ca S2 E_1) ∧ va_S A s.heap H locs ∧ lv_has ls 4 [(0, .ref (ad 0)), (1, .int a), (2, .int v), (3, .int (nI i))]) ?_ _ _ _ _ ⟨0, 0, S, rfl, Nat.zero_le _, rfl, rfl, hP, hD, hS, lv_sub hl [2, 3, 1, 0] rfl⟩
    clear hP hD hS
    rintro mu9 H locs ls ⟨i, v, S2, en_78, hi, eS2, ev, hP, hD, hS, hl⟩ ih_78
    refine lv_iload_n hx hb dMo_count_78 rfl (lv_at hl 3 rfl) ?_
    refine lv_bipush (v := 12) hx hb dMo_count_79 (by decide +kernel) ?_
    refine lv_icmp_ge (tgt := 99) hx hb dMo_count_81 (by decide) (fun c_7 => ?_) (fun c_7 => ?_)
    · have p_81 : 12 ≤ i := (nI_leI (a := 12) (b := i) (by omega) (by omega)).mp c_7
      refine lv_iload_n hx hb dMo_count_99 rfl (lv_at hl 2 rfl) ?_
      exact W.iret (v := v) hx hb hr (fun t ht hW => ⟨⟨_, (S2, E_1), rfl, (by (try dsimp only) <;> exact (by have hO : oCount S a = (0, v, S2) := (by unfold oCount; rw [if_neg w_1, if_neg w_2, if_neg w_3, if_neg w_5, if_pos w_6, ev, eS2, show i = 12 by omega]); rw [hO]; exact ⟨by rw [eE_1]; rfl, fun _ => rfl, rfl⟩)), by rw [ht]; exact hP, va_K.moved hW.alike hK, hD⟩, hS.F ht⟩) hS.2.2 dMo_count_100
    · have p_81 : i < 12 := by have := mt (nI_leI (a := 12) (b := i) (by omega) (by omega)).mpr c_7; omega
      refine lv_iload_n hx hb dMo_count_84 rfl (lv_at hl 2 rfl) ?_
      refine lv_aload_n hx hb dMo_count_85 rfl (lv_at hl 0 rfl) ?_
      refine va_get (D := (dC, dI)) (ci := 4) (v := .ref (ad 20)) (C := RMo) (T := TMo) (N := 29) hx hb hc inMo hown hK hP 0 rfl rfl 21 (by decide) (hc _ w582) (fun _ h9 => h9) rfl dMo_count_86 ?_
      refine lv_iload_n hx hb dMo_count_89 rfl (lv_at hl 3 rfl) ?_
      refine va_iald hx hb hK hP 20 19 rfl rfl (vp_in_nI (by omega) (by decide)) dMo_count_90 ?_
      refine lv_topi (fun v_9 ev_9 => ?_)
      rw [nI_clamp (by omega)] at ev_9
      subst v_9
      refine lv_iadd hx hb dMo_count_91 ?_
      refine lv_topi (fun v_10 ev_10 => ?_)
      refine lv_istore_n (lv' := [(2, .int v_10), (0, .ref (ad 0)), (1, .int a), (3, .int (nI i))]) hx hb dMo_count_92 rfl hl (by decide) rfl (fun ls hl => ?_)
      obtain ⟨v_11, ev_11⟩ : ∃ y : Int32, y = (nI i) + 1 := ⟨_, rfl⟩
      refine lv_iinc (v := v_11) (lv' := [(3, .int v_11), (2, .int v_10), (0, .ref (ad 0)), (1, .int a)]) hx hb dMo_count_93 hl (k := 3) rfl (by rw [ev_11]; rfl) (by decide) rfl (fun ls hl => ?_)
      refine lv_goto (tgt := 78) hx hb dMo_count_96 (by decide) ?_
      have gv_11 : v_11 = nI (i + 1) := (by rw [ev_11]; exact nI_1 i)
      clear ev_11
      subst v_11
      exact ih_78 _ _ _ _ (by omega) ⟨(i + 1), v_10, S2, rfl, (by omega), eS2, (by rw [ev_10, ev, eS2]; show _ = sumN (S 12) 0 i + S 12 (0 + i); rw [Nat.zero_add]), hP, hD, hS, lv_sub hl [2, 3, 1, 0] rfl⟩
  by_cases w_11 : a = 5
  · refine lv_tableIn (tgt := 101) hx hb dMo_count_8 (by rw [w_11]; decide) (by rw [w_11]; decide) (by rw [w_11]; rfl) (by decide) ?_
    refine lv_iconst (v := 0) hx hb dMo_count_101 (by decide +kernel) ?_
    refine lv_istore_n (lv' := [(3, .int 0), (2, .int 0), (0, .ref (ad 0)), (1, .int a)]) hx hb dMo_count_102 rfl hl (by decide) rfl (fun ls hl => ?_)
    refine g_loop (fun mu9 H locs ls => ∃ (i : Nat), ∃ (v : Int32), ∃ (S2 : Ss), mu9 = 32 - i ∧ i ≤ 32 ∧ S2 = S ∧ v = cntF (S 2) i ∧ va_P (dC, dI) vwCl (MW ad ca S2 E_1) H ∧ va_D A (MW ad ca S2 E_1) ∧ va_S A s.heap H locs ∧ lv_has ls 4 [(0, .ref (ad 0)), (1, .int a), (2, .int v), (3, .int (nI i))]) ?_ _ _ _ _ ⟨0, 0, S, rfl, Nat.zero_le _, rfl, rfl, hP, hD, hS, lv_sub hl [2, 3, 1, 0] rfl⟩
    clear hP hD hS
    rintro mu9 H locs ls ⟨i, v, S2, en_103, hi, eS2, ev, hP, hD, hS, hl⟩ ih_103
    refine lv_iload_n hx hb dMo_count_103 rfl (lv_at hl 3 rfl) ?_
    refine lv_bipush (v := 32) hx hb dMo_count_104 (by decide +kernel) ?_
    refine lv_icmp_ge (tgt := 127) hx hb dMo_count_106 (by decide) (fun c_12 => ?_) (fun c_12 => ?_)
    · have p_106 : 32 ≤ i := (nI_leI (a := 32) (b := i) (by omega) (by omega)).mp c_12
      refine lv_iload_n hx hb dMo_count_127 rfl (lv_at hl 2 rfl) ?_
      exact W.iret (v := v) hx hb hr (fun t ht hW => ⟨⟨_, (S2, E_1), rfl, (by (try dsimp only) <;> exact (by have hO : oCount S a = (0, v, S2) := (by unfold oCount; rw [if_neg w_1, if_neg w_2, if_neg w_3, if_neg w_5, if_neg w_6, if_pos w_11, ev, eS2, show i = 32 by omega]); rw [hO]; exact ⟨by rw [eE_1]; rfl, fun _ => rfl, rfl⟩)), by rw [ht]; exact hP, va_K.moved hW.alike hK, hD⟩, hS.F ht⟩) hS.2.2 dMo_count_128
    · have p_106 : i < 32 := by have := mt (nI_leI (a := 32) (b := i) (by omega) (by omega)).mpr c_12; omega
      refine lv_aload_n hx hb dMo_count_109 rfl (lv_at hl 0 rfl) ?_
      refine va_get (D := (dC, dI)) (ci := 4) (v := .ref (ad 2)) (C := RMo) (T := TMo) (N := 29) hx hb hc inMo hown hK hP 0 rfl rfl 2 (by decide) (hc _ w563) (fun _ h9 => h9) rfl dMo_count_110 ?_
      refine lv_iload_n hx hb dMo_count_113 rfl (lv_at hl 3 rfl) ?_
      refine va_iald hx hb hK hP 2 1 rfl rfl (vp_in_nI (by omega) (by decide)) dMo_count_114 ?_
      refine lv_topi (fun v_14 ev_14 => ?_)
      rw [nI_clamp (by omega)] at ev_14
      subst v_14
      refine lv_if_lt (tgt := 121) hx hb dMo_count_115 (by decide) (fun c_14 => ?_) (fun c_14 => ?_)
      · obtain ⟨v_16, ev_16⟩ : ∃ y : Int32, y = (nI i) + 1 := ⟨_, rfl⟩
        refine lv_iinc (v := v_16) (lv' := [(3, .int v_16), (0, .ref (ad 0)), (1, .int a), (2, .int v)]) hx hb dMo_count_121 hl (k := 3) rfl (by rw [ev_16]; rfl) (by decide) rfl (fun ls hl => ?_)
        refine lv_goto (tgt := 103) hx hb dMo_count_124 (by decide) ?_
        have gv_16 : v_16 = nI (i + 1) := (by rw [ev_16]; exact nI_1 i)
        clear ev_16
        subst v_16
        exact ih_103 _ _ _ _ (by omega) ⟨(i + 1), v, S2, rfl, (by omega), eS2, (by rw [eS2] at c_14; rw [cntF_ge (hF i (by omega))]; first | rw [if_pos c_14]; exact ev | rw [if_neg c_14, ev, ev]), hP, hD, hS, lv_sub hl [1, 2, 3, 0] rfl⟩
      · obtain ⟨v_17, ev_17⟩ : ∃ y : Int32, y = v + 1 := ⟨_, rfl⟩
        refine lv_iinc (v := v_17) (lv' := [(2, .int v_17), (0, .ref (ad 0)), (1, .int a), (3, .int (nI i))]) hx hb dMo_count_118 hl (k := 2) rfl (by rw [ev_17]; rfl) (by decide) rfl (fun ls hl => ?_)
        obtain ⟨v_18, ev_18⟩ : ∃ y : Int32, y = (nI i) + 1 := ⟨_, rfl⟩
        refine lv_iinc (v := v_18) (lv' := [(3, .int v_18), (2, .int v_17), (0, .ref (ad 0)), (1, .int a)]) hx hb dMo_count_121 hl (k := 3) rfl (by rw [ev_18]; rfl) (by decide) rfl (fun ls hl => ?_)
        refine lv_goto (tgt := 103) hx hb dMo_count_124 (by decide) ?_
        have gv_18 : v_18 = nI (i + 1) := (by rw [ev_18]; exact nI_1 i)
        clear ev_18
        subst v_18
        exact ih_103 _ _ _ _ (by omega) ⟨(i + 1), v_17, S2, rfl, (by omega), eS2, (by rw [eS2] at c_14; rw [cntF_ge (hF i (by omega))]; first | rw [if_pos c_14]; exact ev | rw [if_neg c_14, ev_17, ev]), hP, hD, hS, lv_sub hl [2, 3, 1, 0] rfl⟩
  have iw_1 : (a : Int32).toInt ≠ 0 := fun z => w_1 (Int32.toInt_inj.mp (by rw [z]; rfl))
  have iw_2 : (a : Int32).toInt ≠ 1 := fun z => w_2 (Int32.toInt_inj.mp (by rw [z]; rfl))
  have iw_3 : (a : Int32).toInt ≠ 2 := fun z => w_3 (Int32.toInt_inj.mp (by rw [z]; rfl))
  have iw_5 : (a : Int32).toInt ≠ 3 := fun z => w_5 (Int32.toInt_inj.mp (by rw [z]; rfl))
  have iw_6 : (a : Int32).toInt ≠ 4 := fun z => w_6 (Int32.toInt_inj.mp (by rw [z]; rfl))
  have iw_11 : (a : Int32).toInt ≠ 5 := fun z => w_11 (Int32.toInt_inj.mp (by rw [z]; rfl))
  refine lv_tableOut (tgt := 129) hx hb dMo_count_8 (by omega) (by decide) ?_
  refine lv_aload_n hx hb dMo_count_129 rfl (lv_at hl 1 rfl) ?_
  refine lv_iconst (v := 1) hx hb dMo_count_130 (by decide +kernel) ?_
  refine g_calli (va_runV (As := [.int 1]) (rest := []) ⟨hx, hb, hml, hown, hc⟩ (cMo_raise l dC dI ad ca H.size S E_1 1) (cwV 1 hc (gV w661 w663 s9 w5 qMo_raise) rfl rfl rfl (by decide +kernel) ⟨Nat.le_of_ble_eq_true rfl, Nat.le_of_ble_eq_true rfl⟩) ⟨gPre_blind, va_recv hK hP (ci := 4) (q0 := 0) rfl rfl, (gPre_in hP hK hD)⟩ rfl rfl hl.1 rfl (lv_room (Nat.le_of_ble_eq_true rfl)) dMo_count_131 ⟨Nat.zero_le _, Nat.zero_le _⟩) hD hS hA (fun r_20 u_19 H locs hu_19 hP hD hS => ?_)
  obtain ⟨S_19, E_19⟩ := u_19
  (try dsimp only at hu_19 hP hD)
  obtain ⟨hr9, hS9, hE9⟩ := hu_19
  subst S_19
  exact W.iret (v := r_20) hx hb hr (fun t ht hW => ⟨⟨_, (S, E_19), rfl, (by (try dsimp only) <;> exact (by have hO : oCount S a = (1, 0, S) := (by unfold oCount; rw [if_neg w_1, if_neg w_2, if_neg w_3, if_neg w_5, if_neg w_6, if_neg w_11]); rw [hO]; exact ⟨by rw [hE9]; rfl, fun h => absurd (show (1 : Int32) = 0 from h) (by decide), rfl⟩)), by rw [ht]; exact hP, va_K.moved hW.alike hK, hD⟩, hS.F ht⟩) hS.2.2 dMo_count_134
