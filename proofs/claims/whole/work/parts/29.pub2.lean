set_option maxHeartbeats 4000000 in
set_option maxRecDepth 100000 in
theorem cX_tune (l : Launch) (hl9 : l.stackTraces = false) (dC : Nat → ClassId) (dI : Nat → Nat → Nat) (ad : Nat → Nat) (ca : Nat → ClassId) (sz : Nat) (S : Ss) (a f b : Int32) (m0 : Nat) (hm : m0 ≤ 10) (em : S 0 0 = nI m0) : vx_Met l yX_tune (kX_tune :: CW) ({ frames := 6, cells := 1, slots := 6, locals := 91 }) (va_Pc [.ref (ad 0), .int a, .double (eD f), .double (eD b)] (tPre (dC, dI) (xT ca) (XW ad ca S) sz)) (va_Qd (fun (r : UInt64) (u : Ss) => oTune S a f b = (0, r, u)) (fun u => gAt (dC, dI) (xT ca) (va_A (XW ad ca S) sz) (XW ad ca u)) (va_A (XW ad ca S) sz)) (vx_X (fun _ : Ss => True) (fun E u t => ((E = eN ∧ oTune S a f b = (1, 0, u)) ∨ (E = eU ∧ oTune S a f b = (2, 0, u)) ∨ (E = eA ∧ oTune S a f b = (3, 0, u))) ∧ gAt (dC, dI) (xT ca) (va_A (XW ad ca S) sz) (XW ad ca u) t) (va_A (XW ad ca S) sz)) 1 6 (va_A (XW ad ca S) sz) := by
  refine vx_ofW (cc := bX_tune) (maxL := 9) (ret := (some .double)) (by decide +kernel) rfl ?_
  intro p e s m args below meth c s₁ B hml hex hv
  obtain ⟨rfl, ⟨hsz, hP, hK, hD0⟩, hU, hN⟩ := hv
  have hx := B.exec
  have hb := B.bytes
  have hr := B.returns
  have hts := atoms_spec (ws := kX_tune :: CW) B.pre
  have hc : ∀ w ∈ CW, w.before _ s = true := fun w h => hts w (List.mem_cons_of_mem _ h)
  have hown : s.vm.findClass RX = some m.cls := findClass_of_methodNamed B.named
  have hlocks := B.notSynchronized
  subst hsz
  have hD := hD0.self (sz := s.heap.size)
  generalize hAe : va_A (XW ad ca S) s.heap.size = A at hD hU ⊢
  have hA : ∀ q : Nat, s.heap.size ≤ q → A q := fun q h => by rw [← hAe]; exact Or.inr h
  have hS : va_S A s.heap s.heap [] := va_S.rf
  have hl := lv_entry ([.ref (ad 0), .int a, .double (eD f), .double (eD b)]) (n := 9) (Nat.le_of_ble_eq_true rfl)
  rw [lg_entry_eq]
  generalize (lg_sl ([.ref (ad 0), .int a, .double (eD f), .double (eD b)]) ++ List.replicate (9 - (lg_sl ([.ref (ad 0), .int a, .double (eD f), .double (eD b)])).length) Slot.unset).toArray = ls at hl ⊢
  have hl : lv_has ls 9 [(0, .ref (ad 0)), (1, .int a), (2, .double (eD f)), (4, .double (eD b))] := hl
  refine lv_aload_n hx hb dX_tune_0 rfl (lv_at hl 0 rfl) ?_
  refine lv_iload_n hx hb dX_tune_1 rfl (lv_at hl 1 rfl) ?_
  refine vp_callSi (va_Run.run (va_runV (As := [.int a]) (rest := []) ⟨hx, hb, hml, hown, hc⟩ (cX_isMade l dC dI ad ca s.heap.size S a) (cwV 1 hc (gV w289 w291 s1 w1 qX_isMade) rfl rfl rfl (by decide +kernel) ⟨Nat.le_of_ble_eq_true rfl, Nat.le_of_ble_eq_true rfl⟩) ⟨gPre_blind, va_recv hK hP (ci := 0) (q0 := 0) rfl rfl, (gPre_in hP hK hD)⟩ rfl rfl hl.1 rfl (lv_room (Nat.le_of_ble_eq_true rfl)) dX_tune_2 ⟨Nat.zero_le _, Nat.zero_le _⟩)) (fun r_1 hr_1 => ?_)
  refine lv_if_ne (tgt := 16) hx hb dX_tune_5 (by decide) (fun c_1 => ?_) (fun c_1 => ?_)
  · obtain ⟨j, hj, ej⟩ := wi_made hm (by rw [← em]; exact br_n hr_1 c_1)
    subst ej
    refine lv_aload_n hx hb dX_tune_16 rfl (lv_at hl 0 rfl) ?_
    refine va_get (D := (dC, dI)) (ci := 0) (v := .ref (ad 7)) (C := RX) (T := TX) (N := 8) hx hb hc inX hown hK hP 0 rfl rfl 1 (by decide) (hc _ w112) (fun _ h9 => h9) rfl dX_tune_17 ?_
    refine lv_iload_n hx hb dX_tune_20 rfl (lv_at hl 1 rfl) ?_
    refine va_aldq hx hb hK hP 7 5 rfl rfl (vp_in_nI (by omega) (by decide)) dX_tune_21 ?_
    refine W.eq (g2 := F0 m 22 ls [.ref (ad (18 + j))]) (by rw [xb_at (by omega)]) ?_
    refine lv_astore (lv' := [(6, .ref (ad (18 + j))), (0, .ref (ad 0)), (1, .int (nI j)), (2, .double (eD f)), (4, .double (eD b))]) hx hb dX_tune_22 hl (by decide) rfl (fun ls hl => ?_)
    refine lv_aload hx hb dX_tune_24 (lv_at hl 0 rfl) ?_
    refine va_get (D := (dC, dI)) (ci := 2) (v := .int (S 14 j)) (C := RBl) (T := TBl) (N := 8) hx hb hc inBl hown hK hP (18 + j) (xb_cell (by omega)) rfl 0 (by decide) (hc _ w82) (fun _ h9 => h9) rfl dX_tune_26 ?_
    refine lv_iconst (v := 5) hx hb dX_tune_29 (by decide +kernel) ?_
    refine lv_icmp_ge (tgt := 41) hx hb dX_tune_30 (by decide) (fun c_2 => ?_) (fun c_2 => ?_)
    · refine lv_dload_n hx hb dX_tune_41 rfl (lv_at hl 3 rfl) ?_
      refine vp_callSi (va_Run.run (va_runS (As := [.double (eD f)]) (rest := []) ⟨hx, hb, hml, hown, hc⟩ (cX_isWholeEighths l f) (va_cwS 1 hc (g_S w323 w324 w1 qX_isWholeEighths) rfl rfl rfl (by decide +kernel) ⟨Nat.le_of_ble_eq_true rfl, Nat.le_of_ble_eq_true rfl⟩) ⟨tPre_blind, tPre_in⟩ rfl rfl hl.1 rfl (lv_room (Nat.le_of_ble_eq_true rfl)) dX_tune_42 ⟨Nat.zero_le _, Nat.zero_le _⟩)) (fun r_4 hr_4 => ?_)
      refine lv_if_eq (tgt := 56) hx hb dX_tune_45 (by decide) (fun c_4 => ?_) (fun c_4 => ?_)
      · exact vx_throw0 (rest := []) (cls := eA) (names := nms) (ik := 51) (ic := 53) (mc := 1) (ms := 6) hx hb hl9 hown (by decide +kernel) (by decide +kernel) (hc _ w196) (hc _ w9) (th_hat th_eA hc hN) tg_eA hU.1 hU.2 hS (by rw [hml]; exact hl.1) dX_tune_56 dX_tune_59 dX_tune_60 dX_tune_63 (fun x h => (hex x h).elim) (Nat.le_of_ble_eq_true rfl) (Nat.le_of_ble_eq_true rfl) (Nat.le_of_ble_eq_true rfl) (Nat.le_of_ble_eq_true rfl) hlocks (fun t ha hz hk => ⟨S, trivial, ⟨by (try dsimp only); exact Or.inr (Or.inr ⟨rfl, by unfold oTune; rw [if_neg (fun h => h (br_n hr_1 c_1)), nI_clamp (by omega), if_neg (Int32.not_lt.mpr c_2), if_pos (Or.inl (fun h => br_0 hr_4 c_4 h.1))]⟩), (x_thrown hP hK hD hS ha hz hk).1⟩, (x_thrown hP hK hD hS ha hz hk).2⟩) hS.2.2 (Nat.le_refl _) (Nat.le_refl _)
      · refine lv_dload hx hb dX_tune_48 (lv_at hl 4 rfl) ?_
        refine vp_callSi (va_Run.run (va_runS (As := [.double (eD b)]) (rest := []) ⟨hx, hb, hml, hown, hc⟩ (cX_isWholeEighths l b) (va_cwS 1 hc (g_S w323 w324 w1 qX_isWholeEighths) rfl rfl rfl (by decide +kernel) ⟨Nat.le_of_ble_eq_true rfl, Nat.le_of_ble_eq_true rfl⟩) ⟨tPre_blind, tPre_in⟩ rfl rfl hl.1 rfl (lv_room (Nat.le_of_ble_eq_true rfl)) dX_tune_50 ⟨Nat.zero_le _, Nat.zero_le _⟩)) (fun r_6 hr_6 => ?_)
        refine lv_if_ne (tgt := 64) hx hb dX_tune_53 (by decide) (fun c_6 => ?_) (fun c_6 => ?_)
        · refine lv_aload hx hb dX_tune_64 (lv_at hl 0 rfl) ?_
          refine va_get (D := (dC, dI)) (ci := 2) (v := .int (S 14 j)) (C := RBl) (T := TBl) (N := 8) hx hb hc inBl hown hK hP (18 + j) (xb_cell (by omega)) rfl 0 (by decide) (hc _ w82) (fun _ h9 => h9) rfl dX_tune_66 ?_
          refine lv_bipush (v := 7) hx hb dX_tune_69 (by decide +kernel) ?_
          refine lv_icmp_ne (tgt := 89) hx hb dX_tune_71 (by decide) (fun c_7 => ?_) (fun c_7 => ?_)
          · refine lv_aload hx hb dX_tune_89 (lv_at hl 0 rfl) ?_
            refine va_get (D := (dC, dI)) (ci := 2) (v := .int (S 17 j)) (C := RBl) (T := TBl) (N := 8) hx hb hc inBl hown hK hP (18 + j) (xb_cell (by omega)) rfl 3 (by decide) (hc _ w86) (fun _ h9 => h9) rfl dX_tune_91 ?_
            refine vp_callSd (va_Run.run (va_runS (As := [.int (S 17 j)]) (rest := []) ⟨hx, hb, hml, hown, hc⟩ (cX_numberOf l (S 17 j)) (va_cwS 1 hc (g_S w335 w336 w1 qX_numberOf) rfl rfl rfl (by decide +kernel) ⟨Nat.le_of_ble_eq_true rfl, Nat.le_of_ble_eq_true rfl⟩) ⟨tPre_blind, tPre_in⟩ rfl rfl hl.1 rfl (lv_room (Nat.le_of_ble_eq_true rfl)) dX_tune_94 ⟨Nat.zero_le _, Nat.zero_le _⟩)) (fun r_9 hr_9 => ?_)
            subst r_9
            refine lv_dstore (lv' := [(7, .double (eD (S 17 j))), (6, .ref (ad (18 + j))), (0, .ref (ad 0)), (1, .int (nI j)), (2, .double (eD f)), (4, .double (eD b))]) hx hb dX_tune_97 hl (by decide) rfl (fun ls hl => ?_)
            refine lv_aload hx hb dX_tune_99 (lv_at hl 1 rfl) ?_
            refine lv_dload_n hx hb dX_tune_101 rfl (lv_at hl 4 rfl) ?_
            refine vp_callSi (va_Run.run (va_runS (As := [.double (eD f)]) (rest := [.ref (ad (18 + j))]) ⟨hx, hb, hml, hown, hc⟩ (cX_eighthsAtMost l f) (va_cwS 1 hc (g_S w331 w332 w1 qX_eighthsAtMost) rfl rfl rfl (by decide +kernel) ⟨Nat.le_of_ble_eq_true rfl, Nat.le_of_ble_eq_true rfl⟩) ⟨tPre_blind, tPre_in⟩ rfl rfl hl.1 rfl (lv_room (Nat.le_of_ble_eq_true rfl)) dX_tune_102 ⟨Nat.zero_le _, Nat.zero_le _⟩)) (fun r_10 hr_10 => ?_)
            subst r_10
            refine va_put (D := (dC, dI)) (ci := 2) (v := .int f) (ty := .int) (C := RBl) (T := TBl) (N := 8) hx hb hc inBl tyBl tyBl_ok nmBl hown hK hP hD hS (18 + j) (xb_cell (by omega)) rfl 3 (by decide) (hc _ w86) (fun _ h9 => h9) rfl (by decide +kernel) rfl rfl (Nat.le_of_ble_eq_true rfl) dX_tune_105 (fun H locs hP hD hS => ?_)
            obtain ⟨S_11, eS_11⟩ : ∃ z9 : Ss, z9 = row S 17 (upd (S 17) j f) := ⟨_, rfl⟩
            rw [xb_set (by omega) 3 (by decide)] at hP hD
            have hP : va_P (dC, dI) vwCl (XW ad ca S_11) H := by rw [eS_11]; exact hP
            have hD : va_D A (XW ad ca S_11) := by rw [eS_11]; exact hD
            refine lv_aload hx hb dX_tune_108 (lv_at hl 1 rfl) ?_
            refine lv_dload hx hb dX_tune_110 (lv_at hl 5 rfl) ?_
            refine vp_callSi (va_Run.run (va_runS (As := [.double (eD b)]) (rest := [.ref (ad (18 + j))]) ⟨hx, hb, hml, hown, hc⟩ (cX_eighthsAtMost l b) (va_cwS 1 hc (g_S w331 w332 w1 qX_eighthsAtMost) rfl rfl rfl (by decide +kernel) ⟨Nat.le_of_ble_eq_true rfl, Nat.le_of_ble_eq_true rfl⟩) ⟨tPre_blind, tPre_in⟩ rfl rfl hl.1 rfl (lv_room (Nat.le_of_ble_eq_true rfl)) dX_tune_112 ⟨Nat.zero_le _, Nat.zero_le _⟩)) (fun r_12 hr_12 => ?_)
            subst r_12
            refine va_put (D := (dC, dI)) (ci := 2) (v := .int b) (ty := .int) (C := RBl) (T := TBl) (N := 8) hx hb hc inBl tyBl tyBl_ok nmBl hown hK hP hD hS (18 + j) (xb_cell (by omega)) rfl 4 (by decide) (hc _ w88) (fun _ h9 => h9) rfl (by decide +kernel) rfl rfl (Nat.le_of_ble_eq_true rfl) dX_tune_115 (fun H locs hP hD hS => ?_)
            obtain ⟨S_13, eS_13⟩ : ∃ z9 : Ss, z9 = row S_11 18 (upd (S_11 18) j b) := ⟨_, rfl⟩
            rw [xb_set (by omega) 4 (by decide)] at hP hD
            have hP : va_P (dC, dI) vwCl (XW ad ca S_13) H := by rw [eS_13]; exact hP
            have hD : va_D A (XW ad ca S_13) := by rw [eS_13]; exact hD
            refine lv_dload hx hb dX_tune_118 (lv_at hl 0 rfl) ?_
            refine W.widen (k := 1) (n := 6) (by decide) (by decide) ?_
            refine vx_ret ?_
            exact W.dret (v := (eD (S 17 j))) hx hb hr (fun t ht hW => ⟨⟨_, S_13, rfl, (by (try dsimp only); exact (by subst S_13; subst S_11; unfold oTune; rw [if_neg (fun h => h (br_n hr_1 c_1)), nI_clamp (by omega), if_neg (Int32.not_lt.mpr c_2), if_neg (fun h => h.elim (fun h => h ⟨br_n hr_4 c_4, br_n hr_6 c_6⟩) (fun h => c_7 h.1))]; rfl)), by rw [ht]; exact hP, va_K.moved hW.alike hK, hD⟩, hS.F ht⟩) hS.2.2 dX_tune_120
          · refine lv_dload_n hx hb dX_tune_74 rfl (lv_at hl 3 rfl) ?_
            refine lv_dload hx hb dX_tune_75 (lv_at hl 4 rfl) ?_
            refine lv_dcmp hx hb dX_tune_77 ?_
            refine lv_topi (fun v_14 ev_14 => ?_)
            rw [e8_cmp] at ev_14
            have fv_14 := e8_c (a := f.toInt) (b := b.toInt) (.g : CmpOp)
            rw [← ev_14] at fv_14
            refine lv_if_ge (tgt := 89) hx hb dX_tune_78 (by decide) (fun c_14 => ?_) (fun c_14 => ?_)
            · rw [fv_14.2.2.2.2] at c_14
              refine lv_aload hx hb dX_tune_89 (lv_at hl 0 rfl) ?_
              refine va_get (D := (dC, dI)) (ci := 2) (v := .int (S 17 j)) (C := RBl) (T := TBl) (N := 8) hx hb hc inBl hown hK hP (18 + j) (xb_cell (by omega)) rfl 3 (by decide) (hc _ w86) (fun _ h9 => h9) rfl dX_tune_91 ?_
              refine vp_callSd (va_Run.run (va_runS (As := [.int (S 17 j)]) (rest := []) ⟨hx, hb, hml, hown, hc⟩ (cX_numberOf l (S 17 j)) (va_cwS 1 hc (g_S w335 w336 w1 qX_numberOf) rfl rfl rfl (by decide +kernel) ⟨Nat.le_of_ble_eq_true rfl, Nat.le_of_ble_eq_true rfl⟩) ⟨tPre_blind, tPre_in⟩ rfl rfl hl.1 rfl (lv_room (Nat.le_of_ble_eq_true rfl)) dX_tune_94 ⟨Nat.zero_le _, Nat.zero_le _⟩)) (fun r_16 hr_16 => ?_)
              subst r_16
              refine lv_dstore (lv' := [(7, .double (eD (S 17 j))), (6, .ref (ad (18 + j))), (0, .ref (ad 0)), (1, .int (nI j)), (2, .double (eD f)), (4, .double (eD b))]) hx hb dX_tune_97 hl (by decide) rfl (fun ls hl => ?_)
              refine lv_aload hx hb dX_tune_99 (lv_at hl 1 rfl) ?_
              refine lv_dload_n hx hb dX_tune_101 rfl (lv_at hl 4 rfl) ?_
              refine vp_callSi (va_Run.run (va_runS (As := [.double (eD f)]) (rest := [.ref (ad (18 + j))]) ⟨hx, hb, hml, hown, hc⟩ (cX_eighthsAtMost l f) (va_cwS 1 hc (g_S w331 w332 w1 qX_eighthsAtMost) rfl rfl rfl (by decide +kernel) ⟨Nat.le_of_ble_eq_true rfl, Nat.le_of_ble_eq_true rfl⟩) ⟨tPre_blind, tPre_in⟩ rfl rfl hl.1 rfl (lv_room (Nat.le_of_ble_eq_true rfl)) dX_tune_102 ⟨Nat.zero_le _, Nat.zero_le _⟩)) (fun r_17 hr_17 => ?_)
              subst r_17
              refine va_put (D := (dC, dI)) (ci := 2) (v := .int f) (ty := .int) (C := RBl) (T := TBl) (N := 8) hx hb hc inBl tyBl tyBl_ok nmBl hown hK hP hD hS (18 + j) (xb_cell (by omega)) rfl 3 (by decide) (hc _ w86) (fun _ h9 => h9) rfl (by decide +kernel) rfl rfl (Nat.le_of_ble_eq_true rfl) dX_tune_105 (fun H locs hP hD hS => ?_)
              obtain ⟨S_18, eS_18⟩ : ∃ z9 : Ss, z9 = row S 17 (upd (S 17) j f) := ⟨_, rfl⟩
              rw [xb_set (by omega) 3 (by decide)] at hP hD
              have hP : va_P (dC, dI) vwCl (XW ad ca S_18) H := by rw [eS_18]; exact hP
              have hD : va_D A (XW ad ca S_18) := by rw [eS_18]; exact hD
              refine lv_aload hx hb dX_tune_108 (lv_at hl 1 rfl) ?_
              refine lv_dload hx hb dX_tune_110 (lv_at hl 5 rfl) ?_
              refine vp_callSi (va_Run.run (va_runS (As := [.double (eD b)]) (rest := [.ref (ad (18 + j))]) ⟨hx, hb, hml, hown, hc⟩ (cX_eighthsAtMost l b) (va_cwS 1 hc (g_S w331 w332 w1 qX_eighthsAtMost) rfl rfl rfl (by decide +kernel) ⟨Nat.le_of_ble_eq_true rfl, Nat.le_of_ble_eq_true rfl⟩) ⟨tPre_blind, tPre_in⟩ rfl rfl hl.1 rfl (lv_room (Nat.le_of_ble_eq_true rfl)) dX_tune_112 ⟨Nat.zero_le _, Nat.zero_le _⟩)) (fun r_19 hr_19 => ?_)
              subst r_19
              refine va_put (D := (dC, dI)) (ci := 2) (v := .int b) (ty := .int) (C := RBl) (T := TBl) (N := 8) hx hb hc inBl tyBl tyBl_ok nmBl hown hK hP hD hS (18 + j) (xb_cell (by omega)) rfl 4 (by decide) (hc _ w88) (fun _ h9 => h9) rfl (by decide +kernel) rfl rfl (Nat.le_of_ble_eq_true rfl) dX_tune_115 (fun H locs hP hD hS => ?_)
              obtain ⟨S_20, eS_20⟩ : ∃ z9 : Ss, z9 = row S_18 18 (upd (S_18 18) j b) := ⟨_, rfl⟩
              rw [xb_set (by omega) 4 (by decide)] at hP hD
              have hP : va_P (dC, dI) vwCl (XW ad ca S_20) H := by rw [eS_20]; exact hP
              have hD : va_D A (XW ad ca S_20) := by rw [eS_20]; exact hD
              refine lv_dload hx hb dX_tune_118 (lv_at hl 0 rfl) ?_
              refine W.widen (k := 1) (n := 6) (by decide) (by decide) ?_
              refine vx_ret ?_
              exact W.dret (v := (eD (S 17 j))) hx hb hr (fun t ht hW => ⟨⟨_, S_20, rfl, (by (try dsimp only); exact (by subst S_20; subst S_18; unfold oTune; rw [if_neg (fun h => h (br_n hr_1 c_1)), nI_clamp (by omega), if_neg (Int32.not_lt.mpr c_2), if_neg (fun h => h.elim (fun h => h ⟨br_n hr_4 c_4, br_n hr_6 c_6⟩) (fun h => absurd (Int32.lt_iff_toInt_lt.mp h.2) (Int.not_lt.mpr c_14)))]; rfl)), by rw [ht]; exact hP, va_K.moved hW.alike hK, hD⟩, hS.F ht⟩) hS.2.2 dX_tune_120
            · rw [fv_14.2.2.2.2] at c_14
              exact vx_throw0 (rest := []) (cls := eA) (names := nms) (ik := 51) (ic := 53) (mc := 1) (ms := 6) hx hb hl9 hown (by decide +kernel) (by decide +kernel) (hc _ w196) (hc _ w9) (th_hat th_eA hc hN) tg_eA hU.1 hU.2 hS (by rw [hml]; exact hl.1) dX_tune_81 dX_tune_84 dX_tune_85 dX_tune_88 (fun x h => (hex x h).elim) (Nat.le_of_ble_eq_true rfl) (Nat.le_of_ble_eq_true rfl) (Nat.le_of_ble_eq_true rfl) (Nat.le_of_ble_eq_true rfl) hlocks (fun t ha hz hk => ⟨S, trivial, ⟨by (try dsimp only); exact Or.inr (Or.inr ⟨rfl, by unfold oTune; rw [if_neg (fun h => h (br_n hr_1 c_1)), nI_clamp (by omega), if_neg (Int32.not_lt.mpr c_2), if_pos (Or.inr ⟨c_7, Int32.lt_iff_toInt_lt.mpr (Int.not_le.mp c_14)⟩)]⟩), (x_thrown hP hK hD hS ha hz hk).1⟩, (x_thrown hP hK hD hS ha hz hk).2⟩) hS.2.2 (Nat.le_refl _) (Nat.le_refl _)
        · exact vx_throw0 (rest := []) (cls := eA) (names := nms) (ik := 51) (ic := 53) (mc := 1) (ms := 6) hx hb hl9 hown (by decide +kernel) (by decide +kernel) (hc _ w196) (hc _ w9) (th_hat th_eA hc hN) tg_eA hU.1 hU.2 hS (by rw [hml]; exact hl.1) dX_tune_56 dX_tune_59 dX_tune_60 dX_tune_63 (fun x h => (hex x h).elim) (Nat.le_of_ble_eq_true rfl) (Nat.le_of_ble_eq_true rfl) (Nat.le_of_ble_eq_true rfl) (Nat.le_of_ble_eq_true rfl) hlocks (fun t ha hz hk => ⟨S, trivial, ⟨by (try dsimp only); exact Or.inr (Or.inr ⟨rfl, by unfold oTune; rw [if_neg (fun h => h (br_n hr_1 c_1)), nI_clamp (by omega), if_neg (Int32.not_lt.mpr c_2), if_pos (Or.inl (fun h => br_0 hr_6 c_6 h.2))]⟩), (x_thrown hP hK hD hS ha hz hk).1⟩, (x_thrown hP hK hD hS ha hz hk).2⟩) hS.2.2 (Nat.le_refl _) (Nat.le_refl _)
    · exact vx_throw0 (rest := []) (cls := eU) (names := nms) (ik := 71) (ic := 73) (mc := 1) (ms := 6) hx hb hl9 hown (by decide +kernel) (by decide +kernel) (hc _ w308) (hc _ w12) (th_hat th_eU hc hN) tg_eU hU.1 hU.2 hS (by rw [hml]; exact hl.1) dX_tune_33 dX_tune_36 dX_tune_37 dX_tune_40 (fun x h => (hex x h).elim) (Nat.le_of_ble_eq_true rfl) (Nat.le_of_ble_eq_true rfl) (Nat.le_of_ble_eq_true rfl) (Nat.le_of_ble_eq_true rfl) hlocks (fun t ha hz hk => ⟨S, trivial, ⟨by (try dsimp only); exact Or.inr (Or.inl ⟨rfl, by unfold oTune; rw [if_neg (fun h => h (br_n hr_1 c_1)), nI_clamp (by omega), if_pos (Int32.not_le.mp c_2)]⟩), (x_thrown hP hK hD hS ha hz hk).1⟩, (x_thrown hP hK hD hS ha hz hk).2⟩) hS.2.2 (Nat.le_refl _) (Nat.le_refl _)
  · exact vx_throw0 (rest := []) (cls := eN) (names := nms) (ik := 65) (ic := 67) (mc := 1) (ms := 6) hx hb hl9 hown (by decide +kernel) (by decide +kernel) (hc _ w293) (hc _ w11) (th_hat th_eN hc hN) tg_eN hU.1 hU.2 hS (by rw [hml]; exact hl.1) dX_tune_8 dX_tune_11 dX_tune_12 dX_tune_15 (fun x h => (hex x h).elim) (Nat.le_of_ble_eq_true rfl) (Nat.le_of_ble_eq_true rfl) (Nat.le_of_ble_eq_true rfl) (Nat.le_of_ble_eq_true rfl) hlocks (fun t ha hz hk => ⟨S, trivial, ⟨by (try dsimp only); exact Or.inl ⟨rfl, by unfold oTune; rw [if_pos (br_0 hr_1 c_1)]⟩, (x_thrown hP hK hD hS ha hz hk).1⟩, (x_thrown hP hK hD hS ha hz hk).2⟩) hS.2.2 (Nat.le_refl _) (Nat.le_refl _)

set_option maxHeartbeats 4000000 in
set_option maxRecDepth 100000 in
theorem cX_step (l : Launch) (hl9 : l.stackTraces = false) (dC : Nat → ClassId) (dI : Nat → Nat → Nat) (ad : Nat → Nat) (ca : Nat → ClassId) (sz : Nat) (S : Ss) (a b d : Int32) (n : Nat) (hn : a.toNatClampNeg < 12 → n ≤ 10 ∧ S 8 a.toNatClampNeg = nI n) : vx_Met l yX_step (kX_step :: CW) ({ frames := 6, cells := 1, slots := 6, locals := 91 }) (va_Pc [.ref (ad 0), .int a, .int b, .int d] (tPre (dC, dI) (xT ca) (XW ad ca S) sz)) (va_Qi (fun (r : Int32) (u : Ss) => oStep S a b d = (0, r, u)) (fun u => gAt (dC, dI) (xT ca) (va_A (XW ad ca S) sz) (XW ad ca u)) (va_A (XW ad ca S) sz)) (vx_X (fun _ : Ss => True) (fun E u t => ((E = eA ∧ oStep S a b d = (1, 0, u)) ∨ (E = eU ∧ oStep S a b d = (2, 0, u)) ∨ (E = eS ∧ oStep S a b d = (3, 0, u))) ∧ gAt (dC, dI) (xT ca) (va_A (XW ad ca S) sz) (XW ad ca u) t) (va_A (XW ad ca S) sz)) 1 6 (va_A (XW ad ca S) sz) := by
  refine vx_ofW (cc := bX_step) (maxL := 4) (ret := (some .int)) (by decide +kernel) rfl ?_
  intro p e s m args below meth c s₁ B hml hex hv
  obtain ⟨rfl, ⟨hsz, hP, hK, hD0⟩, hU, hN⟩ := hv
  have hx := B.exec
  have hb := B.bytes
  have hr := B.returns
  have hts := atoms_spec (ws := kX_step :: CW) B.pre
  have hc : ∀ w ∈ CW, w.before _ s = true := fun w h => hts w (List.mem_cons_of_mem _ h)
  have hown : s.vm.findClass RX = some m.cls := findClass_of_methodNamed B.named
  have hlocks := B.notSynchronized
  subst hsz
  have hD := hD0.self (sz := s.heap.size)
  generalize hAe : va_A (XW ad ca S) s.heap.size = A at hD hU ⊢
  have hA : ∀ q : Nat, s.heap.size ≤ q → A q := fun q h => by rw [← hAe]; exact Or.inr h
  have hS : va_S A s.heap s.heap [] := va_S.rf
  have hl := lv_entry ([.ref (ad 0), .int a, .int b, .int d]) (n := 4) (Nat.le_of_ble_eq_true rfl)
  rw [lg_entry_eq]
  generalize (lg_sl ([.ref (ad 0), .int a, .int b, .int d]) ++ List.replicate (4 - (lg_sl ([.ref (ad 0), .int a, .int b, .int d])).length) Slot.unset).toArray = ls at hl ⊢
  have hl : lv_has ls 4 [(0, .ref (ad 0)), (1, .int a), (2, .int b), (3, .int d)] := hl
  refine lv_iload_n hx hb dX_step_0 rfl (lv_at hl 1 rfl) ?_
  refine vp_callSi (va_Run.run (va_runS (As := [.int a]) (rest := []) ⟨hx, hb, hml, hown, hc⟩ (cX_isRung l a) (va_cwS 1 hc (g_S w345 w346 w1 qX_isRung) rfl rfl rfl (by decide +kernel) ⟨Nat.le_of_ble_eq_true rfl, Nat.le_of_ble_eq_true rfl⟩) ⟨tPre_blind, tPre_in⟩ rfl rfl hl.1 rfl (lv_room (Nat.le_of_ble_eq_true rfl)) dX_step_1 ⟨Nat.zero_le _, Nat.zero_le _⟩)) (fun r_1 hr_1 => ?_)
  refine lv_if_eq (tgt := 16) hx hb dX_step_4 (by decide) (fun c_1 => ?_) (fun c_1 => ?_)
  · exact vx_throw0 (rest := []) (cls := eA) (names := nms) (ik := 51) (ic := 53) (mc := 1) (ms := 6) hx hb hl9 hown (by decide +kernel) (by decide +kernel) (hc _ w196) (hc _ w9) (th_hat th_eA hc hN) tg_eA hU.1 hU.2 hS (by rw [hml]; exact hl.1) dX_step_16 dX_step_19 dX_step_20 dX_step_23 (fun x h => (hex x h).elim) (Nat.le_of_ble_eq_true rfl) (Nat.le_of_ble_eq_true rfl) (Nat.le_of_ble_eq_true rfl) (Nat.le_of_ble_eq_true rfl) hlocks (fun t ha hz hk => ⟨S, trivial, ⟨by (try dsimp only); exact Or.inl ⟨rfl, by unfold oStep; rw [if_pos (fun h => (br_0 hr_1 c_1) h.1)]⟩, (x_thrown hP hK hD hS ha hz hk).1⟩, (x_thrown hP hK hD hS ha hz hk).2⟩) hS.2.2 (Nat.le_refl _) (Nat.le_refl _)
  · refine lv_aload_n hx hb dX_step_7 rfl (lv_at hl 0 rfl) ?_
    refine lv_iload_n hx hb dX_step_8 rfl (lv_at hl 2 rfl) ?_
    refine lv_iload_n hx hb dX_step_9 rfl (lv_at hl 3 rfl) ?_
    refine vp_callSi (va_Run.run (va_runV (As := [.int b, .int d]) (rest := []) ⟨hx, hb, hml, hown, hc⟩ (cX_isStep l dC dI ad ca s.heap.size S b d) (cwV 2 hc (gV w348 w350 s2 w1 qX_isStep) rfl rfl rfl (by decide +kernel) ⟨Nat.le_of_ble_eq_true rfl, Nat.le_of_ble_eq_true rfl⟩) ⟨gPre_blind, va_recv hK hP (ci := 0) (q0 := 0) rfl rfl, (gPre_in hP hK hD)⟩ rfl rfl hl.1 rfl (lv_room (Nat.le_of_ble_eq_true rfl)) dX_step_10 ⟨Nat.zero_le _, Nat.zero_le _⟩)) (fun r_3 hr_3 => ?_)
    refine lv_if_ne (tgt := 24) hx hb dX_step_13 (by decide) (fun c_3 => ?_) (fun c_3 => ?_)
    · obtain ⟨k, hk, ek⟩ := wi_ex (br_n hr_1 c_1) (n := 11) rfl (by decide)
      subst ek
      rw [nI_clamp (by omega)] at hn
      obtain ⟨hn10, hen⟩ := hn (by omega)
      refine lv_aload_n hx hb dX_step_24 rfl (lv_at hl 0 rfl) ?_
      refine va_get (D := (dC, dI)) (ci := 0) (v := .ref (ad 8)) (C := RX) (T := TX) (N := 8) hx hb hc inX hown hK hP 0 rfl rfl 2 (by decide) (hc _ w113) (fun _ h9 => h9) rfl dX_step_25 ?_
      refine lv_iload_n hx hb dX_step_28 rfl (lv_at hl 1 rfl) ?_
      refine lv_iload_n hx hb dX_step_29 rfl (lv_at hl 2 rfl) ?_
      refine vp_callSi (va_Run.run (va_runV (As := [.int (nI k), .int b]) (rest := []) ⟨hx, hb, hml, hown, hc⟩ (cLa_stackAllows l dC dI ad ca s.heap.size S k b (by omega)) (cwV 2 hc (gV w352 w353 w354 w3 qLa_stackAllows) rfl rfl rfl (by decide +kernel) ⟨Nat.le_of_ble_eq_true rfl, Nat.le_of_ble_eq_true rfl⟩) ⟨gPre_blind, va_recv hK hP (ci := 3) (q0 := 8) rfl rfl, (gPre_in hP hK hD)⟩ rfl rfl hl.1 rfl (lv_room (Nat.le_of_ble_eq_true rfl)) dX_step_30 ⟨Nat.zero_le _, Nat.zero_le _⟩)) (fun r_5 hr_5 => ?_)
      refine lv_if_ne (tgt := 44) hx hb dX_step_33 (by decide) (fun c_5 => ?_) (fun c_5 => ?_)
      · refine lv_aload_n hx hb dX_step_44 rfl (lv_at hl 0 rfl) ?_
        refine va_get (D := (dC, dI)) (ci := 0) (v := .ref (ad 8)) (C := RX) (T := TX) (N := 8) hx hb hc inX hown hK hP 0 rfl rfl 2 (by decide) (hc _ w113) (fun _ h9 => h9) rfl dX_step_45 ?_
        refine lv_iload_n hx hb dX_step_48 rfl (lv_at hl 1 rfl) ?_
        refine vp_callSi (va_Run.run (va_runV (As := [.int (nI k)]) (rest := []) ⟨hx, hb, hml, hown, hc⟩ (cLa_isFull l dC dI ad ca s.heap.size S k (by omega)) (cwV 1 hc (gV w368 w369 w370 w3 qLa_isFull) rfl rfl rfl (by decide +kernel) ⟨Nat.le_of_ble_eq_true rfl, Nat.le_of_ble_eq_true rfl⟩) ⟨gPre_blind, va_recv hK hP (ci := 3) (q0 := 8) rfl rfl, (gPre_in hP hK hD)⟩ rfl rfl hl.1 rfl (lv_room (Nat.le_of_ble_eq_true rfl)) dX_step_49 ⟨Nat.zero_le _, Nat.zero_le _⟩)) (fun r_7 hr_7 => ?_)
        refine lv_if_eq (tgt := 63) hx hb dX_step_52 (by decide) (fun c_7 => ?_) (fun c_7 => ?_)
        · have hn9 : n < 10 := by have h9 := br_0 hr_7 c_7; rw [hen] at h9; exact Nat.lt_of_not_le (fun z => h9 ((nI_leI (a := 10) (b := n) (by decide) (by omega)).mpr z))
          refine lv_aload_n hx hb dX_step_63 rfl (lv_at hl 0 rfl) ?_
          refine va_get (D := (dC, dI)) (ci := 0) (v := .ref (ad 8)) (C := RX) (T := TX) (N := 8) hx hb hc inX hown hK hP 0 rfl rfl 2 (by decide) (hc _ w113) (fun _ h9 => h9) rfl dX_step_64 ?_
          refine lv_iload_n hx hb dX_step_67 rfl (lv_at hl 1 rfl) ?_
          refine lv_iload_n hx hb dX_step_68 rfl (lv_at hl 2 rfl) ?_
          refine lv_iload_n hx hb dX_step_69 rfl (lv_at hl 3 rfl) ?_
          refine g_calli (va_runV (As := [.int (nI k), .int b, .int d]) (rest := []) ⟨hx, hb, hml, hown, hc⟩ (cLa_add l dC dI ad ca s.heap.size S k n b d (by omega) (by omega) hen) (cwV 3 hc (gV w372 w373 w374 w3 qLa_add) rfl rfl rfl (by decide +kernel) ⟨Nat.le_of_ble_eq_true rfl, Nat.le_of_ble_eq_true rfl⟩) ⟨gPre_blind, va_recv hK hP (ci := 3) (q0 := 8) rfl rfl, (gPre_in hP hK hD)⟩ rfl rfl hl.1 rfl (lv_room (Nat.le_of_ble_eq_true rfl)) dX_step_70 ⟨Nat.zero_le _, Nat.zero_le _⟩) hD hS hA (fun r_10 u_9 H locs hu_9 hP hD hS => ?_)
          refine W.widen (k := 1) (n := 6) (by decide) (by decide) ?_
          refine vx_ret ?_
          exact W.iret (v := r_10) hx hb hr (fun t ht hW => ⟨⟨_, u_9, rfl, (by (try dsimp only); exact (by unfold oStep; rw [if_neg (fun h => h ⟨(br_n hr_1 c_1), (br_n hr_3 c_3)⟩), nI_clamp (by omega), if_neg (fun h : ¬ (ndd b ≤ S 9 k ∧ S 9 k + grw b ≤ 4) => h (br_n hr_5 c_5)), if_neg (br_0 hr_7 c_7), hu_9.1, hu_9.2, hen, nI_clamp (by omega)])), by rw [ht]; exact hP, va_K.moved hW.alike hK, hD⟩, hS.F ht⟩) hS.2.2 dX_step_73
        · exact vx_throw0 (rest := []) (cls := eS) (names := nms) (ik := 54) (ic := 56) (mc := 1) (ms := 6) hx hb hl9 hown (by decide +kernel) (by decide +kernel) (hc _ w261) (hc _ w10) (th_hat th_eS hc hN) tg_eS hU.1 hU.2 hS (by rw [hml]; exact hl.1) dX_step_55 dX_step_58 dX_step_59 dX_step_62 (fun x h => (hex x h).elim) (Nat.le_of_ble_eq_true rfl) (Nat.le_of_ble_eq_true rfl) (Nat.le_of_ble_eq_true rfl) (Nat.le_of_ble_eq_true rfl) hlocks (fun t ha hz hk => ⟨S, trivial, ⟨by (try dsimp only); exact Or.inr (Or.inr ⟨rfl, by unfold oStep; rw [if_neg (fun h => h ⟨(br_n hr_1 c_1), (br_n hr_3 c_3)⟩), nI_clamp (by omega), if_neg (fun h : ¬ (ndd b ≤ S 9 k ∧ S 9 k + grw b ≤ 4) => h (br_n hr_5 c_5)), if_pos (br_n hr_7 c_7)]⟩), (x_thrown hP hK hD hS ha hz hk).1⟩, (x_thrown hP hK hD hS ha hz hk).2⟩) hS.2.2 (Nat.le_refl _) (Nat.le_refl _)
      · exact vx_throw0 (rest := []) (cls := eU) (names := nms) (ik := 71) (ic := 73) (mc := 1) (ms := 6) hx hb hl9 hown (by decide +kernel) (by decide +kernel) (hc _ w308) (hc _ w12) (th_hat th_eU hc hN) tg_eU hU.1 hU.2 hS (by rw [hml]; exact hl.1) dX_step_36 dX_step_39 dX_step_40 dX_step_43 (fun x h => (hex x h).elim) (Nat.le_of_ble_eq_true rfl) (Nat.le_of_ble_eq_true rfl) (Nat.le_of_ble_eq_true rfl) (Nat.le_of_ble_eq_true rfl) hlocks (fun t ha hz hk => ⟨S, trivial, ⟨by (try dsimp only); exact Or.inr (Or.inl ⟨rfl, by unfold oStep; rw [if_neg (fun h => h ⟨(br_n hr_1 c_1), (br_n hr_3 c_3)⟩), nI_clamp (by omega), if_pos (show ¬ (ndd b ≤ S 9 k ∧ S 9 k + grw b ≤ 4) from (br_0 hr_5 c_5))]⟩), (x_thrown hP hK hD hS ha hz hk).1⟩, (x_thrown hP hK hD hS ha hz hk).2⟩) hS.2.2 (Nat.le_refl _) (Nat.le_refl _)
    · exact vx_throw0 (rest := []) (cls := eA) (names := nms) (ik := 51) (ic := 53) (mc := 1) (ms := 6) hx hb hl9 hown (by decide +kernel) (by decide +kernel) (hc _ w196) (hc _ w9) (th_hat th_eA hc hN) tg_eA hU.1 hU.2 hS (by rw [hml]; exact hl.1) dX_step_16 dX_step_19 dX_step_20 dX_step_23 (fun x h => (hex x h).elim) (Nat.le_of_ble_eq_true rfl) (Nat.le_of_ble_eq_true rfl) (Nat.le_of_ble_eq_true rfl) (Nat.le_of_ble_eq_true rfl) hlocks (fun t ha hz hk => ⟨S, trivial, ⟨by (try dsimp only); exact Or.inl ⟨rfl, by unfold oStep; rw [if_pos (fun h => (br_0 hr_3 c_3) h.2)]⟩, (x_thrown hP hK hD hS ha hz hk).1⟩, (x_thrown hP hK hD hS ha hz hk).2⟩) hS.2.2 (Nat.le_refl _) (Nat.le_refl _)

set_option maxHeartbeats 4000000 in
set_option maxRecDepth 100000 in
theorem cX_download (l : Launch) (dC : Nat → ClassId) (dI : Nat → Nat → Nat) (ad : Nat → Nat) (ca : Nat → ClassId) (sz : Nat) (S : Ss) : Met l yX_download (kX_download :: CW) ({ frames := 2, cells := 0, slots := 0, locals := 45 }) (va_Pc [.ref (ad 0)] (gPre (dC, dI) (xT ca) (XW ad ca S) sz)) (va_Qi (fun (r : Int32) (u : Ss) => oDown S = (r, u)) (fun u => gAt (dC, dI) (xT ca) (va_A (XW ad ca S) sz) (XW ad ca u)) (va_A (XW ad ca S) sz)) 0 0 (va_A (XW ad ca S) sz) := by
  refine Met.ofW (cc := bX_download) (maxL := 1) (ret := (some .int)) (by decide +kernel) rfl ?_
  intro p e s m args below meth c s₁ B hml hv
  obtain ⟨rfl, hsz, hP, hK, hD0⟩ := hv
  have hx := B.exec
  have hb := B.bytes
  have hr := B.returns
  have hts := atoms_spec (ws := kX_download :: CW) B.pre
  have hc : ∀ w ∈ CW, w.before _ s = true := fun w h => hts w (List.mem_cons_of_mem _ h)
  have hown : s.vm.findClass RX = some m.cls := findClass_of_methodNamed B.named
  have hlocks := B.notSynchronized
  subst hsz
  have hD := hD0.self (sz := s.heap.size)
  generalize hAe : va_A (XW ad ca S) s.heap.size = A at hD ⊢
  have hA : ∀ q : Nat, s.heap.size ≤ q → A q := fun q h => by rw [← hAe]; exact Or.inr h
  have hS : va_S A s.heap s.heap [] := va_S.rf
  have hl := lv_entry ([.ref (ad 0)]) (n := 1) (Nat.le_of_ble_eq_true rfl)
  rw [lg_entry_eq]
  generalize (lg_sl ([.ref (ad 0)]) ++ List.replicate (1 - (lg_sl ([.ref (ad 0)])).length) Slot.unset).toArray = ls at hl ⊢
  have hl : lv_has ls 1 [(0, .ref (ad 0))] := hl
  refine lv_aload_n hx hb dX_download_0 rfl (lv_at hl 0 rfl) ?_
  refine va_get (D := (dC, dI)) (ci := 0) (v := .ref (ad 13)) (C := RX) (T := TX) (N := 8) hx hb hc inX hown hK hP 0 rfl rfl 3 (by decide) (hc _ w114) (fun _ h9 => h9) rfl dX_download_1 ?_
  refine lv_aload_n hx hb dX_download_4 rfl (lv_at hl 0 rfl) ?_
  refine va_get (D := (dC, dI)) (ci := 0) (v := .ref (ad 8)) (C := RX) (T := TX) (N := 8) hx hb hc inX hown hK hP 0 rfl rfl 2 (by decide) (hc _ w113) (fun _ h9 => h9) rfl dX_download_5 ?_
  refine g_callv (va_runV (As := [.ref (ad 8)]) (rest := []) ⟨hx, hb, hml, hown, hc⟩ (cLa_copyFrom l dC dI ad ca s.heap.size S ) (cwV 1 hc (gV w140 w141 w142 w3 qLa_copyFrom) rfl rfl rfl (by decide +kernel) ⟨Nat.le_of_ble_eq_true rfl, Nat.le_of_ble_eq_true rfl⟩) ⟨gPre_blind, va_recv hK hP (ci := 3) (q0 := 13) rfl rfl, (gPre_in hP hK hD)⟩ rfl rfl hl.1 rfl (lv_room (Nat.le_of_ble_eq_true rfl)) dX_download_8 ⟨Nat.zero_le _, Nat.zero_le _⟩) hD hS hA (fun u_1 H locs hu_1 hP hD hS => ?_)
  refine lv_aload_n hx hb dX_download_11 rfl (lv_at hl 0 rfl) ?_
  refine va_get (D := (dC, dI)) (ci := 0) (v := .ref (ad 13)) (C := RX) (T := TX) (N := 8) hx hb hc inX hown hK hP 0 rfl rfl 3 (by decide) (hc _ w114) (fun _ h9 => h9) rfl dX_download_12 ?_
  refine vp_callSi (va_Run.run (va_runV (As := []) (rest := []) ⟨hx, hb, hml, hown, hc⟩ (cLa_size l dC dI ad ca H.size u_1 ) (cwV 0 hc (gV w147 w148 w149 w3 qLa_size) rfl rfl rfl (by decide +kernel) ⟨Nat.le_of_ble_eq_true rfl, Nat.le_of_ble_eq_true rfl⟩) ⟨gPre_blind, va_recv hK hP (ci := 3) (q0 := 13) rfl rfl, (gPre_in hP hK hD)⟩ rfl rfl hl.1 rfl (lv_room (Nat.le_of_ble_eq_true rfl)) dX_download_15 ⟨Nat.zero_le _, Nat.zero_le _⟩)) (fun r_2 hr_2 => ?_)
  exact W.iret (v := r_2) hx hb hr (fun t ht hW => ⟨⟨_, u_1, rfl, (by (try dsimp only); exact (by rw [hr_2, hu_1]; rfl)), by rw [ht]; exact hP, va_K.moved hW.alike hK, hD⟩, hS.F ht⟩) hS.2.2 dX_download_18

set_option maxHeartbeats 4000000 in
set_option maxRecDepth 100000 in
theorem cX_restart (l : Launch) (dC : Nat → ClassId) (dI : Nat → Nat → Nat) (ad : Nat → Nat) (ca : Nat → ClassId) (sz : Nat) (S : Ss) : Met l yX_restart (kX_restart :: CW) ({ frames := 0, cells := 0, slots := 0, locals := 0 }) (va_Pc [.ref (ad 0)] (gPre (dC, dI) (xT ca) (XW ad ca S) sz)) (va_Qi (fun (r : Int32) (u : Ss) => oRestart S = (r, u)) (fun u => gAt (dC, dI) (xT ca) (va_A (XW ad ca S) sz) (XW ad ca u)) (va_A (XW ad ca S) sz)) 0 0 (va_A (XW ad ca S) sz) := by
  refine Met.ofW (cc := bX_restart) (maxL := 2) (ret := (some .int)) (by decide +kernel) rfl ?_
  intro p e s m args below meth c s₁ B hml hv
  obtain ⟨rfl, hsz, hP, hK, hD0⟩ := hv
  have hx := B.exec
  have hb := B.bytes
  have hr := B.returns
  have hts := atoms_spec (ws := kX_restart :: CW) B.pre
  have hc : ∀ w ∈ CW, w.before _ s = true := fun w h => hts w (List.mem_cons_of_mem _ h)
  have hown : s.vm.findClass RX = some m.cls := findClass_of_methodNamed B.named
  have hlocks := B.notSynchronized
  subst hsz
  have hD := hD0.self (sz := s.heap.size)
  generalize hAe : va_A (XW ad ca S) s.heap.size = A at hD ⊢
  have hA : ∀ q : Nat, s.heap.size ≤ q → A q := fun q h => by rw [← hAe]; exact Or.inr h
  have hS : va_S A s.heap s.heap [] := va_S.rf
  have hl := lv_entry ([.ref (ad 0)]) (n := 2) (Nat.le_of_ble_eq_true rfl)
  rw [lg_entry_eq]
  generalize (lg_sl ([.ref (ad 0)]) ++ List.replicate (2 - (lg_sl ([.ref (ad 0)])).length) Slot.unset).toArray = ls at hl ⊢
  have hl : lv_has ls 2 [(0, .ref (ad 0))] := hl
  refine lv_aload_n hx hb dX_restart_0 rfl (lv_at hl 0 rfl) ?_
  refine va_get (D := (dC, dI)) (ci := 0) (v := .int (S 0 3)) (C := RX) (T := TX) (N := 8) hx hb hc inX hown hK hP 0 rfl rfl 7 (by decide) (hc _ w118) (fun _ h9 => h9) rfl dX_restart_1 ?_
  refine lv_if_eq (tgt := 11) hx hb dX_restart_4 (by decide) (fun c_0 => ?_) (fun c_0 => ?_)
  · refine lv_iconst (v := 0) hx hb dX_restart_11 (by decide +kernel) ?_
    refine lv_istore_n (lv' := [(1, .int 0), (0, .ref (ad 0))]) hx hb dX_restart_12 rfl hl (by decide) rfl (fun ls hl => ?_)
    refine lv_aload_n hx hb dX_restart_13 rfl (lv_at hl 1 rfl) ?_
    refine lv_iconst (v := 0) hx hb dX_restart_14 (by decide +kernel) ?_
    refine va_put (D := (dC, dI)) (ci := 0) (v := .int 0) (ty := .boolean) (C := RX) (T := TX) (N := 8) hx hb hc inX tyX tyX_ok nmX hown hK hP hD hS 0 rfl rfl 7 (by decide) (hc _ w118) (fun _ h9 => h9) rfl (by decide +kernel) rfl rfl (Nat.le_of_ble_eq_true rfl) dX_restart_15 (fun H locs hP hD hS => ?_)
    obtain ⟨S_2, eS_2⟩ : ∃ z9 : Ss, z9 = row S 0 (upd (S 0) 3 0) := ⟨_, rfl⟩
    have hP : va_P (dC, dI) vwCl (XW ad ca S_2) H := by rw [eS_2]; exact hP
    have hD : va_D A (XW ad ca S_2) := by rw [eS_2]; exact hD
    refine lv_iload_n hx hb dX_restart_18 rfl (lv_at hl 0 rfl) ?_
    exact W.iret (v := 0) hx hb hr (fun t ht hW => ⟨⟨_, S_2, rfl, (by (try dsimp only); exact (by rw [eS_2]; unfold oRestart; first | rw [if_pos c_0] | rw [if_neg c_0])), by rw [ht]; exact hP, va_K.moved hW.alike hK, hD⟩, hS.F ht⟩) hS.2.2 dX_restart_19
  · refine lv_iconst (v := 1) hx hb dX_restart_7 (by decide +kernel) ?_
    refine lv_goto (tgt := 12) hx hb dX_restart_8 (by decide) ?_
    refine lv_istore_n (lv' := [(1, .int 1), (0, .ref (ad 0))]) hx hb dX_restart_12 rfl hl (by decide) rfl (fun ls hl => ?_)
    refine lv_aload_n hx hb dX_restart_13 rfl (lv_at hl 1 rfl) ?_
    refine lv_iconst (v := 0) hx hb dX_restart_14 (by decide +kernel) ?_
    refine va_put (D := (dC, dI)) (ci := 0) (v := .int 0) (ty := .boolean) (C := RX) (T := TX) (N := 8) hx hb hc inX tyX tyX_ok nmX hown hK hP hD hS 0 rfl rfl 7 (by decide) (hc _ w118) (fun _ h9 => h9) rfl (by decide +kernel) rfl rfl (Nat.le_of_ble_eq_true rfl) dX_restart_15 (fun H locs hP hD hS => ?_)
    obtain ⟨S_3, eS_3⟩ : ∃ z9 : Ss, z9 = row S 0 (upd (S 0) 3 0) := ⟨_, rfl⟩
    have hP : va_P (dC, dI) vwCl (XW ad ca S_3) H := by rw [eS_3]; exact hP
    have hD : va_D A (XW ad ca S_3) := by rw [eS_3]; exact hD
    refine lv_iload_n hx hb dX_restart_18 rfl (lv_at hl 0 rfl) ?_
    exact W.iret (v := 1) hx hb hr (fun t ht hW => ⟨⟨_, S_3, rfl, (by (try dsimp only); exact (by rw [eS_3]; unfold oRestart; first | rw [if_pos c_0] | rw [if_neg c_0])), by rw [ht]; exact hP, va_K.moved hW.alike hK, hD⟩, hS.F ht⟩) hS.2.2 dX_restart_19

set_option maxHeartbeats 4000000 in
set_option maxRecDepth 100000 in
theorem cX_fail (l : Launch) (dC : Nat → ClassId) (dI : Nat → Nat → Nat) (ad : Nat → Nat) (ca : Nat → ClassId) (sz : Nat) (S : Ss) : Met l yX_fail (kX_fail :: CW) ({ frames := 2, cells := 0, slots := 0, locals := 42 }) (va_Pc [.ref (ad 0)] (gPre (dC, dI) (xT ca) (XW ad ca S) sz)) (va_Qi (fun (r : Int32) (u : Ss) => oFail S = (r, u)) (fun u => gAt (dC, dI) (xT ca) (va_A (XW ad ca S) sz) (XW ad ca u)) (va_A (XW ad ca S) sz)) 0 0 (va_A (XW ad ca S) sz) := by
  refine Met.ofW (cc := bX_fail) (maxL := 2) (ret := (some .int)) (by decide +kernel) rfl ?_
  intro p e s m args below meth c s₁ B hml hv
  obtain ⟨rfl, hsz, hP, hK, hD0⟩ := hv
  have hx := B.exec
  have hb := B.bytes
  have hr := B.returns
  have hts := atoms_spec (ws := kX_fail :: CW) B.pre
  have hc : ∀ w ∈ CW, w.before _ s = true := fun w h => hts w (List.mem_cons_of_mem _ h)
  have hown : s.vm.findClass RX = some m.cls := findClass_of_methodNamed B.named
  have hlocks := B.notSynchronized
  subst hsz
  have hD := hD0.self (sz := s.heap.size)
  generalize hAe : va_A (XW ad ca S) s.heap.size = A at hD ⊢
  have hA : ∀ q : Nat, s.heap.size ≤ q → A q := fun q h => by rw [← hAe]; exact Or.inr h
  have hS : va_S A s.heap s.heap [] := va_S.rf
  have hl := lv_entry ([.ref (ad 0)]) (n := 2) (Nat.le_of_ble_eq_true rfl)
  rw [lg_entry_eq]
  generalize (lg_sl ([.ref (ad 0)]) ++ List.replicate (2 - (lg_sl ([.ref (ad 0)])).length) Slot.unset).toArray = ls at hl ⊢
  have hl : lv_has ls 2 [(0, .ref (ad 0))] := hl
  refine lv_aload_n hx hb dX_fail_0 rfl (lv_at hl 0 rfl) ?_
  refine va_get (D := (dC, dI)) (ci := 0) (v := .ref (ad 1)) (C := RX) (T := TX) (N := 8) hx hb hc inX hown hK hP 0 rfl rfl 0 (by decide) (hc _ w111) (fun _ h9 => h9) rfl dX_fail_1 ?_
  refine g_callv (va_runV (As := []) (rest := []) ⟨hx, hb, hml, hown, hc⟩ (cMe_losePower l dC dI ad ca s.heap.size S ) (cwV 0 hc (gV w159 w160 w161 w2 qMe_losePower) rfl rfl rfl (by decide +kernel) ⟨Nat.le_of_ble_eq_true rfl, Nat.le_of_ble_eq_true rfl⟩) ⟨gPre_blind, va_recv hK hP (ci := 1) (q0 := 1) rfl rfl, (gPre_in hP hK hD)⟩ rfl rfl hl.1 rfl (lv_room (Nat.le_of_ble_eq_true rfl)) dX_fail_4 ⟨Nat.zero_le _, Nat.zero_le _⟩) hD hS hA (fun u_1 H locs hu_1 hP hD hS => ?_)
  subst u_1
  refine lv_iconst (v := 0) hx hb dX_fail_7 (by decide +kernel) ?_
  refine lv_istore_n (lv' := [(1, .int 0), (0, .ref (ad 0))]) hx hb dX_fail_8 rfl hl (by decide) rfl (fun ls hl => ?_)
  refine g_loop (fun mu9 H locs ls => ∃ (i : Nat), ∃ (S1 : Ss), mu9 = 10 - i ∧ i ≤ 10 ∧ S1 = lpB (lpM S) i ∧ va_P (dC, dI) vwCl (XW ad ca S1) H ∧ va_D A (XW ad ca S1) ∧ va_S A s.heap H locs ∧ lv_has ls 2 [(0, .ref (ad 0)), (1, .int (nI i))]) ?_ _ _ _ _ ⟨0, (lpM S), rfl, Nat.zero_le _, (lpB_0 _).symm, hP, hD, hS, lv_sub hl [1, 0] rfl⟩
  clear hP hD hS
  rintro mu9 H locs ls ⟨i, S1, en_9, hi, eS1, hP, hD, hS, hl⟩ ih_9
  refine lv_iload_n hx hb dX_fail_9 rfl (lv_at hl 1 rfl) ?_
  refine lv_bipush (v := 10) hx hb dX_fail_10 (by decide +kernel) ?_
  refine lv_icmp_ge (tgt := 30) hx hb dX_fail_12 (by decide) (fun c_1 => ?_) (fun c_1 => ?_)
  · have p_12 : 10 ≤ i := (nI_leI (a := 10) (b := i) (by omega) (by omega)).mp c_1
    refine lv_aload_n hx hb dX_fail_30 rfl (lv_at hl 0 rfl) ?_
    refine lv_iconst (v := 0) hx hb dX_fail_31 (by decide +kernel) ?_
    refine va_put (D := (dC, dI)) (ci := 0) (v := .int 0) (ty := .boolean) (C := RX) (T := TX) (N := 8) hx hb hc inX tyX tyX_ok nmX hown hK hP hD hS 0 rfl rfl 7 (by decide) (hc _ w118) (fun _ h9 => h9) rfl (by decide +kernel) rfl rfl (Nat.le_of_ble_eq_true rfl) dX_fail_32 (fun H locs hP hD hS => ?_)
    obtain ⟨S_3, eS_3⟩ : ∃ z9 : Ss, z9 = row S1 0 (upd (S1 0) 3 0) := ⟨_, rfl⟩
    have hP : va_P (dC, dI) vwCl (XW ad ca S_3) H := by rw [eS_3]; exact hP
    have hD : va_D A (XW ad ca S_3) := by rw [eS_3]; exact hD
    refine lv_aload_n hx hb dX_fail_35 rfl (lv_at hl 0 rfl) ?_
    refine va_get (D := (dC, dI)) (ci := 0) (v := .ref (ad 1)) (C := RX) (T := TX) (N := 8) hx hb hc inX hown hK hP 0 rfl rfl 0 (by decide) (hc _ w111) (fun _ h9 => h9) rfl dX_fail_36 ?_
    refine vp_callSi (va_Run.run (va_runV (As := []) (rest := []) ⟨hx, hb, hml, hown, hc⟩ (cMe_keptOnes l dC dI ad ca H.size S_3 ) (cwV 0 hc (gV w171 w172 w173 w2 qMe_keptOnes) rfl rfl rfl (by decide +kernel) ⟨Nat.le_of_ble_eq_true rfl, Nat.le_of_ble_eq_true rfl⟩) ⟨gPre_blind, va_recv hK hP (ci := 1) (q0 := 1) rfl rfl, (gPre_in hP hK hD)⟩ rfl rfl hl.1 rfl (lv_room (Nat.le_of_ble_eq_true rfl)) dX_fail_39 ⟨Nat.zero_le _, Nat.zero_le _⟩)) (fun r_4 hr_4 => ?_)
    exact W.iret (v := r_4) hx hb hr (fun t ht hW => ⟨⟨_, S_3, rfl, (by (try dsimp only); exact (by rw [hr_4, eS_3, eS1, show i = 10 by omega]; rfl)), by rw [ht]; exact hP, va_K.moved hW.alike hK, hD⟩, hS.F ht⟩) hS.2.2 dX_fail_42
  · have p_12 : i < 10 := by have := mt (nI_leI (a := 10) (b := i) (by omega) (by omega)).mpr c_1; omega
    refine lv_aload_n hx hb dX_fail_15 rfl (lv_at hl 0 rfl) ?_
    refine va_get (D := (dC, dI)) (ci := 0) (v := .ref (ad 7)) (C := RX) (T := TX) (N := 8) hx hb hc inX hown hK hP 0 rfl rfl 1 (by decide) (hc _ w112) (fun _ h9 => h9) rfl dX_fail_16 ?_
    refine lv_iload_n hx hb dX_fail_19 rfl (lv_at hl 1 rfl) ?_
    refine va_aldq hx hb hK hP 7 5 rfl rfl (vp_in_nI (by omega) (by decide)) dX_fail_20 ?_
    refine W.eq (g2 := F0 m 21 ls [.ref (ad (18 + i))]) (by rw [xb_at (by omega)]) ?_
    refine g_callv (va_runV (As := []) (rest := []) ⟨hx, hb, hml, hown, hc⟩ (cBl_losePower l dC dI ad ca H.size S1 i (by omega)) (cwV 0 hc (gV w167 w168 w169 w4 qBl_losePower) rfl rfl rfl (by decide +kernel) ⟨Nat.le_of_ble_eq_true rfl, Nat.le_of_ble_eq_true rfl⟩) ⟨gPre_blind, va_recv hK hP (ci := 2) (q0 := (18 + i)) rfl (xb_cell (by omega)), (gPre_in hP hK hD)⟩ rfl rfl hl.1 rfl (lv_room (Nat.le_of_ble_eq_true rfl)) dX_fail_21 ⟨Nat.zero_le _, Nat.zero_le _⟩) hD hS hA (fun u_5 H locs hu_5 hP hD hS => ?_)
    obtain ⟨v_6, ev_6⟩ : ∃ y : Int32, y = (nI i) + 1 := ⟨_, rfl⟩
    refine lv_iinc (v := v_6) (lv' := [(1, .int v_6), (0, .ref (ad 0))]) hx hb dX_fail_24 hl (k := 1) rfl (by rw [ev_6]; rfl) (by decide) rfl (fun ls hl => ?_)
    refine lv_goto (tgt := 9) hx hb dX_fail_27 (by decide) ?_
    have gv_6 : v_6 = nI (i + 1) := (by rw [ev_6]; exact nI_1 i)
    clear ev_6
    subst v_6
    exact ih_9 _ _ _ _ (by omega) ⟨(i + 1), u_5, rfl, (by omega), (by rw [hu_5, eS1]; exact lpB_s (lpM S) i), hP, hD, hS, lv_sub hl [1, 0] rfl⟩

set_option maxHeartbeats 4000000 in
set_option maxRecDepth 100000 in
theorem cX_scan (l : Launch) (hl9 : l.stackTraces = false) (dC : Nat → ClassId) (dI : Nat → Nat → Nat) (ad : Nat → Nat) (ca : Nat → ClassId) (sz : Nat) (S : Ss) (a : Int32) (hPr : Pr S) : vx_Met l yX_scan (kX_scan :: CW) ({ frames := 6, cells := 1, slots := 6, locals := 139 }) (va_Pc [.ref (ad 0), .int a] (tPre (dC, dI) (xT ca) (XW ad ca S) sz)) (va_Qi (fun (r : Int32) (u : Ss) => oScan S a = (0, r, u)) (fun u => gAt (dC, dI) (xT ca) (va_A (XW ad ca S) sz) (XW ad ca u)) (va_A (XW ad ca S) sz)) (vx_X (fun _ : Ss => True) (fun E u t => ((E = eA ∧ oScan S a = (1, 0, u)) ∨ (E = eS ∧ oScan S a = (2, 0, u)) ∨ (E = eR ∧ oScan S a = (3, 0, u))) ∧ gAt (dC, dI) (xT ca) (va_A (XW ad ca S) sz) (XW ad ca u) t) (va_A (XW ad ca S) sz)) 1 6 (va_A (XW ad ca S) sz) := by
  refine vx_ofW (cc := bX_scan) (maxL := 5) (ret := (some .int)) (by decide +kernel) rfl ?_
  intro p e s m args below meth c s₁ B hml hex hv
  obtain ⟨rfl, ⟨hsz, hP, hK, hD0⟩, hU, hN⟩ := hv
  have hx := B.exec
  have hb := B.bytes
  have hr := B.returns
  have hts := atoms_spec (ws := kX_scan :: CW) B.pre
  have hc : ∀ w ∈ CW, w.before _ s = true := fun w h => hts w (List.mem_cons_of_mem _ h)
  have hown : s.vm.findClass RX = some m.cls := findClass_of_methodNamed B.named
  have hlocks := B.notSynchronized
  subst hsz
  have hD := hD0.self (sz := s.heap.size)
  generalize hAe : va_A (XW ad ca S) s.heap.size = A at hD hU ⊢
  have hA : ∀ q : Nat, s.heap.size ≤ q → A q := fun q h => by rw [← hAe]; exact Or.inr h
  have hS : va_S A s.heap s.heap [] := va_S.rf
  have hl := lv_entry ([.ref (ad 0), .int a]) (n := 5) (Nat.le_of_ble_eq_true rfl)
  rw [lg_entry_eq]
  generalize (lg_sl ([.ref (ad 0), .int a]) ++ List.replicate (5 - (lg_sl ([.ref (ad 0), .int a])).length) Slot.unset).toArray = ls at hl ⊢
  have hl : lv_has ls 5 [(0, .ref (ad 0)), (1, .int a)] := hl
  refine lv_iload_n hx hb dX_scan_0 rfl (lv_at hl 1 rfl) ?_
  refine lv_iconst (v := 1) hx hb dX_scan_1 (by decide +kernel) ?_
  refine lv_bipush (v := 20) hx hb dX_scan_2 (by decide +kernel) ?_
  refine vp_callSi (va_Run.run (va_runS (As := [.int a, .int 1, .int 20]) (rest := []) ⟨hx, hb, hml, hown, hc⟩ (cX_isWithin l a 1 20) (va_cwS 3 hc (g_S w187 w188 w1 qX_isWithin) rfl rfl rfl (by decide +kernel) ⟨Nat.le_of_ble_eq_true rfl, Nat.le_of_ble_eq_true rfl⟩) ⟨tPre_blind, tPre_in⟩ rfl rfl hl.1 rfl (lv_room (Nat.le_of_ble_eq_true rfl)) dX_scan_4 ⟨Nat.zero_le _, Nat.zero_le _⟩)) (fun r_1 hr_1 => ?_)
  refine lv_if_ne (tgt := 18) hx hb dX_scan_7 (by decide) (fun c_1 => ?_) (fun c_1 => ?_)
  · obtain ⟨n, hn20, en⟩ := wi_120 (br_n hr_1 c_1)
    subst en
    refine lv_aload_n hx hb dX_scan_18 rfl (lv_at hl 0 rfl) ?_
    refine va_get (D := (dC, dI)) (ci := 0) (v := .int (S 0 3)) (C := RX) (T := TX) (N := 8) hx hb hc inX hown hK hP 0 rfl rfl 7 (by decide) (hc _ w118) (fun _ h9 => h9) rfl dX_scan_19 ?_
    refine lv_if_eq (tgt := 33) hx hb dX_scan_22 (by decide) (fun c_2 => ?_) (fun c_2 => ?_)
    · refine lv_iconst (v := 0) hx hb dX_scan_33 (by decide +kernel) ?_
      refine lv_istore_n (lv' := [(2, .int 0), (0, .ref (ad 0)), (1, .int (nI n))]) hx hb dX_scan_34 rfl hl (by decide) rfl (fun ls hl => ?_)
      refine lv_iconst (v := 0) hx hb dX_scan_35 (by decide +kernel) ?_
      refine lv_istore_n (lv' := [(3, .int 0), (2, .int 0), (0, .ref (ad 0)), (1, .int (nI n))]) hx hb dX_scan_36 rfl hl (by decide) rfl (fun ls hl => ?_)
      refine g_loop (fun mu9 H locs ls => ∃ (i : Nat), ∃ (v : Int32), ∃ (S1 : Ss), mu9 = n - i ∧ i ≤ n ∧ Pr S1 ∧ scn (n - i) v S1 = scn n 0 S ∧ (∃ w9, w9 ≤ 30 * i ∧ v = nI w9) ∧ va_P (dC, dI) vwCl (XW ad ca S1) H ∧ va_D A (XW ad ca S1) ∧ va_S A s.heap H locs ∧ lv_has ls 5 [(0, .ref (ad 0)), (1, .int (nI n)), (2, .int v), (3, .int (nI i))]) ?_ _ _ _ _ ⟨0, 0, S, rfl, Nat.zero_le _, hPr, rfl, ⟨0, Nat.zero_le _, rfl⟩, hP, hD, hS, lv_sub hl [2, 3, 1, 0] rfl⟩
      clear hP hD hS
      rintro mu9 H locs ls ⟨i, v, S1, en_37, hi, hP1, hE, hv9, hP, hD, hS, hl⟩ ih_37
      refine lv_iload_n hx hb dX_scan_37 rfl (lv_at hl 3 rfl) ?_
      refine lv_iload_n hx hb dX_scan_38 rfl (lv_at hl 1 rfl) ?_
      refine lv_icmp_ge (tgt := 88) hx hb dX_scan_39 (by decide) (fun c_3 => ?_) (fun c_3 => ?_)
      · have p_39 : n ≤ i := (nI_leI (a := n) (b := i) (by omega) (by omega)).mp c_3
        refine lv_iload_n hx hb dX_scan_88 rfl (lv_at hl 2 rfl) ?_
        refine W.widen (k := 1) (n := 6) (by decide) (by decide) ?_
        refine vx_ret ?_
        exact W.iret (v := v) hx hb hr (fun t ht hW => ⟨⟨_, S1, rfl, (by (try dsimp only); exact (by obtain ⟨w9, hw9, ew9⟩ := hv9; rw [show n - i = 0 by omega, scn] at hE; unfold oScan; rw [if_neg (fun h => h (br_n hr_1 c_1)), if_neg (fun h => h c_2), nI_clamp (by omega), ← hE]; dsimp only; rw [ew9, if_neg (nI_nm1 (by omega)), if_neg (nI_nm2 (by omega))])), by rw [ht]; exact hP, va_K.moved hW.alike hK, hD⟩, hS.F ht⟩) hS.2.2 dX_scan_89
      · have p_39 : i < n := by have := mt (nI_leI (a := n) (b := i) (by omega) (by omega)).mpr c_3; omega
        refine lv_aload_n hx hb dX_scan_42 rfl (lv_at hl 0 rfl) ?_
        refine g_calli (va_runV (As := []) (rest := []) ⟨hx, hb, hml, hown, hc⟩ (cX_scanOnce l dC dI ad ca H.size S1 hP1) (cwV 0 hc (gV w416 w418 s3 w1 qX_scanOnce) rfl rfl rfl (by decide +kernel) ⟨Nat.le_of_ble_eq_true rfl, Nat.le_of_ble_eq_true rfl⟩) ⟨gPre_blind, va_recv hK hP (ci := 0) (q0 := 0) rfl rfl, (gPre_in hP hK hD)⟩ rfl rfl hl.1 rfl (lv_room (Nat.le_of_ble_eq_true rfl)) dX_scan_43 ⟨Nat.zero_le _, Nat.zero_le _⟩) hD hS hA (fun r_6 u_5 H locs hu_5 hP hD hS => ?_)
        obtain ⟨ho9, hu9⟩ := hu_5
        subst u_5
        subst r_6
        have hk9 := sc1_ok hP1
        have hE : scn (n - (i + 1) + 1) v S1 = scn n 0 S := by rw [show n - (i + 1) + 1 = n - i by omega]; exact hE
        rw [scn] at hE
        refine lv_istore (lv' := [(4, .int ((sc1 S1).1)), (0, .ref (ad 0)), (1, .int (nI n)), (2, .int v), (3, .int (nI i))]) hx hb dX_scan_46 hl (by decide) rfl (fun ls hl => ?_)
        refine lv_iload hx hb dX_scan_48 (lv_at hl 0 rfl) ?_
        refine lv_iconst (v := (-1)) hx hb dX_scan_50 (by decide +kernel) ?_
        refine lv_icmp_ne (tgt := 62) hx hb dX_scan_51 (by decide) (fun c_6 => ?_) (fun c_6 => ?_)
        · refine lv_iload hx hb dX_scan_62 (lv_at hl 0 rfl) ?_
          refine lv_bipush (v := (-2)) hx hb dX_scan_64 (by decide +kernel) ?_
          refine lv_icmp_ne (tgt := 77) hx hb dX_scan_66 (by decide) (fun c_7 => ?_) (fun c_7 => ?_)
          · refine lv_iload_n hx hb dX_scan_77 rfl (lv_at hl 3 rfl) ?_
            refine lv_iload hx hb dX_scan_78 (lv_at hl 0 rfl) ?_
            refine lv_iadd hx hb dX_scan_80 ?_
            refine lv_topi (fun v_9 ev_9 => ?_)
            refine lv_istore_n (lv' := [(2, .int v_9), (4, .int ((sc1 S1).1)), (0, .ref (ad 0)), (1, .int (nI n)), (3, .int (nI i))]) hx hb dX_scan_81 rfl hl (by decide) rfl (fun ls hl => ?_)
            obtain ⟨v_10, ev_10⟩ : ∃ y : Int32, y = (nI i) + 1 := ⟨_, rfl⟩
            refine lv_iinc (v := v_10) (lv' := [(3, .int v_10), (2, .int v_9), (4, .int ((sc1 S1).1)), (0, .ref (ad 0)), (1, .int (nI n))]) hx hb dX_scan_82 hl (k := 4) rfl (by rw [ev_10]; rfl) (by decide) rfl (fun ls hl => ?_)
            refine lv_goto (tgt := 37) hx hb dX_scan_85 (by decide) ?_
            obtain ⟨q9, hq9, eq9⟩ := sc_q hk9.2 c_6 c_7
            obtain ⟨w9, hw9, ew9⟩ := hv9
            rw [if_neg (by rw [eq9]; exact nI_pos (by omega))] at hE
            have gv_10 : v_10 = nI (i + 1) := (by rw [ev_10]; exact nI_1 i)
            clear ev_10
            subst v_10
            exact ih_37 _ _ _ _ (by omega) ⟨(i + 1), v_9, (sc1 S1).2, rfl, (by omega), hk9.1, (by rw [ev_9]; exact hE), ⟨w9 + q9, by omega, by rw [ev_9, ew9, eq9, nI_add]⟩, hP, hD, hS, lv_sub hl [3, 4, 1, 0] rfl⟩
          · exact vx_throw0 (rest := []) (cls := eR) (names := nms) (ik := 146) (ic := 148) (mc := 1) (ms := 6) hx hb hl9 hown (by decide +kernel) (by decide +kernel) (hc _ w501) (hc _ w15) (th_hat th_eR hc hN) tg_eR hU.1 hU.2 hS (by rw [hml]; exact hl.1) dX_scan_69 dX_scan_72 dX_scan_73 dX_scan_76 (fun x h => (hex x h).elim) (Nat.le_of_ble_eq_true rfl) (Nat.le_of_ble_eq_true rfl) (Nat.le_of_ble_eq_true rfl) (Nat.le_of_ble_eq_true rfl) hlocks (fun t ha hz hk => ⟨(sc1 S1).2, trivial, ⟨by (try dsimp only); exact Or.inr (Or.inr ⟨rfl, by rw [if_pos (by rw [c_7]; decide)] at hE; unfold oScan; rw [if_neg (fun h => h (br_n hr_1 c_1)), if_neg (fun h => h c_2), nI_clamp (by omega), ← hE, if_neg c_6, if_pos c_7]⟩), (x_thrown hP hK hD hS ha hz hk).1⟩, (x_thrown hP hK hD hS ha hz hk).2⟩) hS.2.2 (Nat.le_refl _) (Nat.le_refl _)
        · exact vx_throw0 (rest := []) (cls := eS) (names := nms) (ik := 54) (ic := 56) (mc := 1) (ms := 6) hx hb hl9 hown (by decide +kernel) (by decide +kernel) (hc _ w261) (hc _ w10) (th_hat th_eS hc hN) tg_eS hU.1 hU.2 hS (by rw [hml]; exact hl.1) dX_scan_54 dX_scan_57 dX_scan_58 dX_scan_61 (fun x h => (hex x h).elim) (Nat.le_of_ble_eq_true rfl) (Nat.le_of_ble_eq_true rfl) (Nat.le_of_ble_eq_true rfl) (Nat.le_of_ble_eq_true rfl) hlocks (fun t ha hz hk => ⟨(sc1 S1).2, trivial, ⟨by (try dsimp only); exact Or.inr (Or.inl ⟨rfl, by rw [if_pos (by rw [c_6]; decide)] at hE; unfold oScan; rw [if_neg (fun h => h (br_n hr_1 c_1)), if_neg (fun h => h c_2), nI_clamp (by omega), ← hE, if_pos c_6]⟩), (x_thrown hP hK hD hS ha hz hk).1⟩, (x_thrown hP hK hD hS ha hz hk).2⟩) hS.2.2 (Nat.le_refl _) (Nat.le_refl _)
    · exact vx_throw0 (rest := []) (cls := eS) (names := nms) (ik := 54) (ic := 56) (mc := 1) (ms := 6) hx hb hl9 hown (by decide +kernel) (by decide +kernel) (hc _ w261) (hc _ w10) (th_hat th_eS hc hN) tg_eS hU.1 hU.2 hS (by rw [hml]; exact hl.1) dX_scan_25 dX_scan_28 dX_scan_29 dX_scan_32 (fun x h => (hex x h).elim) (Nat.le_of_ble_eq_true rfl) (Nat.le_of_ble_eq_true rfl) (Nat.le_of_ble_eq_true rfl) (Nat.le_of_ble_eq_true rfl) hlocks (fun t ha hz hk => ⟨S, trivial, ⟨by (try dsimp only); exact Or.inr (Or.inl ⟨rfl, by unfold oScan; rw [if_neg (fun h => h (br_n hr_1 c_1)), if_pos c_2]⟩), (x_thrown hP hK hD hS ha hz hk).1⟩, (x_thrown hP hK hD hS ha hz hk).2⟩) hS.2.2 (Nat.le_refl _) (Nat.le_refl _)
  · exact vx_throw0 (rest := []) (cls := eA) (names := nms) (ik := 51) (ic := 53) (mc := 1) (ms := 6) hx hb hl9 hown (by decide +kernel) (by decide +kernel) (hc _ w196) (hc _ w9) (th_hat th_eA hc hN) tg_eA hU.1 hU.2 hS (by rw [hml]; exact hl.1) dX_scan_10 dX_scan_13 dX_scan_14 dX_scan_17 (fun x h => (hex x h).elim) (Nat.le_of_ble_eq_true rfl) (Nat.le_of_ble_eq_true rfl) (Nat.le_of_ble_eq_true rfl) (Nat.le_of_ble_eq_true rfl) hlocks (fun t ha hz hk => ⟨S, trivial, ⟨by (try dsimp only); exact Or.inl ⟨rfl, by unfold oScan; rw [if_pos (br_0 hr_1 c_1)]⟩, (x_thrown hP hK hD hS ha hz hk).1⟩, (x_thrown hP hK hD hS ha hz hk).2⟩) hS.2.2 (Nat.le_refl _) (Nat.le_refl _)
