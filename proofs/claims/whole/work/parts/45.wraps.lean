set_option maxHeartbeats 4000000 in
set_option maxRecDepth 100000 in
theorem cLw_block (l : Launch) (hl9 : l.stackTraces = false) (dC : Nat → ClassId) (dI : Nat → Nat → Nat) (ad : Nat → Nat) (ca : Nat → ClassId) (sz : Nat) (S : Ss) (qo : Nat) (co : ClassId) (fo : Nat → Int64) (qd : Nat) (cd : ClassId) (fd : Nat → UInt64) (a b d : Int32) (m0 : Nat) (hm : m0 ≤ 10) (em : S 0 0 = nI m0) : Met l yLw_block (kLw_block :: CW) ({ frames := 7, cells := 1, slots := 6, locals := 114 }) (va_Pc [.ref (ad 0), .int a, .int b, .int d, .ref qo] (wPre (dC, dI) (xT ca ++ oT co cd) (XW ad ca S ++ oW qo co fo qd cd fd) sz)) (va_Qi (fun (r : Int32) (u : Ss × (Nat → Int64) × (Nat → UInt64)) => r = (oBlock S a b d).1 ∧ u.1 = (oBlock S a b d).2.2 ∧ (r = 0 → u.2.1 0 = (oBlock S a b d).2.1.toInt64)) (fun u => gAt (dC, dI) (xT ca ++ oT co cd) (va_A (XW ad ca S ++ oW qo co fo qd cd fd) sz) (XW ad ca u.1 ++ oW qo co u.2.1 qd cd u.2.2)) (va_A (XW ad ca S ++ oW qo co fo qd cd fd) sz)) 1 6 (va_A (XW ad ca S ++ oW qo co fo qd cd fd) sz) := by
  refine va_MetW (cc := bLw_block) (maxL := 6) (ret := (some .int)) (by decide +kernel) rfl ?_
  intro p e s m args below meth c s₁ B hml hv
  obtain ⟨rfl, ⟨⟨hsz, hP, hK, hD0⟩, hU, hN⟩, hNc⟩ := hv
  have hx := B.exec
  have hb := B.bytes
  have hr := B.returns
  have hts := atoms_spec (ws := kLw_block :: CW) B.pre
  have hc : ∀ w ∈ CW, w.before _ s = true := fun w h => hts w (List.mem_cons_of_mem _ h)
  have hown : s.vm.findClass RLw = some m.cls := findClass_of_methodNamed B.named
  have htab : c.exceptionTable.toList = tableOf [(0, 12, 15, 13), (0, 12, 19, 15)] := vx_table (x := yLw_block) B (hts kLw_block List.mem_cons_self)
  subst hsz
  have hD := hD0.self (sz := s.heap.size)
  generalize hAe : va_A (XW ad ca S ++ oW qo co fo qd cd fd) s.heap.size = A at hD hU ⊢
  have hA : ∀ q : Nat, s.heap.size ≤ q → A q := fun q h => by rw [← hAe]; exact Or.inr h
  have hS : va_S A s.heap s.heap [] := va_S.rf
  have hl := lv_entry ([.ref (ad 0), .int a, .int b, .int d, .ref qo]) (n := 6) (Nat.le_of_ble_eq_true rfl)
  rw [lg_entry_eq]
  generalize (lg_sl ([.ref (ad 0), .int a, .int b, .int d, .ref qo]) ++ List.replicate (6 - (lg_sl ([.ref (ad 0), .int a, .int b, .int d, .ref qo])).length) Slot.unset).toArray = ls at hl ⊢
  have hl : lv_has ls 6 [(0, .ref (ad 0)), (1, .int a), (2, .int b), (3, .int d), (4, .ref qo)] := hl
  refine lv_aload hx hb dLw_block_0 (lv_at hl 4 rfl) ?_
  refine lv_iconst (v := 0) hx hb dLw_block_2 (by decide +kernel) ?_
  refine lv_aload_n hx hb dLw_block_3 rfl (lv_at hl 0 rfl) ?_
  refine lv_iload_n hx hb dLw_block_4 rfl (lv_at hl 1 rfl) ?_
  refine lv_iload_n hx hb dLw_block_5 rfl (lv_at hl 2 rfl) ?_
  refine lv_iload_n hx hb dLw_block_6 rfl (lv_at hl 3 rfl) ?_
  refine f_vxi (vx_runV (As := [.int a, .int b, .int d]) (rest := [.int 0, .ref qo]) ⟨hx, hb, hml, hown, hc⟩ (cX_block l hl9 dC dI ad ca s.heap.size S a b d m0 hm em) (cwV 3 hc (gV w180 w181 w182 w1 qX_block) rfl rfl rfl (by decide +kernel) ⟨(Nat.le_of_ble_eq_true rfl), (Nat.le_of_ble_eq_true rfl)⟩) ⟨tPre2_blind, va_recv (fr_Kl hK) (fr_Pl hP) (ci := 0) (q0 := 0) rfl rfl, tPre2_in (fr_Pl hP) (fr_Kl hK) (fr_Dl hD) hS (fr_freel hD hS hA) hU hN⟩ rfl rfl hl.1 rfl (lv_room (Nat.le_of_ble_eq_true rfl)) dLw_block_7 ⟨(Nat.le_of_ble_eq_true rfl), (Nat.le_of_ble_eq_true rfl)⟩) hP hD hS hA (fun E ce q9 u H locs hX hP hD hS hce hcv hcl => ?_) (fun r u H locs hX hP hD hS => ?_)
  · rcases hX with ⟨rfl, hX⟩ | ⟨rfl, hX⟩
    · refine vx_catch (own := "LadderScanLaw") (name := eA) hown [] ⟨0, 12, 15, 13⟩ [⟨0, 12, 19, 15⟩] htab (fun z hz => absurd hz List.not_mem_nil) (by decide) (by decide) (hc _ w178) (hN.use (List.mem_of_getElem? (i := 198) rfl) rfl) hce hcv hcl ?_
      refine W.eq (g2 := F0 m 15 ls [.ref q9]) rfl ?_
      refine lv_astore (lv' := [(5, .ref q9), (0, .ref (ad 0)), (1, .int a), (2, .int b), (3, .int d), (4, .ref qo)]) hx hb dLw_block_15 hl (by decide) rfl (fun ls hl => ?_)
      refine lv_iconst (v := 1) hx hb dLw_block_17 (by decide +kernel) ?_
      refine W.widen (k := 1) (n := 6) (by decide) (by decide) ?_
      exact W.iret (v := 1) hx hb hr (fun t ht hW => ⟨⟨_, (u, fo, fd), rfl, ⟨by rw [hX], by rw [hX], fun h => absurd (show (1 : Int32) = 0 from h) (by decide)⟩, by rw [ht]; exact hP, va_K.moved hW.alike hK, hD⟩, hS.F ht⟩) hS.2.2 dLw_block_18
    · refine vx_catch (own := "LadderScanLaw") (name := eS) hown [⟨0, 12, 15, 13⟩] ⟨0, 12, 19, 15⟩ [] htab (fun z hz => by rw [List.mem_singleton.mp hz]; exact Or.inr ⟨by decide, eA, hc _ w178, hNc.1⟩) (by decide) (by decide) (hc _ w179) (hN.use (List.mem_of_getElem? (i := 263) rfl) rfl) hce hcv hcl ?_
      refine W.eq (g2 := F0 m 19 ls [.ref q9]) rfl ?_
      refine lv_astore (lv' := [(5, .ref q9), (0, .ref (ad 0)), (1, .int a), (2, .int b), (3, .int d), (4, .ref qo)]) hx hb dLw_block_19 hl (by decide) rfl (fun ls hl => ?_)
      refine lv_iconst (v := 2) hx hb dLw_block_21 (by decide +kernel) ?_
      refine W.widen (k := 1) (n := 6) (by decide) (by decide) ?_
      exact W.iret (v := 2) hx hb hr (fun t ht hW => ⟨⟨_, (u, fo, fd), rfl, ⟨by rw [hX], by rw [hX], fun h => absurd (show (2 : Int32) = 0 from h) (by decide)⟩, by rw [ht]; exact hP, va_K.moved hW.alike hK, hD⟩, hS.F ht⟩) hS.2.2 dLw_block_22
  · refine lv_i2l (v := r.toInt64) hx hb dLw_block_10 rfl ?_
    refine va_last hx hb hK hP hD hS 28 14 rfl rfl (vp_in_nI (n := 0) (by decide) (by decide)) dLw_block_11 (fun H locs hP hD hS => ?_)
    rw [show (0 : Int32).toNatClampNeg = 0 from rfl] at hP hD
    have hP : va_P (dC, dI) vwCl (XW ad ca u ++ oW qo co (vp_updL fo 0 r.toInt64) qd cd fd) H := hP
    have hD : va_D A (XW ad ca u ++ oW qo co (vp_updL fo 0 r.toInt64) qd cd fd) := hD
    refine lv_goto (tgt := 23) hx hb dLw_block_12 (by decide) ?_
    refine lv_iconst (v := 0) hx hb dLw_block_23 (by decide +kernel) ?_
    refine W.widen (k := 1) (n := 6) (by decide) (by decide) ?_
    exact W.iret (v := 0) hx hb hr (fun t ht hW => ⟨⟨_, (u, vp_updL fo 0 r.toInt64, fd), rfl, ⟨by rw [hX], by rw [hX], fun _ => by rw [hX]; rfl⟩, by rw [ht]; exact hP, va_K.moved hW.alike hK, hD⟩, hS.F ht⟩) hS.2.2 dLw_block_24

set_option maxHeartbeats 4000000 in
set_option maxRecDepth 100000 in
theorem cLw_tune (l : Launch) (hl9 : l.stackTraces = false) (dC : Nat → ClassId) (dI : Nat → Nat → Nat) (ad : Nat → Nat) (ca : Nat → ClassId) (sz : Nat) (S : Ss) (qo : Nat) (co : ClassId) (fo : Nat → Int64) (qd : Nat) (cd : ClassId) (fd : Nat → UInt64) (a f b : Int32) (m0 : Nat) (hm : m0 ≤ 10) (em : S 0 0 = nI m0) : Met l yLw_tune (kLw_tune :: CW) ({ frames := 7, cells := 1, slots := 6, locals := 119 }) (va_Pc [.ref (ad 0), .int a, .double (eD f), .double (eD b), .ref qd] (wPre (dC, dI) (xT ca ++ oT co cd) (XW ad ca S ++ oW qo co fo qd cd fd) sz)) (va_Qi (fun (r : Int32) (u : Ss × (Nat → Int64) × (Nat → UInt64)) => r = (oTune S a f b).1 ∧ u.1 = (oTune S a f b).2.2 ∧ (r = 0 → u.2.2 0 = (oTune S a f b).2.1)) (fun u => gAt (dC, dI) (xT ca ++ oT co cd) (va_A (XW ad ca S ++ oW qo co fo qd cd fd) sz) (XW ad ca u.1 ++ oW qo co u.2.1 qd cd u.2.2)) (va_A (XW ad ca S ++ oW qo co fo qd cd fd) sz)) 1 6 (va_A (XW ad ca S ++ oW qo co fo qd cd fd) sz) := by
  refine va_MetW (cc := bLw_tune) (maxL := 8) (ret := (some .int)) (by decide +kernel) rfl ?_
  intro p e s m args below meth c s₁ B hml hv
  obtain ⟨rfl, ⟨⟨hsz, hP, hK, hD0⟩, hU, hN⟩, hNc⟩ := hv
  have hx := B.exec
  have hb := B.bytes
  have hr := B.returns
  have hts := atoms_spec (ws := kLw_tune :: CW) B.pre
  have hc : ∀ w ∈ CW, w.before _ s = true := fun w h => hts w (List.mem_cons_of_mem _ h)
  have hown : s.vm.findClass RLw = some m.cls := findClass_of_methodNamed B.named
  have htab : c.exceptionTable.toList = tableOf [(0, 12, 15, 21), (0, 12, 19, 23), (0, 12, 23, 13)] := vx_table (x := yLw_tune) B (hts kLw_tune List.mem_cons_self)
  subst hsz
  have hD := hD0.self (sz := s.heap.size)
  generalize hAe : va_A (XW ad ca S ++ oW qo co fo qd cd fd) s.heap.size = A at hD hU ⊢
  have hA : ∀ q : Nat, s.heap.size ≤ q → A q := fun q h => by rw [← hAe]; exact Or.inr h
  have hS : va_S A s.heap s.heap [] := va_S.rf
  have hl := lv_entry ([.ref (ad 0), .int a, .double (eD f), .double (eD b), .ref qd]) (n := 8) (Nat.le_of_ble_eq_true rfl)
  rw [lg_entry_eq]
  generalize (lg_sl ([.ref (ad 0), .int a, .double (eD f), .double (eD b), .ref qd]) ++ List.replicate (8 - (lg_sl ([.ref (ad 0), .int a, .double (eD f), .double (eD b), .ref qd])).length) Slot.unset).toArray = ls at hl ⊢
  have hl : lv_has ls 8 [(0, .ref (ad 0)), (1, .int a), (2, .double (eD f)), (4, .double (eD b)), (6, .ref qd)] := hl
  refine lv_aload hx hb dLw_tune_0 (lv_at hl 4 rfl) ?_
  refine lv_iconst (v := 0) hx hb dLw_tune_2 (by decide +kernel) ?_
  refine lv_aload_n hx hb dLw_tune_3 rfl (lv_at hl 0 rfl) ?_
  refine lv_iload_n hx hb dLw_tune_4 rfl (lv_at hl 1 rfl) ?_
  refine lv_dload_n hx hb dLw_tune_5 rfl (lv_at hl 2 rfl) ?_
  refine lv_dload hx hb dLw_tune_6 (lv_at hl 3 rfl) ?_
  refine f_vxd (vx_runV (As := [.int a, .double (eD f), .double (eD b)]) (rest := [.int 0, .ref qd]) ⟨hx, hb, hml, hown, hc⟩ (cX_tune l hl9 dC dI ad ca s.heap.size S a f b m0 hm em) (cwV 3 hc (gV w285 w286 w287 w1 qX_tune) rfl rfl rfl (by decide +kernel) ⟨(Nat.le_of_ble_eq_true rfl), (Nat.le_of_ble_eq_true rfl)⟩) ⟨tPre2_blind, va_recv (fr_Kl hK) (fr_Pl hP) (ci := 0) (q0 := 0) rfl rfl, tPre2_in (fr_Pl hP) (fr_Kl hK) (fr_Dl hD) hS (fr_freel hD hS hA) hU hN⟩ rfl rfl hl.1 rfl (lv_room (Nat.le_of_ble_eq_true rfl)) dLw_tune_8 ⟨(Nat.le_of_ble_eq_true rfl), (Nat.le_of_ble_eq_true rfl)⟩) hP hD hS hA (fun E ce q9 u H locs hX hP hD hS hce hcv hcl => ?_) (fun r u H locs hX hP hD hS => ?_)
  · rcases hX with ⟨rfl, hX⟩ | ⟨rfl, hX⟩ | ⟨rfl, hX⟩
    · refine vx_catch (own := "LadderScanLaw") (name := eN) hown [] ⟨0, 12, 15, 21⟩ [⟨0, 12, 19, 23⟩, ⟨0, 12, 23, 13⟩] htab (fun z hz => absurd hz List.not_mem_nil) (by decide) (by decide) (hc _ w283) (hN.use (List.mem_of_getElem? (i := 295) rfl) rfl) hce hcv hcl ?_
      refine W.eq (g2 := F0 m 15 ls [.ref q9]) rfl ?_
      refine lv_astore (lv' := [(7, .ref q9), (0, .ref (ad 0)), (1, .int a), (2, .double (eD f)), (4, .double (eD b)), (6, .ref qd)]) hx hb dLw_tune_15 hl (by decide) rfl (fun ls hl => ?_)
      refine lv_iconst (v := 1) hx hb dLw_tune_17 (by decide +kernel) ?_
      refine W.widen (k := 1) (n := 6) (by decide) (by decide) ?_
      exact W.iret (v := 1) hx hb hr (fun t ht hW => ⟨⟨_, (u, fo, fd), rfl, ⟨by rw [hX], by rw [hX], fun h => absurd (show (1 : Int32) = 0 from h) (by decide)⟩, by rw [ht]; exact hP, va_K.moved hW.alike hK, hD⟩, hS.F ht⟩) hS.2.2 dLw_tune_18
    · refine vx_catch (own := "LadderScanLaw") (name := eU) hown [⟨0, 12, 15, 21⟩] ⟨0, 12, 19, 23⟩ [⟨0, 12, 23, 13⟩] htab (fun z hz => by rw [List.mem_singleton.mp hz]; exact Or.inr ⟨by decide, eN, hc _ w283, hNc.2.1⟩) (by decide) (by decide) (hc _ w284) (hN.use (List.mem_of_getElem? (i := 310) rfl) rfl) hce hcv hcl ?_
      refine W.eq (g2 := F0 m 19 ls [.ref q9]) rfl ?_
      refine lv_astore (lv' := [(7, .ref q9), (0, .ref (ad 0)), (1, .int a), (2, .double (eD f)), (4, .double (eD b)), (6, .ref qd)]) hx hb dLw_tune_19 hl (by decide) rfl (fun ls hl => ?_)
      refine lv_iconst (v := 2) hx hb dLw_tune_21 (by decide +kernel) ?_
      refine W.widen (k := 1) (n := 6) (by decide) (by decide) ?_
      exact W.iret (v := 2) hx hb hr (fun t ht hW => ⟨⟨_, (u, fo, fd), rfl, ⟨by rw [hX], by rw [hX], fun h => absurd (show (2 : Int32) = 0 from h) (by decide)⟩, by rw [ht]; exact hP, va_K.moved hW.alike hK, hD⟩, hS.F ht⟩) hS.2.2 dLw_tune_22
    · refine vx_catch (own := "LadderScanLaw") (name := eA) hown [⟨0, 12, 15, 21⟩, ⟨0, 12, 19, 23⟩] ⟨0, 12, 23, 13⟩ [] htab (fun z hz => (List.mem_cons.mp hz).elim (fun h => by rw [h]; exact Or.inr ⟨by decide, eN, hc _ w283, hNc.2.2.1⟩) (fun h => by rw [List.mem_singleton.mp h]; exact Or.inr ⟨by decide, eU, hc _ w284, hNc.2.2.2.1⟩)) (by decide) (by decide) (hc _ w178) (hN.use (List.mem_of_getElem? (i := 198) rfl) rfl) hce hcv hcl ?_
      refine W.eq (g2 := F0 m 23 ls [.ref q9]) rfl ?_
      refine lv_astore (lv' := [(7, .ref q9), (0, .ref (ad 0)), (1, .int a), (2, .double (eD f)), (4, .double (eD b)), (6, .ref qd)]) hx hb dLw_tune_23 hl (by decide) rfl (fun ls hl => ?_)
      refine lv_iconst (v := 3) hx hb dLw_tune_25 (by decide +kernel) ?_
      refine W.widen (k := 1) (n := 6) (by decide) (by decide) ?_
      exact W.iret (v := 3) hx hb hr (fun t ht hW => ⟨⟨_, (u, fo, fd), rfl, ⟨by rw [hX], by rw [hX], fun h => absurd (show (3 : Int32) = 0 from h) (by decide)⟩, by rw [ht]; exact hP, va_K.moved hW.alike hK, hD⟩, hS.F ht⟩) hS.2.2 dLw_tune_26
  · refine va_dast hx hb hK hP hD hS 29 15 rfl rfl (vp_in_nI (n := 0) (by decide) (by decide)) dLw_tune_11 (fun H locs hP hD hS => ?_)
    rw [show (0 : Int32).toNatClampNeg = 0 from rfl] at hP hD
    have hP : va_P (dC, dI) vwCl (XW ad ca u ++ oW qo co fo qd cd (vf_upd fd 0 r)) H := hP
    have hD : va_D A (XW ad ca u ++ oW qo co fo qd cd (vf_upd fd 0 r)) := hD
    refine lv_goto (tgt := 27) hx hb dLw_tune_12 (by decide) ?_
    refine lv_iconst (v := 0) hx hb dLw_tune_27 (by decide +kernel) ?_
    refine W.widen (k := 1) (n := 6) (by decide) (by decide) ?_
    exact W.iret (v := 0) hx hb hr (fun t ht hW => ⟨⟨_, (u, fo, vf_upd fd 0 r), rfl, ⟨by rw [hX], by rw [hX], fun _ => by rw [hX]; rfl⟩, by rw [ht]; exact hP, va_K.moved hW.alike hK, hD⟩, hS.F ht⟩) hS.2.2 dLw_tune_28

set_option maxHeartbeats 4000000 in
set_option maxRecDepth 100000 in
theorem cLw_step (l : Launch) (hl9 : l.stackTraces = false) (dC : Nat → ClassId) (dI : Nat → Nat → Nat) (ad : Nat → Nat) (ca : Nat → ClassId) (sz : Nat) (S : Ss) (qo : Nat) (co : ClassId) (fo : Nat → Int64) (qd : Nat) (cd : ClassId) (fd : Nat → UInt64) (a b d : Int32) (n : Nat) (hn : a.toNatClampNeg < 12 → n ≤ 10 ∧ S 8 a.toNatClampNeg = nI n) : Met l yLw_step (kLw_step :: CW) ({ frames := 7, cells := 1, slots := 6, locals := 114 }) (va_Pc [.ref (ad 0), .int a, .int b, .int d, .ref qo] (wPre (dC, dI) (xT ca ++ oT co cd) (XW ad ca S ++ oW qo co fo qd cd fd) sz)) (va_Qi (fun (r : Int32) (u : Ss × (Nat → Int64) × (Nat → UInt64)) => r = (oStep S a b d).1 ∧ u.1 = (oStep S a b d).2.2 ∧ (r = 0 → u.2.1 0 = (oStep S a b d).2.1.toInt64)) (fun u => gAt (dC, dI) (xT ca ++ oT co cd) (va_A (XW ad ca S ++ oW qo co fo qd cd fd) sz) (XW ad ca u.1 ++ oW qo co u.2.1 qd cd u.2.2)) (va_A (XW ad ca S ++ oW qo co fo qd cd fd) sz)) 1 6 (va_A (XW ad ca S ++ oW qo co fo qd cd fd) sz) := by
  refine va_MetW (cc := bLw_step) (maxL := 6) (ret := (some .int)) (by decide +kernel) rfl ?_
  intro p e s m args below meth c s₁ B hml hv
  obtain ⟨rfl, ⟨⟨hsz, hP, hK, hD0⟩, hU, hN⟩, hNc⟩ := hv
  have hx := B.exec
  have hb := B.bytes
  have hr := B.returns
  have hts := atoms_spec (ws := kLw_step :: CW) B.pre
  have hc : ∀ w ∈ CW, w.before _ s = true := fun w h => hts w (List.mem_cons_of_mem _ h)
  have hown : s.vm.findClass RLw = some m.cls := findClass_of_methodNamed B.named
  have htab : c.exceptionTable.toList = tableOf [(0, 12, 15, 13), (0, 12, 19, 23), (0, 12, 23, 15)] := vx_table (x := yLw_step) B (hts kLw_step List.mem_cons_self)
  subst hsz
  have hD := hD0.self (sz := s.heap.size)
  generalize hAe : va_A (XW ad ca S ++ oW qo co fo qd cd fd) s.heap.size = A at hD hU ⊢
  have hA : ∀ q : Nat, s.heap.size ≤ q → A q := fun q h => by rw [← hAe]; exact Or.inr h
  have hS : va_S A s.heap s.heap [] := va_S.rf
  have hl := lv_entry ([.ref (ad 0), .int a, .int b, .int d, .ref qo]) (n := 6) (Nat.le_of_ble_eq_true rfl)
  rw [lg_entry_eq]
  generalize (lg_sl ([.ref (ad 0), .int a, .int b, .int d, .ref qo]) ++ List.replicate (6 - (lg_sl ([.ref (ad 0), .int a, .int b, .int d, .ref qo])).length) Slot.unset).toArray = ls at hl ⊢
  have hl : lv_has ls 6 [(0, .ref (ad 0)), (1, .int a), (2, .int b), (3, .int d), (4, .ref qo)] := hl
  refine lv_aload hx hb dLw_step_0 (lv_at hl 4 rfl) ?_
  refine lv_iconst (v := 0) hx hb dLw_step_2 (by decide +kernel) ?_
  refine lv_aload_n hx hb dLw_step_3 rfl (lv_at hl 0 rfl) ?_
  refine lv_iload_n hx hb dLw_step_4 rfl (lv_at hl 1 rfl) ?_
  refine lv_iload_n hx hb dLw_step_5 rfl (lv_at hl 2 rfl) ?_
  refine lv_iload_n hx hb dLw_step_6 rfl (lv_at hl 3 rfl) ?_
  refine f_vxi (vx_runV (As := [.int a, .int b, .int d]) (rest := [.int 0, .ref qo]) ⟨hx, hb, hml, hown, hc⟩ (cX_step l hl9 dC dI ad ca s.heap.size S a b d n hn) (cwV 3 hc (gV w341 w342 w343 w1 qX_step) rfl rfl rfl (by decide +kernel) ⟨(Nat.le_of_ble_eq_true rfl), (Nat.le_of_ble_eq_true rfl)⟩) ⟨tPre2_blind, va_recv (fr_Kl hK) (fr_Pl hP) (ci := 0) (q0 := 0) rfl rfl, tPre2_in (fr_Pl hP) (fr_Kl hK) (fr_Dl hD) hS (fr_freel hD hS hA) hU hN⟩ rfl rfl hl.1 rfl (lv_room (Nat.le_of_ble_eq_true rfl)) dLw_step_7 ⟨(Nat.le_of_ble_eq_true rfl), (Nat.le_of_ble_eq_true rfl)⟩) hP hD hS hA (fun E ce q9 u H locs hX hP hD hS hce hcv hcl => ?_) (fun r u H locs hX hP hD hS => ?_)
  · rcases hX with ⟨rfl, hX⟩ | ⟨rfl, hX⟩ | ⟨rfl, hX⟩
    · refine vx_catch (own := "LadderScanLaw") (name := eA) hown [] ⟨0, 12, 15, 13⟩ [⟨0, 12, 19, 23⟩, ⟨0, 12, 23, 15⟩] htab (fun z hz => absurd hz List.not_mem_nil) (by decide) (by decide) (hc _ w178) (hN.use (List.mem_of_getElem? (i := 198) rfl) rfl) hce hcv hcl ?_
      refine W.eq (g2 := F0 m 15 ls [.ref q9]) rfl ?_
      refine lv_astore (lv' := [(5, .ref q9), (0, .ref (ad 0)), (1, .int a), (2, .int b), (3, .int d), (4, .ref qo)]) hx hb dLw_step_15 hl (by decide) rfl (fun ls hl => ?_)
      refine lv_iconst (v := 1) hx hb dLw_step_17 (by decide +kernel) ?_
      refine W.widen (k := 1) (n := 6) (by decide) (by decide) ?_
      exact W.iret (v := 1) hx hb hr (fun t ht hW => ⟨⟨_, (u, fo, fd), rfl, ⟨by rw [hX], by rw [hX], fun h => absurd (show (1 : Int32) = 0 from h) (by decide)⟩, by rw [ht]; exact hP, va_K.moved hW.alike hK, hD⟩, hS.F ht⟩) hS.2.2 dLw_step_18
    · refine vx_catch (own := "LadderScanLaw") (name := eU) hown [⟨0, 12, 15, 13⟩] ⟨0, 12, 19, 23⟩ [⟨0, 12, 23, 15⟩] htab (fun z hz => by rw [List.mem_singleton.mp hz]; exact Or.inr ⟨by decide, eA, hc _ w178, hNc.2.2.2.2.1⟩) (by decide) (by decide) (hc _ w284) (hN.use (List.mem_of_getElem? (i := 310) rfl) rfl) hce hcv hcl ?_
      refine W.eq (g2 := F0 m 19 ls [.ref q9]) rfl ?_
      refine lv_astore (lv' := [(5, .ref q9), (0, .ref (ad 0)), (1, .int a), (2, .int b), (3, .int d), (4, .ref qo)]) hx hb dLw_step_19 hl (by decide) rfl (fun ls hl => ?_)
      refine lv_iconst (v := 2) hx hb dLw_step_21 (by decide +kernel) ?_
      refine W.widen (k := 1) (n := 6) (by decide) (by decide) ?_
      exact W.iret (v := 2) hx hb hr (fun t ht hW => ⟨⟨_, (u, fo, fd), rfl, ⟨by rw [hX], by rw [hX], fun h => absurd (show (2 : Int32) = 0 from h) (by decide)⟩, by rw [ht]; exact hP, va_K.moved hW.alike hK, hD⟩, hS.F ht⟩) hS.2.2 dLw_step_22
    · refine vx_catch (own := "LadderScanLaw") (name := eS) hown [⟨0, 12, 15, 13⟩, ⟨0, 12, 19, 23⟩] ⟨0, 12, 23, 15⟩ [] htab (fun z hz => (List.mem_cons.mp hz).elim (fun h => by rw [h]; exact Or.inr ⟨by decide, eA, hc _ w178, hNc.1⟩) (fun h => by rw [List.mem_singleton.mp h]; exact Or.inr ⟨by decide, eU, hc _ w284, hNc.2.2.2.2.2.1⟩)) (by decide) (by decide) (hc _ w179) (hN.use (List.mem_of_getElem? (i := 263) rfl) rfl) hce hcv hcl ?_
      refine W.eq (g2 := F0 m 23 ls [.ref q9]) rfl ?_
      refine lv_astore (lv' := [(5, .ref q9), (0, .ref (ad 0)), (1, .int a), (2, .int b), (3, .int d), (4, .ref qo)]) hx hb dLw_step_23 hl (by decide) rfl (fun ls hl => ?_)
      refine lv_iconst (v := 3) hx hb dLw_step_25 (by decide +kernel) ?_
      refine W.widen (k := 1) (n := 6) (by decide) (by decide) ?_
      exact W.iret (v := 3) hx hb hr (fun t ht hW => ⟨⟨_, (u, fo, fd), rfl, ⟨by rw [hX], by rw [hX], fun h => absurd (show (3 : Int32) = 0 from h) (by decide)⟩, by rw [ht]; exact hP, va_K.moved hW.alike hK, hD⟩, hS.F ht⟩) hS.2.2 dLw_step_26
  · refine lv_i2l (v := r.toInt64) hx hb dLw_step_10 rfl ?_
    refine va_last hx hb hK hP hD hS 28 14 rfl rfl (vp_in_nI (n := 0) (by decide) (by decide)) dLw_step_11 (fun H locs hP hD hS => ?_)
    rw [show (0 : Int32).toNatClampNeg = 0 from rfl] at hP hD
    have hP : va_P (dC, dI) vwCl (XW ad ca u ++ oW qo co (vp_updL fo 0 r.toInt64) qd cd fd) H := hP
    have hD : va_D A (XW ad ca u ++ oW qo co (vp_updL fo 0 r.toInt64) qd cd fd) := hD
    refine lv_goto (tgt := 27) hx hb dLw_step_12 (by decide) ?_
    refine lv_iconst (v := 0) hx hb dLw_step_27 (by decide +kernel) ?_
    refine W.widen (k := 1) (n := 6) (by decide) (by decide) ?_
    exact W.iret (v := 0) hx hb hr (fun t ht hW => ⟨⟨_, (u, vp_updL fo 0 r.toInt64, fd), rfl, ⟨by rw [hX], by rw [hX], fun _ => by rw [hX]; rfl⟩, by rw [ht]; exact hP, va_K.moved hW.alike hK, hD⟩, hS.F ht⟩) hS.2.2 dLw_step_28

set_option maxHeartbeats 4000000 in
set_option maxRecDepth 100000 in
theorem cLw_erase (l : Launch) (hl9 : l.stackTraces = false) (dC : Nat → ClassId) (dI : Nat → Nat → Nat) (ad : Nat → Nat) (ca : Nat → ClassId) (sz : Nat) (S : Ss) (qo : Nat) (co : ClassId) (fo : Nat → Int64) (qd : Nat) (cd : ClassId) (fd : Nat → UInt64) (a : Int32) : Met l yLw_erase (kLw_erase :: CW) ({ frames := 7, cells := 1, slots := 6, locals := 112 }) (va_Pc [.ref (ad 0), .int a, .ref qo] (wPre (dC, dI) (xT ca ++ oT co cd) (XW ad ca S ++ oW qo co fo qd cd fd) sz)) (va_Qi (fun (r : Int32) (u : Ss × (Nat → Int64) × (Nat → UInt64)) => r = (oErase S a).1 ∧ u.1 = (oErase S a).2.2 ∧ (r = 0 → u.2.1 0 = (oErase S a).2.1.toInt64)) (fun u => gAt (dC, dI) (xT ca ++ oT co cd) (va_A (XW ad ca S ++ oW qo co fo qd cd fd) sz) (XW ad ca u.1 ++ oW qo co u.2.1 qd cd u.2.2)) (va_A (XW ad ca S ++ oW qo co fo qd cd fd) sz)) 1 6 (va_A (XW ad ca S ++ oW qo co fo qd cd fd) sz) := by
  refine va_MetW (cc := bLw_erase) (maxL := 4) (ret := (some .int)) (by decide +kernel) rfl ?_
  intro p e s m args below meth c s₁ B hml hv
  obtain ⟨rfl, ⟨⟨hsz, hP, hK, hD0⟩, hU, hN⟩, hNc⟩ := hv
  have hx := B.exec
  have hb := B.bytes
  have hr := B.returns
  have hts := atoms_spec (ws := kLw_erase :: CW) B.pre
  have hc : ∀ w ∈ CW, w.before _ s = true := fun w h => hts w (List.mem_cons_of_mem _ h)
  have hown : s.vm.findClass RLw = some m.cls := findClass_of_methodNamed B.named
  have htab : c.exceptionTable.toList = tableOf [(0, 9, 12, 13)] := vx_table (x := yLw_erase) B (hts kLw_erase List.mem_cons_self)
  subst hsz
  have hD := hD0.self (sz := s.heap.size)
  generalize hAe : va_A (XW ad ca S ++ oW qo co fo qd cd fd) s.heap.size = A at hD hU ⊢
  have hA : ∀ q : Nat, s.heap.size ≤ q → A q := fun q h => by rw [← hAe]; exact Or.inr h
  have hS : va_S A s.heap s.heap [] := va_S.rf
  have hl := lv_entry ([.ref (ad 0), .int a, .ref qo]) (n := 4) (Nat.le_of_ble_eq_true rfl)
  rw [lg_entry_eq]
  generalize (lg_sl ([.ref (ad 0), .int a, .ref qo]) ++ List.replicate (4 - (lg_sl ([.ref (ad 0), .int a, .ref qo])).length) Slot.unset).toArray = ls at hl ⊢
  have hl : lv_has ls 4 [(0, .ref (ad 0)), (1, .int a), (2, .ref qo)] := hl
  refine lv_aload_n hx hb dLw_erase_0 rfl (lv_at hl 2 rfl) ?_
  refine lv_iconst (v := 0) hx hb dLw_erase_1 (by decide +kernel) ?_
  refine lv_aload_n hx hb dLw_erase_2 rfl (lv_at hl 0 rfl) ?_
  refine lv_iload_n hx hb dLw_erase_3 rfl (lv_at hl 1 rfl) ?_
  refine f_vxi (vx_runV (As := [.int a]) (rest := [.int 0, .ref qo]) ⟨hx, hb, hml, hown, hc⟩ (cX_erase l hl9 dC dI ad ca s.heap.size S a) (cwV 1 hc (gV w379 w380 w381 w1 qX_erase) rfl rfl rfl (by decide +kernel) ⟨(Nat.le_of_ble_eq_true rfl), (Nat.le_of_ble_eq_true rfl)⟩) ⟨tPre2_blind, va_recv (fr_Kl hK) (fr_Pl hP) (ci := 0) (q0 := 0) rfl rfl, tPre2_in (fr_Pl hP) (fr_Kl hK) (fr_Dl hD) hS (fr_freel hD hS hA) hU hN⟩ rfl rfl hl.1 rfl (lv_room (Nat.le_of_ble_eq_true rfl)) dLw_erase_4 ⟨(Nat.le_of_ble_eq_true rfl), (Nat.le_of_ble_eq_true rfl)⟩) hP hD hS hA (fun E ce q9 u H locs hX hP hD hS hce hcv hcl => ?_) (fun r u H locs hX hP hD hS => ?_)
  · obtain ⟨rfl, hX⟩ := hX
    refine vx_catch (own := "LadderScanLaw") (name := eA) hown [] ⟨0, 9, 12, 13⟩ [] htab (fun z hz => absurd hz List.not_mem_nil) (by decide) (by decide) (hc _ w178) (hN.use (List.mem_of_getElem? (i := 198) rfl) rfl) hce hcv hcl ?_
    refine W.eq (g2 := F0 m 12 ls [.ref q9]) rfl ?_
    refine lv_astore_n (lv' := [(3, .ref q9), (0, .ref (ad 0)), (1, .int a), (2, .ref qo)]) hx hb dLw_erase_12 rfl hl (by decide) rfl (fun ls hl => ?_)
    refine lv_iconst (v := 1) hx hb dLw_erase_13 (by decide +kernel) ?_
    refine W.widen (k := 1) (n := 6) (by decide) (by decide) ?_
    exact W.iret (v := 1) hx hb hr (fun t ht hW => ⟨⟨_, (u, fo, fd), rfl, ⟨by rw [hX], by rw [hX], fun h => absurd (show (1 : Int32) = 0 from h) (by decide)⟩, by rw [ht]; exact hP, va_K.moved hW.alike hK, hD⟩, hS.F ht⟩) hS.2.2 dLw_erase_14
  · refine lv_i2l (v := r.toInt64) hx hb dLw_erase_7 rfl ?_
    refine va_last hx hb hK hP hD hS 28 14 rfl rfl (vp_in_nI (n := 0) (by decide) (by decide)) dLw_erase_8 (fun H locs hP hD hS => ?_)
    rw [show (0 : Int32).toNatClampNeg = 0 from rfl] at hP hD
    have hP : va_P (dC, dI) vwCl (XW ad ca u ++ oW qo co (vp_updL fo 0 r.toInt64) qd cd fd) H := hP
    have hD : va_D A (XW ad ca u ++ oW qo co (vp_updL fo 0 r.toInt64) qd cd fd) := hD
    refine lv_goto (tgt := 15) hx hb dLw_erase_9 (by decide) ?_
    refine lv_iconst (v := 0) hx hb dLw_erase_15 (by decide +kernel) ?_
    refine W.widen (k := 1) (n := 6) (by decide) (by decide) ?_
    exact W.iret (v := 0) hx hb hr (fun t ht hW => ⟨⟨_, (u, vp_updL fo 0 r.toInt64, fd), rfl, ⟨by rw [hX], by rw [hX], fun _ => by rw [hX]; rfl⟩, by rw [ht]; exact hP, va_K.moved hW.alike hK, hD⟩, hS.F ht⟩) hS.2.2 dLw_erase_16

set_option maxHeartbeats 4000000 in
set_option maxRecDepth 100000 in
theorem cLw_wire (l : Launch) (hl9 : l.stackTraces = false) (dC : Nat → ClassId) (dI : Nat → Nat → Nat) (ad : Nat → Nat) (ca : Nat → ClassId) (sz : Nat) (S : Ss) (qo : Nat) (co : ClassId) (fo : Nat → Int64) (qd : Nat) (cd : ClassId) (fd : Nat → UInt64) (a b : Int32) : Met l yLw_wire (kLw_wire :: CW) ({ frames := 7, cells := 1, slots := 6, locals := 114 }) (va_Pc [.ref (ad 0), .int a, .int b, .ref qo] (wPre (dC, dI) (xT ca ++ oT co cd) (XW ad ca S ++ oW qo co fo qd cd fd) sz)) (va_Qi (fun (r : Int32) (u : Ss × (Nat → Int64) × (Nat → UInt64)) => r = (oWire S a b).1 ∧ u.1 = (oWire S a b).2.2 ∧ (r = 0 → u.2.1 0 = (oWire S a b).2.1.toInt64)) (fun u => gAt (dC, dI) (xT ca ++ oT co cd) (va_A (XW ad ca S ++ oW qo co fo qd cd fd) sz) (XW ad ca u.1 ++ oW qo co u.2.1 qd cd u.2.2)) (va_A (XW ad ca S ++ oW qo co fo qd cd fd) sz)) 1 6 (va_A (XW ad ca S ++ oW qo co fo qd cd fd) sz) := by
  refine va_MetW (cc := bLw_wire) (maxL := 5) (ret := (some .int)) (by decide +kernel) rfl ?_
  intro p e s m args below meth c s₁ B hml hv
  obtain ⟨rfl, ⟨⟨hsz, hP, hK, hD0⟩, hU, hN⟩, hNc⟩ := hv
  have hx := B.exec
  have hb := B.bytes
  have hr := B.returns
  have hts := atoms_spec (ws := kLw_wire :: CW) B.pre
  have hc : ∀ w ∈ CW, w.before _ s = true := fun w h => hts w (List.mem_cons_of_mem _ h)
  have hown : s.vm.findClass RLw = some m.cls := findClass_of_methodNamed B.named
  have htab : c.exceptionTable.toList = tableOf [(0, 10, 13, 13)] := vx_table (x := yLw_wire) B (hts kLw_wire List.mem_cons_self)
  subst hsz
  have hD := hD0.self (sz := s.heap.size)
  generalize hAe : va_A (XW ad ca S ++ oW qo co fo qd cd fd) s.heap.size = A at hD hU ⊢
  have hA : ∀ q : Nat, s.heap.size ≤ q → A q := fun q h => by rw [← hAe]; exact Or.inr h
  have hS : va_S A s.heap s.heap [] := va_S.rf
  have hl := lv_entry ([.ref (ad 0), .int a, .int b, .ref qo]) (n := 5) (Nat.le_of_ble_eq_true rfl)
  rw [lg_entry_eq]
  generalize (lg_sl ([.ref (ad 0), .int a, .int b, .ref qo]) ++ List.replicate (5 - (lg_sl ([.ref (ad 0), .int a, .int b, .ref qo])).length) Slot.unset).toArray = ls at hl ⊢
  have hl : lv_has ls 5 [(0, .ref (ad 0)), (1, .int a), (2, .int b), (3, .ref qo)] := hl
  refine lv_aload_n hx hb dLw_wire_0 rfl (lv_at hl 3 rfl) ?_
  refine lv_iconst (v := 0) hx hb dLw_wire_1 (by decide +kernel) ?_
  refine lv_aload_n hx hb dLw_wire_2 rfl (lv_at hl 0 rfl) ?_
  refine lv_iload_n hx hb dLw_wire_3 rfl (lv_at hl 1 rfl) ?_
  refine lv_iload_n hx hb dLw_wire_4 rfl (lv_at hl 2 rfl) ?_
  refine f_vxi (vx_runV (As := [.int a, .int b]) (rest := [.int 0, .ref qo]) ⟨hx, hb, hml, hown, hc⟩ (cX_wire l hl9 dC dI ad ca s.heap.size S a b) (cwV 2 hc (gV w390 w391 w392 w1 qX_wire) rfl rfl rfl (by decide +kernel) ⟨(Nat.le_of_ble_eq_true rfl), (Nat.le_of_ble_eq_true rfl)⟩) ⟨tPre2_blind, va_recv (fr_Kl hK) (fr_Pl hP) (ci := 0) (q0 := 0) rfl rfl, tPre2_in (fr_Pl hP) (fr_Kl hK) (fr_Dl hD) hS (fr_freel hD hS hA) hU hN⟩ rfl rfl hl.1 rfl (lv_room (Nat.le_of_ble_eq_true rfl)) dLw_wire_5 ⟨(Nat.le_of_ble_eq_true rfl), (Nat.le_of_ble_eq_true rfl)⟩) hP hD hS hA (fun E ce q9 u H locs hX hP hD hS hce hcv hcl => ?_) (fun r u H locs hX hP hD hS => ?_)
  · obtain ⟨rfl, hX⟩ := hX
    refine vx_catch (own := "LadderScanLaw") (name := eA) hown [] ⟨0, 10, 13, 13⟩ [] htab (fun z hz => absurd hz List.not_mem_nil) (by decide) (by decide) (hc _ w178) (hN.use (List.mem_of_getElem? (i := 198) rfl) rfl) hce hcv hcl ?_
    refine W.eq (g2 := F0 m 13 ls [.ref q9]) rfl ?_
    refine lv_astore (lv' := [(4, .ref q9), (0, .ref (ad 0)), (1, .int a), (2, .int b), (3, .ref qo)]) hx hb dLw_wire_13 hl (by decide) rfl (fun ls hl => ?_)
    refine lv_iconst (v := 1) hx hb dLw_wire_15 (by decide +kernel) ?_
    refine W.widen (k := 1) (n := 6) (by decide) (by decide) ?_
    exact W.iret (v := 1) hx hb hr (fun t ht hW => ⟨⟨_, (u, fo, fd), rfl, ⟨by rw [hX], by rw [hX], fun h => absurd (show (1 : Int32) = 0 from h) (by decide)⟩, by rw [ht]; exact hP, va_K.moved hW.alike hK, hD⟩, hS.F ht⟩) hS.2.2 dLw_wire_16
  · refine lv_i2l (v := r.toInt64) hx hb dLw_wire_8 rfl ?_
    refine va_last hx hb hK hP hD hS 28 14 rfl rfl (vp_in_nI (n := 0) (by decide) (by decide)) dLw_wire_9 (fun H locs hP hD hS => ?_)
    rw [show (0 : Int32).toNatClampNeg = 0 from rfl] at hP hD
    have hP : va_P (dC, dI) vwCl (XW ad ca u ++ oW qo co (vp_updL fo 0 r.toInt64) qd cd fd) H := hP
    have hD : va_D A (XW ad ca u ++ oW qo co (vp_updL fo 0 r.toInt64) qd cd fd) := hD
    refine lv_goto (tgt := 17) hx hb dLw_wire_10 (by decide) ?_
    refine lv_iconst (v := 0) hx hb dLw_wire_17 (by decide +kernel) ?_
    refine W.widen (k := 1) (n := 6) (by decide) (by decide) ?_
    exact W.iret (v := 0) hx hb hr (fun t ht hW => ⟨⟨_, (u, vp_updL fo 0 r.toInt64, fd), rfl, ⟨by rw [hX], by rw [hX], fun _ => by rw [hX]; rfl⟩, by rw [ht]; exact hP, va_K.moved hW.alike hK, hD⟩, hS.F ht⟩) hS.2.2 dLw_wire_18

set_option maxHeartbeats 4000000 in
set_option maxRecDepth 100000 in
theorem cLw_put (l : Launch) (hl9 : l.stackTraces = false) (dC : Nat → ClassId) (dI : Nat → Nat → Nat) (ad : Nat → Nat) (ca : Nat → ClassId) (sz : Nat) (S : Ss) (qo : Nat) (co : ClassId) (fo : Nat → Int64) (qd : Nat) (cd : ClassId) (fd : Nat → UInt64) (a b : Int32) : Met l yLw_put (kLw_put :: CW) ({ frames := 7, cells := 1, slots := 6, locals := 116 }) (va_Pc [.ref (ad 0), .int a, .double (eD b), .ref qd] (wPre (dC, dI) (xT ca ++ oT co cd) (XW ad ca S ++ oW qo co fo qd cd fd) sz)) (va_Qi (fun (r : Int32) (u : Ss × (Nat → Int64) × (Nat → UInt64)) => r = (oPut S a b).1 ∧ u.1 = (oPut S a b).2.2 ∧ (r = 0 → u.2.2 0 = (oPut S a b).2.1)) (fun u => gAt (dC, dI) (xT ca ++ oT co cd) (va_A (XW ad ca S ++ oW qo co fo qd cd fd) sz) (XW ad ca u.1 ++ oW qo co u.2.1 qd cd u.2.2)) (va_A (XW ad ca S ++ oW qo co fo qd cd fd) sz)) 1 6 (va_A (XW ad ca S ++ oW qo co fo qd cd fd) sz) := by
  refine va_MetW (cc := bLw_put) (maxL := 6) (ret := (some .int)) (by decide +kernel) rfl ?_
  intro p e s m args below meth c s₁ B hml hv
  obtain ⟨rfl, ⟨⟨hsz, hP, hK, hD0⟩, hU, hN⟩, hNc⟩ := hv
  have hx := B.exec
  have hb := B.bytes
  have hr := B.returns
  have hts := atoms_spec (ws := kLw_put :: CW) B.pre
  have hc : ∀ w ∈ CW, w.before _ s = true := fun w h => hts w (List.mem_cons_of_mem _ h)
  have hown : s.vm.findClass RLw = some m.cls := findClass_of_methodNamed B.named
  have htab : c.exceptionTable.toList = tableOf [(0, 10, 13, 13)] := vx_table (x := yLw_put) B (hts kLw_put List.mem_cons_self)
  subst hsz
  have hD := hD0.self (sz := s.heap.size)
  generalize hAe : va_A (XW ad ca S ++ oW qo co fo qd cd fd) s.heap.size = A at hD hU ⊢
  have hA : ∀ q : Nat, s.heap.size ≤ q → A q := fun q h => by rw [← hAe]; exact Or.inr h
  have hS : va_S A s.heap s.heap [] := va_S.rf
  have hl := lv_entry ([.ref (ad 0), .int a, .double (eD b), .ref qd]) (n := 6) (Nat.le_of_ble_eq_true rfl)
  rw [lg_entry_eq]
  generalize (lg_sl ([.ref (ad 0), .int a, .double (eD b), .ref qd]) ++ List.replicate (6 - (lg_sl ([.ref (ad 0), .int a, .double (eD b), .ref qd])).length) Slot.unset).toArray = ls at hl ⊢
  have hl : lv_has ls 6 [(0, .ref (ad 0)), (1, .int a), (2, .double (eD b)), (4, .ref qd)] := hl
  refine lv_aload hx hb dLw_put_0 (lv_at hl 3 rfl) ?_
  refine lv_iconst (v := 0) hx hb dLw_put_2 (by decide +kernel) ?_
  refine lv_aload_n hx hb dLw_put_3 rfl (lv_at hl 0 rfl) ?_
  refine lv_iload_n hx hb dLw_put_4 rfl (lv_at hl 1 rfl) ?_
  refine lv_dload_n hx hb dLw_put_5 rfl (lv_at hl 2 rfl) ?_
  refine f_vxd (vx_runV (As := [.int a, .double (eD b)]) (rest := [.int 0, .ref qd]) ⟨hx, hb, hml, hown, hc⟩ (cX_put l hl9 dC dI ad ca s.heap.size S a b) (cwV 2 hc (gV w397 w398 w399 w1 qX_put) rfl rfl rfl (by decide +kernel) ⟨(Nat.le_of_ble_eq_true rfl), (Nat.le_of_ble_eq_true rfl)⟩) ⟨tPre2_blind, va_recv (fr_Kl hK) (fr_Pl hP) (ci := 0) (q0 := 0) rfl rfl, tPre2_in (fr_Pl hP) (fr_Kl hK) (fr_Dl hD) hS (fr_freel hD hS hA) hU hN⟩ rfl rfl hl.1 rfl (lv_room (Nat.le_of_ble_eq_true rfl)) dLw_put_6 ⟨(Nat.le_of_ble_eq_true rfl), (Nat.le_of_ble_eq_true rfl)⟩) hP hD hS hA (fun E ce q9 u H locs hX hP hD hS hce hcv hcl => ?_) (fun r u H locs hX hP hD hS => ?_)
  · obtain ⟨rfl, hX⟩ := hX
    refine vx_catch (own := "LadderScanLaw") (name := eA) hown [] ⟨0, 10, 13, 13⟩ [] htab (fun z hz => absurd hz List.not_mem_nil) (by decide) (by decide) (hc _ w178) (hN.use (List.mem_of_getElem? (i := 198) rfl) rfl) hce hcv hcl ?_
    refine W.eq (g2 := F0 m 13 ls [.ref q9]) rfl ?_
    refine lv_astore (lv' := [(5, .ref q9), (0, .ref (ad 0)), (1, .int a), (2, .double (eD b)), (4, .ref qd)]) hx hb dLw_put_13 hl (by decide) rfl (fun ls hl => ?_)
    refine lv_iconst (v := 1) hx hb dLw_put_15 (by decide +kernel) ?_
    refine W.widen (k := 1) (n := 6) (by decide) (by decide) ?_
    exact W.iret (v := 1) hx hb hr (fun t ht hW => ⟨⟨_, (u, fo, fd), rfl, ⟨by rw [hX], by rw [hX], fun h => absurd (show (1 : Int32) = 0 from h) (by decide)⟩, by rw [ht]; exact hP, va_K.moved hW.alike hK, hD⟩, hS.F ht⟩) hS.2.2 dLw_put_16
  · refine va_dast hx hb hK hP hD hS 29 15 rfl rfl (vp_in_nI (n := 0) (by decide) (by decide)) dLw_put_9 (fun H locs hP hD hS => ?_)
    rw [show (0 : Int32).toNatClampNeg = 0 from rfl] at hP hD
    have hP : va_P (dC, dI) vwCl (XW ad ca u ++ oW qo co fo qd cd (vf_upd fd 0 r)) H := hP
    have hD : va_D A (XW ad ca u ++ oW qo co fo qd cd (vf_upd fd 0 r)) := hD
    refine lv_goto (tgt := 17) hx hb dLw_put_10 (by decide) ?_
    refine lv_iconst (v := 0) hx hb dLw_put_17 (by decide +kernel) ?_
    refine W.widen (k := 1) (n := 6) (by decide) (by decide) ?_
    exact W.iret (v := 0) hx hb hr (fun t ht hW => ⟨⟨_, (u, fo, vf_upd fd 0 r), rfl, ⟨by rw [hX], by rw [hX], fun _ => by rw [hX]; rfl⟩, by rw [ht]; exact hP, va_K.moved hW.alike hK, hD⟩, hS.F ht⟩) hS.2.2 dLw_put_18

set_option maxHeartbeats 4000000 in
set_option maxRecDepth 100000 in
theorem cLw_force (l : Launch) (hl9 : l.stackTraces = false) (dC : Nat → ClassId) (dI : Nat → Nat → Nat) (ad : Nat → Nat) (ca : Nat → ClassId) (sz : Nat) (S : Ss) (qo : Nat) (co : ClassId) (fo : Nat → Int64) (qd : Nat) (cd : ClassId) (fd : Nat → UInt64) (a b : Int32) : Met l yLw_force (kLw_force :: CW) ({ frames := 7, cells := 1, slots := 6, locals := 114 }) (va_Pc [.ref (ad 0), .int a, .int b, .ref qo] (wPre (dC, dI) (xT ca ++ oT co cd) (XW ad ca S ++ oW qo co fo qd cd fd) sz)) (va_Qi (fun (r : Int32) (u : Ss × (Nat → Int64) × (Nat → UInt64)) => r = (oForce S a b).1 ∧ u.1 = (oForce S a b).2.2 ∧ (r = 0 → u.2.1 0 = (oForce S a b).2.1.toInt64)) (fun u => gAt (dC, dI) (xT ca ++ oT co cd) (va_A (XW ad ca S ++ oW qo co fo qd cd fd) sz) (XW ad ca u.1 ++ oW qo co u.2.1 qd cd u.2.2)) (va_A (XW ad ca S ++ oW qo co fo qd cd fd) sz)) 1 6 (va_A (XW ad ca S ++ oW qo co fo qd cd fd) sz) := by
  refine va_MetW (cc := bLw_force) (maxL := 5) (ret := (some .int)) (by decide +kernel) rfl ?_
  intro p e s m args below meth c s₁ B hml hv
  obtain ⟨rfl, ⟨⟨hsz, hP, hK, hD0⟩, hU, hN⟩, hNc⟩ := hv
  have hx := B.exec
  have hb := B.bytes
  have hr := B.returns
  have hts := atoms_spec (ws := kLw_force :: CW) B.pre
  have hc : ∀ w ∈ CW, w.before _ s = true := fun w h => hts w (List.mem_cons_of_mem _ h)
  have hown : s.vm.findClass RLw = some m.cls := findClass_of_methodNamed B.named
  have htab : c.exceptionTable.toList = tableOf [(0, 10, 13, 13)] := vx_table (x := yLw_force) B (hts kLw_force List.mem_cons_self)
  subst hsz
  have hD := hD0.self (sz := s.heap.size)
  generalize hAe : va_A (XW ad ca S ++ oW qo co fo qd cd fd) s.heap.size = A at hD hU ⊢
  have hA : ∀ q : Nat, s.heap.size ≤ q → A q := fun q h => by rw [← hAe]; exact Or.inr h
  have hS : va_S A s.heap s.heap [] := va_S.rf
  have hl := lv_entry ([.ref (ad 0), .int a, .int b, .ref qo]) (n := 5) (Nat.le_of_ble_eq_true rfl)
  rw [lg_entry_eq]
  generalize (lg_sl ([.ref (ad 0), .int a, .int b, .ref qo]) ++ List.replicate (5 - (lg_sl ([.ref (ad 0), .int a, .int b, .ref qo])).length) Slot.unset).toArray = ls at hl ⊢
  have hl : lv_has ls 5 [(0, .ref (ad 0)), (1, .int a), (2, .int b), (3, .ref qo)] := hl
  refine lv_aload_n hx hb dLw_force_0 rfl (lv_at hl 3 rfl) ?_
  refine lv_iconst (v := 0) hx hb dLw_force_1 (by decide +kernel) ?_
  refine lv_aload_n hx hb dLw_force_2 rfl (lv_at hl 0 rfl) ?_
  refine lv_iload_n hx hb dLw_force_3 rfl (lv_at hl 1 rfl) ?_
  refine lv_iload_n hx hb dLw_force_4 rfl (lv_at hl 2 rfl) ?_
  refine f_vxi (vx_runV (As := [.int a, .int b]) (rest := [.int 0, .ref qo]) ⟨hx, hb, hml, hown, hc⟩ (cX_force l hl9 dC dI ad ca s.heap.size S a b) (cwV 2 hc (gV w404 w405 w406 w1 qX_force) rfl rfl rfl (by decide +kernel) ⟨(Nat.le_of_ble_eq_true rfl), (Nat.le_of_ble_eq_true rfl)⟩) ⟨tPre2_blind, va_recv (fr_Kl hK) (fr_Pl hP) (ci := 0) (q0 := 0) rfl rfl, tPre2_in (fr_Pl hP) (fr_Kl hK) (fr_Dl hD) hS (fr_freel hD hS hA) hU hN⟩ rfl rfl hl.1 rfl (lv_room (Nat.le_of_ble_eq_true rfl)) dLw_force_5 ⟨(Nat.le_of_ble_eq_true rfl), (Nat.le_of_ble_eq_true rfl)⟩) hP hD hS hA (fun E ce q9 u H locs hX hP hD hS hce hcv hcl => ?_) (fun r u H locs hX hP hD hS => ?_)
  · obtain ⟨rfl, hX⟩ := hX
    refine vx_catch (own := "LadderScanLaw") (name := eA) hown [] ⟨0, 10, 13, 13⟩ [] htab (fun z hz => absurd hz List.not_mem_nil) (by decide) (by decide) (hc _ w178) (hN.use (List.mem_of_getElem? (i := 198) rfl) rfl) hce hcv hcl ?_
    refine W.eq (g2 := F0 m 13 ls [.ref q9]) rfl ?_
    refine lv_astore (lv' := [(4, .ref q9), (0, .ref (ad 0)), (1, .int a), (2, .int b), (3, .ref qo)]) hx hb dLw_force_13 hl (by decide) rfl (fun ls hl => ?_)
    refine lv_iconst (v := 1) hx hb dLw_force_15 (by decide +kernel) ?_
    refine W.widen (k := 1) (n := 6) (by decide) (by decide) ?_
    exact W.iret (v := 1) hx hb hr (fun t ht hW => ⟨⟨_, (u, fo, fd), rfl, ⟨by rw [hX], by rw [hX], fun h => absurd (show (1 : Int32) = 0 from h) (by decide)⟩, by rw [ht]; exact hP, va_K.moved hW.alike hK, hD⟩, hS.F ht⟩) hS.2.2 dLw_force_16
  · refine lv_i2l (v := r.toInt64) hx hb dLw_force_8 rfl ?_
    refine va_last hx hb hK hP hD hS 28 14 rfl rfl (vp_in_nI (n := 0) (by decide) (by decide)) dLw_force_9 (fun H locs hP hD hS => ?_)
    rw [show (0 : Int32).toNatClampNeg = 0 from rfl] at hP hD
    have hP : va_P (dC, dI) vwCl (XW ad ca u ++ oW qo co (vp_updL fo 0 r.toInt64) qd cd fd) H := hP
    have hD : va_D A (XW ad ca u ++ oW qo co (vp_updL fo 0 r.toInt64) qd cd fd) := hD
    refine lv_goto (tgt := 17) hx hb dLw_force_10 (by decide) ?_
    refine lv_iconst (v := 0) hx hb dLw_force_17 (by decide +kernel) ?_
    refine W.widen (k := 1) (n := 6) (by decide) (by decide) ?_
    exact W.iret (v := 0) hx hb hr (fun t ht hW => ⟨⟨_, (u, vp_updL fo 0 r.toInt64, fd), rfl, ⟨by rw [hX], by rw [hX], fun _ => by rw [hX]; rfl⟩, by rw [ht]; exact hP, va_K.moved hW.alike hK, hD⟩, hS.F ht⟩) hS.2.2 dLw_force_18

set_option maxHeartbeats 4000000 in
set_option maxRecDepth 100000 in
theorem cLw_scan (l : Launch) (hl9 : l.stackTraces = false) (dC : Nat → ClassId) (dI : Nat → Nat → Nat) (ad : Nat → Nat) (ca : Nat → ClassId) (sz : Nat) (S : Ss) (qo : Nat) (co : ClassId) (fo : Nat → Int64) (qd : Nat) (cd : ClassId) (fd : Nat → UInt64) (a : Int32) (hPr : Pr S) : Met l yLw_scan (kLw_scan :: CW) ({ frames := 7, cells := 1, slots := 6, locals := 163 }) (va_Pc [.ref (ad 0), .int a, .ref qo] (wPre (dC, dI) (xT ca ++ oT co cd) (XW ad ca S ++ oW qo co fo qd cd fd) sz)) (va_Qi (fun (r : Int32) (u : Ss × (Nat → Int64) × (Nat → UInt64)) => r = (oScan S a).1 ∧ u.1 = (oScan S a).2.2 ∧ (r = 0 → u.2.1 0 = (oScan S a).2.1.toInt64)) (fun u => gAt (dC, dI) (xT ca ++ oT co cd) (va_A (XW ad ca S ++ oW qo co fo qd cd fd) sz) (XW ad ca u.1 ++ oW qo co u.2.1 qd cd u.2.2)) (va_A (XW ad ca S ++ oW qo co fo qd cd fd) sz)) 1 6 (va_A (XW ad ca S ++ oW qo co fo qd cd fd) sz) := by
  refine va_MetW (cc := bLw_scan) (maxL := 4) (ret := (some .int)) (by decide +kernel) rfl ?_
  intro p e s m args below meth c s₁ B hml hv
  obtain ⟨rfl, ⟨⟨hsz, hP, hK, hD0⟩, hU, hN⟩, hNc⟩ := hv
  have hx := B.exec
  have hb := B.bytes
  have hr := B.returns
  have hts := atoms_spec (ws := kLw_scan :: CW) B.pre
  have hc : ∀ w ∈ CW, w.before _ s = true := fun w h => hts w (List.mem_cons_of_mem _ h)
  have hown : s.vm.findClass RLw = some m.cls := findClass_of_methodNamed B.named
  have htab : c.exceptionTable.toList = tableOf [(0, 9, 12, 13), (0, 9, 15, 15), (0, 9, 18, 46)] := vx_table (x := yLw_scan) B (hts kLw_scan List.mem_cons_self)
  subst hsz
  have hD := hD0.self (sz := s.heap.size)
  generalize hAe : va_A (XW ad ca S ++ oW qo co fo qd cd fd) s.heap.size = A at hD hU ⊢
  have hA : ∀ q : Nat, s.heap.size ≤ q → A q := fun q h => by rw [← hAe]; exact Or.inr h
  have hS : va_S A s.heap s.heap [] := va_S.rf
  have hl := lv_entry ([.ref (ad 0), .int a, .ref qo]) (n := 4) (Nat.le_of_ble_eq_true rfl)
  rw [lg_entry_eq]
  generalize (lg_sl ([.ref (ad 0), .int a, .ref qo]) ++ List.replicate (4 - (lg_sl ([.ref (ad 0), .int a, .ref qo])).length) Slot.unset).toArray = ls at hl ⊢
  have hl : lv_has ls 4 [(0, .ref (ad 0)), (1, .int a), (2, .ref qo)] := hl
  refine lv_aload_n hx hb dLw_scan_0 rfl (lv_at hl 2 rfl) ?_
  refine lv_iconst (v := 0) hx hb dLw_scan_1 (by decide +kernel) ?_
  refine lv_aload_n hx hb dLw_scan_2 rfl (lv_at hl 0 rfl) ?_
  refine lv_iload_n hx hb dLw_scan_3 rfl (lv_at hl 1 rfl) ?_
  refine f_vxi (vx_runV (As := [.int a]) (rest := [.int 0, .ref qo]) ⟨hx, hb, hml, hown, hc⟩ (cX_scan l hl9 dC dI ad ca s.heap.size S a hPr) (cwV 1 hc (gV w412 w413 w414 w1 qX_scan) rfl rfl rfl (by decide +kernel) ⟨(Nat.le_of_ble_eq_true rfl), (Nat.le_of_ble_eq_true rfl)⟩) ⟨tPre2_blind, va_recv (fr_Kl hK) (fr_Pl hP) (ci := 0) (q0 := 0) rfl rfl, tPre2_in (fr_Pl hP) (fr_Kl hK) (fr_Dl hD) hS (fr_freel hD hS hA) hU hN⟩ rfl rfl hl.1 rfl (lv_room (Nat.le_of_ble_eq_true rfl)) dLw_scan_4 ⟨(Nat.le_of_ble_eq_true rfl), (Nat.le_of_ble_eq_true rfl)⟩) hP hD hS hA (fun E ce q9 u H locs hX hP hD hS hce hcv hcl => ?_) (fun r u H locs hX hP hD hS => ?_)
  · rcases hX with ⟨rfl, hX⟩ | ⟨rfl, hX⟩ | ⟨rfl, hX⟩
    · refine vx_catch (own := "LadderScanLaw") (name := eA) hown [] ⟨0, 9, 12, 13⟩ [⟨0, 9, 15, 15⟩, ⟨0, 9, 18, 46⟩] htab (fun z hz => absurd hz List.not_mem_nil) (by decide) (by decide) (hc _ w178) (hN.use (List.mem_of_getElem? (i := 198) rfl) rfl) hce hcv hcl ?_
      refine W.eq (g2 := F0 m 12 ls [.ref q9]) rfl ?_
      refine lv_astore_n (lv' := [(3, .ref q9), (0, .ref (ad 0)), (1, .int a), (2, .ref qo)]) hx hb dLw_scan_12 rfl hl (by decide) rfl (fun ls hl => ?_)
      refine lv_iconst (v := 1) hx hb dLw_scan_13 (by decide +kernel) ?_
      refine W.widen (k := 1) (n := 6) (by decide) (by decide) ?_
      exact W.iret (v := 1) hx hb hr (fun t ht hW => ⟨⟨_, (u, fo, fd), rfl, ⟨by rw [hX], by rw [hX], fun h => absurd (show (1 : Int32) = 0 from h) (by decide)⟩, by rw [ht]; exact hP, va_K.moved hW.alike hK, hD⟩, hS.F ht⟩) hS.2.2 dLw_scan_14
    · refine vx_catch (own := "LadderScanLaw") (name := eS) hown [⟨0, 9, 12, 13⟩] ⟨0, 9, 15, 15⟩ [⟨0, 9, 18, 46⟩] htab (fun z hz => by rw [List.mem_singleton.mp hz]; exact Or.inr ⟨by decide, eA, hc _ w178, hNc.1⟩) (by decide) (by decide) (hc _ w179) (hN.use (List.mem_of_getElem? (i := 263) rfl) rfl) hce hcv hcl ?_
      refine W.eq (g2 := F0 m 15 ls [.ref q9]) rfl ?_
      refine lv_astore_n (lv' := [(3, .ref q9), (0, .ref (ad 0)), (1, .int a), (2, .ref qo)]) hx hb dLw_scan_15 rfl hl (by decide) rfl (fun ls hl => ?_)
      refine lv_iconst (v := 2) hx hb dLw_scan_16 (by decide +kernel) ?_
      refine W.widen (k := 1) (n := 6) (by decide) (by decide) ?_
      exact W.iret (v := 2) hx hb hr (fun t ht hW => ⟨⟨_, (u, fo, fd), rfl, ⟨by rw [hX], by rw [hX], fun h => absurd (show (2 : Int32) = 0 from h) (by decide)⟩, by rw [ht]; exact hP, va_K.moved hW.alike hK, hD⟩, hS.F ht⟩) hS.2.2 dLw_scan_17
    · refine vx_catch (own := "LadderScanLaw") (name := eR) hown [⟨0, 9, 12, 13⟩, ⟨0, 9, 15, 15⟩] ⟨0, 9, 18, 46⟩ [] htab (fun z hz => (List.mem_cons.mp hz).elim (fun h => by rw [h]; exact Or.inr ⟨by decide, eA, hc _ w178, hNc.2.2.2.2.2.2.1⟩) (fun h => by rw [List.mem_singleton.mp h]; exact Or.inr ⟨by decide, eS, hc _ w179, hNc.2.2.2.2.2.2.2⟩)) (by decide) (by decide) (hc _ w411) (hN.use (List.mem_of_getElem? (i := 503) rfl) rfl) hce hcv hcl ?_
      refine W.eq (g2 := F0 m 18 ls [.ref q9]) rfl ?_
      refine lv_astore_n (lv' := [(3, .ref q9), (0, .ref (ad 0)), (1, .int a), (2, .ref qo)]) hx hb dLw_scan_18 rfl hl (by decide) rfl (fun ls hl => ?_)
      refine lv_iconst (v := 3) hx hb dLw_scan_19 (by decide +kernel) ?_
      refine W.widen (k := 1) (n := 6) (by decide) (by decide) ?_
      exact W.iret (v := 3) hx hb hr (fun t ht hW => ⟨⟨_, (u, fo, fd), rfl, ⟨by rw [hX], by rw [hX], fun h => absurd (show (3 : Int32) = 0 from h) (by decide)⟩, by rw [ht]; exact hP, va_K.moved hW.alike hK, hD⟩, hS.F ht⟩) hS.2.2 dLw_scan_20
  · refine lv_i2l (v := r.toInt64) hx hb dLw_scan_7 rfl ?_
    refine va_last hx hb hK hP hD hS 28 14 rfl rfl (vp_in_nI (n := 0) (by decide) (by decide)) dLw_scan_8 (fun H locs hP hD hS => ?_)
    rw [show (0 : Int32).toNatClampNeg = 0 from rfl] at hP hD
    have hP : va_P (dC, dI) vwCl (XW ad ca u ++ oW qo co (vp_updL fo 0 r.toInt64) qd cd fd) H := hP
    have hD : va_D A (XW ad ca u ++ oW qo co (vp_updL fo 0 r.toInt64) qd cd fd) := hD
    refine lv_goto (tgt := 21) hx hb dLw_scan_9 (by decide) ?_
    refine lv_iconst (v := 0) hx hb dLw_scan_21 (by decide +kernel) ?_
    refine W.widen (k := 1) (n := 6) (by decide) (by decide) ?_
    exact W.iret (v := 0) hx hb hr (fun t ht hW => ⟨⟨_, (u, vp_updL fo 0 r.toInt64, fd), rfl, ⟨by rw [hX], by rw [hX], fun _ => by rw [hX]; rfl⟩, by rw [ht]; exact hP, va_K.moved hW.alike hK, hD⟩, hS.F ht⟩) hS.2.2 dLw_scan_22

set_option maxHeartbeats 4000000 in
set_option maxRecDepth 100000 in
theorem cLw_bit (l : Launch) (hl9 : l.stackTraces = false) (dC : Nat → ClassId) (dI : Nat → Nat → Nat) (ad : Nat → Nat) (ca : Nat → ClassId) (sz : Nat) (S : Ss) (qo : Nat) (co : ClassId) (fo : Nat → Int64) (qd : Nat) (cd : ClassId) (fd : Nat → UInt64) (a : Int32) : Met l yLw_bit (kLw_bit :: CW) ({ frames := 7, cells := 1, slots := 6, locals := 112 }) (va_Pc [.ref (ad 0), .int a, .ref qo] (wPre (dC, dI) (xT ca ++ oT co cd) (XW ad ca S ++ oW qo co fo qd cd fd) sz)) (va_Qi (fun (r : Int32) (u : Ss × (Nat → Int64) × (Nat → UInt64)) => r = (oBit S a).1 ∧ u.1 = (oBit S a).2.2 ∧ (r = 0 → u.2.1 0 = (oBit S a).2.1.toInt64)) (fun u => gAt (dC, dI) (xT ca ++ oT co cd) (va_A (XW ad ca S ++ oW qo co fo qd cd fd) sz) (XW ad ca u.1 ++ oW qo co u.2.1 qd cd u.2.2)) (va_A (XW ad ca S ++ oW qo co fo qd cd fd) sz)) 1 6 (va_A (XW ad ca S ++ oW qo co fo qd cd fd) sz) := by
  refine va_MetW (cc := bLw_bit) (maxL := 4) (ret := (some .int)) (by decide +kernel) rfl ?_
  intro p e s m args below meth c s₁ B hml hv
  obtain ⟨rfl, ⟨⟨hsz, hP, hK, hD0⟩, hU, hN⟩, hNc⟩ := hv
  have hx := B.exec
  have hb := B.bytes
  have hr := B.returns
  have hts := atoms_spec (ws := kLw_bit :: CW) B.pre
  have hc : ∀ w ∈ CW, w.before _ s = true := fun w h => hts w (List.mem_cons_of_mem _ h)
  have hown : s.vm.findClass RLw = some m.cls := findClass_of_methodNamed B.named
  have htab : c.exceptionTable.toList = tableOf [(0, 9, 12, 13)] := vx_table (x := yLw_bit) B (hts kLw_bit List.mem_cons_self)
  subst hsz
  have hD := hD0.self (sz := s.heap.size)
  generalize hAe : va_A (XW ad ca S ++ oW qo co fo qd cd fd) s.heap.size = A at hD hU ⊢
  have hA : ∀ q : Nat, s.heap.size ≤ q → A q := fun q h => by rw [← hAe]; exact Or.inr h
  have hS : va_S A s.heap s.heap [] := va_S.rf
  have hl := lv_entry ([.ref (ad 0), .int a, .ref qo]) (n := 4) (Nat.le_of_ble_eq_true rfl)
  rw [lg_entry_eq]
  generalize (lg_sl ([.ref (ad 0), .int a, .ref qo]) ++ List.replicate (4 - (lg_sl ([.ref (ad 0), .int a, .ref qo])).length) Slot.unset).toArray = ls at hl ⊢
  have hl : lv_has ls 4 [(0, .ref (ad 0)), (1, .int a), (2, .ref qo)] := hl
  refine lv_aload_n hx hb dLw_bit_0 rfl (lv_at hl 2 rfl) ?_
  refine lv_iconst (v := 0) hx hb dLw_bit_1 (by decide +kernel) ?_
  refine lv_aload_n hx hb dLw_bit_2 rfl (lv_at hl 0 rfl) ?_
  refine lv_iload_n hx hb dLw_bit_3 rfl (lv_at hl 1 rfl) ?_
  refine f_vxi (vx_runV (As := [.int a]) (rest := [.int 0, .ref qo]) ⟨hx, hb, hml, hown, hc⟩ (cX_bit l hl9 dC dI ad ca s.heap.size S a) (cwV 1 hc (gV w519 w520 w521 w1 qX_bit) rfl rfl rfl (by decide +kernel) ⟨(Nat.le_of_ble_eq_true rfl), (Nat.le_of_ble_eq_true rfl)⟩) ⟨tPre2_blind, va_recv (fr_Kl hK) (fr_Pl hP) (ci := 0) (q0 := 0) rfl rfl, tPre2_in (fr_Pl hP) (fr_Kl hK) (fr_Dl hD) hS (fr_freel hD hS hA) hU hN⟩ rfl rfl hl.1 rfl (lv_room (Nat.le_of_ble_eq_true rfl)) dLw_bit_4 ⟨(Nat.le_of_ble_eq_true rfl), (Nat.le_of_ble_eq_true rfl)⟩) hP hD hS hA (fun E ce q9 u H locs hX hP hD hS hce hcv hcl => ?_) (fun r u H locs hX hP hD hS => ?_)
  · obtain ⟨rfl, hX⟩ := hX
    refine vx_catch (own := "LadderScanLaw") (name := eA) hown [] ⟨0, 9, 12, 13⟩ [] htab (fun z hz => absurd hz List.not_mem_nil) (by decide) (by decide) (hc _ w178) (hN.use (List.mem_of_getElem? (i := 198) rfl) rfl) hce hcv hcl ?_
    refine W.eq (g2 := F0 m 12 ls [.ref q9]) rfl ?_
    refine lv_astore_n (lv' := [(3, .ref q9), (0, .ref (ad 0)), (1, .int a), (2, .ref qo)]) hx hb dLw_bit_12 rfl hl (by decide) rfl (fun ls hl => ?_)
    refine lv_iconst (v := 1) hx hb dLw_bit_13 (by decide +kernel) ?_
    refine W.widen (k := 1) (n := 6) (by decide) (by decide) ?_
    exact W.iret (v := 1) hx hb hr (fun t ht hW => ⟨⟨_, (u, fo, fd), rfl, ⟨by rw [hX], by rw [hX], fun h => absurd (show (1 : Int32) = 0 from h) (by decide)⟩, by rw [ht]; exact hP, va_K.moved hW.alike hK, hD⟩, hS.F ht⟩) hS.2.2 dLw_bit_14
  · refine lv_i2l (v := r.toInt64) hx hb dLw_bit_7 rfl ?_
    refine va_last hx hb hK hP hD hS 28 14 rfl rfl (vp_in_nI (n := 0) (by decide) (by decide)) dLw_bit_8 (fun H locs hP hD hS => ?_)
    rw [show (0 : Int32).toNatClampNeg = 0 from rfl] at hP hD
    have hP : va_P (dC, dI) vwCl (XW ad ca u ++ oW qo co (vp_updL fo 0 r.toInt64) qd cd fd) H := hP
    have hD : va_D A (XW ad ca u ++ oW qo co (vp_updL fo 0 r.toInt64) qd cd fd) := hD
    refine lv_goto (tgt := 15) hx hb dLw_bit_9 (by decide) ?_
    refine lv_iconst (v := 0) hx hb dLw_bit_15 (by decide +kernel) ?_
    refine W.widen (k := 1) (n := 6) (by decide) (by decide) ?_
    exact W.iret (v := 0) hx hb hr (fun t ht hW => ⟨⟨_, (u, vp_updL fo 0 r.toInt64, fd), rfl, ⟨by rw [hX], by rw [hX], fun _ => by rw [hX]; rfl⟩, by rw [ht]; exact hP, va_K.moved hW.alike hK, hD⟩, hS.F ht⟩) hS.2.2 dLw_bit_16

set_option maxHeartbeats 4000000 in
set_option maxRecDepth 100000 in
theorem cLw_out (l : Launch) (hl9 : l.stackTraces = false) (dC : Nat → ClassId) (dI : Nat → Nat → Nat) (ad : Nat → Nat) (ca : Nat → ClassId) (sz : Nat) (S : Ss) (qo : Nat) (co : ClassId) (fo : Nat → Int64) (qd : Nat) (cd : ClassId) (fd : Nat → UInt64) (a : Int32) : Met l yLw_out (kLw_out :: CW) ({ frames := 7, cells := 1, slots := 6, locals := 112 }) (va_Pc [.ref (ad 0), .int a, .ref qo] (wPre (dC, dI) (xT ca ++ oT co cd) (XW ad ca S ++ oW qo co fo qd cd fd) sz)) (va_Qi (fun (r : Int32) (u : Ss × (Nat → Int64) × (Nat → UInt64)) => r = (oOut S a).1 ∧ u.1 = (oOut S a).2.2 ∧ (r = 0 → u.2.1 0 = (oOut S a).2.1.toInt64)) (fun u => gAt (dC, dI) (xT ca ++ oT co cd) (va_A (XW ad ca S ++ oW qo co fo qd cd fd) sz) (XW ad ca u.1 ++ oW qo co u.2.1 qd cd u.2.2)) (va_A (XW ad ca S ++ oW qo co fo qd cd fd) sz)) 1 6 (va_A (XW ad ca S ++ oW qo co fo qd cd fd) sz) := by
  refine va_MetW (cc := bLw_out) (maxL := 4) (ret := (some .int)) (by decide +kernel) rfl ?_
  intro p e s m args below meth c s₁ B hml hv
  obtain ⟨rfl, ⟨⟨hsz, hP, hK, hD0⟩, hU, hN⟩, hNc⟩ := hv
  have hx := B.exec
  have hb := B.bytes
  have hr := B.returns
  have hts := atoms_spec (ws := kLw_out :: CW) B.pre
  have hc : ∀ w ∈ CW, w.before _ s = true := fun w h => hts w (List.mem_cons_of_mem _ h)
  have hown : s.vm.findClass RLw = some m.cls := findClass_of_methodNamed B.named
  have htab : c.exceptionTable.toList = tableOf [(0, 9, 12, 13)] := vx_table (x := yLw_out) B (hts kLw_out List.mem_cons_self)
  subst hsz
  have hD := hD0.self (sz := s.heap.size)
  generalize hAe : va_A (XW ad ca S ++ oW qo co fo qd cd fd) s.heap.size = A at hD hU ⊢
  have hA : ∀ q : Nat, s.heap.size ≤ q → A q := fun q h => by rw [← hAe]; exact Or.inr h
  have hS : va_S A s.heap s.heap [] := va_S.rf
  have hl := lv_entry ([.ref (ad 0), .int a, .ref qo]) (n := 4) (Nat.le_of_ble_eq_true rfl)
  rw [lg_entry_eq]
  generalize (lg_sl ([.ref (ad 0), .int a, .ref qo]) ++ List.replicate (4 - (lg_sl ([.ref (ad 0), .int a, .ref qo])).length) Slot.unset).toArray = ls at hl ⊢
  have hl : lv_has ls 4 [(0, .ref (ad 0)), (1, .int a), (2, .ref qo)] := hl
  refine lv_aload_n hx hb dLw_out_0 rfl (lv_at hl 2 rfl) ?_
  refine lv_iconst (v := 0) hx hb dLw_out_1 (by decide +kernel) ?_
  refine lv_aload_n hx hb dLw_out_2 rfl (lv_at hl 0 rfl) ?_
  refine lv_iload_n hx hb dLw_out_3 rfl (lv_at hl 1 rfl) ?_
  refine f_vxi (vx_runV (As := [.int a]) (rest := [.int 0, .ref qo]) ⟨hx, hb, hml, hown, hc⟩ (cX_out l hl9 dC dI ad ca s.heap.size S a) (cwV 1 hc (gV w526 w527 w528 w1 qX_out) rfl rfl rfl (by decide +kernel) ⟨(Nat.le_of_ble_eq_true rfl), (Nat.le_of_ble_eq_true rfl)⟩) ⟨tPre2_blind, va_recv (fr_Kl hK) (fr_Pl hP) (ci := 0) (q0 := 0) rfl rfl, tPre2_in (fr_Pl hP) (fr_Kl hK) (fr_Dl hD) hS (fr_freel hD hS hA) hU hN⟩ rfl rfl hl.1 rfl (lv_room (Nat.le_of_ble_eq_true rfl)) dLw_out_4 ⟨(Nat.le_of_ble_eq_true rfl), (Nat.le_of_ble_eq_true rfl)⟩) hP hD hS hA (fun E ce q9 u H locs hX hP hD hS hce hcv hcl => ?_) (fun r u H locs hX hP hD hS => ?_)
  · obtain ⟨rfl, hX⟩ := hX
    refine vx_catch (own := "LadderScanLaw") (name := eA) hown [] ⟨0, 9, 12, 13⟩ [] htab (fun z hz => absurd hz List.not_mem_nil) (by decide) (by decide) (hc _ w178) (hN.use (List.mem_of_getElem? (i := 198) rfl) rfl) hce hcv hcl ?_
    refine W.eq (g2 := F0 m 12 ls [.ref q9]) rfl ?_
    refine lv_astore_n (lv' := [(3, .ref q9), (0, .ref (ad 0)), (1, .int a), (2, .ref qo)]) hx hb dLw_out_12 rfl hl (by decide) rfl (fun ls hl => ?_)
    refine lv_iconst (v := 1) hx hb dLw_out_13 (by decide +kernel) ?_
    refine W.widen (k := 1) (n := 6) (by decide) (by decide) ?_
    exact W.iret (v := 1) hx hb hr (fun t ht hW => ⟨⟨_, (u, fo, fd), rfl, ⟨by rw [hX], by rw [hX], fun h => absurd (show (1 : Int32) = 0 from h) (by decide)⟩, by rw [ht]; exact hP, va_K.moved hW.alike hK, hD⟩, hS.F ht⟩) hS.2.2 dLw_out_14
  · refine lv_i2l (v := r.toInt64) hx hb dLw_out_7 rfl ?_
    refine va_last hx hb hK hP hD hS 28 14 rfl rfl (vp_in_nI (n := 0) (by decide) (by decide)) dLw_out_8 (fun H locs hP hD hS => ?_)
    rw [show (0 : Int32).toNatClampNeg = 0 from rfl] at hP hD
    have hP : va_P (dC, dI) vwCl (XW ad ca u ++ oW qo co (vp_updL fo 0 r.toInt64) qd cd fd) H := hP
    have hD : va_D A (XW ad ca u ++ oW qo co (vp_updL fo 0 r.toInt64) qd cd fd) := hD
    refine lv_goto (tgt := 15) hx hb dLw_out_9 (by decide) ?_
    refine lv_iconst (v := 0) hx hb dLw_out_15 (by decide +kernel) ?_
    refine W.widen (k := 1) (n := 6) (by decide) (by decide) ?_
    exact W.iret (v := 0) hx hb hr (fun t ht hW => ⟨⟨_, (u, vp_updL fo 0 r.toInt64, fd), rfl, ⟨by rw [hX], by rw [hX], fun _ => by rw [hX]; rfl⟩, by rw [ht]; exact hP, va_K.moved hW.alike hK, hD⟩, hS.F ht⟩) hS.2.2 dLw_out_16

set_option maxHeartbeats 4000000 in
set_option maxRecDepth 100000 in
theorem cLw_register (l : Launch) (hl9 : l.stackTraces = false) (dC : Nat → ClassId) (dI : Nat → Nat → Nat) (ad : Nat → Nat) (ca : Nat → ClassId) (sz : Nat) (S : Ss) (qo : Nat) (co : ClassId) (fo : Nat → Int64) (qd : Nat) (cd : ClassId) (fd : Nat → UInt64) (a : Int32) : Met l yLw_register (kLw_register :: CW) ({ frames := 7, cells := 1, slots := 6, locals := 112 }) (va_Pc [.ref (ad 0), .int a, .ref qd] (wPre (dC, dI) (xT ca ++ oT co cd) (XW ad ca S ++ oW qo co fo qd cd fd) sz)) (va_Qi (fun (r : Int32) (u : Ss × (Nat → Int64) × (Nat → UInt64)) => r = (oReg S a).1 ∧ u.1 = (oReg S a).2.2 ∧ (r = 0 → u.2.2 0 = (oReg S a).2.1)) (fun u => gAt (dC, dI) (xT ca ++ oT co cd) (va_A (XW ad ca S ++ oW qo co fo qd cd fd) sz) (XW ad ca u.1 ++ oW qo co u.2.1 qd cd u.2.2)) (va_A (XW ad ca S ++ oW qo co fo qd cd fd) sz)) 1 6 (va_A (XW ad ca S ++ oW qo co fo qd cd fd) sz) := by
  refine va_MetW (cc := bLw_register) (maxL := 4) (ret := (some .int)) (by decide +kernel) rfl ?_
  intro p e s m args below meth c s₁ B hml hv
  obtain ⟨rfl, ⟨⟨hsz, hP, hK, hD0⟩, hU, hN⟩, hNc⟩ := hv
  have hx := B.exec
  have hb := B.bytes
  have hr := B.returns
  have hts := atoms_spec (ws := kLw_register :: CW) B.pre
  have hc : ∀ w ∈ CW, w.before _ s = true := fun w h => hts w (List.mem_cons_of_mem _ h)
  have hown : s.vm.findClass RLw = some m.cls := findClass_of_methodNamed B.named
  have htab : c.exceptionTable.toList = tableOf [(0, 8, 11, 13)] := vx_table (x := yLw_register) B (hts kLw_register List.mem_cons_self)
  subst hsz
  have hD := hD0.self (sz := s.heap.size)
  generalize hAe : va_A (XW ad ca S ++ oW qo co fo qd cd fd) s.heap.size = A at hD hU ⊢
  have hA : ∀ q : Nat, s.heap.size ≤ q → A q := fun q h => by rw [← hAe]; exact Or.inr h
  have hS : va_S A s.heap s.heap [] := va_S.rf
  have hl := lv_entry ([.ref (ad 0), .int a, .ref qd]) (n := 4) (Nat.le_of_ble_eq_true rfl)
  rw [lg_entry_eq]
  generalize (lg_sl ([.ref (ad 0), .int a, .ref qd]) ++ List.replicate (4 - (lg_sl ([.ref (ad 0), .int a, .ref qd])).length) Slot.unset).toArray = ls at hl ⊢
  have hl : lv_has ls 4 [(0, .ref (ad 0)), (1, .int a), (2, .ref qd)] := hl
  refine lv_aload_n hx hb dLw_register_0 rfl (lv_at hl 2 rfl) ?_
  refine lv_iconst (v := 0) hx hb dLw_register_1 (by decide +kernel) ?_
  refine lv_aload_n hx hb dLw_register_2 rfl (lv_at hl 0 rfl) ?_
  refine lv_iload_n hx hb dLw_register_3 rfl (lv_at hl 1 rfl) ?_
  refine f_vxd (vx_runV (As := [.int a]) (rest := [.int 0, .ref qd]) ⟨hx, hb, hml, hown, hc⟩ (cX_register l hl9 dC dI ad ca s.heap.size S a) (cwV 1 hc (gV w533 w534 w535 w1 qX_register) rfl rfl rfl (by decide +kernel) ⟨(Nat.le_of_ble_eq_true rfl), (Nat.le_of_ble_eq_true rfl)⟩) ⟨tPre2_blind, va_recv (fr_Kl hK) (fr_Pl hP) (ci := 0) (q0 := 0) rfl rfl, tPre2_in (fr_Pl hP) (fr_Kl hK) (fr_Dl hD) hS (fr_freel hD hS hA) hU hN⟩ rfl rfl hl.1 rfl (lv_room (Nat.le_of_ble_eq_true rfl)) dLw_register_4 ⟨(Nat.le_of_ble_eq_true rfl), (Nat.le_of_ble_eq_true rfl)⟩) hP hD hS hA (fun E ce q9 u H locs hX hP hD hS hce hcv hcl => ?_) (fun r u H locs hX hP hD hS => ?_)
  · obtain ⟨rfl, hX⟩ := hX
    refine vx_catch (own := "LadderScanLaw") (name := eA) hown [] ⟨0, 8, 11, 13⟩ [] htab (fun z hz => absurd hz List.not_mem_nil) (by decide) (by decide) (hc _ w178) (hN.use (List.mem_of_getElem? (i := 198) rfl) rfl) hce hcv hcl ?_
    refine W.eq (g2 := F0 m 11 ls [.ref q9]) rfl ?_
    refine lv_astore_n (lv' := [(3, .ref q9), (0, .ref (ad 0)), (1, .int a), (2, .ref qd)]) hx hb dLw_register_11 rfl hl (by decide) rfl (fun ls hl => ?_)
    refine lv_iconst (v := 1) hx hb dLw_register_12 (by decide +kernel) ?_
    refine W.widen (k := 1) (n := 6) (by decide) (by decide) ?_
    exact W.iret (v := 1) hx hb hr (fun t ht hW => ⟨⟨_, (u, fo, fd), rfl, ⟨by rw [hX], by rw [hX], fun h => absurd (show (1 : Int32) = 0 from h) (by decide)⟩, by rw [ht]; exact hP, va_K.moved hW.alike hK, hD⟩, hS.F ht⟩) hS.2.2 dLw_register_13
  · refine va_dast hx hb hK hP hD hS 29 15 rfl rfl (vp_in_nI (n := 0) (by decide) (by decide)) dLw_register_7 (fun H locs hP hD hS => ?_)
    rw [show (0 : Int32).toNatClampNeg = 0 from rfl] at hP hD
    have hP : va_P (dC, dI) vwCl (XW ad ca u ++ oW qo co fo qd cd (vf_upd fd 0 r)) H := hP
    have hD : va_D A (XW ad ca u ++ oW qo co fo qd cd (vf_upd fd 0 r)) := hD
    refine lv_goto (tgt := 14) hx hb dLw_register_8 (by decide) ?_
    refine lv_iconst (v := 0) hx hb dLw_register_14 (by decide +kernel) ?_
    refine W.widen (k := 1) (n := 6) (by decide) (by decide) ?_
    exact W.iret (v := 0) hx hb hr (fun t ht hW => ⟨⟨_, (u, fo, vf_upd fd 0 r), rfl, ⟨by rw [hX], by rw [hX], fun _ => by rw [hX]; rfl⟩, by rw [ht]; exact hP, va_K.moved hW.alike hK, hD⟩, hS.F ht⟩) hS.2.2 dLw_register_15

set_option maxHeartbeats 4000000 in
set_option maxRecDepth 100000 in
theorem cLw_state (l : Launch) (hl9 : l.stackTraces = false) (dC : Nat → ClassId) (dI : Nat → Nat → Nat) (ad : Nat → Nat) (ca : Nat → ClassId) (sz : Nat) (S : Ss) (qo : Nat) (co : ClassId) (fo : Nat → Int64) (qd : Nat) (cd : ClassId) (fd : Nat → UInt64) (a b : Int32) (m0 : Nat) (hm : m0 ≤ 10) (em : S 0 0 = nI m0) : Met l yLw_state (kLw_state :: CW) ({ frames := 7, cells := 1, slots := 6, locals := 113 }) (va_Pc [.ref (ad 0), .int a, .int b, .ref qo] (wPre (dC, dI) (xT ca ++ oT co cd) (XW ad ca S ++ oW qo co fo qd cd fd) sz)) (va_Qi (fun (r : Int32) (u : Ss × (Nat → Int64) × (Nat → UInt64)) => r = (oState S a b).1 ∧ u.1 = (oState S a b).2.2 ∧ (r = 0 → u.2.1 0 = (oState S a b).2.1.toInt64)) (fun u => gAt (dC, dI) (xT ca ++ oT co cd) (va_A (XW ad ca S ++ oW qo co fo qd cd fd) sz) (XW ad ca u.1 ++ oW qo co u.2.1 qd cd u.2.2)) (va_A (XW ad ca S ++ oW qo co fo qd cd fd) sz)) 1 6 (va_A (XW ad ca S ++ oW qo co fo qd cd fd) sz) := by
  refine va_MetW (cc := bLw_state) (maxL := 5) (ret := (some .int)) (by decide +kernel) rfl ?_
  intro p e s m args below meth c s₁ B hml hv
  obtain ⟨rfl, ⟨⟨hsz, hP, hK, hD0⟩, hU, hN⟩, hNc⟩ := hv
  have hx := B.exec
  have hb := B.bytes
  have hr := B.returns
  have hts := atoms_spec (ws := kLw_state :: CW) B.pre
  have hc : ∀ w ∈ CW, w.before _ s = true := fun w h => hts w (List.mem_cons_of_mem _ h)
  have hown : s.vm.findClass RLw = some m.cls := findClass_of_methodNamed B.named
  have htab : c.exceptionTable.toList = tableOf [(0, 10, 13, 21), (0, 10, 17, 13)] := vx_table (x := yLw_state) B (hts kLw_state List.mem_cons_self)
  subst hsz
  have hD := hD0.self (sz := s.heap.size)
  generalize hAe : va_A (XW ad ca S ++ oW qo co fo qd cd fd) s.heap.size = A at hD hU ⊢
  have hA : ∀ q : Nat, s.heap.size ≤ q → A q := fun q h => by rw [← hAe]; exact Or.inr h
  have hS : va_S A s.heap s.heap [] := va_S.rf
  have hl := lv_entry ([.ref (ad 0), .int a, .int b, .ref qo]) (n := 5) (Nat.le_of_ble_eq_true rfl)
  rw [lg_entry_eq]
  generalize (lg_sl ([.ref (ad 0), .int a, .int b, .ref qo]) ++ List.replicate (5 - (lg_sl ([.ref (ad 0), .int a, .int b, .ref qo])).length) Slot.unset).toArray = ls at hl ⊢
  have hl : lv_has ls 5 [(0, .ref (ad 0)), (1, .int a), (2, .int b), (3, .ref qo)] := hl
  refine lv_aload_n hx hb dLw_state_0 rfl (lv_at hl 3 rfl) ?_
  refine lv_iconst (v := 0) hx hb dLw_state_1 (by decide +kernel) ?_
  refine lv_aload_n hx hb dLw_state_2 rfl (lv_at hl 0 rfl) ?_
  refine lv_iload_n hx hb dLw_state_3 rfl (lv_at hl 1 rfl) ?_
  refine lv_iload_n hx hb dLw_state_4 rfl (lv_at hl 2 rfl) ?_
  refine f_vxi (vx_runV (As := [.int a, .int b]) (rest := [.int 0, .ref qo]) ⟨hx, hb, hml, hown, hc⟩ (cX_state l hl9 dC dI ad ca s.heap.size S a b m0 hm em) (cwV 2 hc (gV w540 w541 w542 w1 qX_state) rfl rfl rfl (by decide +kernel) ⟨(Nat.le_of_ble_eq_true rfl), (Nat.le_of_ble_eq_true rfl)⟩) ⟨tPre2_blind, va_recv (fr_Kl hK) (fr_Pl hP) (ci := 0) (q0 := 0) rfl rfl, tPre2_in (fr_Pl hP) (fr_Kl hK) (fr_Dl hD) hS (fr_freel hD hS hA) hU hN⟩ rfl rfl hl.1 rfl (lv_room (Nat.le_of_ble_eq_true rfl)) dLw_state_5 ⟨(Nat.le_of_ble_eq_true rfl), (Nat.le_of_ble_eq_true rfl)⟩) hP hD hS hA (fun E ce q9 u H locs hX hP hD hS hce hcv hcl => ?_) (fun r u H locs hX hP hD hS => ?_)
  · rcases hX with ⟨rfl, hX⟩ | ⟨rfl, hX⟩
    · refine vx_catch (own := "LadderScanLaw") (name := eN) hown [] ⟨0, 10, 13, 21⟩ [⟨0, 10, 17, 13⟩] htab (fun z hz => absurd hz List.not_mem_nil) (by decide) (by decide) (hc _ w283) (hN.use (List.mem_of_getElem? (i := 295) rfl) rfl) hce hcv hcl ?_
      refine W.eq (g2 := F0 m 13 ls [.ref q9]) rfl ?_
      refine lv_astore (lv' := [(4, .ref q9), (0, .ref (ad 0)), (1, .int a), (2, .int b), (3, .ref qo)]) hx hb dLw_state_13 hl (by decide) rfl (fun ls hl => ?_)
      refine lv_iconst (v := 1) hx hb dLw_state_15 (by decide +kernel) ?_
      refine W.widen (k := 1) (n := 6) (by decide) (by decide) ?_
      exact W.iret (v := 1) hx hb hr (fun t ht hW => ⟨⟨_, (u, fo, fd), rfl, ⟨by rw [hX], by rw [hX], fun h => absurd (show (1 : Int32) = 0 from h) (by decide)⟩, by rw [ht]; exact hP, va_K.moved hW.alike hK, hD⟩, hS.F ht⟩) hS.2.2 dLw_state_16
    · refine vx_catch (own := "LadderScanLaw") (name := eA) hown [⟨0, 10, 13, 21⟩] ⟨0, 10, 17, 13⟩ [] htab (fun z hz => by rw [List.mem_singleton.mp hz]; exact Or.inr ⟨by decide, eN, hc _ w283, hNc.2.2.1⟩) (by decide) (by decide) (hc _ w178) (hN.use (List.mem_of_getElem? (i := 198) rfl) rfl) hce hcv hcl ?_
      refine W.eq (g2 := F0 m 17 ls [.ref q9]) rfl ?_
      refine lv_astore (lv' := [(4, .ref q9), (0, .ref (ad 0)), (1, .int a), (2, .int b), (3, .ref qo)]) hx hb dLw_state_17 hl (by decide) rfl (fun ls hl => ?_)
      refine lv_iconst (v := 2) hx hb dLw_state_19 (by decide +kernel) ?_
      refine W.widen (k := 1) (n := 6) (by decide) (by decide) ?_
      exact W.iret (v := 2) hx hb hr (fun t ht hW => ⟨⟨_, (u, fo, fd), rfl, ⟨by rw [hX], by rw [hX], fun h => absurd (show (2 : Int32) = 0 from h) (by decide)⟩, by rw [ht]; exact hP, va_K.moved hW.alike hK, hD⟩, hS.F ht⟩) hS.2.2 dLw_state_20
  · refine lv_i2l (v := r.toInt64) hx hb dLw_state_8 rfl ?_
    refine va_last hx hb hK hP hD hS 28 14 rfl rfl (vp_in_nI (n := 0) (by decide) (by decide)) dLw_state_9 (fun H locs hP hD hS => ?_)
    rw [show (0 : Int32).toNatClampNeg = 0 from rfl] at hP hD
    have hP : va_P (dC, dI) vwCl (XW ad ca u ++ oW qo co (vp_updL fo 0 r.toInt64) qd cd fd) H := hP
    have hD : va_D A (XW ad ca u ++ oW qo co (vp_updL fo 0 r.toInt64) qd cd fd) := hD
    refine lv_goto (tgt := 21) hx hb dLw_state_10 (by decide) ?_
    refine lv_iconst (v := 0) hx hb dLw_state_21 (by decide +kernel) ?_
    refine W.widen (k := 1) (n := 6) (by decide) (by decide) ?_
    exact W.iret (v := 0) hx hb hr (fun t ht hW => ⟨⟨_, (u, vp_updL fo 0 r.toInt64, fd), rfl, ⟨by rw [hX], by rw [hX], fun _ => by rw [hX]; rfl⟩, by rw [ht]; exact hP, va_K.moved hW.alike hK, hD⟩, hS.F ht⟩) hS.2.2 dLw_state_22

set_option maxHeartbeats 4000000 in
set_option maxRecDepth 100000 in
theorem cLw_count (l : Launch) (hl9 : l.stackTraces = false) (dC : Nat → ClassId) (dI : Nat → Nat → Nat) (ad : Nat → Nat) (ca : Nat → ClassId) (sz : Nat) (S : Ss) (qo : Nat) (co : ClassId) (fo : Nat → Int64) (qd : Nat) (cd : ClassId) (fd : Nat → UInt64) (a : Int32) : Met l yLw_count (kLw_count :: CW) ({ frames := 7, cells := 1, slots := 6, locals := 112 }) (va_Pc [.ref (ad 0), .int a, .ref qo] (wPre (dC, dI) (xT ca ++ oT co cd) (XW ad ca S ++ oW qo co fo qd cd fd) sz)) (va_Qi (fun (r : Int32) (u : Ss × (Nat → Int64) × (Nat → UInt64)) => r = (oCount S a).1 ∧ u.1 = (oCount S a).2.2 ∧ (r = 0 → u.2.1 0 = (oCount S a).2.1.toInt64)) (fun u => gAt (dC, dI) (xT ca ++ oT co cd) (va_A (XW ad ca S ++ oW qo co fo qd cd fd) sz) (XW ad ca u.1 ++ oW qo co u.2.1 qd cd u.2.2)) (va_A (XW ad ca S ++ oW qo co fo qd cd fd) sz)) 1 6 (va_A (XW ad ca S ++ oW qo co fo qd cd fd) sz) := by
  refine va_MetW (cc := bLw_count) (maxL := 4) (ret := (some .int)) (by decide +kernel) rfl ?_
  intro p e s m args below meth c s₁ B hml hv
  obtain ⟨rfl, ⟨⟨hsz, hP, hK, hD0⟩, hU, hN⟩, hNc⟩ := hv
  have hx := B.exec
  have hb := B.bytes
  have hr := B.returns
  have hts := atoms_spec (ws := kLw_count :: CW) B.pre
  have hc : ∀ w ∈ CW, w.before _ s = true := fun w h => hts w (List.mem_cons_of_mem _ h)
  have hown : s.vm.findClass RLw = some m.cls := findClass_of_methodNamed B.named
  have htab : c.exceptionTable.toList = tableOf [(0, 9, 12, 13)] := vx_table (x := yLw_count) B (hts kLw_count List.mem_cons_self)
  subst hsz
  have hD := hD0.self (sz := s.heap.size)
  generalize hAe : va_A (XW ad ca S ++ oW qo co fo qd cd fd) s.heap.size = A at hD hU ⊢
  have hA : ∀ q : Nat, s.heap.size ≤ q → A q := fun q h => by rw [← hAe]; exact Or.inr h
  have hS : va_S A s.heap s.heap [] := va_S.rf
  have hl := lv_entry ([.ref (ad 0), .int a, .ref qo]) (n := 4) (Nat.le_of_ble_eq_true rfl)
  rw [lg_entry_eq]
  generalize (lg_sl ([.ref (ad 0), .int a, .ref qo]) ++ List.replicate (4 - (lg_sl ([.ref (ad 0), .int a, .ref qo])).length) Slot.unset).toArray = ls at hl ⊢
  have hl : lv_has ls 4 [(0, .ref (ad 0)), (1, .int a), (2, .ref qo)] := hl
  refine lv_aload_n hx hb dLw_count_0 rfl (lv_at hl 2 rfl) ?_
  refine lv_iconst (v := 0) hx hb dLw_count_1 (by decide +kernel) ?_
  refine lv_aload_n hx hb dLw_count_2 rfl (lv_at hl 0 rfl) ?_
  refine lv_iload_n hx hb dLw_count_3 rfl (lv_at hl 1 rfl) ?_
  refine f_vxi (vx_runV (As := [.int a]) (rest := [.int 0, .ref qo]) ⟨hx, hb, hml, hown, hc⟩ (cX_count l hl9 dC dI ad ca s.heap.size S a) (cwV 1 hc (gV w547 w548 w549 w1 qX_count) rfl rfl rfl (by decide +kernel) ⟨(Nat.le_of_ble_eq_true rfl), (Nat.le_of_ble_eq_true rfl)⟩) ⟨tPre2_blind, va_recv (fr_Kl hK) (fr_Pl hP) (ci := 0) (q0 := 0) rfl rfl, tPre2_in (fr_Pl hP) (fr_Kl hK) (fr_Dl hD) hS (fr_freel hD hS hA) hU hN⟩ rfl rfl hl.1 rfl (lv_room (Nat.le_of_ble_eq_true rfl)) dLw_count_4 ⟨(Nat.le_of_ble_eq_true rfl), (Nat.le_of_ble_eq_true rfl)⟩) hP hD hS hA (fun E ce q9 u H locs hX hP hD hS hce hcv hcl => ?_) (fun r u H locs hX hP hD hS => ?_)
  · obtain ⟨rfl, hX⟩ := hX
    refine vx_catch (own := "LadderScanLaw") (name := eA) hown [] ⟨0, 9, 12, 13⟩ [] htab (fun z hz => absurd hz List.not_mem_nil) (by decide) (by decide) (hc _ w178) (hN.use (List.mem_of_getElem? (i := 198) rfl) rfl) hce hcv hcl ?_
    refine W.eq (g2 := F0 m 12 ls [.ref q9]) rfl ?_
    refine lv_astore_n (lv' := [(3, .ref q9), (0, .ref (ad 0)), (1, .int a), (2, .ref qo)]) hx hb dLw_count_12 rfl hl (by decide) rfl (fun ls hl => ?_)
    refine lv_iconst (v := 1) hx hb dLw_count_13 (by decide +kernel) ?_
    refine W.widen (k := 1) (n := 6) (by decide) (by decide) ?_
    exact W.iret (v := 1) hx hb hr (fun t ht hW => ⟨⟨_, (u, fo, fd), rfl, ⟨by rw [hX], by rw [hX], fun h => absurd (show (1 : Int32) = 0 from h) (by decide)⟩, by rw [ht]; exact hP, va_K.moved hW.alike hK, hD⟩, hS.F ht⟩) hS.2.2 dLw_count_14
  · refine lv_i2l (v := r.toInt64) hx hb dLw_count_7 rfl ?_
    refine va_last hx hb hK hP hD hS 28 14 rfl rfl (vp_in_nI (n := 0) (by decide) (by decide)) dLw_count_8 (fun H locs hP hD hS => ?_)
    rw [show (0 : Int32).toNatClampNeg = 0 from rfl] at hP hD
    have hP : va_P (dC, dI) vwCl (XW ad ca u ++ oW qo co (vp_updL fo 0 r.toInt64) qd cd fd) H := hP
    have hD : va_D A (XW ad ca u ++ oW qo co (vp_updL fo 0 r.toInt64) qd cd fd) := hD
    refine lv_goto (tgt := 15) hx hb dLw_count_9 (by decide) ?_
    refine lv_iconst (v := 0) hx hb dLw_count_15 (by decide +kernel) ?_
    refine W.widen (k := 1) (n := 6) (by decide) (by decide) ?_
    exact W.iret (v := 0) hx hb hr (fun t ht hW => ⟨⟨_, (u, vp_updL fo 0 r.toInt64, fd), rfl, ⟨by rw [hX], by rw [hX], fun _ => by rw [hX]; rfl⟩, by rw [ht]; exact hP, va_K.moved hW.alike hK, hD⟩, hS.F ht⟩) hS.2.2 dLw_count_16
