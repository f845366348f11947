set_option maxHeartbeats 4000000 in
set_option maxRecDepth 100000 in
theorem cMo_in (l : Launch) (a lo hi : Int32) : Met l yMo_in (kMo_in :: CW) ({ frames := 0, cells := 0, slots := 0, locals := 0 }) (va_Pc [.int a, .int lo, .int hi] (fun _ => True)) (vp_Si (fun r => r = b2 (wi a lo hi))) 0 0 (fun _ => False) := by
  refine Met.ofW (cc := bMo_in) (maxL := 3) (ret := (some .boolean)) (by decide +kernel) rfl ?_
  intro p e s m args below meth c s₁ B hml hv
  obtain ⟨rfl, -⟩ := hv
  have hx := B.exec
  have hb := B.bytes
  have hr := B.returns
  have hts := atoms_spec (ws := kMo_in :: CW) B.pre
  have hc : ∀ w ∈ CW, w.before _ s = true := fun w h => hts w (List.mem_cons_of_mem _ h)
  have hown : s.vm.findClass RMo = some m.cls := findClass_of_methodNamed B.named
  have hlocks := B.notSynchronized
  have hl := lv_entry ([.int a, .int lo, .int hi]) (n := 3) (Nat.le_of_ble_eq_true rfl)
  rw [lg_entry_eq]
  generalize (lg_sl ([.int a, .int lo, .int hi]) ++ List.replicate (3 - (lg_sl ([.int a, .int lo, .int hi])).length) Slot.unset).toArray = ls at hl ⊢
  have hl : lv_has ls 3 [(0, .int a), (1, .int lo), (2, .int hi)] := hl
  refine lv_iload_n hx hb dMo_in_0 rfl (lv_at hl 0 rfl) ?_
  refine lv_iload_n hx hb dMo_in_1 rfl (lv_at hl 1 rfl) ?_
  refine lv_icmp_lt (tgt := 14) hx hb dMo_in_2 (by decide) (fun c_0 => ?_) (fun c_0 => ?_)
  · refine lv_iconst (v := 0) hx hb dMo_in_14 (by decide +kernel) ?_
    exact W.zret (v := 0) (ty := .boolean) hx hb hr rfl (fun t ht hW => ⟨_, rfl, (by (try dsimp only) <;> exact (b2_f (by (try simp only [wi, Int32.lt_iff_toInt_lt, Int32.le_iff_toInt_le, ← Int32.toInt_inj, Int32.reduceToInt] at c_0); (try simp only [wi, Int32.lt_iff_toInt_lt, Int32.le_iff_toInt_le, ← Int32.toInt_inj, Int32.reduceToInt]); omega)).symm), ht⟩) (fun _ h => nomatch h) dMo_in_15
  · refine lv_iload_n hx hb dMo_in_5 rfl (lv_at hl 0 rfl) ?_
    refine lv_iload_n hx hb dMo_in_6 rfl (lv_at hl 2 rfl) ?_
    refine lv_icmp_gt (tgt := 14) hx hb dMo_in_7 (by decide) (fun c_1 => ?_) (fun c_1 => ?_)
    · refine lv_iconst (v := 0) hx hb dMo_in_14 (by decide +kernel) ?_
      exact W.zret (v := 0) (ty := .boolean) hx hb hr rfl (fun t ht hW => ⟨_, rfl, (by (try dsimp only) <;> exact (b2_f (by (try simp only [wi, Int32.lt_iff_toInt_lt, Int32.le_iff_toInt_le, ← Int32.toInt_inj, Int32.reduceToInt] at c_0); (try simp only [wi, Int32.lt_iff_toInt_lt, Int32.le_iff_toInt_le, ← Int32.toInt_inj, Int32.reduceToInt] at c_1); (try simp only [wi, Int32.lt_iff_toInt_lt, Int32.le_iff_toInt_le, ← Int32.toInt_inj, Int32.reduceToInt]); omega)).symm), ht⟩) (fun _ h => nomatch h) dMo_in_15
    · refine lv_iconst (v := 1) hx hb dMo_in_10 (by decide +kernel) ?_
      refine lv_goto (tgt := 15) hx hb dMo_in_11 (by decide) ?_
      exact W.zret (v := 1) (ty := .boolean) hx hb hr rfl (fun t ht hW => ⟨_, rfl, (by (try dsimp only) <;> exact (b2_t (by (try simp only [wi, Int32.lt_iff_toInt_lt, Int32.le_iff_toInt_le, ← Int32.toInt_inj, Int32.reduceToInt] at c_0); (try simp only [wi, Int32.lt_iff_toInt_lt, Int32.le_iff_toInt_le, ← Int32.toInt_inj, Int32.reduceToInt] at c_1); (try simp only [wi, Int32.lt_iff_toInt_lt, Int32.le_iff_toInt_le, ← Int32.toInt_inj, Int32.reduceToInt]); omega)).symm), ht⟩) (fun _ h => nomatch h) dMo_in_15

set_option maxHeartbeats 4000000 in
set_option maxRecDepth 100000 in
theorem cMo_number (l : Launch) (k : Int32) : Met l yMo_number (kMo_number :: CW) ({ frames := 0, cells := 0, slots := 0, locals := 0 }) (va_Pc [.double (eD k)] (fun _ => True)) (vp_Si (fun r => r = b2 (wi k (-65536) 65536))) 0 0 (fun _ => False) := by
  refine Met.ofW (cc := bMo_number) (maxL := 2) (ret := (some .boolean)) (by decide +kernel) rfl ?_
  intro p e s m args below meth c s₁ B hml hv
  obtain ⟨rfl, -⟩ := hv
  have hx := B.exec
  have hb := B.bytes
  have hr := B.returns
  have hts := atoms_spec (ws := kMo_number :: CW) B.pre
  have hc : ∀ w ∈ CW, w.before _ s = true := fun w h => hts w (List.mem_cons_of_mem _ h)
  have hown : s.vm.findClass RMo = some m.cls := findClass_of_methodNamed B.named
  have hlocks := B.notSynchronized
  have hl := lv_entry ([.double (eD k)]) (n := 2) (Nat.le_of_ble_eq_true rfl)
  rw [lg_entry_eq]
  generalize (lg_sl ([.double (eD k)]) ++ List.replicate (2 - (lg_sl ([.double (eD k)])).length) Slot.unset).toArray = ls at hl ⊢
  have hl : lv_has ls 2 [(0, .double (eD k))] := hl
  refine lv_dload_n hx hb dMo_number_0 rfl (lv_at hl 0 rfl) ?_
  refine lv_ldc2d (v := 13889101250810609664) hx hb hown (hc _ w672) dMo_number_1 ?_
  refine lv_dcmp hx hb dMo_number_4 ?_
  refine lv_topi (fun v_1 ev_1 => ?_)
  rw [e8_lo, e8_cmp] at ev_1
  have fv_1 := e8_c (a := k.toInt) (b := (-65536 : Int32).toInt) (.l : CmpOp)
  rw [← ev_1] at fv_1
  refine lv_if_lt (tgt := 20) hx hb dMo_number_5 (by decide) (fun c_1 => ?_) (fun c_1 => ?_)
  · rw [fv_1.1] at c_1
    refine lv_iconst (v := 0) hx hb dMo_number_20 (by decide +kernel) ?_
    exact W.zret (v := 0) (ty := .boolean) hx hb hr rfl (fun t ht hW => ⟨_, rfl, (by (try dsimp only) <;> exact (b2_f (by (try simp only [wi, Int32.lt_iff_toInt_lt, Int32.le_iff_toInt_le, ← Int32.toInt_inj, Int32.reduceToInt] at c_1); (try simp only [wi, Int32.lt_iff_toInt_lt, Int32.le_iff_toInt_le, ← Int32.toInt_inj, Int32.reduceToInt]); omega)).symm), ht⟩) (fun _ h => nomatch h) dMo_number_21
  · rw [fv_1.1] at c_1
    refine lv_dload_n hx hb dMo_number_8 rfl (lv_at hl 0 rfl) ?_
    refine lv_ldc2d (v := 4665729213955833856) hx hb hown (hc _ w673) dMo_number_9 ?_
    refine lv_dcmp hx hb dMo_number_12 ?_
    refine lv_topi (fun v_3 ev_3 => ?_)
    rw [e8_hi, e8_cmp] at ev_3
    have fv_3 := e8_c (a := k.toInt) (b := (65536 : Int32).toInt) (.g : CmpOp)
    rw [← ev_3] at fv_3
    refine lv_if_gt (tgt := 20) hx hb dMo_number_13 (by decide) (fun c_3 => ?_) (fun c_3 => ?_)
    · rw [fv_3.2.2.1] at c_3
      refine lv_iconst (v := 0) hx hb dMo_number_20 (by decide +kernel) ?_
      exact W.zret (v := 0) (ty := .boolean) hx hb hr rfl (fun t ht hW => ⟨_, rfl, (by (try dsimp only) <;> exact (b2_f (by (try simp only [wi, Int32.lt_iff_toInt_lt, Int32.le_iff_toInt_le, ← Int32.toInt_inj, Int32.reduceToInt] at c_1); (try simp only [wi, Int32.lt_iff_toInt_lt, Int32.le_iff_toInt_le, ← Int32.toInt_inj, Int32.reduceToInt] at c_3); (try simp only [wi, Int32.lt_iff_toInt_lt, Int32.le_iff_toInt_le, ← Int32.toInt_inj, Int32.reduceToInt]); omega)).symm), ht⟩) (fun _ h => nomatch h) dMo_number_21
    · rw [fv_3.2.2.1] at c_3
      refine lv_iconst (v := 1) hx hb dMo_number_16 (by decide +kernel) ?_
      refine lv_goto (tgt := 21) hx hb dMo_number_17 (by decide) ?_
      exact W.zret (v := 1) (ty := .boolean) hx hb hr rfl (fun t ht hW => ⟨_, rfl, (by (try dsimp only) <;> exact (b2_t (by (try simp only [wi, Int32.lt_iff_toInt_lt, Int32.le_iff_toInt_le, ← Int32.toInt_inj, Int32.reduceToInt] at c_1); (try simp only [wi, Int32.lt_iff_toInt_lt, Int32.le_iff_toInt_le, ← Int32.toInt_inj, Int32.reduceToInt] at c_3); (try simp only [wi, Int32.lt_iff_toInt_lt, Int32.le_iff_toInt_le, ← Int32.toInt_inj, Int32.reduceToInt]); omega)).symm), ht⟩) (fun _ h => nomatch h) dMo_number_21

set_option maxHeartbeats 4000000 in
set_option maxRecDepth 100000 in
theorem cMo_eighths (l : Launch) (k : Int32) : Met l yMo_eighths (kMo_eighths :: CW) ({ frames := 0, cells := 0, slots := 0, locals := 0 }) (va_Pc [.double (eD k)] (fun _ => True)) (vp_Sl (fun r => r = k.toInt64)) 0 0 (fun _ => False) := by
  refine Met.ofW (cc := bMo_eighths) (maxL := 4) (ret := (some .long)) (by decide +kernel) rfl ?_
  intro p e s m args below meth c s₁ B hml hv
  obtain ⟨rfl, -⟩ := hv
  have hx := B.exec
  have hb := B.bytes
  have hr := B.returns
  have hts := atoms_spec (ws := kMo_eighths :: CW) B.pre
  have hc : ∀ w ∈ CW, w.before _ s = true := fun w h => hts w (List.mem_cons_of_mem _ h)
  have hown : s.vm.findClass RMo = some m.cls := findClass_of_methodNamed B.named
  have hlocks := B.notSynchronized
  have hl := lv_entry ([.double (eD k)]) (n := 4) (Nat.le_of_ble_eq_true rfl)
  rw [lg_entry_eq]
  generalize (lg_sl ([.double (eD k)]) ++ List.replicate (4 - (lg_sl ([.double (eD k)])).length) Slot.unset).toArray = ls at hl ⊢
  have hl : lv_has ls 4 [(0, .double (eD k))] := hl
  refine lv_dload_n hx hb dMo_eighths_0 rfl (lv_at hl 0 rfl) ?_
  refine lv_ldc2d (v := 4620693217682128896) hx hb hown (hc _ w677) dMo_eighths_1 ?_
  refine lv_dmul hx hb dMo_eighths_4 (by rw [e8_mul8]; exact e8_i2d_n k) ?_
  refine lv_topd (fun v_1 ev_1 => ?_)
  rw [e8_mul8] at ev_1
  subst v_1
  refine lv_d2l hx hb dMo_eighths_5 ?_
  refine lv_topl (fun v_2 ev_2 => ?_)
  rw [e8_d2l] at ev_2
  subst v_2
  refine lv_lstore_n (lv' := [(2, .long k.toInt64), (0, .double (eD k))]) hx hb dMo_eighths_6 rfl hl (by decide) rfl (fun ls hl => ?_)
  refine lv_lload_n hx hb dMo_eighths_7 rfl (lv_at hl 0 rfl) ?_
  refine lv_l2d hx hb dMo_eighths_8 ?_
  refine lv_topd (fun v_3 ev_3 => ?_)
  rw [e8_l2d] at ev_3
  subst v_3
  refine lv_dload_n hx hb dMo_eighths_9 rfl (lv_at hl 1 rfl) ?_
  refine lv_ldc2d (v := 4620693217682128896) hx hb hown (hc _ w677) dMo_eighths_10 ?_
  refine lv_dmul hx hb dMo_eighths_13 (by rw [e8_mul8]; exact e8_i2d_n k) ?_
  refine lv_topd (fun v_4 ev_4 => ?_)
  rw [e8_mul8] at ev_4
  subst v_4
  refine lv_dcmp hx hb dMo_eighths_14 ?_
  refine lv_topi (fun v_5 ev_5 => ?_)
  rw [e8_cmpI] at ev_5
  have fv_5 := e8_c (a := k.toInt) (b := k.toInt) (.l : CmpOp)
  rw [← ev_5] at fv_5
  refine lv_if_le (tgt := 24) hx hb dMo_eighths_15 (by decide) (fun c_5 => ?_) (fun c_5 => ?_)
  · refine lv_lload_n hx hb dMo_eighths_24 rfl (lv_at hl 0 rfl) ?_
    exact W.lret (v := k.toInt64) hx hb hr (fun t ht hW => ⟨_, rfl, (by (try dsimp only) <;> exact rfl), ht⟩) (fun _ h => nomatch h) dMo_eighths_25
  · exact absurd (fv_5.2.2.2.1.mpr (Int.le_refl _)) c_5

set_option maxHeartbeats 4000000 in
set_option maxRecDepth 100000 in
theorem cMo_whole (l : Launch) (k : Int32) : Met l yMo_whole (kMo_whole :: CW) ({ frames := 0, cells := 0, slots := 0, locals := 0 }) (va_Pc [.double (eD k)] (fun _ => True)) (vp_Si (fun r => r = 1)) 0 0 (fun _ => False) := by
  refine Met.ofW (cc := bMo_whole) (maxL := 2) (ret := (some .boolean)) (by decide +kernel) rfl ?_
  intro p e s m args below meth c s₁ B hml hv
  obtain ⟨rfl, -⟩ := hv
  have hx := B.exec
  have hb := B.bytes
  have hr := B.returns
  have hts := atoms_spec (ws := kMo_whole :: CW) B.pre
  have hc : ∀ w ∈ CW, w.before _ s = true := fun w h => hts w (List.mem_cons_of_mem _ h)
  have hown : s.vm.findClass RMo = some m.cls := findClass_of_methodNamed B.named
  have hlocks := B.notSynchronized
  have hl := lv_entry ([.double (eD k)]) (n := 2) (Nat.le_of_ble_eq_true rfl)
  rw [lg_entry_eq]
  generalize (lg_sl ([.double (eD k)]) ++ List.replicate (2 - (lg_sl ([.double (eD k)])).length) Slot.unset).toArray = ls at hl ⊢
  have hl : lv_has ls 2 [(0, .double (eD k))] := hl
  refine lv_dload_n hx hb dMo_whole_0 rfl (lv_at hl 0 rfl) ?_
  refine lv_ldc2d (v := 4620693217682128896) hx hb hown (hc _ w677) dMo_whole_1 ?_
  refine lv_dmul hx hb dMo_whole_4 (by rw [e8_mul8]; exact e8_i2d_n k) ?_
  refine lv_topd (fun v_1 ev_1 => ?_)
  rw [e8_mul8] at ev_1
  subst v_1
  refine lv_dload_n hx hb dMo_whole_5 rfl (lv_at hl 0 rfl) ?_
  refine lv_ldc2d (v := 4620693217682128896) hx hb hown (hc _ w677) dMo_whole_6 ?_
  refine lv_dmul hx hb dMo_whole_9 (by rw [e8_mul8]; exact e8_i2d_n k) ?_
  refine lv_topd (fun v_2 ev_2 => ?_)
  rw [e8_mul8] at ev_2
  subst v_2
  refine lv_d2l hx hb dMo_whole_10 ?_
  refine lv_topl (fun v_3 ev_3 => ?_)
  rw [e8_d2l] at ev_3
  subst v_3
  refine lv_l2d hx hb dMo_whole_11 ?_
  refine lv_topd (fun v_4 ev_4 => ?_)
  rw [e8_l2d] at ev_4
  subst v_4
  refine lv_dcmp hx hb dMo_whole_12 ?_
  refine lv_topi (fun v_5 ev_5 => ?_)
  rw [e8_cmpI] at ev_5
  have fv_5 := e8_c (a := k.toInt) (b := k.toInt) (.l : CmpOp)
  rw [← ev_5] at fv_5
  refine lv_if_ne (tgt := 20) hx hb dMo_whole_13 (by decide) (fun c_5 => ?_) (fun c_5 => ?_)
  · exact absurd (fv_5.2.1.mpr rfl) c_5
  · refine lv_iconst (v := 1) hx hb dMo_whole_16 (by decide +kernel) ?_
    refine lv_goto (tgt := 21) hx hb dMo_whole_17 (by decide) ?_
    exact W.zret (v := 1) (ty := .boolean) hx hb hr rfl (fun t ht hW => ⟨_, rfl, (by (try dsimp only) <;> exact rfl), ht⟩) (fun _ h => nomatch h) dMo_whole_21

set_option maxHeartbeats 4000000 in
set_option maxRecDepth 100000 in
theorem cMo_down (l : Launch) (x y : Int64) (hx1 : -1152921504606846976 ≤ x.toInt) (hx2 : x.toInt ≤ 1152921504606846976) (hy0 : y.toInt ≠ 0)  : Met l yMo_down (kMo_down :: CW) ({ frames := 0, cells := 0, slots := 0, locals := 0 }) (va_Pc [.long x, .long y] (fun _ => True)) (vp_Sl (fun r => r.toInt = Int.fdiv x.toInt y.toInt)) 0 0 (fun _ => False) := by
  refine Met.ofW (cc := bMo_down) (maxL := 4) (ret := (some .long)) (by decide +kernel) rfl ?_
  intro p e s m args below meth c s₁ B hml hv
  obtain ⟨rfl, -⟩ := hv
  have hx := B.exec
  have hb := B.bytes
  have hr := B.returns
  have hts := atoms_spec (ws := kMo_down :: CW) B.pre
  have hc : ∀ w ∈ CW, w.before _ s = true := fun w h => hts w (List.mem_cons_of_mem _ h)
  have hown : s.vm.findClass RMo = some m.cls := findClass_of_methodNamed B.named
  have hlocks := B.notSynchronized
  have hl := lv_entry ([.long x, .long y]) (n := 4) (Nat.le_of_ble_eq_true rfl)
  rw [lg_entry_eq]
  generalize (lg_sl ([.long x, .long y]) ++ List.replicate (4 - (lg_sl ([.long x, .long y])).length) Slot.unset).toArray = ls at hl ⊢
  have hl : lv_has ls 4 [(0, .long x), (2, .long y)] := hl
  have hy1 : y ≠ 0 := fun h => hy0 (by rw [h]; rfl)
  have h1 : (x / y).toInt = x.toInt.tdiv y.toInt := lT_div (by omega)
  have h5 := fd_abs x.toInt y.toInt
  refine lv_lload_n hx hb dMo_down_0 rfl (lv_at hl 0 rfl) ?_
  refine lv_lload_n hx hb dMo_down_1 rfl (lv_at hl 1 rfl) ?_
  refine lv_ldiv hx hb dMo_down_2 hy1 ?_
  refine lv_lload_n hx hb dMo_down_3 rfl (lv_at hl 0 rfl) ?_
  refine lv_lload_n hx hb dMo_down_4 rfl (lv_at hl 1 rfl) ?_
  refine lv_lrem hx hb dMo_down_5 hy1 ?_
  refine lv_lconst (v := 0) hx hb dMo_down_6 (by decide +kernel) ?_
  refine W.lcmp hx hb dMo_down_7 ?_
  refine lv_if_eq (tgt := 40) hx hb dMo_down_8 (by decide) (fun c_0 => ?_) (fun c_0 => ?_)
  · refine lv_iconst (v := 0) hx hb dMo_down_40 (by decide +kernel) ?_
    refine lv_i2l (v := (0 : Int32).toInt64) hx hb dMo_down_41 rfl ?_
    refine lv_lsub hx hb dMo_down_42 ?_
    exact W.lret (v := ((x / y) - ((0 : Int32).toInt64))) hx hb hr (fun t ht hW => ⟨_, rfl, (by (try dsimp only) <;> exact (by have e1 : ((0 : Int32).toInt64).toInt = 0 := (by decide); rw [lT_sub (by rw [e1, h1]; omega) (by rw [e1, h1]; omega), e1, h1]; rw [Int.sub_zero]; exact fd_dvd ((tm_dvd hy1 hx1 hx2).mp ((lg_cmp_eq _ _).mp c_0)))), ht⟩) (fun _ h => nomatch h) dMo_down_43
  · refine lv_lload_n hx hb dMo_down_11 rfl (lv_at hl 0 rfl) ?_
    refine lv_lconst (v := 0) hx hb dMo_down_12 (by decide +kernel) ?_
    refine W.lcmp hx hb dMo_down_13 ?_
    refine lv_if_ge (tgt := 21) hx hb dMo_down_14 (by decide) (fun c_1 => ?_) (fun c_1 => ?_)
    · refine lv_iconst (v := 0) hx hb dMo_down_21 (by decide +kernel) ?_
      refine lv_lload_n hx hb dMo_down_22 rfl (lv_at hl 1 rfl) ?_
      refine lv_lconst (v := 0) hx hb dMo_down_23 (by decide +kernel) ?_
      refine W.lcmp hx hb dMo_down_24 ?_
      refine lv_if_ge (tgt := 32) hx hb dMo_down_25 (by decide) (fun c_2 => ?_) (fun c_2 => ?_)
      · refine lv_iconst (v := 0) hx hb dMo_down_32 (by decide +kernel) ?_
        refine lv_icmp_eq (tgt := 40) hx hb dMo_down_33 (by decide) (fun c_3 => ?_) (fun c_3 => ?_)
        · refine lv_iconst (v := 0) hx hb dMo_down_40 (by decide +kernel) ?_
          refine lv_i2l (v := (0 : Int32).toInt64) hx hb dMo_down_41 rfl ?_
          refine lv_lsub hx hb dMo_down_42 ?_
          exact W.lret (v := ((x / y) - ((0 : Int32).toInt64))) hx hb hr (fun t ht hW => ⟨_, rfl, (by (try dsimp only) <;> exact (by have e1 : ((0 : Int32).toInt64).toInt = 0 := (by decide); rw [lT_sub (by rw [e1, h1]; omega) (by rw [e1, h1]; omega), e1, h1]; have hA : ¬ x.toInt < 0 := (Int.not_lt.mpr (Int64.le_iff_toInt_le.mp ((lg_cmp_ge _ _).mp c_1))); have hB : ¬ y.toInt < 0 := (Int.not_lt.mpr (Int64.le_iff_toInt_le.mp ((lg_cmp_ge _ _).mp c_2))); rw [Int.sub_zero]; exact fd_same hy0 (by constructor <;> intro z <;> first | exact absurd z hA | exact absurd z hB | exact hB | exact hA))), ht⟩) (fun _ h => nomatch h) dMo_down_43
        · exact absurd rfl c_3
      · refine lv_iconst (v := 1) hx hb dMo_down_28 (by decide +kernel) ?_
        refine lv_goto (tgt := 33) hx hb dMo_down_29 (by decide) ?_
        refine lv_icmp_eq (tgt := 40) hx hb dMo_down_33 (by decide) (fun c_4 => ?_) (fun c_4 => ?_)
        · exact absurd c_4 (by decide)
        · refine lv_iconst (v := 1) hx hb dMo_down_36 (by decide +kernel) ?_
          refine lv_goto (tgt := 41) hx hb dMo_down_37 (by decide) ?_
          refine lv_i2l (v := (1 : Int32).toInt64) hx hb dMo_down_41 rfl ?_
          refine lv_lsub hx hb dMo_down_42 ?_
          exact W.lret (v := ((x / y) - ((1 : Int32).toInt64))) hx hb hr (fun t ht hW => ⟨_, rfl, (by (try dsimp only) <;> exact (by have e1 : ((1 : Int32).toInt64).toInt = 1 := (by decide); rw [lT_sub (by rw [e1, h1]; omega) (by rw [e1, h1]; omega), e1, h1]; have hA : ¬ x.toInt < 0 := (Int.not_lt.mpr (Int64.le_iff_toInt_le.mp ((lg_cmp_ge _ _).mp c_1))); have hB :  y.toInt < 0 := (Int.not_le.mp (fun z => c_2 ((lg_cmp_ge _ _).mpr (Int64.le_iff_toInt_le.mpr z)))); exact fd_diff hy0 (fun z => by first | exact hB (z.mp hA) | exact hA (z.mpr hB)) (fun z => c_0 ((lg_cmp_eq _ _).mpr ((tm_dvd hy1 hx1 hx2).mpr z))))), ht⟩) (fun _ h => nomatch h) dMo_down_43
    · refine lv_iconst (v := 1) hx hb dMo_down_17 (by decide +kernel) ?_
      refine lv_goto (tgt := 22) hx hb dMo_down_18 (by decide) ?_
      refine lv_lload_n hx hb dMo_down_22 rfl (lv_at hl 1 rfl) ?_
      refine lv_lconst (v := 0) hx hb dMo_down_23 (by decide +kernel) ?_
      refine W.lcmp hx hb dMo_down_24 ?_
      refine lv_if_ge (tgt := 32) hx hb dMo_down_25 (by decide) (fun c_5 => ?_) (fun c_5 => ?_)
      · refine lv_iconst (v := 0) hx hb dMo_down_32 (by decide +kernel) ?_
        refine lv_icmp_eq (tgt := 40) hx hb dMo_down_33 (by decide) (fun c_6 => ?_) (fun c_6 => ?_)
        · exact absurd c_6 (by decide)
        · refine lv_iconst (v := 1) hx hb dMo_down_36 (by decide +kernel) ?_
          refine lv_goto (tgt := 41) hx hb dMo_down_37 (by decide) ?_
          refine lv_i2l (v := (1 : Int32).toInt64) hx hb dMo_down_41 rfl ?_
          refine lv_lsub hx hb dMo_down_42 ?_
          exact W.lret (v := ((x / y) - ((1 : Int32).toInt64))) hx hb hr (fun t ht hW => ⟨_, rfl, (by (try dsimp only) <;> exact (by have e1 : ((1 : Int32).toInt64).toInt = 1 := (by decide); rw [lT_sub (by rw [e1, h1]; omega) (by rw [e1, h1]; omega), e1, h1]; have hA :  x.toInt < 0 := (Int.not_le.mp (fun z => c_1 ((lg_cmp_ge _ _).mpr (Int64.le_iff_toInt_le.mpr z)))); have hB : ¬ y.toInt < 0 := (Int.not_lt.mpr (Int64.le_iff_toInt_le.mp ((lg_cmp_ge _ _).mp c_5))); exact fd_diff hy0 (fun z => by first | exact hB (z.mp hA) | exact hA (z.mpr hB)) (fun z => c_0 ((lg_cmp_eq _ _).mpr ((tm_dvd hy1 hx1 hx2).mpr z))))), ht⟩) (fun _ h => nomatch h) dMo_down_43
      · refine lv_iconst (v := 1) hx hb dMo_down_28 (by decide +kernel) ?_
        refine lv_goto (tgt := 33) hx hb dMo_down_29 (by decide) ?_
        refine lv_icmp_eq (tgt := 40) hx hb dMo_down_33 (by decide) (fun c_7 => ?_) (fun c_7 => ?_)
        · refine lv_iconst (v := 0) hx hb dMo_down_40 (by decide +kernel) ?_
          refine lv_i2l (v := (0 : Int32).toInt64) hx hb dMo_down_41 rfl ?_
          refine lv_lsub hx hb dMo_down_42 ?_
          exact W.lret (v := ((x / y) - ((0 : Int32).toInt64))) hx hb hr (fun t ht hW => ⟨_, rfl, (by (try dsimp only) <;> exact (by have e1 : ((0 : Int32).toInt64).toInt = 0 := (by decide); rw [lT_sub (by rw [e1, h1]; omega) (by rw [e1, h1]; omega), e1, h1]; have hA :  x.toInt < 0 := (Int.not_le.mp (fun z => c_1 ((lg_cmp_ge _ _).mpr (Int64.le_iff_toInt_le.mpr z)))); have hB :  y.toInt < 0 := (Int.not_le.mp (fun z => c_5 ((lg_cmp_ge _ _).mpr (Int64.le_iff_toInt_le.mpr z)))); rw [Int.sub_zero]; exact fd_same hy0 (by constructor <;> intro z <;> first | exact absurd z hA | exact absurd z hB | exact hB | exact hA))), ht⟩) (fun _ h => nomatch h) dMo_down_43
        · exact absurd rfl c_7

set_option maxHeartbeats 4000000 in
set_option maxRecDepth 100000 in
theorem cMo_fit (l : Launch) (x : Int64) : Met l yMo_fit (kMo_fit :: CW) ({ frames := 0, cells := 0, slots := 0, locals := 0 }) (va_Pc [.long x] (fun _ => True)) (vp_Sl (fun r => r = (fitI x.toInt).toInt64)) 0 0 (fun _ => False) := by
  refine Met.ofW (cc := bMo_fit) (maxL := 2) (ret := (some .long)) (by decide +kernel) rfl ?_
  intro p e s m args below meth c s₁ B hml hv
  obtain ⟨rfl, -⟩ := hv
  have hx := B.exec
  have hb := B.bytes
  have hr := B.returns
  have hts := atoms_spec (ws := kMo_fit :: CW) B.pre
  have hc : ∀ w ∈ CW, w.before _ s = true := fun w h => hts w (List.mem_cons_of_mem _ h)
  have hown : s.vm.findClass RMo = some m.cls := findClass_of_methodNamed B.named
  have hlocks := B.notSynchronized
  have hl := lv_entry ([.long x]) (n := 2) (Nat.le_of_ble_eq_true rfl)
  rw [lg_entry_eq]
  generalize (lg_sl ([.long x]) ++ List.replicate (2 - (lg_sl ([.long x])).length) Slot.unset).toArray = ls at hl ⊢
  have hl : lv_has ls 2 [(0, .long x)] := hl
  refine lv_lload_n hx hb dMo_fit_0 rfl (lv_at hl 0 rfl) ?_
  refine lv_ldc2 (v := (-65536)) hx hb hown (hc _ w755) dMo_fit_1 ?_
  refine W.lcmp hx hb dMo_fit_4 ?_
  refine lv_if_ge (tgt := 14) hx hb dMo_fit_5 (by decide) (fun c_0 => ?_) (fun c_0 => ?_)
  · refine lv_lload_n hx hb dMo_fit_14 rfl (lv_at hl 0 rfl) ?_
    refine lv_ldc2 (v := 65536) hx hb hown (hc _ w756) dMo_fit_15 ?_
    refine W.lcmp hx hb dMo_fit_18 ?_
    refine lv_if_le (tgt := 28) hx hb dMo_fit_19 (by decide) (fun c_1 => ?_) (fun c_1 => ?_)
    · refine lv_lload_n hx hb dMo_fit_28 rfl (lv_at hl 0 rfl) ?_
      exact W.lret (v := x) hx hb hr (fun t ht hW => ⟨_, rfl, (by (try dsimp only) <;> exact (by rw [← fit_l, if_neg (Int64.not_lt.mpr ((lg_cmp_ge _ _).mp c_0)), if_neg (Int64.not_lt.mpr ((lg_cmp_le _ _).mp c_1))])), ht⟩) (fun _ h => nomatch h) dMo_fit_29
    · refine lv_ldc2 (v := 65536) hx hb hown (hc _ w756) dMo_fit_22 ?_
      refine lv_goto (tgt := 29) hx hb dMo_fit_25 (by decide) ?_
      exact W.lret (v := 65536) hx hb hr (fun t ht hW => ⟨_, rfl, (by (try dsimp only) <;> exact (by rw [← fit_l, if_neg (Int64.not_lt.mpr ((lg_cmp_ge _ _).mp c_0)), if_pos (Int64.not_le.mp (fun z => c_1 ((lg_cmp_le _ _).mpr z)))])), ht⟩) (fun _ h => nomatch h) dMo_fit_29
  · refine lv_ldc2 (v := (-65536)) hx hb hown (hc _ w755) dMo_fit_8 ?_
    refine lv_goto (tgt := 29) hx hb dMo_fit_11 (by decide) ?_
    exact W.lret (v := (-65536)) hx hb hr (fun t ht hW => ⟨_, rfl, (by (try dsimp only) <;> exact (by rw [← fit_l, if_pos (Int64.not_le.mp (fun z => c_0 ((lg_cmp_ge _ _).mpr z)))])), ht⟩) (fun _ h => nomatch h) dMo_fit_29

set_option maxHeartbeats 4000000 in
set_option maxRecDepth 100000 in
theorem cMo_pushes (l : Launch) (a : Int32) : Met l yMo_pushes (kMo_pushes :: CW) ({ frames := 0, cells := 0, slots := 0, locals := 0 }) (va_Pc [.int a] (fun _ => True)) (vp_Si (fun r => r = b2 (a < 2 ∨ a = 8))) 0 0 (fun _ => False) := by
  refine Met.ofW (cc := bMo_pushes) (maxL := 1) (ret := (some .boolean)) (by decide +kernel) rfl ?_
  intro p e s m args below meth c s₁ B hml hv
  obtain ⟨rfl, -⟩ := hv
  have hx := B.exec
  have hb := B.bytes
  have hr := B.returns
  have hts := atoms_spec (ws := kMo_pushes :: CW) B.pre
  have hc : ∀ w ∈ CW, w.before _ s = true := fun w h => hts w (List.mem_cons_of_mem _ h)
  have hown : s.vm.findClass RMo = some m.cls := findClass_of_methodNamed B.named
  have hlocks := B.notSynchronized
  have hl := lv_entry ([.int a]) (n := 1) (Nat.le_of_ble_eq_true rfl)
  rw [lg_entry_eq]
  generalize (lg_sl ([.int a]) ++ List.replicate (1 - (lg_sl ([.int a])).length) Slot.unset).toArray = ls at hl ⊢
  have hl : lv_has ls 1 [(0, .int a)] := hl
  refine lv_iload_n hx hb dMo_pushes_0 rfl (lv_at hl 0 rfl) ?_
  refine lv_iconst (v := 2) hx hb dMo_pushes_1 (by decide +kernel) ?_
  refine lv_icmp_lt (tgt := 11) hx hb dMo_pushes_2 (by decide) (fun c_0 => ?_) (fun c_0 => ?_)
  · refine lv_iconst (v := 1) hx hb dMo_pushes_11 (by decide +kernel) ?_
    refine lv_goto (tgt := 16) hx hb dMo_pushes_12 (by decide) ?_
    exact W.zret (v := 1) (ty := .boolean) hx hb hr rfl (fun t ht hW => ⟨_, rfl, (by (try dsimp only) <;> exact (b2_t (by (try simp only [Int32.lt_iff_toInt_lt, Int32.le_iff_toInt_le, ← Int32.toInt_inj, Int32.reduceToInt] at c_0); (try simp only [Int32.lt_iff_toInt_lt, Int32.le_iff_toInt_le, ← Int32.toInt_inj, Int32.reduceToInt]); omega)).symm), ht⟩) (fun _ h => nomatch h) dMo_pushes_16
  · refine lv_iload_n hx hb dMo_pushes_5 rfl (lv_at hl 0 rfl) ?_
    refine lv_bipush (v := 8) hx hb dMo_pushes_6 (by decide +kernel) ?_
    refine lv_icmp_ne (tgt := 15) hx hb dMo_pushes_8 (by decide) (fun c_1 => ?_) (fun c_1 => ?_)
    · refine lv_iconst (v := 0) hx hb dMo_pushes_15 (by decide +kernel) ?_
      exact W.zret (v := 0) (ty := .boolean) hx hb hr rfl (fun t ht hW => ⟨_, rfl, (by (try dsimp only) <;> exact (b2_f (by (try simp only [Int32.lt_iff_toInt_lt, Int32.le_iff_toInt_le, ← Int32.toInt_inj, Int32.reduceToInt] at c_0); (try simp only [Int32.lt_iff_toInt_lt, Int32.le_iff_toInt_le, ← Int32.toInt_inj, Int32.reduceToInt] at c_1); (try simp only [Int32.lt_iff_toInt_lt, Int32.le_iff_toInt_le, ← Int32.toInt_inj, Int32.reduceToInt]); omega)).symm), ht⟩) (fun _ h => nomatch h) dMo_pushes_16
    · refine lv_iconst (v := 1) hx hb dMo_pushes_11 (by decide +kernel) ?_
      refine lv_goto (tgt := 16) hx hb dMo_pushes_12 (by decide) ?_
      exact W.zret (v := 1) (ty := .boolean) hx hb hr rfl (fun t ht hW => ⟨_, rfl, (by (try dsimp only) <;> exact (b2_t (by (try simp only [Int32.lt_iff_toInt_lt, Int32.le_iff_toInt_le, ← Int32.toInt_inj, Int32.reduceToInt] at c_0); (try simp only [Int32.lt_iff_toInt_lt, Int32.le_iff_toInt_le, ← Int32.toInt_inj, Int32.reduceToInt] at c_1); (try simp only [Int32.lt_iff_toInt_lt, Int32.le_iff_toInt_le, ← Int32.toInt_inj, Int32.reduceToInt]); omega)).symm), ht⟩) (fun _ h => nomatch h) dMo_pushes_16

set_option maxHeartbeats 4000000 in
set_option maxRecDepth 100000 in
theorem cMo_joins (l : Launch) (a : Int32) : Met l yMo_joins (kMo_joins :: CW) ({ frames := 0, cells := 0, slots := 0, locals := 0 }) (va_Pc [.int a] (fun _ => True)) (vp_Si (fun r => r = b2 (jns a))) 0 0 (fun _ => False) := by
  refine Met.ofW (cc := bMo_joins) (maxL := 1) (ret := (some .boolean)) (by decide +kernel) rfl ?_
  intro p e s m args below meth c s₁ B hml hv
  obtain ⟨rfl, -⟩ := hv
  have hx := B.exec
  have hb := B.bytes
  have hr := B.returns
  have hts := atoms_spec (ws := kMo_joins :: CW) B.pre
  have hc : ∀ w ∈ CW, w.before _ s = true := fun w h => hts w (List.mem_cons_of_mem _ h)
  have hown : s.vm.findClass RMo = some m.cls := findClass_of_methodNamed B.named
  have hlocks := B.notSynchronized
  have hl := lv_entry ([.int a]) (n := 1) (Nat.le_of_ble_eq_true rfl)
  rw [lg_entry_eq]
  generalize (lg_sl ([.int a]) ++ List.replicate (1 - (lg_sl ([.int a])).length) Slot.unset).toArray = ls at hl ⊢
  have hl : lv_has ls 1 [(0, .int a)] := hl
  refine lv_iload_n hx hb dMo_joins_0 rfl (lv_at hl 0 rfl) ?_
  refine lv_bipush (v := 6) hx hb dMo_joins_1 (by decide +kernel) ?_
  refine lv_icmp_eq (tgt := 12) hx hb dMo_joins_3 (by decide) (fun c_0 => ?_) (fun c_0 => ?_)
  · refine lv_iconst (v := 1) hx hb dMo_joins_12 (by decide +kernel) ?_
    refine lv_goto (tgt := 17) hx hb dMo_joins_13 (by decide) ?_
    exact W.zret (v := 1) (ty := .boolean) hx hb hr rfl (fun t ht hW => ⟨_, rfl, (by (try dsimp only) <;> exact (b2_t (by (try simp only [jns, Int32.lt_iff_toInt_lt, Int32.le_iff_toInt_le, ← Int32.toInt_inj, Int32.reduceToInt] at c_0); (try simp only [jns, Int32.lt_iff_toInt_lt, Int32.le_iff_toInt_le, ← Int32.toInt_inj, Int32.reduceToInt]); omega)).symm), ht⟩) (fun _ h => nomatch h) dMo_joins_17
  · refine lv_iload_n hx hb dMo_joins_6 rfl (lv_at hl 0 rfl) ?_
    refine lv_bipush (v := 7) hx hb dMo_joins_7 (by decide +kernel) ?_
    refine lv_icmp_ne (tgt := 16) hx hb dMo_joins_9 (by decide) (fun c_1 => ?_) (fun c_1 => ?_)
    · refine lv_iconst (v := 0) hx hb dMo_joins_16 (by decide +kernel) ?_
      exact W.zret (v := 0) (ty := .boolean) hx hb hr rfl (fun t ht hW => ⟨_, rfl, (by (try dsimp only) <;> exact (b2_f (by (try simp only [jns, Int32.lt_iff_toInt_lt, Int32.le_iff_toInt_le, ← Int32.toInt_inj, Int32.reduceToInt] at c_0); (try simp only [jns, Int32.lt_iff_toInt_lt, Int32.le_iff_toInt_le, ← Int32.toInt_inj, Int32.reduceToInt] at c_1); (try simp only [jns, Int32.lt_iff_toInt_lt, Int32.le_iff_toInt_le, ← Int32.toInt_inj, Int32.reduceToInt]); omega)).symm), ht⟩) (fun _ h => nomatch h) dMo_joins_17
    · refine lv_iconst (v := 1) hx hb dMo_joins_12 (by decide +kernel) ?_
      refine lv_goto (tgt := 17) hx hb dMo_joins_13 (by decide) ?_
      exact W.zret (v := 1) (ty := .boolean) hx hb hr rfl (fun t ht hW => ⟨_, rfl, (by (try dsimp only) <;> exact (b2_t (by (try simp only [jns, Int32.lt_iff_toInt_lt, Int32.le_iff_toInt_le, ← Int32.toInt_inj, Int32.reduceToInt] at c_0); (try simp only [jns, Int32.lt_iff_toInt_lt, Int32.le_iff_toInt_le, ← Int32.toInt_inj, Int32.reduceToInt] at c_1); (try simp only [jns, Int32.lt_iff_toInt_lt, Int32.le_iff_toInt_le, ← Int32.toInt_inj, Int32.reduceToInt]); omega)).symm), ht⟩) (fun _ h => nomatch h) dMo_joins_17

set_option maxHeartbeats 4000000 in
set_option maxRecDepth 100000 in
theorem cMo_fits (l : Launch) (dC : Nat → ClassId) (dI : Nat → Nat → Nat) (ad : Nat → Nat) (ca : Nat → ClassId) (sz : Nat) (S E : Ss) (k a : Int32) : Met l yMo_fits (kMo_fits :: CW) ({ frames := 1, cells := 0, slots := 0, locals := 22 }) (va_Pc [.ref (ad 0), .int k, .int a] (gPre (dC, dI) (mT ca) (MW ad ca S E) sz)) (vp_Si (fun r => r = b2 (okO (S 0 0) k a))) 0 0 (fun _ => False) := by
  refine Met.ofW (cc := bMo_fits) (maxL := 3) (ret := (some .boolean)) (by decide +kernel) rfl ?_
  intro p e s m args below meth c s₁ B hml hv
  obtain ⟨rfl, hsz, hP, hK, hD0⟩ := hv
  have hx := B.exec
  have hb := B.bytes
  have hr := B.returns
  have hts := atoms_spec (ws := kMo_fits :: CW) B.pre
  have hc : ∀ w ∈ CW, w.before _ s = true := fun w h => hts w (List.mem_cons_of_mem _ h)
  have hown : s.vm.findClass RMo = some m.cls := findClass_of_methodNamed B.named
  have hlocks := B.notSynchronized
  subst hsz
  have hD := hD0
  have hl := lv_entry ([.ref (ad 0), .int k, .int a]) (n := 3) (Nat.le_of_ble_eq_true rfl)
  rw [lg_entry_eq]
  generalize (lg_sl ([.ref (ad 0), .int k, .int a]) ++ List.replicate (3 - (lg_sl ([.ref (ad 0), .int k, .int a])).length) Slot.unset).toArray = ls at hl ⊢
  have hl : lv_has ls 3 [(0, .ref (ad 0)), (1, .int k), (2, .int a)] := hl
  refine lv_iload_n hx hb dMo_fits_0 rfl (lv_at hl 1 rfl) ?_
  refine lv_iconst (v := 0) hx hb dMo_fits_1 (by decide +kernel) ?_
  refine lv_iconst (v := 5) hx hb dMo_fits_2 (by decide +kernel) ?_
  refine vp_callSi (va_Run.run (va_runS (As := [.int k, .int 0, .int 5]) (rest := []) ⟨hx, hb, hml, hown, hc⟩ (cMo_in l k 0 5) (va_cwS 3 hc (g_S w658 w659 w5 qMo_in) rfl rfl rfl (by decide +kernel) ⟨Nat.le_of_ble_eq_true rfl, Nat.le_of_ble_eq_true rfl⟩) ⟨tPre_blind, tPre_in⟩ rfl rfl hl.1 rfl (lv_room (Nat.le_of_ble_eq_true rfl)) dMo_fits_3 ⟨Nat.zero_le _, Nat.zero_le _⟩)) (fun r_1 hr_1 => ?_)
  refine lv_if_eq (tgt := 17) hx hb dMo_fits_6 (by decide) (fun c_1 => ?_) (fun c_1 => ?_)
  · refine lv_iload_n hx hb dMo_fits_17 rfl (lv_at hl 1 rfl) ?_
    by_cases w_2 : k = 6
    · refine lv_tableIn (tgt := 64) hx hb dMo_fits_18 (by rw [w_2]; decide) (by rw [w_2]; decide) (by rw [w_2]; rfl) (by decide) ?_
      refine lv_iconst (v := 1) hx hb dMo_fits_64 (by decide +kernel) ?_
      exact W.zret (v := 1) (ty := .boolean) hx hb hr rfl (fun t ht hW => ⟨_, rfl, (by (try dsimp only) <;> exact (b2_t (by (try simp only [hr_1, b2_0, b2_n, b2_1] at c_1); (try simp only [okO, wi, Int32.lt_iff_toInt_lt, Int32.le_iff_toInt_le, ← Int32.toInt_inj, Int32.reduceToInt] at c_1); (try simp only [okO, wi, Int32.lt_iff_toInt_lt, Int32.le_iff_toInt_le, ← Int32.toInt_inj, Int32.reduceToInt] at w_2); (try simp only [okO, wi, Int32.lt_iff_toInt_lt, Int32.le_iff_toInt_le, ← Int32.toInt_inj, Int32.reduceToInt]); omega)).symm), ht⟩) (fun _ h => nomatch h) dMo_fits_65
    by_cases w_3 : k = 7
    · refine lv_tableIn (tgt := 64) hx hb dMo_fits_18 (by rw [w_3]; decide) (by rw [w_3]; decide) (by rw [w_3]; rfl) (by decide) ?_
      refine lv_iconst (v := 1) hx hb dMo_fits_64 (by decide +kernel) ?_
      exact W.zret (v := 1) (ty := .boolean) hx hb hr rfl (fun t ht hW => ⟨_, rfl, (by (try dsimp only) <;> exact (b2_t (by (try simp only [hr_1, b2_0, b2_n, b2_1] at c_1); (try simp only [okO, wi, Int32.lt_iff_toInt_lt, Int32.le_iff_toInt_le, ← Int32.toInt_inj, Int32.reduceToInt] at c_1); (try simp only [okO, wi, Int32.lt_iff_toInt_lt, Int32.le_iff_toInt_le, ← Int32.toInt_inj, Int32.reduceToInt] at w_2); (try simp only [okO, wi, Int32.lt_iff_toInt_lt, Int32.le_iff_toInt_le, ← Int32.toInt_inj, Int32.reduceToInt] at w_3); (try simp only [okO, wi, Int32.lt_iff_toInt_lt, Int32.le_iff_toInt_le, ← Int32.toInt_inj, Int32.reduceToInt]); omega)).symm), ht⟩) (fun _ h => nomatch h) dMo_fits_65
    by_cases w_4 : k = 8
    · refine lv_tableIn (tgt := 66) hx hb dMo_fits_18 (by rw [w_4]; decide) (by rw [w_4]; decide) (by rw [w_4]; rfl) (by decide) ?_
      refine lv_iload_n hx hb dMo_fits_66 rfl (lv_at hl 2 rfl) ?_
      refine lv_iconst (v := 0) hx hb dMo_fits_67 (by decide +kernel) ?_
      refine lv_bipush (v := 63) hx hb dMo_fits_68 (by decide +kernel) ?_
      refine vp_callSi (va_Run.run (va_runS (As := [.int a, .int 0, .int 63]) (rest := []) ⟨hx, hb, hml, hown, hc⟩ (cMo_in l a 0 63) (va_cwS 3 hc (g_S w658 w659 w5 qMo_in) rfl rfl rfl (by decide +kernel) ⟨Nat.le_of_ble_eq_true rfl, Nat.le_of_ble_eq_true rfl⟩) ⟨tPre_blind, tPre_in⟩ rfl rfl hl.1 rfl (lv_room (Nat.le_of_ble_eq_true rfl)) dMo_fits_70 ⟨Nat.zero_le _, Nat.zero_le _⟩)) (fun r_6 hr_6 => ?_)
      exact W.zret (v := r_6) (ty := .boolean) hx hb hr (by rw [hr_6]; exact nar_b2 _) (fun t ht hW => ⟨_, rfl, (by (try dsimp only) <;> exact (hr_6.trans (b2_c (by (try simp only [hr_1, hr_6, b2_0, b2_n, b2_1] at c_1); (try simp only [okO, wi, Int32.lt_iff_toInt_lt, Int32.le_iff_toInt_le, ← Int32.toInt_inj, Int32.reduceToInt] at c_1); (try simp only [okO, wi, Int32.lt_iff_toInt_lt, Int32.le_iff_toInt_le, ← Int32.toInt_inj, Int32.reduceToInt] at w_2); (try simp only [okO, wi, Int32.lt_iff_toInt_lt, Int32.le_iff_toInt_le, ← Int32.toInt_inj, Int32.reduceToInt] at w_3); (try simp only [okO, wi, Int32.lt_iff_toInt_lt, Int32.le_iff_toInt_le, ← Int32.toInt_inj, Int32.reduceToInt] at w_4); (try simp only [okO, wi, Int32.lt_iff_toInt_lt, Int32.le_iff_toInt_le, ← Int32.toInt_inj, Int32.reduceToInt]); omega)))), ht⟩) (fun _ h => nomatch h) dMo_fits_73
    by_cases w_6 : k = 9
    · refine lv_tableIn (tgt := 74) hx hb dMo_fits_18 (by rw [w_6]; decide) (by rw [w_6]; decide) (by rw [w_6]; rfl) (by decide) ?_
      refine lv_iload_n hx hb dMo_fits_74 rfl (lv_at hl 2 rfl) ?_
      refine lv_iconst (v := 0) hx hb dMo_fits_75 (by decide +kernel) ?_
      refine lv_aload_n hx hb dMo_fits_76 rfl (lv_at hl 0 rfl) ?_
      refine va_get (D := (dC, dI)) (ci := 4) (v := .int (S 0 0)) (C := RMo) (T := TMo) (N := 29) hx hb hc inMo hown hK hP 0 rfl rfl 14 (by decide) (hc _ w575) (fun _ h9 => h9) rfl dMo_fits_77 ?_
      refine lv_iconst (v := 1) hx hb dMo_fits_80 (by decide +kernel) ?_
      refine lv_isub hx hb dMo_fits_81 ?_
      refine vp_callSi (va_Run.run (va_runS (As := [.int a, .int 0, .int ((S 0 0) - 1)]) (rest := []) ⟨hx, hb, hml, hown, hc⟩ (cMo_in l a 0 ((S 0 0) - 1)) (va_cwS 3 hc (g_S w658 w659 w5 qMo_in) rfl rfl rfl (by decide +kernel) ⟨Nat.le_of_ble_eq_true rfl, Nat.le_of_ble_eq_true rfl⟩) ⟨tPre_blind, tPre_in⟩ rfl rfl hl.1 rfl (lv_room (Nat.le_of_ble_eq_true rfl)) dMo_fits_82 ⟨Nat.zero_le _, Nat.zero_le _⟩)) (fun r_8 hr_8 => ?_)
      exact W.zret (v := r_8) (ty := .boolean) hx hb hr (by rw [hr_8]; exact nar_b2 _) (fun t ht hW => ⟨_, rfl, (by (try dsimp only) <;> exact (hr_8.trans (b2_c (by (try simp only [hr_1, hr_8, b2_0, b2_n, b2_1] at c_1); (try simp only [okO, wi, Int32.lt_iff_toInt_lt, Int32.le_iff_toInt_le, ← Int32.toInt_inj, Int32.reduceToInt] at c_1); (try simp only [okO, wi, Int32.lt_iff_toInt_lt, Int32.le_iff_toInt_le, ← Int32.toInt_inj, Int32.reduceToInt] at w_2); (try simp only [okO, wi, Int32.lt_iff_toInt_lt, Int32.le_iff_toInt_le, ← Int32.toInt_inj, Int32.reduceToInt] at w_3); (try simp only [okO, wi, Int32.lt_iff_toInt_lt, Int32.le_iff_toInt_le, ← Int32.toInt_inj, Int32.reduceToInt] at w_4); (try simp only [okO, wi, Int32.lt_iff_toInt_lt, Int32.le_iff_toInt_le, ← Int32.toInt_inj, Int32.reduceToInt] at w_6); (try simp only [okO, wi, Int32.lt_iff_toInt_lt, Int32.le_iff_toInt_le, ← Int32.toInt_inj, Int32.reduceToInt]); omega)))), ht⟩) (fun _ h => nomatch h) dMo_fits_85
    by_cases w_8 : k = 10
    · refine lv_tableIn (tgt := 86) hx hb dMo_fits_18 (by rw [w_8]; decide) (by rw [w_8]; decide) (by rw [w_8]; rfl) (by decide) ?_
      refine lv_iload_n hx hb dMo_fits_86 rfl (lv_at hl 2 rfl) ?_
      refine lv_bipush (v := 8) hx hb dMo_fits_87 (by decide +kernel) ?_
      refine lv_bipush (v := 31) hx hb dMo_fits_89 (by decide +kernel) ?_
      refine vp_callSi (va_Run.run (va_runS (As := [.int a, .int 8, .int 31]) (rest := []) ⟨hx, hb, hml, hown, hc⟩ (cMo_in l a 8 31) (va_cwS 3 hc (g_S w658 w659 w5 qMo_in) rfl rfl rfl (by decide +kernel) ⟨Nat.le_of_ble_eq_true rfl, Nat.le_of_ble_eq_true rfl⟩) ⟨tPre_blind, tPre_in⟩ rfl rfl hl.1 rfl (lv_room (Nat.le_of_ble_eq_true rfl)) dMo_fits_91 ⟨Nat.zero_le _, Nat.zero_le _⟩)) (fun r_10 hr_10 => ?_)
      exact W.zret (v := r_10) (ty := .boolean) hx hb hr (by rw [hr_10]; exact nar_b2 _) (fun t ht hW => ⟨_, rfl, (by (try dsimp only) <;> exact (hr_10.trans (b2_c (by (try simp only [hr_1, hr_10, b2_0, b2_n, b2_1] at c_1); (try simp only [okO, wi, Int32.lt_iff_toInt_lt, Int32.le_iff_toInt_le, ← Int32.toInt_inj, Int32.reduceToInt] at c_1); (try simp only [okO, wi, Int32.lt_iff_toInt_lt, Int32.le_iff_toInt_le, ← Int32.toInt_inj, Int32.reduceToInt] at w_2); (try simp only [okO, wi, Int32.lt_iff_toInt_lt, Int32.le_iff_toInt_le, ← Int32.toInt_inj, Int32.reduceToInt] at w_3); (try simp only [okO, wi, Int32.lt_iff_toInt_lt, Int32.le_iff_toInt_le, ← Int32.toInt_inj, Int32.reduceToInt] at w_4); (try simp only [okO, wi, Int32.lt_iff_toInt_lt, Int32.le_iff_toInt_le, ← Int32.toInt_inj, Int32.reduceToInt] at w_6); (try simp only [okO, wi, Int32.lt_iff_toInt_lt, Int32.le_iff_toInt_le, ← Int32.toInt_inj, Int32.reduceToInt] at w_8); (try simp only [okO, wi, Int32.lt_iff_toInt_lt, Int32.le_iff_toInt_le, ← Int32.toInt_inj, Int32.reduceToInt]); omega)))), ht⟩) (fun _ h => nomatch h) dMo_fits_94
    by_cases w_10 : k = 11
    · refine lv_tableIn (tgt := 86) hx hb dMo_fits_18 (by rw [w_10]; decide) (by rw [w_10]; decide) (by rw [w_10]; rfl) (by decide) ?_
      refine lv_iload_n hx hb dMo_fits_86 rfl (lv_at hl 2 rfl) ?_
      refine lv_bipush (v := 8) hx hb dMo_fits_87 (by decide +kernel) ?_
      refine lv_bipush (v := 31) hx hb dMo_fits_89 (by decide +kernel) ?_
      refine vp_callSi (va_Run.run (va_runS (As := [.int a, .int 8, .int 31]) (rest := []) ⟨hx, hb, hml, hown, hc⟩ (cMo_in l a 8 31) (va_cwS 3 hc (g_S w658 w659 w5 qMo_in) rfl rfl rfl (by decide +kernel) ⟨Nat.le_of_ble_eq_true rfl, Nat.le_of_ble_eq_true rfl⟩) ⟨tPre_blind, tPre_in⟩ rfl rfl hl.1 rfl (lv_room (Nat.le_of_ble_eq_true rfl)) dMo_fits_91 ⟨Nat.zero_le _, Nat.zero_le _⟩)) (fun r_12 hr_12 => ?_)
      exact W.zret (v := r_12) (ty := .boolean) hx hb hr (by rw [hr_12]; exact nar_b2 _) (fun t ht hW => ⟨_, rfl, (by (try dsimp only) <;> exact (hr_12.trans (b2_c (by (try simp only [hr_1, hr_12, b2_0, b2_n, b2_1] at c_1); (try simp only [okO, wi, Int32.lt_iff_toInt_lt, Int32.le_iff_toInt_le, ← Int32.toInt_inj, Int32.reduceToInt] at c_1); (try simp only [okO, wi, Int32.lt_iff_toInt_lt, Int32.le_iff_toInt_le, ← Int32.toInt_inj, Int32.reduceToInt] at w_2); (try simp only [okO, wi, Int32.lt_iff_toInt_lt, Int32.le_iff_toInt_le, ← Int32.toInt_inj, Int32.reduceToInt] at w_3); (try simp only [okO, wi, Int32.lt_iff_toInt_lt, Int32.le_iff_toInt_le, ← Int32.toInt_inj, Int32.reduceToInt] at w_4); (try simp only [okO, wi, Int32.lt_iff_toInt_lt, Int32.le_iff_toInt_le, ← Int32.toInt_inj, Int32.reduceToInt] at w_6); (try simp only [okO, wi, Int32.lt_iff_toInt_lt, Int32.le_iff_toInt_le, ← Int32.toInt_inj, Int32.reduceToInt] at w_8); (try simp only [okO, wi, Int32.lt_iff_toInt_lt, Int32.le_iff_toInt_le, ← Int32.toInt_inj, Int32.reduceToInt] at w_10); (try simp only [okO, wi, Int32.lt_iff_toInt_lt, Int32.le_iff_toInt_le, ← Int32.toInt_inj, Int32.reduceToInt]); omega)))), ht⟩) (fun _ h => nomatch h) dMo_fits_94
    by_cases w_12 : k = 12
    · refine lv_tableIn (tgt := 86) hx hb dMo_fits_18 (by rw [w_12]; decide) (by rw [w_12]; decide) (by rw [w_12]; rfl) (by decide) ?_
      refine lv_iload_n hx hb dMo_fits_86 rfl (lv_at hl 2 rfl) ?_
      refine lv_bipush (v := 8) hx hb dMo_fits_87 (by decide +kernel) ?_
      refine lv_bipush (v := 31) hx hb dMo_fits_89 (by decide +kernel) ?_
      refine vp_callSi (va_Run.run (va_runS (As := [.int a, .int 8, .int 31]) (rest := []) ⟨hx, hb, hml, hown, hc⟩ (cMo_in l a 8 31) (va_cwS 3 hc (g_S w658 w659 w5 qMo_in) rfl rfl rfl (by decide +kernel) ⟨Nat.le_of_ble_eq_true rfl, Nat.le_of_ble_eq_true rfl⟩) ⟨tPre_blind, tPre_in⟩ rfl rfl hl.1 rfl (lv_room (Nat.le_of_ble_eq_true rfl)) dMo_fits_91 ⟨Nat.zero_le _, Nat.zero_le _⟩)) (fun r_14 hr_14 => ?_)
      exact W.zret (v := r_14) (ty := .boolean) hx hb hr (by rw [hr_14]; exact nar_b2 _) (fun t ht hW => ⟨_, rfl, (by (try dsimp only) <;> exact (hr_14.trans (b2_c (by (try simp only [hr_1, hr_14, b2_0, b2_n, b2_1] at c_1); (try simp only [okO, wi, Int32.lt_iff_toInt_lt, Int32.le_iff_toInt_le, ← Int32.toInt_inj, Int32.reduceToInt] at c_1); (try simp only [okO, wi, Int32.lt_iff_toInt_lt, Int32.le_iff_toInt_le, ← Int32.toInt_inj, Int32.reduceToInt] at w_2); (try simp only [okO, wi, Int32.lt_iff_toInt_lt, Int32.le_iff_toInt_le, ← Int32.toInt_inj, Int32.reduceToInt] at w_3); (try simp only [okO, wi, Int32.lt_iff_toInt_lt, Int32.le_iff_toInt_le, ← Int32.toInt_inj, Int32.reduceToInt] at w_4); (try simp only [okO, wi, Int32.lt_iff_toInt_lt, Int32.le_iff_toInt_le, ← Int32.toInt_inj, Int32.reduceToInt] at w_6); (try simp only [okO, wi, Int32.lt_iff_toInt_lt, Int32.le_iff_toInt_le, ← Int32.toInt_inj, Int32.reduceToInt] at w_8); (try simp only [okO, wi, Int32.lt_iff_toInt_lt, Int32.le_iff_toInt_le, ← Int32.toInt_inj, Int32.reduceToInt] at w_10); (try simp only [okO, wi, Int32.lt_iff_toInt_lt, Int32.le_iff_toInt_le, ← Int32.toInt_inj, Int32.reduceToInt] at w_12); (try simp only [okO, wi, Int32.lt_iff_toInt_lt, Int32.le_iff_toInt_le, ← Int32.toInt_inj, Int32.reduceToInt]); omega)))), ht⟩) (fun _ h => nomatch h) dMo_fits_94
    by_cases w_14 : k = 13
    · refine lv_tableIn (tgt := 95) hx hb dMo_fits_18 (by rw [w_14]; decide) (by rw [w_14]; decide) (by rw [w_14]; rfl) (by decide) ?_
      refine lv_iload_n hx hb dMo_fits_95 rfl (lv_at hl 2 rfl) ?_
      refine lv_iconst (v := 0) hx hb dMo_fits_96 (by decide +kernel) ?_
      refine lv_bipush (v := 11) hx hb dMo_fits_97 (by decide +kernel) ?_
      refine vp_callSi (va_Run.run (va_runS (As := [.int a, .int 0, .int 11]) (rest := []) ⟨hx, hb, hml, hown, hc⟩ (cMo_in l a 0 11) (va_cwS 3 hc (g_S w658 w659 w5 qMo_in) rfl rfl rfl (by decide +kernel) ⟨Nat.le_of_ble_eq_true rfl, Nat.le_of_ble_eq_true rfl⟩) ⟨tPre_blind, tPre_in⟩ rfl rfl hl.1 rfl (lv_room (Nat.le_of_ble_eq_true rfl)) dMo_fits_99 ⟨Nat.zero_le _, Nat.zero_le _⟩)) (fun r_16 hr_16 => ?_)
      exact W.zret (v := r_16) (ty := .boolean) hx hb hr (by rw [hr_16]; exact nar_b2 _) (fun t ht hW => ⟨_, rfl, (by (try dsimp only) <;> exact (hr_16.trans (b2_c (by (try simp only [hr_1, hr_16, b2_0, b2_n, b2_1] at c_1); (try simp only [okO, wi, Int32.lt_iff_toInt_lt, Int32.le_iff_toInt_le, ← Int32.toInt_inj, Int32.reduceToInt] at c_1); (try simp only [okO, wi, Int32.lt_iff_toInt_lt, Int32.le_iff_toInt_le, ← Int32.toInt_inj, Int32.reduceToInt] at w_2); (try simp only [okO, wi, Int32.lt_iff_toInt_lt, Int32.le_iff_toInt_le, ← Int32.toInt_inj, Int32.reduceToInt] at w_3); (try simp only [okO, wi, Int32.lt_iff_toInt_lt, Int32.le_iff_toInt_le, ← Int32.toInt_inj, Int32.reduceToInt] at w_4); (try simp only [okO, wi, Int32.lt_iff_toInt_lt, Int32.le_iff_toInt_le, ← Int32.toInt_inj, Int32.reduceToInt] at w_6); (try simp only [okO, wi, Int32.lt_iff_toInt_lt, Int32.le_iff_toInt_le, ← Int32.toInt_inj, Int32.reduceToInt] at w_8); (try simp only [okO, wi, Int32.lt_iff_toInt_lt, Int32.le_iff_toInt_le, ← Int32.toInt_inj, Int32.reduceToInt] at w_10); (try simp only [okO, wi, Int32.lt_iff_toInt_lt, Int32.le_iff_toInt_le, ← Int32.toInt_inj, Int32.reduceToInt] at w_12); (try simp only [okO, wi, Int32.lt_iff_toInt_lt, Int32.le_iff_toInt_le, ← Int32.toInt_inj, Int32.reduceToInt] at w_14); (try simp only [okO, wi, Int32.lt_iff_toInt_lt, Int32.le_iff_toInt_le, ← Int32.toInt_inj, Int32.reduceToInt]); omega)))), ht⟩) (fun _ h => nomatch h) dMo_fits_102
    have iw_2 : (k : Int32).toInt ≠ 6 := fun z => w_2 (Int32.toInt_inj.mp (by rw [z]; rfl))
    have iw_3 : (k : Int32).toInt ≠ 7 := fun z => w_3 (Int32.toInt_inj.mp (by rw [z]; rfl))
    have iw_4 : (k : Int32).toInt ≠ 8 := fun z => w_4 (Int32.toInt_inj.mp (by rw [z]; rfl))
    have iw_6 : (k : Int32).toInt ≠ 9 := fun z => w_6 (Int32.toInt_inj.mp (by rw [z]; rfl))
    have iw_8 : (k : Int32).toInt ≠ 10 := fun z => w_8 (Int32.toInt_inj.mp (by rw [z]; rfl))
    have iw_10 : (k : Int32).toInt ≠ 11 := fun z => w_10 (Int32.toInt_inj.mp (by rw [z]; rfl))
    have iw_12 : (k : Int32).toInt ≠ 12 := fun z => w_12 (Int32.toInt_inj.mp (by rw [z]; rfl))
    have iw_14 : (k : Int32).toInt ≠ 13 := fun z => w_14 (Int32.toInt_inj.mp (by rw [z]; rfl))
    refine lv_tableOut (tgt := 103) hx hb dMo_fits_18 (by omega) (by decide) ?_
    refine lv_iconst (v := 0) hx hb dMo_fits_103 (by decide +kernel) ?_
    exact W.zret (v := 0) (ty := .boolean) hx hb hr rfl (fun t ht hW => ⟨_, rfl, (by (try dsimp only) <;> exact (b2_f (by (try simp only [hr_1, b2_0, b2_n, b2_1] at c_1); (try simp only [okO, wi, Int32.lt_iff_toInt_lt, Int32.le_iff_toInt_le, ← Int32.toInt_inj, Int32.reduceToInt] at c_1); (try simp only [okO, wi, Int32.lt_iff_toInt_lt, Int32.le_iff_toInt_le, ← Int32.toInt_inj, Int32.reduceToInt] at w_2); (try simp only [okO, wi, Int32.lt_iff_toInt_lt, Int32.le_iff_toInt_le, ← Int32.toInt_inj, Int32.reduceToInt] at w_3); (try simp only [okO, wi, Int32.lt_iff_toInt_lt, Int32.le_iff_toInt_le, ← Int32.toInt_inj, Int32.reduceToInt] at w_4); (try simp only [okO, wi, Int32.lt_iff_toInt_lt, Int32.le_iff_toInt_le, ← Int32.toInt_inj, Int32.reduceToInt] at w_6); (try simp only [okO, wi, Int32.lt_iff_toInt_lt, Int32.le_iff_toInt_le, ← Int32.toInt_inj, Int32.reduceToInt] at w_8); (try simp only [okO, wi, Int32.lt_iff_toInt_lt, Int32.le_iff_toInt_le, ← Int32.toInt_inj, Int32.reduceToInt] at w_10); (try simp only [okO, wi, Int32.lt_iff_toInt_lt, Int32.le_iff_toInt_le, ← Int32.toInt_inj, Int32.reduceToInt] at w_12); (try simp only [okO, wi, Int32.lt_iff_toInt_lt, Int32.le_iff_toInt_le, ← Int32.toInt_inj, Int32.reduceToInt] at w_14); (try simp only [okO, wi, Int32.lt_iff_toInt_lt, Int32.le_iff_toInt_le, ← Int32.toInt_inj, Int32.reduceToInt]); omega)).symm), ht⟩) (fun _ h => nomatch h) dMo_fits_104
  · refine lv_iload_n hx hb dMo_fits_9 rfl (lv_at hl 2 rfl) ?_
    refine lv_iconst (v := 0) hx hb dMo_fits_10 (by decide +kernel) ?_
    refine lv_bipush (v := 31) hx hb dMo_fits_11 (by decide +kernel) ?_
    refine vp_callSi (va_Run.run (va_runS (As := [.int a, .int 0, .int 31]) (rest := []) ⟨hx, hb, hml, hown, hc⟩ (cMo_in l a 0 31) (va_cwS 3 hc (g_S w658 w659 w5 qMo_in) rfl rfl rfl (by decide +kernel) ⟨Nat.le_of_ble_eq_true rfl, Nat.le_of_ble_eq_true rfl⟩) ⟨tPre_blind, tPre_in⟩ rfl rfl hl.1 rfl (lv_room (Nat.le_of_ble_eq_true rfl)) dMo_fits_13 ⟨Nat.zero_le _, Nat.zero_le _⟩)) (fun r_17 hr_17 => ?_)
    exact W.zret (v := r_17) (ty := .boolean) hx hb hr (by rw [hr_17]; exact nar_b2 _) (fun t ht hW => ⟨_, rfl, (by (try dsimp only) <;> exact (hr_17.trans (b2_c (by (try simp only [hr_1, hr_17, b2_0, b2_n, b2_1] at c_1); (try simp only [okO, wi, Int32.lt_iff_toInt_lt, Int32.le_iff_toInt_le, ← Int32.toInt_inj, Int32.reduceToInt] at c_1); (try simp only [okO, wi, Int32.lt_iff_toInt_lt, Int32.le_iff_toInt_le, ← Int32.toInt_inj, Int32.reduceToInt]); omega)))), ht⟩) (fun _ h => nomatch h) dMo_fits_16

set_option maxHeartbeats 4000000 in
set_option maxRecDepth 100000 in
theorem cMo_read (l : Launch) (dC : Nat → ClassId) (dI : Nat → Nat → Nat) (ad : Nat → Nat) (ca : Nat → ClassId) (sz : Nat) (S E : Ss) (k : Nat) (hk : k < 32) (hf : S 2 k = -1 ∨ b01 (S 2 k)) : Met l yMo_read (kMo_read :: CW) ({ frames := 0, cells := 0, slots := 0, locals := 0 }) (va_Pc [.ref (ad 0), .int (nI k)] (gPre (dC, dI) (mT ca) (MW ad ca S E) sz)) (vp_Si (fun r => r = rd S k)) 0 0 (fun _ => False) := by
  refine Met.ofW (cc := bMo_read) (maxL := 2) (ret := (some .int)) (by decide +kernel) rfl ?_
  intro p e s m args below meth c s₁ B hml hv
  obtain ⟨rfl, hsz, hP, hK, hD0⟩ := hv
  have hx := B.exec
  have hb := B.bytes
  have hr := B.returns
  have hts := atoms_spec (ws := kMo_read :: CW) B.pre
  have hc : ∀ w ∈ CW, w.before _ s = true := fun w h => hts w (List.mem_cons_of_mem _ h)
  have hown : s.vm.findClass RMo = some m.cls := findClass_of_methodNamed B.named
  have hlocks := B.notSynchronized
  subst hsz
  have hD := hD0
  have hl := lv_entry ([.ref (ad 0), .int (nI k)]) (n := 2) (Nat.le_of_ble_eq_true rfl)
  rw [lg_entry_eq]
  generalize (lg_sl ([.ref (ad 0), .int (nI k)]) ++ List.replicate (2 - (lg_sl ([.ref (ad 0), .int (nI k)])).length) Slot.unset).toArray = ls at hl ⊢
  have hl : lv_has ls 2 [(0, .ref (ad 0)), (1, .int (nI k))] := hl
  refine lv_aload_n hx hb dMo_read_0 rfl (lv_at hl 0 rfl) ?_
  refine va_get (D := (dC, dI)) (ci := 4) (v := .ref (ad 2)) (C := RMo) (T := TMo) (N := 29) hx hb hc inMo hown hK hP 0 rfl rfl 2 (by decide) (hc _ w563) (fun _ h9 => h9) rfl dMo_read_1 ?_
  refine lv_iload_n hx hb dMo_read_4 rfl (lv_at hl 1 rfl) ?_
  refine va_iald hx hb hK hP 2 1 rfl rfl (vp_in_nI (by omega) (by decide)) dMo_read_5 ?_
  refine lv_topi (fun v_1 ev_1 => ?_)
  rw [nI_clamp (by omega)] at ev_1
  subst v_1
  refine lv_if_ge (tgt := 18) hx hb dMo_read_6 (by decide) (fun c_1 => ?_) (fun c_1 => ?_)
  · refine lv_aload_n hx hb dMo_read_18 rfl (lv_at hl 0 rfl) ?_
    refine va_get (D := (dC, dI)) (ci := 4) (v := .ref (ad 2)) (C := RMo) (T := TMo) (N := 29) hx hb hc inMo hown hK hP 0 rfl rfl 2 (by decide) (hc _ w563) (fun _ h9 => h9) rfl dMo_read_19 ?_
    refine lv_iload_n hx hb dMo_read_22 rfl (lv_at hl 1 rfl) ?_
    refine va_iald hx hb hK hP 2 1 rfl rfl (vp_in_nI (by omega) (by decide)) dMo_read_23 ?_
    refine lv_topi (fun v_3 ev_3 => ?_)
    rw [nI_clamp (by omega)] at ev_3
    subst v_3
    exact W.iret (v := (S 2 k)) hx hb hr (fun t ht hW => ⟨_, rfl, (by (try dsimp only) <;> exact (by unfold rd; rcases hf with h | h | h <;> rw [h] at c_1 <;> first | exact absurd c_1 (by decide) | rw [if_pos h] | rw [if_neg (by rw [h]; decide)])), ht⟩) (fun _ h => nomatch h) dMo_read_24
  · refine lv_aload_n hx hb dMo_read_9 rfl (lv_at hl 0 rfl) ?_
    refine va_get (D := (dC, dI)) (ci := 4) (v := .ref (ad 1)) (C := RMo) (T := TMo) (N := 29) hx hb hc inMo hown hK hP 0 rfl rfl 1 (by decide) (hc _ w562) (fun _ h9 => h9) rfl dMo_read_10 ?_
    refine lv_iload_n hx hb dMo_read_13 rfl (lv_at hl 1 rfl) ?_
    refine va_iald hx hb hK hP 1 0 rfl rfl (vp_in_nI (by omega) (by decide)) dMo_read_14 ?_
    refine lv_topi (fun v_4 ev_4 => ?_)
    rw [nI_clamp (by omega)] at ev_4
    subst v_4
    refine lv_goto (tgt := 24) hx hb dMo_read_15 (by decide) ?_
    exact W.iret (v := (S 1 k)) hx hb hr (fun t ht hW => ⟨_, rfl, (by (try dsimp only) <;> exact (by unfold rd; rcases hf with h | h | h <;> rw [h] at c_1 <;> first | exact absurd c_1 (by decide) | rw [if_pos h] | rw [if_neg (by rw [h]; decide)])), ht⟩) (fun _ h => nomatch h) dMo_read_24

set_option maxHeartbeats 4000000 in
set_option maxRecDepth 100000 in
theorem cMo_thrown (l : Launch) (dC : Nat → ClassId) (dI : Nat → Nat → Nat) (ad : Nat → Nat) (ca : Nat → ClassId) (sz : Nat) (S E : Ss) : Met l yMo_thrown (kMo_thrown :: CW) ({ frames := 0, cells := 0, slots := 0, locals := 0 }) (va_Pc [.ref (ad 0)] (gPre (dC, dI) (mT ca) (MW ad ca S E) sz)) (vp_Si (fun r => r = E 0 0)) 0 0 (fun _ => False) := by
  refine Met.ofW (cc := bMo_thrown) (maxL := 1) (ret := (some .int)) (by decide +kernel) rfl ?_
  intro p e s m args below meth c s₁ B hml hv
  obtain ⟨rfl, hsz, hP, hK, hD0⟩ := hv
  have hx := B.exec
  have hb := B.bytes
  have hr := B.returns
  have hts := atoms_spec (ws := kMo_thrown :: CW) B.pre
  have hc : ∀ w ∈ CW, w.before _ s = true := fun w h => hts w (List.mem_cons_of_mem _ h)
  have hown : s.vm.findClass RMo = some m.cls := findClass_of_methodNamed B.named
  have hlocks := B.notSynchronized
  subst hsz
  have hD := hD0
  have hl := lv_entry ([.ref (ad 0)]) (n := 1) (Nat.le_of_ble_eq_true rfl)
  rw [lg_entry_eq]
  generalize (lg_sl ([.ref (ad 0)]) ++ List.replicate (1 - (lg_sl ([.ref (ad 0)])).length) Slot.unset).toArray = ls at hl ⊢
  have hl : lv_has ls 1 [(0, .ref (ad 0))] := hl
  refine lv_aload_n hx hb dMo_thrown_0 rfl (lv_at hl 0 rfl) ?_
  refine va_get (D := (dC, dI)) (ci := 4) (v := .int (E 0 0)) (C := RMo) (T := TMo) (N := 29) hx hb hc inMo hown hK hP 0 rfl rfl 0 (by decide) (hc _ w561) (fun _ h9 => h9) rfl dMo_thrown_1 ?_
  exact W.iret (v := (E 0 0)) hx hb hr (fun t ht hW => ⟨_, rfl, (by (try dsimp only) <;> exact rfl), ht⟩) (fun _ h => nomatch h) dMo_thrown_4

set_option maxHeartbeats 4000000 in
set_option maxRecDepth 100000 in
theorem cMo_raise (l : Launch) (dC : Nat → ClassId) (dI : Nat → Nat → Nat) (ad : Nat → Nat) (ca : Nat → ClassId) (sz : Nat) (S E : Ss) (a : Int32) : Met l yMo_raise (kMo_raise :: CW) ({ frames := 0, cells := 0, slots := 0, locals := 0 }) (va_Pc [.ref (ad 0), .int a] (gPre (dC, dI) (mT ca) (MW ad ca S E) sz)) (va_Qi (fun (r : Int32) (u : Ss × Ss) => r = 0 ∧ u.1 = S ∧ u.2 = row E 0 (upd (E 0) 0 a)) (fun u => gAt (dC, dI) (mT ca) (va_A (MW ad ca S E) sz) (MW ad ca u.1 u.2)) (va_A (MW ad ca S E) sz)) 0 0 (va_A (MW ad ca S E) sz) := by
  refine Met.ofW (cc := bMo_raise) (maxL := 2) (ret := (some .int)) (by decide +kernel) rfl ?_
  intro p e s m args below meth c s₁ B hml hv
  obtain ⟨rfl, hsz, hP, hK, hD0⟩ := hv
  have hx := B.exec
  have hb := B.bytes
  have hr := B.returns
  have hts := atoms_spec (ws := kMo_raise :: CW) B.pre
  have hc : ∀ w ∈ CW, w.before _ s = true := fun w h => hts w (List.mem_cons_of_mem _ h)
  have hown : s.vm.findClass RMo = some m.cls := findClass_of_methodNamed B.named
  have hlocks := B.notSynchronized
  subst hsz
  have hD := hD0.self (sz := s.heap.size)
  generalize hAe : va_A (MW ad ca S E) s.heap.size = A at hD ⊢
  have hA : ∀ q : Nat, s.heap.size ≤ q → A q := fun q h => by rw [← hAe]; exact Or.inr h
  have hS : va_S A s.heap s.heap [] := va_S.rf
  have hl := lv_entry ([.ref (ad 0), .int a]) (n := 2) (Nat.le_of_ble_eq_true rfl)
  rw [lg_entry_eq]
  generalize (lg_sl ([.ref (ad 0), .int a]) ++ List.replicate (2 - (lg_sl ([.ref (ad 0), .int a])).length) Slot.unset).toArray = ls at hl ⊢
  have hl : lv_has ls 2 [(0, .ref (ad 0)), (1, .int a)] := hl
  refine lv_aload_n hx hb dMo_raise_0 rfl (lv_at hl 0 rfl) ?_
  refine lv_iload_n hx hb dMo_raise_1 rfl (lv_at hl 1 rfl) ?_
  refine va_put (D := (dC, dI)) (ci := 4) (v := .int a) (ty := .int) (C := RMo) (T := TMo) (N := 29) hx hb hc inMo tyMo tyMo_ok nmMo hown hK hP hD hS 0 rfl rfl 0 (by decide) (hc _ w561) (fun _ h9 => h9) rfl (by decide +kernel) rfl rfl (Nat.le_of_ble_eq_true rfl) dMo_raise_2 (fun H locs hP hD hS => ?_)
  obtain ⟨E_1, eE_1⟩ : ∃ z9 : Ss, z9 = row E 0 (upd (E 0) 0 a) := ⟨_, rfl⟩
  have hP : va_P (dC, dI) vwCl (MW ad ca S E_1) H := by rw [eE_1]; exact hP
  have hD : va_D A (MW ad ca S E_1) := by rw [eE_1]; exact hD
  refine lv_iconst (v := 0) hx hb dMo_raise_5 (by decide +kernel) ?_
  exact W.iret (v := 0) hx hb hr (fun t ht hW => ⟨⟨_, (S, E_1), rfl, (by (try dsimp only) <;> exact ⟨rfl, rfl, eE_1⟩), by rw [ht]; exact hP, va_K.moved hW.alike hK, hD⟩, hS.F ht⟩) hS.2.2 dMo_raise_6
