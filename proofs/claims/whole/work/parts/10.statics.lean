set_option maxHeartbeats 4000000 in
set_option maxRecDepth 100000 in
theorem cX_isWithin (l : Launch) (a lo hi : Int32) : Met l yX_isWithin (kX_isWithin :: CW) ({ frames := 0, cells := 0, slots := 0, locals := 0 }) (va_Pc [.int a, .int lo, .int hi] (fun _ => True)) (vp_Si (fun r => r = b2 (wi a lo hi))) 0 0 (fun _ => False) := by
  refine Met.ofW (cc := bX_isWithin) (maxL := 3) (ret := (some .boolean)) (by decide) rfl ?_
  intro p e s m args below meth c s₁ B hml hv
  obtain ⟨rfl, -⟩ := hv
  have hx := B.exec
  have hb := B.bytes
  have hr := B.returns
  have hts := atoms_spec (ws := kX_isWithin :: CW) B.pre
  have hc : ∀ w ∈ CW, w.before _ s = true := fun w h => hts w (List.mem_cons_of_mem _ h)
  have hown : s.vm.findClass RX = some m.cls := findClass_of_methodNamed B.named
  have hlocks := B.notSynchronized
  have hl := lv_entry ([.int a, .int lo, .int hi]) (n := 3) (Nat.le_of_ble_eq_true rfl)
  rw [lg_entry_eq]
  generalize (lg_sl ([.int a, .int lo, .int hi]) ++ List.replicate (3 - (lg_sl ([.int a, .int lo, .int hi])).length) Slot.unset).toArray = ls at hl ⊢
  have hl : lv_has ls 3 [(0, .int a), (1, .int lo), (2, .int hi)] := hl
  refine lv_iload_n hx hb dX_isWithin_0 rfl (lv_at hl 0 rfl) ?_
  refine lv_iload_n hx hb dX_isWithin_1 rfl (lv_at hl 1 rfl) ?_
  refine lv_icmp_lt (tgt := 14) hx hb dX_isWithin_2 (by decide) (fun c_0 => ?_) (fun c_0 => ?_)
  · refine lv_iconst (v := 0) hx hb dX_isWithin_14 (by decide +kernel) ?_
    exact W.zret (v := 0) (ty := .boolean) hx hb hr rfl (fun t ht hW => ⟨_, rfl, (b2_f (by (try simp only [wi, Int32.lt_iff_toInt_lt, Int32.le_iff_toInt_le, ← Int32.toInt_inj, Int32.reduceToInt] at c_0); (try simp only [wi, Int32.lt_iff_toInt_lt, Int32.le_iff_toInt_le, ← Int32.toInt_inj, Int32.reduceToInt]); omega)).symm, ht⟩) (fun _ h => nomatch h) dX_isWithin_15
  · refine lv_iload_n hx hb dX_isWithin_5 rfl (lv_at hl 0 rfl) ?_
    refine lv_iload_n hx hb dX_isWithin_6 rfl (lv_at hl 2 rfl) ?_
    refine lv_icmp_gt (tgt := 14) hx hb dX_isWithin_7 (by decide) (fun c_1 => ?_) (fun c_1 => ?_)
    · refine lv_iconst (v := 0) hx hb dX_isWithin_14 (by decide +kernel) ?_
      exact W.zret (v := 0) (ty := .boolean) hx hb hr rfl (fun t ht hW => ⟨_, rfl, (b2_f (by (try simp only [wi, Int32.lt_iff_toInt_lt, Int32.le_iff_toInt_le, ← Int32.toInt_inj, Int32.reduceToInt] at c_0); (try simp only [wi, Int32.lt_iff_toInt_lt, Int32.le_iff_toInt_le, ← Int32.toInt_inj, Int32.reduceToInt] at c_1); (try simp only [wi, Int32.lt_iff_toInt_lt, Int32.le_iff_toInt_le, ← Int32.toInt_inj, Int32.reduceToInt]); omega)).symm, ht⟩) (fun _ h => nomatch h) dX_isWithin_15
    · refine lv_iconst (v := 1) hx hb dX_isWithin_10 (by decide +kernel) ?_
      refine lv_goto (tgt := 15) hx hb dX_isWithin_11 (by decide) ?_
      exact W.zret (v := 1) (ty := .boolean) hx hb hr rfl (fun t ht hW => ⟨_, rfl, (b2_t (by (try simp only [wi, Int32.lt_iff_toInt_lt, Int32.le_iff_toInt_le, ← Int32.toInt_inj, Int32.reduceToInt] at c_0); (try simp only [wi, Int32.lt_iff_toInt_lt, Int32.le_iff_toInt_le, ← Int32.toInt_inj, Int32.reduceToInt] at c_1); (try simp only [wi, Int32.lt_iff_toInt_lt, Int32.le_iff_toInt_le, ← Int32.toInt_inj, Int32.reduceToInt]); omega)).symm, ht⟩) (fun _ h => nomatch h) dX_isWithin_15

set_option maxHeartbeats 4000000 in
set_option maxRecDepth 100000 in
theorem cX_isBit (l : Launch) (a : Int32) : Met l yX_isBit (kX_isBit :: CW) ({ frames := 1, cells := 0, slots := 0, locals := 22 }) (va_Pc [.int a] (fun _ => True)) (vp_Si (fun r => r = b2 (wi a 0 31))) 0 0 (fun _ => False) := by
  refine Met.ofW (cc := bX_isBit) (maxL := 1) (ret := (some .boolean)) (by decide) rfl ?_
  intro p e s m args below meth c s₁ B hml hv
  obtain ⟨rfl, -⟩ := hv
  have hx := B.exec
  have hb := B.bytes
  have hr := B.returns
  have hts := atoms_spec (ws := kX_isBit :: CW) B.pre
  have hc : ∀ w ∈ CW, w.before _ s = true := fun w h => hts w (List.mem_cons_of_mem _ h)
  have hown : s.vm.findClass RX = some m.cls := findClass_of_methodNamed B.named
  have hlocks := B.notSynchronized
  have hl := lv_entry ([.int a]) (n := 1) (Nat.le_of_ble_eq_true rfl)
  rw [lg_entry_eq]
  generalize (lg_sl ([.int a]) ++ List.replicate (1 - (lg_sl ([.int a])).length) Slot.unset).toArray = ls at hl ⊢
  have hl : lv_has ls 1 [(0, .int a)] := hl
  refine lv_iload_n hx hb dX_isBit_0 rfl (lv_at hl 0 rfl) ?_
  refine lv_iconst (v := 0) hx hb dX_isBit_1 (by decide +kernel) ?_
  refine lv_bipush (v := 31) hx hb dX_isBit_2 (by decide +kernel) ?_
  refine vp_callSi (va_Run.run (va_runS (As := [.int a, .int 0, .int 31]) (rest := []) ⟨hx, hb, hml, hown, hc⟩ (cX_isWithin l a 0 31) (va_cwS 3 hc (g_S w187 w188 w1 qX_isWithin) rfl rfl rfl (by decide +kernel) ⟨Nat.le_of_ble_eq_true rfl, Nat.le_of_ble_eq_true rfl⟩) ⟨tPre_blind, tPre_in⟩ rfl rfl hl.1 rfl (lv_room (Nat.le_of_ble_eq_true rfl)) dX_isBit_4 ⟨Nat.zero_le _, Nat.zero_le _⟩)) (fun r_1 hr_1 => ?_)
  exact W.zret (v := r_1) (ty := .boolean) hx hb hr (by rw [hr_1]; exact nar_b2 _) (fun t ht hW => ⟨_, rfl, hr_1, ht⟩) (fun _ h => nomatch h) dX_isBit_7

set_option maxHeartbeats 4000000 in
set_option maxRecDepth 100000 in
theorem cX_isRegister (l : Launch) (a : Int32) : Met l yX_isRegister (kX_isRegister :: CW) ({ frames := 1, cells := 0, slots := 0, locals := 22 }) (va_Pc [.int a] (fun _ => True)) (vp_Si (fun r => r = b2 (wi a 0 7))) 0 0 (fun _ => False) := by
  refine Met.ofW (cc := bX_isRegister) (maxL := 1) (ret := (some .boolean)) (by decide) rfl ?_
  intro p e s m args below meth c s₁ B hml hv
  obtain ⟨rfl, -⟩ := hv
  have hx := B.exec
  have hb := B.bytes
  have hr := B.returns
  have hts := atoms_spec (ws := kX_isRegister :: CW) B.pre
  have hc : ∀ w ∈ CW, w.before _ s = true := fun w h => hts w (List.mem_cons_of_mem _ h)
  have hown : s.vm.findClass RX = some m.cls := findClass_of_methodNamed B.named
  have hlocks := B.notSynchronized
  have hl := lv_entry ([.int a]) (n := 1) (Nat.le_of_ble_eq_true rfl)
  rw [lg_entry_eq]
  generalize (lg_sl ([.int a]) ++ List.replicate (1 - (lg_sl ([.int a])).length) Slot.unset).toArray = ls at hl ⊢
  have hl : lv_has ls 1 [(0, .int a)] := hl
  refine lv_iload_n hx hb dX_isRegister_0 rfl (lv_at hl 0 rfl) ?_
  refine lv_iconst (v := 0) hx hb dX_isRegister_1 (by decide +kernel) ?_
  refine lv_bipush (v := 7) hx hb dX_isRegister_2 (by decide +kernel) ?_
  refine vp_callSi (va_Run.run (va_runS (As := [.int a, .int 0, .int 7]) (rest := []) ⟨hx, hb, hml, hown, hc⟩ (cX_isWithin l a 0 7) (va_cwS 3 hc (g_S w187 w188 w1 qX_isWithin) rfl rfl rfl (by decide +kernel) ⟨Nat.le_of_ble_eq_true rfl, Nat.le_of_ble_eq_true rfl⟩) ⟨tPre_blind, tPre_in⟩ rfl rfl hl.1 rfl (lv_room (Nat.le_of_ble_eq_true rfl)) dX_isRegister_4 ⟨Nat.zero_le _, Nat.zero_le _⟩)) (fun r_1 hr_1 => ?_)
  exact W.zret (v := r_1) (ty := .boolean) hx hb hr (by rw [hr_1]; exact nar_b2 _) (fun t ht hW => ⟨_, rfl, hr_1, ht⟩) (fun _ h => nomatch h) dX_isRegister_7

set_option maxHeartbeats 4000000 in
set_option maxRecDepth 100000 in
theorem cX_isRung (l : Launch) (a : Int32) : Met l yX_isRung (kX_isRung :: CW) ({ frames := 1, cells := 0, slots := 0, locals := 22 }) (va_Pc [.int a] (fun _ => True)) (vp_Si (fun r => r = b2 (wi a 0 11))) 0 0 (fun _ => False) := by
  refine Met.ofW (cc := bX_isRung) (maxL := 1) (ret := (some .boolean)) (by decide) rfl ?_
  intro p e s m args below meth c s₁ B hml hv
  obtain ⟨rfl, -⟩ := hv
  have hx := B.exec
  have hb := B.bytes
  have hr := B.returns
  have hts := atoms_spec (ws := kX_isRung :: CW) B.pre
  have hc : ∀ w ∈ CW, w.before _ s = true := fun w h => hts w (List.mem_cons_of_mem _ h)
  have hown : s.vm.findClass RX = some m.cls := findClass_of_methodNamed B.named
  have hlocks := B.notSynchronized
  have hl := lv_entry ([.int a]) (n := 1) (Nat.le_of_ble_eq_true rfl)
  rw [lg_entry_eq]
  generalize (lg_sl ([.int a]) ++ List.replicate (1 - (lg_sl ([.int a])).length) Slot.unset).toArray = ls at hl ⊢
  have hl : lv_has ls 1 [(0, .int a)] := hl
  refine lv_iload_n hx hb dX_isRung_0 rfl (lv_at hl 0 rfl) ?_
  refine lv_iconst (v := 0) hx hb dX_isRung_1 (by decide +kernel) ?_
  refine lv_bipush (v := 11) hx hb dX_isRung_2 (by decide +kernel) ?_
  refine vp_callSi (va_Run.run (va_runS (As := [.int a, .int 0, .int 11]) (rest := []) ⟨hx, hb, hml, hown, hc⟩ (cX_isWithin l a 0 11) (va_cwS 3 hc (g_S w187 w188 w1 qX_isWithin) rfl rfl rfl (by decide +kernel) ⟨Nat.le_of_ble_eq_true rfl, Nat.le_of_ble_eq_true rfl⟩) ⟨tPre_blind, tPre_in⟩ rfl rfl hl.1 rfl (lv_room (Nat.le_of_ble_eq_true rfl)) dX_isRung_4 ⟨Nat.zero_le _, Nat.zero_le _⟩)) (fun r_1 hr_1 => ?_)
  exact W.zret (v := r_1) (ty := .boolean) hx hb hr (by rw [hr_1]; exact nar_b2 _) (fun t ht hW => ⟨_, rfl, hr_1, ht⟩) (fun _ h => nomatch h) dX_isRung_7

set_option maxHeartbeats 4000000 in
set_option maxRecDepth 100000 in
theorem cX_isBlock (l : Launch) (k a b : Int32) : Met l yX_isBlock (kX_isBlock :: CW) ({ frames := 2, cells := 0, slots := 0, locals := 42 }) (va_Pc [.int k, .int a, .int b] (fun _ => True)) (vp_Si (fun r => r = b2 (okB k a b))) 0 0 (fun _ => False) := by
  refine Met.ofW (cc := bX_isBlock) (maxL := 3) (ret := (some .boolean)) (by decide) rfl ?_
  intro p e s m args below meth c s₁ B hml hv
  obtain ⟨rfl, -⟩ := hv
  have hx := B.exec
  have hb := B.bytes
  have hr := B.returns
  have hts := atoms_spec (ws := kX_isBlock :: CW) B.pre
  have hc : ∀ w ∈ CW, w.before _ s = true := fun w h => hts w (List.mem_cons_of_mem _ h)
  have hown : s.vm.findClass RX = some m.cls := findClass_of_methodNamed B.named
  have hlocks := B.notSynchronized
  have hl := lv_entry ([.int k, .int a, .int b]) (n := 3) (Nat.le_of_ble_eq_true rfl)
  rw [lg_entry_eq]
  generalize (lg_sl ([.int k, .int a, .int b]) ++ List.replicate (3 - (lg_sl ([.int k, .int a, .int b])).length) Slot.unset).toArray = ls at hl ⊢
  have hl : lv_has ls 3 [(0, .int k), (1, .int a), (2, .int b)] := hl
  refine lv_iload_n hx hb dX_isBlock_0 rfl (lv_at hl 0 rfl) ?_
  by_cases w_0 : k = 0
  · refine lv_tableIn (tgt := 48) hx hb dX_isBlock_1 (by rw [w_0]; decide) (by rw [w_0]; decide) (by rw [w_0]; rfl) (by decide) ?_
    refine lv_iload_n hx hb dX_isBlock_48 rfl (lv_at hl 1 rfl) ?_
    refine lv_iconst (v := 1) hx hb dX_isBlock_49 (by decide +kernel) ?_
    refine lv_bipush (v := 100) hx hb dX_isBlock_50 (by decide +kernel) ?_
    refine vp_callSi (va_Run.run (va_runS (As := [.int a, .int 1, .int 100]) (rest := []) ⟨hx, hb, hml, hown, hc⟩ (cX_isWithin l a 1 100) (va_cwS 3 hc (g_S w187 w188 w1 qX_isWithin) rfl rfl rfl (by decide +kernel) ⟨Nat.le_of_ble_eq_true rfl, Nat.le_of_ble_eq_true rfl⟩) ⟨tPre_blind, tPre_in⟩ rfl rfl hl.1 rfl (lv_room (Nat.le_of_ble_eq_true rfl)) dX_isBlock_52 ⟨Nat.zero_le _, Nat.zero_le _⟩)) (fun r_2 hr_2 => ?_)
    exact W.zret (v := r_2) (ty := .boolean) hx hb hr (by rw [hr_2]; exact nar_b2 _) (fun t ht hW => ⟨_, rfl, (hr_2.trans (b2_c (by (try simp only [okB, wi, Int32.lt_iff_toInt_lt, Int32.le_iff_toInt_le, ← Int32.toInt_inj, Int32.reduceToInt] at w_0); (try simp only [okB, wi, Int32.lt_iff_toInt_lt, Int32.le_iff_toInt_le, ← Int32.toInt_inj, Int32.reduceToInt]); omega))), ht⟩) (fun _ h => nomatch h) dX_isBlock_55
  by_cases w_2 : k = 1
  · refine lv_tableIn (tgt := 48) hx hb dX_isBlock_1 (by rw [w_2]; decide) (by rw [w_2]; decide) (by rw [w_2]; rfl) (by decide) ?_
    refine lv_iload_n hx hb dX_isBlock_48 rfl (lv_at hl 1 rfl) ?_
    refine lv_iconst (v := 1) hx hb dX_isBlock_49 (by decide +kernel) ?_
    refine lv_bipush (v := 100) hx hb dX_isBlock_50 (by decide +kernel) ?_
    refine vp_callSi (va_Run.run (va_runS (As := [.int a, .int 1, .int 100]) (rest := []) ⟨hx, hb, hml, hown, hc⟩ (cX_isWithin l a 1 100) (va_cwS 3 hc (g_S w187 w188 w1 qX_isWithin) rfl rfl rfl (by decide +kernel) ⟨Nat.le_of_ble_eq_true rfl, Nat.le_of_ble_eq_true rfl⟩) ⟨tPre_blind, tPre_in⟩ rfl rfl hl.1 rfl (lv_room (Nat.le_of_ble_eq_true rfl)) dX_isBlock_52 ⟨Nat.zero_le _, Nat.zero_le _⟩)) (fun r_4 hr_4 => ?_)
    exact W.zret (v := r_4) (ty := .boolean) hx hb hr (by rw [hr_4]; exact nar_b2 _) (fun t ht hW => ⟨_, rfl, (hr_4.trans (b2_c (by (try simp only [okB, wi, Int32.lt_iff_toInt_lt, Int32.le_iff_toInt_le, ← Int32.toInt_inj, Int32.reduceToInt] at w_0); (try simp only [okB, wi, Int32.lt_iff_toInt_lt, Int32.le_iff_toInt_le, ← Int32.toInt_inj, Int32.reduceToInt] at w_2); (try simp only [okB, wi, Int32.lt_iff_toInt_lt, Int32.le_iff_toInt_le, ← Int32.toInt_inj, Int32.reduceToInt]); omega))), ht⟩) (fun _ h => nomatch h) dX_isBlock_55
  by_cases w_4 : k = 2
  · refine lv_tableIn (tgt := 56) hx hb dX_isBlock_1 (by rw [w_4]; decide) (by rw [w_4]; decide) (by rw [w_4]; rfl) (by decide) ?_
    refine lv_iload_n hx hb dX_isBlock_56 rfl (lv_at hl 1 rfl) ?_
    refine lv_iconst (v := 1) hx hb dX_isBlock_57 (by decide +kernel) ?_
    refine lv_bipush (v := 100) hx hb dX_isBlock_58 (by decide +kernel) ?_
    refine vp_callSi (va_Run.run (va_runS (As := [.int a, .int 1, .int 100]) (rest := []) ⟨hx, hb, hml, hown, hc⟩ (cX_isWithin l a 1 100) (va_cwS 3 hc (g_S w187 w188 w1 qX_isWithin) rfl rfl rfl (by decide +kernel) ⟨Nat.le_of_ble_eq_true rfl, Nat.le_of_ble_eq_true rfl⟩) ⟨tPre_blind, tPre_in⟩ rfl rfl hl.1 rfl (lv_room (Nat.le_of_ble_eq_true rfl)) dX_isBlock_60 ⟨Nat.zero_le _, Nat.zero_le _⟩)) (fun r_6 hr_6 => ?_)
    refine lv_if_eq (tgt := 77) hx hb dX_isBlock_63 (by decide) (fun c_6 => ?_) (fun c_6 => ?_)
    · refine lv_iconst (v := 0) hx hb dX_isBlock_77 (by decide +kernel) ?_
      exact W.zret (v := 0) (ty := .boolean) hx hb hr rfl (fun t ht hW => ⟨_, rfl, (b2_f (by (try simp only [okB, wi, Int32.lt_iff_toInt_lt, Int32.le_iff_toInt_le, ← Int32.toInt_inj, Int32.reduceToInt] at w_0); (try simp only [okB, wi, Int32.lt_iff_toInt_lt, Int32.le_iff_toInt_le, ← Int32.toInt_inj, Int32.reduceToInt] at w_2); (try simp only [okB, wi, Int32.lt_iff_toInt_lt, Int32.le_iff_toInt_le, ← Int32.toInt_inj, Int32.reduceToInt] at w_4); (try simp only [hr_6, b2_0, b2_n, b2_1] at c_6); (try simp only [okB, wi, Int32.lt_iff_toInt_lt, Int32.le_iff_toInt_le, ← Int32.toInt_inj, Int32.reduceToInt] at c_6); (try simp only [okB, wi, Int32.lt_iff_toInt_lt, Int32.le_iff_toInt_le, ← Int32.toInt_inj, Int32.reduceToInt]); omega)).symm, ht⟩) (fun _ h => nomatch h) dX_isBlock_78
    · refine lv_iload_n hx hb dX_isBlock_66 rfl (lv_at hl 2 rfl) ?_
      refine vp_callSi (va_Run.run (va_runS (As := [.int b]) (rest := []) ⟨hx, hb, hml, hown, hc⟩ (cX_isBit l b) (va_cwS 1 hc (g_S w190 w191 w1 qX_isBit) rfl rfl rfl (by decide +kernel) ⟨Nat.le_of_ble_eq_true rfl, Nat.le_of_ble_eq_true rfl⟩) ⟨tPre_blind, tPre_in⟩ rfl rfl hl.1 rfl (lv_room (Nat.le_of_ble_eq_true rfl)) dX_isBlock_67 ⟨Nat.zero_le _, Nat.zero_le _⟩)) (fun r_8 hr_8 => ?_)
      refine lv_if_eq (tgt := 77) hx hb dX_isBlock_70 (by decide) (fun c_8 => ?_) (fun c_8 => ?_)
      · refine lv_iconst (v := 0) hx hb dX_isBlock_77 (by decide +kernel) ?_
        exact W.zret (v := 0) (ty := .boolean) hx hb hr rfl (fun t ht hW => ⟨_, rfl, (b2_f (by (try simp only [okB, wi, Int32.lt_iff_toInt_lt, Int32.le_iff_toInt_le, ← Int32.toInt_inj, Int32.reduceToInt] at w_0); (try simp only [okB, wi, Int32.lt_iff_toInt_lt, Int32.le_iff_toInt_le, ← Int32.toInt_inj, Int32.reduceToInt] at w_2); (try simp only [okB, wi, Int32.lt_iff_toInt_lt, Int32.le_iff_toInt_le, ← Int32.toInt_inj, Int32.reduceToInt] at w_4); (try simp only [hr_6, hr_8, b2_0, b2_n, b2_1] at c_6); (try simp only [okB, wi, Int32.lt_iff_toInt_lt, Int32.le_iff_toInt_le, ← Int32.toInt_inj, Int32.reduceToInt] at c_6); (try simp only [hr_6, hr_8, b2_0, b2_n, b2_1] at c_8); (try simp only [okB, wi, Int32.lt_iff_toInt_lt, Int32.le_iff_toInt_le, ← Int32.toInt_inj, Int32.reduceToInt] at c_8); (try simp only [okB, wi, Int32.lt_iff_toInt_lt, Int32.le_iff_toInt_le, ← Int32.toInt_inj, Int32.reduceToInt]); omega)).symm, ht⟩) (fun _ h => nomatch h) dX_isBlock_78
      · refine lv_iconst (v := 1) hx hb dX_isBlock_73 (by decide +kernel) ?_
        refine lv_goto (tgt := 78) hx hb dX_isBlock_74 (by decide) ?_
        exact W.zret (v := 1) (ty := .boolean) hx hb hr rfl (fun t ht hW => ⟨_, rfl, (b2_t (by (try simp only [okB, wi, Int32.lt_iff_toInt_lt, Int32.le_iff_toInt_le, ← Int32.toInt_inj, Int32.reduceToInt] at w_0); (try simp only [okB, wi, Int32.lt_iff_toInt_lt, Int32.le_iff_toInt_le, ← Int32.toInt_inj, Int32.reduceToInt] at w_2); (try simp only [okB, wi, Int32.lt_iff_toInt_lt, Int32.le_iff_toInt_le, ← Int32.toInt_inj, Int32.reduceToInt] at w_4); (try simp only [hr_6, hr_8, b2_0, b2_n, b2_1] at c_6); (try simp only [okB, wi, Int32.lt_iff_toInt_lt, Int32.le_iff_toInt_le, ← Int32.toInt_inj, Int32.reduceToInt] at c_6); (try simp only [hr_6, hr_8, b2_0, b2_n, b2_1] at c_8); (try simp only [okB, wi, Int32.lt_iff_toInt_lt, Int32.le_iff_toInt_le, ← Int32.toInt_inj, Int32.reduceToInt] at c_8); (try simp only [okB, wi, Int32.lt_iff_toInt_lt, Int32.le_iff_toInt_le, ← Int32.toInt_inj, Int32.reduceToInt]); omega)).symm, ht⟩) (fun _ h => nomatch h) dX_isBlock_78
  by_cases w_9 : k = 3
  · refine lv_tableIn (tgt := 79) hx hb dX_isBlock_1 (by rw [w_9]; decide) (by rw [w_9]; decide) (by rw [w_9]; rfl) (by decide) ?_
    refine lv_iconst (v := 1) hx hb dX_isBlock_79 (by decide +kernel) ?_
    exact W.zret (v := 1) (ty := .boolean) hx hb hr rfl (fun t ht hW => ⟨_, rfl, (b2_t (by (try simp only [okB, wi, Int32.lt_iff_toInt_lt, Int32.le_iff_toInt_le, ← Int32.toInt_inj, Int32.reduceToInt] at w_0); (try simp only [okB, wi, Int32.lt_iff_toInt_lt, Int32.le_iff_toInt_le, ← Int32.toInt_inj, Int32.reduceToInt] at w_2); (try simp only [okB, wi, Int32.lt_iff_toInt_lt, Int32.le_iff_toInt_le, ← Int32.toInt_inj, Int32.reduceToInt] at w_4); (try simp only [okB, wi, Int32.lt_iff_toInt_lt, Int32.le_iff_toInt_le, ← Int32.toInt_inj, Int32.reduceToInt] at w_9); (try simp only [okB, wi, Int32.lt_iff_toInt_lt, Int32.le_iff_toInt_le, ← Int32.toInt_inj, Int32.reduceToInt]); omega)).symm, ht⟩) (fun _ h => nomatch h) dX_isBlock_80
  by_cases w_10 : k = 4
  · refine lv_tableIn (tgt := 79) hx hb dX_isBlock_1 (by rw [w_10]; decide) (by rw [w_10]; decide) (by rw [w_10]; rfl) (by decide) ?_
    refine lv_iconst (v := 1) hx hb dX_isBlock_79 (by decide +kernel) ?_
    exact W.zret (v := 1) (ty := .boolean) hx hb hr rfl (fun t ht hW => ⟨_, rfl, (b2_t (by (try simp only [okB, wi, Int32.lt_iff_toInt_lt, Int32.le_iff_toInt_le, ← Int32.toInt_inj, Int32.reduceToInt] at w_0); (try simp only [okB, wi, Int32.lt_iff_toInt_lt, Int32.le_iff_toInt_le, ← Int32.toInt_inj, Int32.reduceToInt] at w_2); (try simp only [okB, wi, Int32.lt_iff_toInt_lt, Int32.le_iff_toInt_le, ← Int32.toInt_inj, Int32.reduceToInt] at w_4); (try simp only [okB, wi, Int32.lt_iff_toInt_lt, Int32.le_iff_toInt_le, ← Int32.toInt_inj, Int32.reduceToInt] at w_9); (try simp only [okB, wi, Int32.lt_iff_toInt_lt, Int32.le_iff_toInt_le, ← Int32.toInt_inj, Int32.reduceToInt] at w_10); (try simp only [okB, wi, Int32.lt_iff_toInt_lt, Int32.le_iff_toInt_le, ← Int32.toInt_inj, Int32.reduceToInt]); omega)).symm, ht⟩) (fun _ h => nomatch h) dX_isBlock_80
  by_cases w_11 : k = 5
  · refine lv_tableIn (tgt := 81) hx hb dX_isBlock_1 (by rw [w_11]; decide) (by rw [w_11]; decide) (by rw [w_11]; rfl) (by decide) ?_
    refine lv_iload_n hx hb dX_isBlock_81 rfl (lv_at hl 1 rfl) ?_
    refine vp_callSi (va_Run.run (va_runS (As := [.int a]) (rest := []) ⟨hx, hb, hml, hown, hc⟩ (cX_isRegister l a) (va_cwS 1 hc (g_S w193 w194 w1 qX_isRegister) rfl rfl rfl (by decide +kernel) ⟨Nat.le_of_ble_eq_true rfl, Nat.le_of_ble_eq_true rfl⟩) ⟨tPre_blind, tPre_in⟩ rfl rfl hl.1 rfl (lv_room (Nat.le_of_ble_eq_true rfl)) dX_isBlock_82 ⟨Nat.zero_le _, Nat.zero_le _⟩)) (fun r_13 hr_13 => ?_)
    refine lv_if_eq (tgt := 99) hx hb dX_isBlock_85 (by decide) (fun c_13 => ?_) (fun c_13 => ?_)
    · refine lv_iconst (v := 0) hx hb dX_isBlock_99 (by decide +kernel) ?_
      exact W.zret (v := 0) (ty := .boolean) hx hb hr rfl (fun t ht hW => ⟨_, rfl, (b2_f (by (try simp only [okB, wi, Int32.lt_iff_toInt_lt, Int32.le_iff_toInt_le, ← Int32.toInt_inj, Int32.reduceToInt] at w_0); (try simp only [okB, wi, Int32.lt_iff_toInt_lt, Int32.le_iff_toInt_le, ← Int32.toInt_inj, Int32.reduceToInt] at w_2); (try simp only [okB, wi, Int32.lt_iff_toInt_lt, Int32.le_iff_toInt_le, ← Int32.toInt_inj, Int32.reduceToInt] at w_4); (try simp only [okB, wi, Int32.lt_iff_toInt_lt, Int32.le_iff_toInt_le, ← Int32.toInt_inj, Int32.reduceToInt] at w_9); (try simp only [okB, wi, Int32.lt_iff_toInt_lt, Int32.le_iff_toInt_le, ← Int32.toInt_inj, Int32.reduceToInt] at w_10); (try simp only [okB, wi, Int32.lt_iff_toInt_lt, Int32.le_iff_toInt_le, ← Int32.toInt_inj, Int32.reduceToInt] at w_11); (try simp only [hr_13, b2_0, b2_n, b2_1] at c_13); (try simp only [okB, wi, Int32.lt_iff_toInt_lt, Int32.le_iff_toInt_le, ← Int32.toInt_inj, Int32.reduceToInt] at c_13); (try simp only [okB, wi, Int32.lt_iff_toInt_lt, Int32.le_iff_toInt_le, ← Int32.toInt_inj, Int32.reduceToInt]); omega)).symm, ht⟩) (fun _ h => nomatch h) dX_isBlock_100
    · refine lv_iload_n hx hb dX_isBlock_88 rfl (lv_at hl 2 rfl) ?_
      refine vp_callSi (va_Run.run (va_runS (As := [.int b]) (rest := []) ⟨hx, hb, hml, hown, hc⟩ (cX_isRegister l b) (va_cwS 1 hc (g_S w193 w194 w1 qX_isRegister) rfl rfl rfl (by decide +kernel) ⟨Nat.le_of_ble_eq_true rfl, Nat.le_of_ble_eq_true rfl⟩) ⟨tPre_blind, tPre_in⟩ rfl rfl hl.1 rfl (lv_room (Nat.le_of_ble_eq_true rfl)) dX_isBlock_89 ⟨Nat.zero_le _, Nat.zero_le _⟩)) (fun r_15 hr_15 => ?_)
      refine lv_if_eq (tgt := 99) hx hb dX_isBlock_92 (by decide) (fun c_15 => ?_) (fun c_15 => ?_)
      · refine lv_iconst (v := 0) hx hb dX_isBlock_99 (by decide +kernel) ?_
        exact W.zret (v := 0) (ty := .boolean) hx hb hr rfl (fun t ht hW => ⟨_, rfl, (b2_f (by (try simp only [okB, wi, Int32.lt_iff_toInt_lt, Int32.le_iff_toInt_le, ← Int32.toInt_inj, Int32.reduceToInt] at w_0); (try simp only [okB, wi, Int32.lt_iff_toInt_lt, Int32.le_iff_toInt_le, ← Int32.toInt_inj, Int32.reduceToInt] at w_2); (try simp only [okB, wi, Int32.lt_iff_toInt_lt, Int32.le_iff_toInt_le, ← Int32.toInt_inj, Int32.reduceToInt] at w_4); (try simp only [okB, wi, Int32.lt_iff_toInt_lt, Int32.le_iff_toInt_le, ← Int32.toInt_inj, Int32.reduceToInt] at w_9); (try simp only [okB, wi, Int32.lt_iff_toInt_lt, Int32.le_iff_toInt_le, ← Int32.toInt_inj, Int32.reduceToInt] at w_10); (try simp only [okB, wi, Int32.lt_iff_toInt_lt, Int32.le_iff_toInt_le, ← Int32.toInt_inj, Int32.reduceToInt] at w_11); (try simp only [hr_13, hr_15, b2_0, b2_n, b2_1] at c_13); (try simp only [okB, wi, Int32.lt_iff_toInt_lt, Int32.le_iff_toInt_le, ← Int32.toInt_inj, Int32.reduceToInt] at c_13); (try simp only [hr_13, hr_15, b2_0, b2_n, b2_1] at c_15); (try simp only [okB, wi, Int32.lt_iff_toInt_lt, Int32.le_iff_toInt_le, ← Int32.toInt_inj, Int32.reduceToInt] at c_15); (try simp only [okB, wi, Int32.lt_iff_toInt_lt, Int32.le_iff_toInt_le, ← Int32.toInt_inj, Int32.reduceToInt]); omega)).symm, ht⟩) (fun _ h => nomatch h) dX_isBlock_100
      · refine lv_iconst (v := 1) hx hb dX_isBlock_95 (by decide +kernel) ?_
        refine lv_goto (tgt := 100) hx hb dX_isBlock_96 (by decide) ?_
        exact W.zret (v := 1) (ty := .boolean) hx hb hr rfl (fun t ht hW => ⟨_, rfl, (b2_t (by (try simp only [okB, wi, Int32.lt_iff_toInt_lt, Int32.le_iff_toInt_le, ← Int32.toInt_inj, Int32.reduceToInt] at w_0); (try simp only [okB, wi, Int32.lt_iff_toInt_lt, Int32.le_iff_toInt_le, ← Int32.toInt_inj, Int32.reduceToInt] at w_2); (try simp only [okB, wi, Int32.lt_iff_toInt_lt, Int32.le_iff_toInt_le, ← Int32.toInt_inj, Int32.reduceToInt] at w_4); (try simp only [okB, wi, Int32.lt_iff_toInt_lt, Int32.le_iff_toInt_le, ← Int32.toInt_inj, Int32.reduceToInt] at w_9); (try simp only [okB, wi, Int32.lt_iff_toInt_lt, Int32.le_iff_toInt_le, ← Int32.toInt_inj, Int32.reduceToInt] at w_10); (try simp only [okB, wi, Int32.lt_iff_toInt_lt, Int32.le_iff_toInt_le, ← Int32.toInt_inj, Int32.reduceToInt] at w_11); (try simp only [hr_13, hr_15, b2_0, b2_n, b2_1] at c_13); (try simp only [okB, wi, Int32.lt_iff_toInt_lt, Int32.le_iff_toInt_le, ← Int32.toInt_inj, Int32.reduceToInt] at c_13); (try simp only [hr_13, hr_15, b2_0, b2_n, b2_1] at c_15); (try simp only [okB, wi, Int32.lt_iff_toInt_lt, Int32.le_iff_toInt_le, ← Int32.toInt_inj, Int32.reduceToInt] at c_15); (try simp only [okB, wi, Int32.lt_iff_toInt_lt, Int32.le_iff_toInt_le, ← Int32.toInt_inj, Int32.reduceToInt]); omega)).symm, ht⟩) (fun _ h => nomatch h) dX_isBlock_100
  by_cases w_16 : k = 6
  · refine lv_tableIn (tgt := 81) hx hb dX_isBlock_1 (by rw [w_16]; decide) (by rw [w_16]; decide) (by rw [w_16]; rfl) (by decide) ?_
    refine lv_iload_n hx hb dX_isBlock_81 rfl (lv_at hl 1 rfl) ?_
    refine vp_callSi (va_Run.run (va_runS (As := [.int a]) (rest := []) ⟨hx, hb, hml, hown, hc⟩ (cX_isRegister l a) (va_cwS 1 hc (g_S w193 w194 w1 qX_isRegister) rfl rfl rfl (by decide +kernel) ⟨Nat.le_of_ble_eq_true rfl, Nat.le_of_ble_eq_true rfl⟩) ⟨tPre_blind, tPre_in⟩ rfl rfl hl.1 rfl (lv_room (Nat.le_of_ble_eq_true rfl)) dX_isBlock_82 ⟨Nat.zero_le _, Nat.zero_le _⟩)) (fun r_18 hr_18 => ?_)
    refine lv_if_eq (tgt := 99) hx hb dX_isBlock_85 (by decide) (fun c_18 => ?_) (fun c_18 => ?_)
    · refine lv_iconst (v := 0) hx hb dX_isBlock_99 (by decide +kernel) ?_
      exact W.zret (v := 0) (ty := .boolean) hx hb hr rfl (fun t ht hW => ⟨_, rfl, (b2_f (by (try simp only [okB, wi, Int32.lt_iff_toInt_lt, Int32.le_iff_toInt_le, ← Int32.toInt_inj, Int32.reduceToInt] at w_0); (try simp only [okB, wi, Int32.lt_iff_toInt_lt, Int32.le_iff_toInt_le, ← Int32.toInt_inj, Int32.reduceToInt] at w_2); (try simp only [okB, wi, Int32.lt_iff_toInt_lt, Int32.le_iff_toInt_le, ← Int32.toInt_inj, Int32.reduceToInt] at w_4); (try simp only [okB, wi, Int32.lt_iff_toInt_lt, Int32.le_iff_toInt_le, ← Int32.toInt_inj, Int32.reduceToInt] at w_9); (try simp only [okB, wi, Int32.lt_iff_toInt_lt, Int32.le_iff_toInt_le, ← Int32.toInt_inj, Int32.reduceToInt] at w_10); (try simp only [okB, wi, Int32.lt_iff_toInt_lt, Int32.le_iff_toInt_le, ← Int32.toInt_inj, Int32.reduceToInt] at w_11); (try simp only [okB, wi, Int32.lt_iff_toInt_lt, Int32.le_iff_toInt_le, ← Int32.toInt_inj, Int32.reduceToInt] at w_16); (try simp only [hr_18, b2_0, b2_n, b2_1] at c_18); (try simp only [okB, wi, Int32.lt_iff_toInt_lt, Int32.le_iff_toInt_le, ← Int32.toInt_inj, Int32.reduceToInt] at c_18); (try simp only [okB, wi, Int32.lt_iff_toInt_lt, Int32.le_iff_toInt_le, ← Int32.toInt_inj, Int32.reduceToInt]); omega)).symm, ht⟩) (fun _ h => nomatch h) dX_isBlock_100
    · refine lv_iload_n hx hb dX_isBlock_88 rfl (lv_at hl 2 rfl) ?_
      refine vp_callSi (va_Run.run (va_runS (As := [.int b]) (rest := []) ⟨hx, hb, hml, hown, hc⟩ (cX_isRegister l b) (va_cwS 1 hc (g_S w193 w194 w1 qX_isRegister) rfl rfl rfl (by decide +kernel) ⟨Nat.le_of_ble_eq_true rfl, Nat.le_of_ble_eq_true rfl⟩) ⟨tPre_blind, tPre_in⟩ rfl rfl hl.1 rfl (lv_room (Nat.le_of_ble_eq_true rfl)) dX_isBlock_89 ⟨Nat.zero_le _, Nat.zero_le _⟩)) (fun r_20 hr_20 => ?_)
      refine lv_if_eq (tgt := 99) hx hb dX_isBlock_92 (by decide) (fun c_20 => ?_) (fun c_20 => ?_)
      · refine lv_iconst (v := 0) hx hb dX_isBlock_99 (by decide +kernel) ?_
        exact W.zret (v := 0) (ty := .boolean) hx hb hr rfl (fun t ht hW => ⟨_, rfl, (b2_f (by (try simp only [okB, wi, Int32.lt_iff_toInt_lt, Int32.le_iff_toInt_le, ← Int32.toInt_inj, Int32.reduceToInt] at w_0); (try simp only [okB, wi, Int32.lt_iff_toInt_lt, Int32.le_iff_toInt_le, ← Int32.toInt_inj, Int32.reduceToInt] at w_2); (try simp only [okB, wi, Int32.lt_iff_toInt_lt, Int32.le_iff_toInt_le, ← Int32.toInt_inj, Int32.reduceToInt] at w_4); (try simp only [okB, wi, Int32.lt_iff_toInt_lt, Int32.le_iff_toInt_le, ← Int32.toInt_inj, Int32.reduceToInt] at w_9); (try simp only [okB, wi, Int32.lt_iff_toInt_lt, Int32.le_iff_toInt_le, ← Int32.toInt_inj, Int32.reduceToInt] at w_10); (try simp only [okB, wi, Int32.lt_iff_toInt_lt, Int32.le_iff_toInt_le, ← Int32.toInt_inj, Int32.reduceToInt] at w_11); (try simp only [okB, wi, Int32.lt_iff_toInt_lt, Int32.le_iff_toInt_le, ← Int32.toInt_inj, Int32.reduceToInt] at w_16); (try simp only [hr_18, hr_20, b2_0, b2_n, b2_1] at c_18); (try simp only [okB, wi, Int32.lt_iff_toInt_lt, Int32.le_iff_toInt_le, ← Int32.toInt_inj, Int32.reduceToInt] at c_18); (try simp only [hr_18, hr_20, b2_0, b2_n, b2_1] at c_20); (try simp only [okB, wi, Int32.lt_iff_toInt_lt, Int32.le_iff_toInt_le, ← Int32.toInt_inj, Int32.reduceToInt] at c_20); (try simp only [okB, wi, Int32.lt_iff_toInt_lt, Int32.le_iff_toInt_le, ← Int32.toInt_inj, Int32.reduceToInt]); omega)).symm, ht⟩) (fun _ h => nomatch h) dX_isBlock_100
      · refine lv_iconst (v := 1) hx hb dX_isBlock_95 (by decide +kernel) ?_
        refine lv_goto (tgt := 100) hx hb dX_isBlock_96 (by decide) ?_
        exact W.zret (v := 1) (ty := .boolean) hx hb hr rfl (fun t ht hW => ⟨_, rfl, (b2_t (by (try simp only [okB, wi, Int32.lt_iff_toInt_lt, Int32.le_iff_toInt_le, ← Int32.toInt_inj, Int32.reduceToInt] at w_0); (try simp only [okB, wi, Int32.lt_iff_toInt_lt, Int32.le_iff_toInt_le, ← Int32.toInt_inj, Int32.reduceToInt] at w_2); (try simp only [okB, wi, Int32.lt_iff_toInt_lt, Int32.le_iff_toInt_le, ← Int32.toInt_inj, Int32.reduceToInt] at w_4); (try simp only [okB, wi, Int32.lt_iff_toInt_lt, Int32.le_iff_toInt_le, ← Int32.toInt_inj, Int32.reduceToInt] at w_9); (try simp only [okB, wi, Int32.lt_iff_toInt_lt, Int32.le_iff_toInt_le, ← Int32.toInt_inj, Int32.reduceToInt] at w_10); (try simp only [okB, wi, Int32.lt_iff_toInt_lt, Int32.le_iff_toInt_le, ← Int32.toInt_inj, Int32.reduceToInt] at w_11); (try simp only [okB, wi, Int32.lt_iff_toInt_lt, Int32.le_iff_toInt_le, ← Int32.toInt_inj, Int32.reduceToInt] at w_16); (try simp only [hr_18, hr_20, b2_0, b2_n, b2_1] at c_18); (try simp only [okB, wi, Int32.lt_iff_toInt_lt, Int32.le_iff_toInt_le, ← Int32.toInt_inj, Int32.reduceToInt] at c_18); (try simp only [hr_18, hr_20, b2_0, b2_n, b2_1] at c_20); (try simp only [okB, wi, Int32.lt_iff_toInt_lt, Int32.le_iff_toInt_le, ← Int32.toInt_inj, Int32.reduceToInt] at c_20); (try simp only [okB, wi, Int32.lt_iff_toInt_lt, Int32.le_iff_toInt_le, ← Int32.toInt_inj, Int32.reduceToInt]); omega)).symm, ht⟩) (fun _ h => nomatch h) dX_isBlock_100
  by_cases w_21 : k = 7
  · refine lv_tableIn (tgt := 81) hx hb dX_isBlock_1 (by rw [w_21]; decide) (by rw [w_21]; decide) (by rw [w_21]; rfl) (by decide) ?_
    refine lv_iload_n hx hb dX_isBlock_81 rfl (lv_at hl 1 rfl) ?_
    refine vp_callSi (va_Run.run (va_runS (As := [.int a]) (rest := []) ⟨hx, hb, hml, hown, hc⟩ (cX_isRegister l a) (va_cwS 1 hc (g_S w193 w194 w1 qX_isRegister) rfl rfl rfl (by decide +kernel) ⟨Nat.le_of_ble_eq_true rfl, Nat.le_of_ble_eq_true rfl⟩) ⟨tPre_blind, tPre_in⟩ rfl rfl hl.1 rfl (lv_room (Nat.le_of_ble_eq_true rfl)) dX_isBlock_82 ⟨Nat.zero_le _, Nat.zero_le _⟩)) (fun r_23 hr_23 => ?_)
    refine lv_if_eq (tgt := 99) hx hb dX_isBlock_85 (by decide) (fun c_23 => ?_) (fun c_23 => ?_)
    · refine lv_iconst (v := 0) hx hb dX_isBlock_99 (by decide +kernel) ?_
      exact W.zret (v := 0) (ty := .boolean) hx hb hr rfl (fun t ht hW => ⟨_, rfl, (b2_f (by (try simp only [okB, wi, Int32.lt_iff_toInt_lt, Int32.le_iff_toInt_le, ← Int32.toInt_inj, Int32.reduceToInt] at w_0); (try simp only [okB, wi, Int32.lt_iff_toInt_lt, Int32.le_iff_toInt_le, ← Int32.toInt_inj, Int32.reduceToInt] at w_2); (try simp only [okB, wi, Int32.lt_iff_toInt_lt, Int32.le_iff_toInt_le, ← Int32.toInt_inj, Int32.reduceToInt] at w_4); (try simp only [okB, wi, Int32.lt_iff_toInt_lt, Int32.le_iff_toInt_le, ← Int32.toInt_inj, Int32.reduceToInt] at w_9); (try simp only [okB, wi, Int32.lt_iff_toInt_lt, Int32.le_iff_toInt_le, ← Int32.toInt_inj, Int32.reduceToInt] at w_10); (try simp only [okB, wi, Int32.lt_iff_toInt_lt, Int32.le_iff_toInt_le, ← Int32.toInt_inj, Int32.reduceToInt] at w_11); (try simp only [okB, wi, Int32.lt_iff_toInt_lt, Int32.le_iff_toInt_le, ← Int32.toInt_inj, Int32.reduceToInt] at w_16); (try simp only [okB, wi, Int32.lt_iff_toInt_lt, Int32.le_iff_toInt_le, ← Int32.toInt_inj, Int32.reduceToInt] at w_21); (try simp only [hr_23, b2_0, b2_n, b2_1] at c_23); (try simp only [okB, wi, Int32.lt_iff_toInt_lt, Int32.le_iff_toInt_le, ← Int32.toInt_inj, Int32.reduceToInt] at c_23); (try simp only [okB, wi, Int32.lt_iff_toInt_lt, Int32.le_iff_toInt_le, ← Int32.toInt_inj, Int32.reduceToInt]); omega)).symm, ht⟩) (fun _ h => nomatch h) dX_isBlock_100
    · refine lv_iload_n hx hb dX_isBlock_88 rfl (lv_at hl 2 rfl) ?_
      refine vp_callSi (va_Run.run (va_runS (As := [.int b]) (rest := []) ⟨hx, hb, hml, hown, hc⟩ (cX_isRegister l b) (va_cwS 1 hc (g_S w193 w194 w1 qX_isRegister) rfl rfl rfl (by decide +kernel) ⟨Nat.le_of_ble_eq_true rfl, Nat.le_of_ble_eq_true rfl⟩) ⟨tPre_blind, tPre_in⟩ rfl rfl hl.1 rfl (lv_room (Nat.le_of_ble_eq_true rfl)) dX_isBlock_89 ⟨Nat.zero_le _, Nat.zero_le _⟩)) (fun r_25 hr_25 => ?_)
      refine lv_if_eq (tgt := 99) hx hb dX_isBlock_92 (by decide) (fun c_25 => ?_) (fun c_25 => ?_)
      · refine lv_iconst (v := 0) hx hb dX_isBlock_99 (by decide +kernel) ?_
        exact W.zret (v := 0) (ty := .boolean) hx hb hr rfl (fun t ht hW => ⟨_, rfl, (b2_f (by (try simp only [okB, wi, Int32.lt_iff_toInt_lt, Int32.le_iff_toInt_le, ← Int32.toInt_inj, Int32.reduceToInt] at w_0); (try simp only [okB, wi, Int32.lt_iff_toInt_lt, Int32.le_iff_toInt_le, ← Int32.toInt_inj, Int32.reduceToInt] at w_2); (try simp only [okB, wi, Int32.lt_iff_toInt_lt, Int32.le_iff_toInt_le, ← Int32.toInt_inj, Int32.reduceToInt] at w_4); (try simp only [okB, wi, Int32.lt_iff_toInt_lt, Int32.le_iff_toInt_le, ← Int32.toInt_inj, Int32.reduceToInt] at w_9); (try simp only [okB, wi, Int32.lt_iff_toInt_lt, Int32.le_iff_toInt_le, ← Int32.toInt_inj, Int32.reduceToInt] at w_10); (try simp only [okB, wi, Int32.lt_iff_toInt_lt, Int32.le_iff_toInt_le, ← Int32.toInt_inj, Int32.reduceToInt] at w_11); (try simp only [okB, wi, Int32.lt_iff_toInt_lt, Int32.le_iff_toInt_le, ← Int32.toInt_inj, Int32.reduceToInt] at w_16); (try simp only [okB, wi, Int32.lt_iff_toInt_lt, Int32.le_iff_toInt_le, ← Int32.toInt_inj, Int32.reduceToInt] at w_21); (try simp only [hr_23, hr_25, b2_0, b2_n, b2_1] at c_23); (try simp only [okB, wi, Int32.lt_iff_toInt_lt, Int32.le_iff_toInt_le, ← Int32.toInt_inj, Int32.reduceToInt] at c_23); (try simp only [hr_23, hr_25, b2_0, b2_n, b2_1] at c_25); (try simp only [okB, wi, Int32.lt_iff_toInt_lt, Int32.le_iff_toInt_le, ← Int32.toInt_inj, Int32.reduceToInt] at c_25); (try simp only [okB, wi, Int32.lt_iff_toInt_lt, Int32.le_iff_toInt_le, ← Int32.toInt_inj, Int32.reduceToInt]); omega)).symm, ht⟩) (fun _ h => nomatch h) dX_isBlock_100
      · refine lv_iconst (v := 1) hx hb dX_isBlock_95 (by decide +kernel) ?_
        refine lv_goto (tgt := 100) hx hb dX_isBlock_96 (by decide) ?_
        exact W.zret (v := 1) (ty := .boolean) hx hb hr rfl (fun t ht hW => ⟨_, rfl, (b2_t (by (try simp only [okB, wi, Int32.lt_iff_toInt_lt, Int32.le_iff_toInt_le, ← Int32.toInt_inj, Int32.reduceToInt] at w_0); (try simp only [okB, wi, Int32.lt_iff_toInt_lt, Int32.le_iff_toInt_le, ← Int32.toInt_inj, Int32.reduceToInt] at w_2); (try simp only [okB, wi, Int32.lt_iff_toInt_lt, Int32.le_iff_toInt_le, ← Int32.toInt_inj, Int32.reduceToInt] at w_4); (try simp only [okB, wi, Int32.lt_iff_toInt_lt, Int32.le_iff_toInt_le, ← Int32.toInt_inj, Int32.reduceToInt] at w_9); (try simp only [okB, wi, Int32.lt_iff_toInt_lt, Int32.le_iff_toInt_le, ← Int32.toInt_inj, Int32.reduceToInt] at w_10); (try simp only [okB, wi, Int32.lt_iff_toInt_lt, Int32.le_iff_toInt_le, ← Int32.toInt_inj, Int32.reduceToInt] at w_11); (try simp only [okB, wi, Int32.lt_iff_toInt_lt, Int32.le_iff_toInt_le, ← Int32.toInt_inj, Int32.reduceToInt] at w_16); (try simp only [okB, wi, Int32.lt_iff_toInt_lt, Int32.le_iff_toInt_le, ← Int32.toInt_inj, Int32.reduceToInt] at w_21); (try simp only [hr_23, hr_25, b2_0, b2_n, b2_1] at c_23); (try simp only [okB, wi, Int32.lt_iff_toInt_lt, Int32.le_iff_toInt_le, ← Int32.toInt_inj, Int32.reduceToInt] at c_23); (try simp only [hr_23, hr_25, b2_0, b2_n, b2_1] at c_25); (try simp only [okB, wi, Int32.lt_iff_toInt_lt, Int32.le_iff_toInt_le, ← Int32.toInt_inj, Int32.reduceToInt] at c_25); (try simp only [okB, wi, Int32.lt_iff_toInt_lt, Int32.le_iff_toInt_le, ← Int32.toInt_inj, Int32.reduceToInt]); omega)).symm, ht⟩) (fun _ h => nomatch h) dX_isBlock_100
  have iw_0 : (k : Int32).toInt ≠ 0 := fun z => w_0 (Int32.toInt_inj.mp (by rw [z]; rfl))
  have iw_2 : (k : Int32).toInt ≠ 1 := fun z => w_2 (Int32.toInt_inj.mp (by rw [z]; rfl))
  have iw_4 : (k : Int32).toInt ≠ 2 := fun z => w_4 (Int32.toInt_inj.mp (by rw [z]; rfl))
  have iw_9 : (k : Int32).toInt ≠ 3 := fun z => w_9 (Int32.toInt_inj.mp (by rw [z]; rfl))
  have iw_10 : (k : Int32).toInt ≠ 4 := fun z => w_10 (Int32.toInt_inj.mp (by rw [z]; rfl))
  have iw_11 : (k : Int32).toInt ≠ 5 := fun z => w_11 (Int32.toInt_inj.mp (by rw [z]; rfl))
  have iw_16 : (k : Int32).toInt ≠ 6 := fun z => w_16 (Int32.toInt_inj.mp (by rw [z]; rfl))
  have iw_21 : (k : Int32).toInt ≠ 7 := fun z => w_21 (Int32.toInt_inj.mp (by rw [z]; rfl))
  refine lv_tableOut (tgt := 101) hx hb dX_isBlock_1 (by omega) (by decide) ?_
  refine lv_iconst (v := 0) hx hb dX_isBlock_101 (by decide +kernel) ?_
  exact W.zret (v := 0) (ty := .boolean) hx hb hr rfl (fun t ht hW => ⟨_, rfl, (b2_f (by (try simp only [okB, wi, Int32.lt_iff_toInt_lt, Int32.le_iff_toInt_le, ← Int32.toInt_inj, Int32.reduceToInt] at w_0); (try simp only [okB, wi, Int32.lt_iff_toInt_lt, Int32.le_iff_toInt_le, ← Int32.toInt_inj, Int32.reduceToInt] at w_2); (try simp only [okB, wi, Int32.lt_iff_toInt_lt, Int32.le_iff_toInt_le, ← Int32.toInt_inj, Int32.reduceToInt] at w_4); (try simp only [okB, wi, Int32.lt_iff_toInt_lt, Int32.le_iff_toInt_le, ← Int32.toInt_inj, Int32.reduceToInt] at w_9); (try simp only [okB, wi, Int32.lt_iff_toInt_lt, Int32.le_iff_toInt_le, ← Int32.toInt_inj, Int32.reduceToInt] at w_10); (try simp only [okB, wi, Int32.lt_iff_toInt_lt, Int32.le_iff_toInt_le, ← Int32.toInt_inj, Int32.reduceToInt] at w_11); (try simp only [okB, wi, Int32.lt_iff_toInt_lt, Int32.le_iff_toInt_le, ← Int32.toInt_inj, Int32.reduceToInt] at w_16); (try simp only [okB, wi, Int32.lt_iff_toInt_lt, Int32.le_iff_toInt_le, ← Int32.toInt_inj, Int32.reduceToInt] at w_21); (try simp only [okB, wi, Int32.lt_iff_toInt_lt, Int32.le_iff_toInt_le, ← Int32.toInt_inj, Int32.reduceToInt]); omega)).symm, ht⟩) (fun _ h => nomatch h) dX_isBlock_102

set_option maxHeartbeats 4000000 in
set_option maxRecDepth 100000 in
theorem cX_isInRange (l : Launch) (k : Int32) : Met l yX_isInRange (kX_isInRange :: CW) ({ frames := 0, cells := 0, slots := 0, locals := 0 }) (va_Pc [.double (eD k)] (fun _ => True)) (vp_Si (fun r => r = b2 (wi k (-65536) 65536))) 0 0 (fun _ => False) := by
  refine Met.ofW (cc := bX_isInRange) (maxL := 2) (ret := (some .boolean)) (by decide) rfl ?_
  intro p e s m args below meth c s₁ B hml hv
  obtain ⟨rfl, -⟩ := hv
  have hx := B.exec
  have hb := B.bytes
  have hr := B.returns
  have hts := atoms_spec (ws := kX_isInRange :: CW) B.pre
  have hc : ∀ w ∈ CW, w.before _ s = true := fun w h => hts w (List.mem_cons_of_mem _ h)
  have hown : s.vm.findClass RX = some m.cls := findClass_of_methodNamed B.named
  have hlocks := B.notSynchronized
  have hl := lv_entry ([.double (eD k)]) (n := 2) (Nat.le_of_ble_eq_true rfl)
  rw [lg_entry_eq]
  generalize (lg_sl ([.double (eD k)]) ++ List.replicate (2 - (lg_sl ([.double (eD k)])).length) Slot.unset).toArray = ls at hl ⊢
  have hl : lv_has ls 2 [(0, .double (eD k))] := hl
  refine lv_dload_n hx hb dX_isInRange_0 rfl (lv_at hl 0 rfl) ?_
  refine lv_ldc2d (v := 13889101250810609664) hx hb hown (hc _ w329) dX_isInRange_1 ?_
  refine lv_dcmp hx hb dX_isInRange_4 ?_
  refine lv_topi (fun v_1 ev_1 => ?_)
  rw [e8_lo, e8_cmp] at ev_1
  have fv_1 := e8_c (a := k.toInt) (b := (-65536 : Int32).toInt) (.l : CmpOp)
  rw [← ev_1] at fv_1
  refine lv_if_lt (tgt := 20) hx hb dX_isInRange_5 (by decide) (fun c_1 => ?_) (fun c_1 => ?_)
  · rw [fv_1.1] at c_1
    refine lv_iconst (v := 0) hx hb dX_isInRange_20 (by decide +kernel) ?_
    exact W.zret (v := 0) (ty := .boolean) hx hb hr rfl (fun t ht hW => ⟨_, rfl, (b2_f (by (try simp only [wi, Int32.lt_iff_toInt_lt, Int32.le_iff_toInt_le, ← Int32.toInt_inj, Int32.reduceToInt] at c_1); (try simp only [wi, Int32.lt_iff_toInt_lt, Int32.le_iff_toInt_le, ← Int32.toInt_inj, Int32.reduceToInt]); omega)).symm, ht⟩) (fun _ h => nomatch h) dX_isInRange_21
  · rw [fv_1.1] at c_1
    refine lv_dload_n hx hb dX_isInRange_8 rfl (lv_at hl 0 rfl) ?_
    refine lv_ldc2d (v := 4665729213955833856) hx hb hown (hc _ w330) dX_isInRange_9 ?_
    refine lv_dcmp hx hb dX_isInRange_12 ?_
    refine lv_topi (fun v_3 ev_3 => ?_)
    rw [e8_hi, e8_cmp] at ev_3
    have fv_3 := e8_c (a := k.toInt) (b := (65536 : Int32).toInt) (.g : CmpOp)
    rw [← ev_3] at fv_3
    refine lv_if_gt (tgt := 20) hx hb dX_isInRange_13 (by decide) (fun c_3 => ?_) (fun c_3 => ?_)
    · rw [fv_3.2.2.1] at c_3
      refine lv_iconst (v := 0) hx hb dX_isInRange_20 (by decide +kernel) ?_
      exact W.zret (v := 0) (ty := .boolean) hx hb hr rfl (fun t ht hW => ⟨_, rfl, (b2_f (by (try simp only [wi, Int32.lt_iff_toInt_lt, Int32.le_iff_toInt_le, ← Int32.toInt_inj, Int32.reduceToInt] at c_1); (try simp only [wi, Int32.lt_iff_toInt_lt, Int32.le_iff_toInt_le, ← Int32.toInt_inj, Int32.reduceToInt] at c_3); (try simp only [wi, Int32.lt_iff_toInt_lt, Int32.le_iff_toInt_le, ← Int32.toInt_inj, Int32.reduceToInt]); omega)).symm, ht⟩) (fun _ h => nomatch h) dX_isInRange_21
    · rw [fv_3.2.2.1] at c_3
      refine lv_iconst (v := 1) hx hb dX_isInRange_16 (by decide +kernel) ?_
      refine lv_goto (tgt := 21) hx hb dX_isInRange_17 (by decide) ?_
      exact W.zret (v := 1) (ty := .boolean) hx hb hr rfl (fun t ht hW => ⟨_, rfl, (b2_t (by (try simp only [wi, Int32.lt_iff_toInt_lt, Int32.le_iff_toInt_le, ← Int32.toInt_inj, Int32.reduceToInt] at c_1); (try simp only [wi, Int32.lt_iff_toInt_lt, Int32.le_iff_toInt_le, ← Int32.toInt_inj, Int32.reduceToInt] at c_3); (try simp only [wi, Int32.lt_iff_toInt_lt, Int32.le_iff_toInt_le, ← Int32.toInt_inj, Int32.reduceToInt]); omega)).symm, ht⟩) (fun _ h => nomatch h) dX_isInRange_21

set_option maxHeartbeats 4000000 in
set_option maxRecDepth 100000 in
theorem cX_eighthsAtMost (l : Launch) (k : Int32) : Met l yX_eighthsAtMost (kX_eighthsAtMost :: CW) ({ frames := 0, cells := 0, slots := 0, locals := 0 }) (va_Pc [.double (eD k)] (fun _ => True)) (vp_Si (fun r => r = k)) 0 0 (fun _ => False) := by
  refine Met.ofW (cc := bX_eighthsAtMost) (maxL := 5) (ret := (some .int)) (by decide) rfl ?_
  intro p e s m args below meth c s₁ B hml hv
  obtain ⟨rfl, -⟩ := hv
  have hx := B.exec
  have hb := B.bytes
  have hr := B.returns
  have hts := atoms_spec (ws := kX_eighthsAtMost :: CW) B.pre
  have hc : ∀ w ∈ CW, w.before _ s = true := fun w h => hts w (List.mem_cons_of_mem _ h)
  have hown : s.vm.findClass RX = some m.cls := findClass_of_methodNamed B.named
  have hlocks := B.notSynchronized
  have hl := lv_entry ([.double (eD k)]) (n := 5) (Nat.le_of_ble_eq_true rfl)
  rw [lg_entry_eq]
  generalize (lg_sl ([.double (eD k)]) ++ List.replicate (5 - (lg_sl ([.double (eD k)])).length) Slot.unset).toArray = ls at hl ⊢
  have hl : lv_has ls 5 [(0, .double (eD k))] := hl
  refine lv_dload_n hx hb dX_eighthsAtMost_0 rfl (lv_at hl 0 rfl) ?_
  refine lv_ldc2d (v := 4620693217682128896) hx hb hown (hc _ w334) dX_eighthsAtMost_1 ?_
  refine lv_dmul hx hb dX_eighthsAtMost_4 (by rw [e8_mul8]; exact e8_i2d_n k) ?_
  refine lv_topd (fun v_1 ev_1 => ?_)
  rw [e8_mul8] at ev_1
  subst v_1
  refine lv_dstore_n (lv' := [(2, .double (FP.i2d k)), (0, .double (eD k))]) hx hb dX_eighthsAtMost_5 rfl hl (by decide) rfl (fun ls hl => ?_)
  refine lv_dload_n hx hb dX_eighthsAtMost_6 rfl (lv_at hl 0 rfl) ?_
  refine lv_d2i hx hb dX_eighthsAtMost_7 ?_
  refine lv_topi (fun v_2 ev_2 => ?_)
  rw [e8_d2i] at ev_2
  subst v_2
  refine lv_istore (lv' := [(4, .int k), (2, .double (FP.i2d k)), (0, .double (eD k))]) hx hb dX_eighthsAtMost_8 hl (by decide) rfl (fun ls hl => ?_)
  refine lv_iload hx hb dX_eighthsAtMost_10 (lv_at hl 0 rfl) ?_
  refine lv_i2d hx hb dX_eighthsAtMost_12 ?_
  refine lv_dload_n hx hb dX_eighthsAtMost_13 rfl (lv_at hl 1 rfl) ?_
  refine lv_dcmp hx hb dX_eighthsAtMost_14 ?_
  refine lv_topi (fun v_3 ev_3 => ?_)
  rw [e8_cmpI] at ev_3
  have fv_3 := e8_c (a := k.toInt) (b := k.toInt) (.l : CmpOp)
  rw [← ev_3] at fv_3
  refine lv_if_le (tgt := 25) hx hb dX_eighthsAtMost_15 (by decide) (fun c_3 => ?_) (fun c_3 => ?_)
  · refine lv_iload hx hb dX_eighthsAtMost_25 (lv_at hl 0 rfl) ?_
    exact W.iret (v := k) hx hb hr (fun t ht hW => ⟨_, rfl, rfl, ht⟩) (fun _ h => nomatch h) dX_eighthsAtMost_27
  · exact absurd (fv_3.2.2.2.1.mpr (Int.le_refl _)) c_3

set_option maxHeartbeats 4000000 in
set_option maxRecDepth 100000 in
theorem cX_numberOf (l : Launch) (k : Int32) : Met l yX_numberOf (kX_numberOf :: CW) ({ frames := 0, cells := 0, slots := 0, locals := 0 }) (va_Pc [.int k] (fun _ => True)) (vp_Sd (fun r => r = eD k)) 0 0 (fun _ => False) := by
  refine Met.ofW (cc := bX_numberOf) (maxL := 1) (ret := (some .double)) (by decide) rfl ?_
  intro p e s m args below meth c s₁ B hml hv
  obtain ⟨rfl, -⟩ := hv
  have hx := B.exec
  have hb := B.bytes
  have hr := B.returns
  have hts := atoms_spec (ws := kX_numberOf :: CW) B.pre
  have hc : ∀ w ∈ CW, w.before _ s = true := fun w h => hts w (List.mem_cons_of_mem _ h)
  have hown : s.vm.findClass RX = some m.cls := findClass_of_methodNamed B.named
  have hlocks := B.notSynchronized
  have hl := lv_entry ([.int k]) (n := 1) (Nat.le_of_ble_eq_true rfl)
  rw [lg_entry_eq]
  generalize (lg_sl ([.int k]) ++ List.replicate (1 - (lg_sl ([.int k])).length) Slot.unset).toArray = ls at hl ⊢
  have hl : lv_has ls 1 [(0, .int k)] := hl
  refine lv_iload_n hx hb dX_numberOf_0 rfl (lv_at hl 0 rfl) ?_
  refine lv_i2d hx hb dX_numberOf_1 ?_
  refine lv_ldc2d (v := 4620693217682128896) hx hb hown (hc _ w334) dX_numberOf_2 ?_
  refine lv_ddiv hx hb dX_numberOf_5 (by rw [e8_div8]; exact e8_n (e8_eD k)) ?_
  exact W.dret (v := (FP.ddiv (FP.i2d k) 4620693217682128896)) hx hb hr (fun t ht hW => ⟨_, rfl, e8_div8 k, ht⟩) (fun _ h => nomatch h) dX_numberOf_6

set_option maxHeartbeats 4000000 in
set_option maxRecDepth 100000 in
theorem cX_isWholeEighths (l : Launch) (k : Int32) : Met l yX_isWholeEighths (kX_isWholeEighths :: CW) ({ frames := 1, cells := 0, slots := 0, locals := 24 }) (va_Pc [.double (eD k)] (fun _ => True)) (vp_Si (fun r => r = b2 (wi k (-65536) 65536))) 0 0 (fun _ => False) := by
  refine Met.ofW (cc := bX_isWholeEighths) (maxL := 2) (ret := (some .boolean)) (by decide) rfl ?_
  intro p e s m args below meth c s₁ B hml hv
  obtain ⟨rfl, -⟩ := hv
  have hx := B.exec
  have hb := B.bytes
  have hr := B.returns
  have hts := atoms_spec (ws := kX_isWholeEighths :: CW) B.pre
  have hc : ∀ w ∈ CW, w.before _ s = true := fun w h => hts w (List.mem_cons_of_mem _ h)
  have hown : s.vm.findClass RX = some m.cls := findClass_of_methodNamed B.named
  have hlocks := B.notSynchronized
  have hl := lv_entry ([.double (eD k)]) (n := 2) (Nat.le_of_ble_eq_true rfl)
  rw [lg_entry_eq]
  generalize (lg_sl ([.double (eD k)]) ++ List.replicate (2 - (lg_sl ([.double (eD k)])).length) Slot.unset).toArray = ls at hl ⊢
  have hl : lv_has ls 2 [(0, .double (eD k))] := hl
  refine lv_dload_n hx hb dX_isWholeEighths_0 rfl (lv_at hl 0 rfl) ?_
  refine vp_callSi (va_Run.run (va_runS (As := [.double (eD k)]) (rest := []) ⟨hx, hb, hml, hown, hc⟩ (cX_isInRange l k) (va_cwS 1 hc (g_S w326 w327 w1 qX_isInRange) rfl rfl rfl (by decide +kernel) ⟨Nat.le_of_ble_eq_true rfl, Nat.le_of_ble_eq_true rfl⟩) ⟨tPre_blind, tPre_in⟩ rfl rfl hl.1 rfl (lv_room (Nat.le_of_ble_eq_true rfl)) dX_isWholeEighths_1 ⟨Nat.zero_le _, Nat.zero_le _⟩)) (fun r_1 hr_1 => ?_)
  refine lv_if_eq (tgt := 23) hx hb dX_isWholeEighths_4 (by decide) (fun c_1 => ?_) (fun c_1 => ?_)
  · refine lv_iconst (v := 0) hx hb dX_isWholeEighths_23 (by decide +kernel) ?_
    exact W.zret (v := 0) (ty := .boolean) hx hb hr rfl (fun t ht hW => ⟨_, rfl, (b2_f (by (try simp only [hr_1, b2_0, b2_n, b2_1] at c_1); (try simp only [wi, Int32.lt_iff_toInt_lt, Int32.le_iff_toInt_le, ← Int32.toInt_inj, Int32.reduceToInt] at c_1); (try simp only [wi, Int32.lt_iff_toInt_lt, Int32.le_iff_toInt_le, ← Int32.toInt_inj, Int32.reduceToInt]); omega)).symm, ht⟩) (fun _ h => nomatch h) dX_isWholeEighths_24
  · refine lv_dload_n hx hb dX_isWholeEighths_7 rfl (lv_at hl 0 rfl) ?_
    refine vp_callSi (va_Run.run (va_runS (As := [.double (eD k)]) (rest := []) ⟨hx, hb, hml, hown, hc⟩ (cX_eighthsAtMost l k) (va_cwS 1 hc (g_S w331 w332 w1 qX_eighthsAtMost) rfl rfl rfl (by decide +kernel) ⟨Nat.le_of_ble_eq_true rfl, Nat.le_of_ble_eq_true rfl⟩) ⟨tPre_blind, tPre_in⟩ rfl rfl hl.1 rfl (lv_room (Nat.le_of_ble_eq_true rfl)) dX_isWholeEighths_8 ⟨Nat.zero_le _, Nat.zero_le _⟩)) (fun r_3 hr_3 => ?_)
    subst r_3
    refine vp_callSd (va_Run.run (va_runS (As := [.int k]) (rest := []) ⟨hx, hb, hml, hown, hc⟩ (cX_numberOf l k) (va_cwS 1 hc (g_S w335 w336 w1 qX_numberOf) rfl rfl rfl (by decide +kernel) ⟨Nat.le_of_ble_eq_true rfl, Nat.le_of_ble_eq_true rfl⟩) ⟨tPre_blind, tPre_in⟩ rfl rfl hl.1 rfl (lv_room (Nat.le_of_ble_eq_true rfl)) dX_isWholeEighths_11 ⟨Nat.zero_le _, Nat.zero_le _⟩)) (fun r_4 hr_4 => ?_)
    subst r_4
    refine lv_dload_n hx hb dX_isWholeEighths_14 rfl (lv_at hl 0 rfl) ?_
    refine lv_dcmp hx hb dX_isWholeEighths_15 ?_
    refine lv_topi (fun v_5 ev_5 => ?_)
    rw [e8_cmp] at ev_5
    have fv_5 := e8_c (a := k.toInt) (b := k.toInt) (.l : CmpOp)
    rw [← ev_5] at fv_5
    refine lv_if_ne (tgt := 23) hx hb dX_isWholeEighths_16 (by decide) (fun c_5 => ?_) (fun c_5 => ?_)
    · exact absurd (fv_5.2.1.mpr rfl) c_5
    · refine lv_iconst (v := 1) hx hb dX_isWholeEighths_19 (by decide +kernel) ?_
      refine lv_goto (tgt := 24) hx hb dX_isWholeEighths_20 (by decide) ?_
      exact W.zret (v := 1) (ty := .boolean) hx hb hr rfl (fun t ht hW => ⟨_, rfl, (b2_t (by (try simp only [hr_1, b2_0, b2_n, b2_1] at c_1); (try simp only [wi, Int32.lt_iff_toInt_lt, Int32.le_iff_toInt_le, ← Int32.toInt_inj, Int32.reduceToInt] at c_1); (try simp only [wi, Int32.lt_iff_toInt_lt, Int32.le_iff_toInt_le, ← Int32.toInt_inj, Int32.reduceToInt]); omega)).symm, ht⟩) (fun _ h => nomatch h) dX_isWholeEighths_24

set_option maxHeartbeats 4000000 in
set_option maxRecDepth 100000 in
theorem cX_withPushed (l : Launch) (a b : Int32) : Met l yX_withPushed (kX_withPushed :: CW) ({ frames := 0, cells := 0, slots := 0, locals := 0 }) (va_Pc [.int a, .int b] (fun _ => True)) (vp_Si (fun r => r = (a <<< ((1 : Int32) &&& 31)) ||| b)) 0 0 (fun _ => False) := by
  refine Met.ofW (cc := bX_withPushed) (maxL := 2) (ret := (some .int)) (by decide) rfl ?_
  intro p e s m args below meth c s₁ B hml hv
  obtain ⟨rfl, -⟩ := hv
  have hx := B.exec
  have hb := B.bytes
  have hr := B.returns
  have hts := atoms_spec (ws := kX_withPushed :: CW) B.pre
  have hc : ∀ w ∈ CW, w.before _ s = true := fun w h => hts w (List.mem_cons_of_mem _ h)
  have hown : s.vm.findClass RX = some m.cls := findClass_of_methodNamed B.named
  have hlocks := B.notSynchronized
  have hl := lv_entry ([.int a, .int b]) (n := 2) (Nat.le_of_ble_eq_true rfl)
  rw [lg_entry_eq]
  generalize (lg_sl ([.int a, .int b]) ++ List.replicate (2 - (lg_sl ([.int a, .int b])).length) Slot.unset).toArray = ls at hl ⊢
  have hl : lv_has ls 2 [(0, .int a), (1, .int b)] := hl
  refine lv_iload_n hx hb dX_withPushed_0 rfl (lv_at hl 0 rfl) ?_
  refine lv_iconst (v := 1) hx hb dX_withPushed_1 (by decide +kernel) ?_
  refine lv_ishl hx hb dX_withPushed_2 ?_
  refine lv_iload_n hx hb dX_withPushed_3 rfl (lv_at hl 1 rfl) ?_
  refine lv_ior hx hb dX_withPushed_4 ?_
  exact W.iret (v := ((a <<< (1 &&& 31)) ||| b)) hx hb hr (fun t ht hW => ⟨_, rfl, rfl, ht⟩) (fun _ h => nomatch h) dX_withPushed_5

set_option maxHeartbeats 4000000 in
set_option maxRecDepth 100000 in
theorem cX_withTop (l : Launch) (a b : Int32) : Met l yX_withTop (kX_withTop :: CW) ({ frames := 0, cells := 0, slots := 0, locals := 0 }) (va_Pc [.int a, .int b] (fun _ => True)) (vp_Si (fun r => r = (a &&& (-2)) ||| b)) 0 0 (fun _ => False) := by
  refine Met.ofW (cc := bX_withTop) (maxL := 2) (ret := (some .int)) (by decide) rfl ?_
  intro p e s m args below meth c s₁ B hml hv
  obtain ⟨rfl, -⟩ := hv
  have hx := B.exec
  have hb := B.bytes
  have hr := B.returns
  have hts := atoms_spec (ws := kX_withTop :: CW) B.pre
  have hc : ∀ w ∈ CW, w.before _ s = true := fun w h => hts w (List.mem_cons_of_mem _ h)
  have hown : s.vm.findClass RX = some m.cls := findClass_of_methodNamed B.named
  have hlocks := B.notSynchronized
  have hl := lv_entry ([.int a, .int b]) (n := 2) (Nat.le_of_ble_eq_true rfl)
  rw [lg_entry_eq]
  generalize (lg_sl ([.int a, .int b]) ++ List.replicate (2 - (lg_sl ([.int a, .int b])).length) Slot.unset).toArray = ls at hl ⊢
  have hl : lv_has ls 2 [(0, .int a), (1, .int b)] := hl
  refine lv_iload_n hx hb dX_withTop_0 rfl (lv_at hl 0 rfl) ?_
  refine lv_bipush (v := (-2)) hx hb dX_withTop_1 (by decide +kernel) ?_
  refine lv_iand hx hb dX_withTop_3 ?_
  refine lv_iload_n hx hb dX_withTop_4 rfl (lv_at hl 1 rfl) ?_
  refine lv_ior hx hb dX_withTop_5 ?_
  exact W.iret (v := ((a &&& (-2)) ||| b)) hx hb hr (fun t ht hW => ⟨_, rfl, rfl, ht⟩) (fun _ h => nomatch h) dX_withTop_6

set_option maxHeartbeats 4000000 in
set_option maxRecDepth 100000 in
theorem cLa_pushes (l : Launch) (a : Int32) : Met l yLa_pushes (kLa_pushes :: CW) ({ frames := 0, cells := 0, slots := 0, locals := 0 }) (va_Pc [.int a] (fun _ => True)) (vp_Si (fun r => r = b2 (psh a))) 0 0 (fun _ => False) := by
  refine Met.ofW (cc := bLa_pushes) (maxL := 1) (ret := (some .boolean)) (by decide) rfl ?_
  intro p e s m args below meth c s₁ B hml hv
  obtain ⟨rfl, -⟩ := hv
  have hx := B.exec
  have hb := B.bytes
  have hr := B.returns
  have hts := atoms_spec (ws := kLa_pushes :: CW) B.pre
  have hc : ∀ w ∈ CW, w.before _ s = true := fun w h => hts w (List.mem_cons_of_mem _ h)
  have hown : s.vm.findClass RLa = some m.cls := findClass_of_methodNamed B.named
  have hlocks := B.notSynchronized
  have hl := lv_entry ([.int a]) (n := 1) (Nat.le_of_ble_eq_true rfl)
  rw [lg_entry_eq]
  generalize (lg_sl ([.int a]) ++ List.replicate (1 - (lg_sl ([.int a])).length) Slot.unset).toArray = ls at hl ⊢
  have hl : lv_has ls 1 [(0, .int a)] := hl
  refine lv_iload_n hx hb dLa_pushes_0 rfl (lv_at hl 0 rfl) ?_
  refine lv_if_eq (tgt := 15) hx hb dLa_pushes_1 (by decide) (fun c_0 => ?_) (fun c_0 => ?_)
  · refine lv_iconst (v := 1) hx hb dLa_pushes_15 (by decide +kernel) ?_
    refine lv_goto (tgt := 20) hx hb dLa_pushes_16 (by decide) ?_
    exact W.zret (v := 1) (ty := .boolean) hx hb hr rfl (fun t ht hW => ⟨_, rfl, (b2_t (by (try simp only [psh, Int32.lt_iff_toInt_lt, Int32.le_iff_toInt_le, ← Int32.toInt_inj, Int32.reduceToInt] at c_0); (try simp only [psh, Int32.lt_iff_toInt_lt, Int32.le_iff_toInt_le, ← Int32.toInt_inj, Int32.reduceToInt]); omega)).symm, ht⟩) (fun _ h => nomatch h) dLa_pushes_20
  · refine lv_iload_n hx hb dLa_pushes_4 rfl (lv_at hl 0 rfl) ?_
    refine lv_iconst (v := 1) hx hb dLa_pushes_5 (by decide +kernel) ?_
    refine lv_icmp_eq (tgt := 15) hx hb dLa_pushes_6 (by decide) (fun c_1 => ?_) (fun c_1 => ?_)
    · refine lv_iconst (v := 1) hx hb dLa_pushes_15 (by decide +kernel) ?_
      refine lv_goto (tgt := 20) hx hb dLa_pushes_16 (by decide) ?_
      exact W.zret (v := 1) (ty := .boolean) hx hb hr rfl (fun t ht hW => ⟨_, rfl, (b2_t (by (try simp only [psh, Int32.lt_iff_toInt_lt, Int32.le_iff_toInt_le, ← Int32.toInt_inj, Int32.reduceToInt] at c_0); (try simp only [psh, Int32.lt_iff_toInt_lt, Int32.le_iff_toInt_le, ← Int32.toInt_inj, Int32.reduceToInt] at c_1); (try simp only [psh, Int32.lt_iff_toInt_lt, Int32.le_iff_toInt_le, ← Int32.toInt_inj, Int32.reduceToInt]); omega)).symm, ht⟩) (fun _ h => nomatch h) dLa_pushes_20
    · refine lv_iload_n hx hb dLa_pushes_9 rfl (lv_at hl 0 rfl) ?_
      refine lv_bipush (v := 8) hx hb dLa_pushes_10 (by decide +kernel) ?_
      refine lv_icmp_ne (tgt := 19) hx hb dLa_pushes_12 (by decide) (fun c_2 => ?_) (fun c_2 => ?_)
      · refine lv_iconst (v := 0) hx hb dLa_pushes_19 (by decide +kernel) ?_
        exact W.zret (v := 0) (ty := .boolean) hx hb hr rfl (fun t ht hW => ⟨_, rfl, (b2_f (by (try simp only [psh, Int32.lt_iff_toInt_lt, Int32.le_iff_toInt_le, ← Int32.toInt_inj, Int32.reduceToInt] at c_0); (try simp only [psh, Int32.lt_iff_toInt_lt, Int32.le_iff_toInt_le, ← Int32.toInt_inj, Int32.reduceToInt] at c_1); (try simp only [psh, Int32.lt_iff_toInt_lt, Int32.le_iff_toInt_le, ← Int32.toInt_inj, Int32.reduceToInt] at c_2); (try simp only [psh, Int32.lt_iff_toInt_lt, Int32.le_iff_toInt_le, ← Int32.toInt_inj, Int32.reduceToInt]); omega)).symm, ht⟩) (fun _ h => nomatch h) dLa_pushes_20
      · refine lv_iconst (v := 1) hx hb dLa_pushes_15 (by decide +kernel) ?_
        refine lv_goto (tgt := 20) hx hb dLa_pushes_16 (by decide) ?_
        exact W.zret (v := 1) (ty := .boolean) hx hb hr rfl (fun t ht hW => ⟨_, rfl, (b2_t (by (try simp only [psh, Int32.lt_iff_toInt_lt, Int32.le_iff_toInt_le, ← Int32.toInt_inj, Int32.reduceToInt] at c_0); (try simp only [psh, Int32.lt_iff_toInt_lt, Int32.le_iff_toInt_le, ← Int32.toInt_inj, Int32.reduceToInt] at c_1); (try simp only [psh, Int32.lt_iff_toInt_lt, Int32.le_iff_toInt_le, ← Int32.toInt_inj, Int32.reduceToInt] at c_2); (try simp only [psh, Int32.lt_iff_toInt_lt, Int32.le_iff_toInt_le, ← Int32.toInt_inj, Int32.reduceToInt]); omega)).symm, ht⟩) (fun _ h => nomatch h) dLa_pushes_20

set_option maxHeartbeats 4000000 in
set_option maxRecDepth 100000 in
theorem cLa_joins (l : Launch) (a : Int32) : Met l yLa_joins (kLa_joins :: CW) ({ frames := 0, cells := 0, slots := 0, locals := 0 }) (va_Pc [.int a] (fun _ => True)) (vp_Si (fun r => r = b2 (jns a))) 0 0 (fun _ => False) := by
  refine Met.ofW (cc := bLa_joins) (maxL := 1) (ret := (some .boolean)) (by decide) rfl ?_
  intro p e s m args below meth c s₁ B hml hv
  obtain ⟨rfl, -⟩ := hv
  have hx := B.exec
  have hb := B.bytes
  have hr := B.returns
  have hts := atoms_spec (ws := kLa_joins :: CW) B.pre
  have hc : ∀ w ∈ CW, w.before _ s = true := fun w h => hts w (List.mem_cons_of_mem _ h)
  have hown : s.vm.findClass RLa = some m.cls := findClass_of_methodNamed B.named
  have hlocks := B.notSynchronized
  have hl := lv_entry ([.int a]) (n := 1) (Nat.le_of_ble_eq_true rfl)
  rw [lg_entry_eq]
  generalize (lg_sl ([.int a]) ++ List.replicate (1 - (lg_sl ([.int a])).length) Slot.unset).toArray = ls at hl ⊢
  have hl : lv_has ls 1 [(0, .int a)] := hl
  refine lv_iload_n hx hb dLa_joins_0 rfl (lv_at hl 0 rfl) ?_
  refine lv_bipush (v := 6) hx hb dLa_joins_1 (by decide +kernel) ?_
  refine lv_icmp_eq (tgt := 12) hx hb dLa_joins_3 (by decide) (fun c_0 => ?_) (fun c_0 => ?_)
  · refine lv_iconst (v := 1) hx hb dLa_joins_12 (by decide +kernel) ?_
    refine lv_goto (tgt := 17) hx hb dLa_joins_13 (by decide) ?_
    exact W.zret (v := 1) (ty := .boolean) hx hb hr rfl (fun t ht hW => ⟨_, rfl, (b2_t (by (try simp only [jns, Int32.lt_iff_toInt_lt, Int32.le_iff_toInt_le, ← Int32.toInt_inj, Int32.reduceToInt] at c_0); (try simp only [jns, Int32.lt_iff_toInt_lt, Int32.le_iff_toInt_le, ← Int32.toInt_inj, Int32.reduceToInt]); omega)).symm, ht⟩) (fun _ h => nomatch h) dLa_joins_17
  · refine lv_iload_n hx hb dLa_joins_6 rfl (lv_at hl 0 rfl) ?_
    refine lv_bipush (v := 7) hx hb dLa_joins_7 (by decide +kernel) ?_
    refine lv_icmp_ne (tgt := 16) hx hb dLa_joins_9 (by decide) (fun c_1 => ?_) (fun c_1 => ?_)
    · refine lv_iconst (v := 0) hx hb dLa_joins_16 (by decide +kernel) ?_
      exact W.zret (v := 0) (ty := .boolean) hx hb hr rfl (fun t ht hW => ⟨_, rfl, (b2_f (by (try simp only [jns, Int32.lt_iff_toInt_lt, Int32.le_iff_toInt_le, ← Int32.toInt_inj, Int32.reduceToInt] at c_0); (try simp only [jns, Int32.lt_iff_toInt_lt, Int32.le_iff_toInt_le, ← Int32.toInt_inj, Int32.reduceToInt] at c_1); (try simp only [jns, Int32.lt_iff_toInt_lt, Int32.le_iff_toInt_le, ← Int32.toInt_inj, Int32.reduceToInt]); omega)).symm, ht⟩) (fun _ h => nomatch h) dLa_joins_17
    · refine lv_iconst (v := 1) hx hb dLa_joins_12 (by decide +kernel) ?_
      refine lv_goto (tgt := 17) hx hb dLa_joins_13 (by decide) ?_
      exact W.zret (v := 1) (ty := .boolean) hx hb hr rfl (fun t ht hW => ⟨_, rfl, (b2_t (by (try simp only [jns, Int32.lt_iff_toInt_lt, Int32.le_iff_toInt_le, ← Int32.toInt_inj, Int32.reduceToInt] at c_0); (try simp only [jns, Int32.lt_iff_toInt_lt, Int32.le_iff_toInt_le, ← Int32.toInt_inj, Int32.reduceToInt] at c_1); (try simp only [jns, Int32.lt_iff_toInt_lt, Int32.le_iff_toInt_le, ← Int32.toInt_inj, Int32.reduceToInt]); omega)).symm, ht⟩) (fun _ h => nomatch h) dLa_joins_17

set_option maxHeartbeats 4000000 in
set_option maxRecDepth 100000 in
theorem cLa_needed (l : Launch) (a : Int32) : Met l yLa_needed (kLa_needed :: CW) ({ frames := 1, cells := 0, slots := 0, locals := 20 }) (va_Pc [.int a] (fun _ => True)) (vp_Si (fun r => r = if psh a then 0 else if jns a then 2 else 1)) 0 0 (fun _ => False) := by
  refine Met.ofW (cc := bLa_needed) (maxL := 1) (ret := (some .int)) (by decide) rfl ?_
  intro p e s m args below meth c s₁ B hml hv
  obtain ⟨rfl, -⟩ := hv
  have hx := B.exec
  have hb := B.bytes
  have hr := B.returns
  have hts := atoms_spec (ws := kLa_needed :: CW) B.pre
  have hc : ∀ w ∈ CW, w.before _ s = true := fun w h => hts w (List.mem_cons_of_mem _ h)
  have hown : s.vm.findClass RLa = some m.cls := findClass_of_methodNamed B.named
  have hlocks := B.notSynchronized
  have hl := lv_entry ([.int a]) (n := 1) (Nat.le_of_ble_eq_true rfl)
  rw [lg_entry_eq]
  generalize (lg_sl ([.int a]) ++ List.replicate (1 - (lg_sl ([.int a])).length) Slot.unset).toArray = ls at hl ⊢
  have hl : lv_has ls 1 [(0, .int a)] := hl
  refine lv_iload_n hx hb dLa_needed_0 rfl (lv_at hl 0 rfl) ?_
  refine vp_callSi (va_Run.run (va_runS (As := [.int a]) (rest := []) ⟨hx, hb, hml, hown, hc⟩ (cLa_pushes l a) (va_cwS 1 hc (g_S w359 w360 w3 qLa_pushes) rfl rfl rfl (by decide +kernel) ⟨Nat.le_of_ble_eq_true rfl, Nat.le_of_ble_eq_true rfl⟩) ⟨tPre_blind, tPre_in⟩ rfl rfl hl.1 rfl (lv_room (Nat.le_of_ble_eq_true rfl)) dLa_needed_1 ⟨Nat.zero_le _, Nat.zero_le _⟩)) (fun r_1 hr_1 => ?_)
  refine lv_if_eq (tgt := 9) hx hb dLa_needed_4 (by decide) (fun c_1 => ?_) (fun c_1 => ?_)
  · refine lv_iload_n hx hb dLa_needed_9 rfl (lv_at hl 0 rfl) ?_
    refine vp_callSi (va_Run.run (va_runS (As := [.int a]) (rest := []) ⟨hx, hb, hml, hown, hc⟩ (cLa_joins l a) (va_cwS 1 hc (g_S w362 w363 w3 qLa_joins) rfl rfl rfl (by decide +kernel) ⟨Nat.le_of_ble_eq_true rfl, Nat.le_of_ble_eq_true rfl⟩) ⟨tPre_blind, tPre_in⟩ rfl rfl hl.1 rfl (lv_room (Nat.le_of_ble_eq_true rfl)) dLa_needed_10 ⟨Nat.zero_le _, Nat.zero_le _⟩)) (fun r_3 hr_3 => ?_)
    refine lv_if_eq (tgt := 20) hx hb dLa_needed_13 (by decide) (fun c_3 => ?_) (fun c_3 => ?_)
    · refine lv_iconst (v := 1) hx hb dLa_needed_20 (by decide +kernel) ?_
      exact W.iret (v := 1) hx hb hr (fun t ht hW => ⟨_, rfl, (by simp only [hr_1, hr_3, b2_0, b2_n] at c_1 c_3; simp [c_1, c_3]), ht⟩) (fun _ h => nomatch h) dLa_needed_21
    · refine lv_iconst (v := 2) hx hb dLa_needed_16 (by decide +kernel) ?_
      refine lv_goto (tgt := 21) hx hb dLa_needed_17 (by decide) ?_
      exact W.iret (v := 2) hx hb hr (fun t ht hW => ⟨_, rfl, (by simp only [hr_1, hr_3, b2_0, b2_n] at c_1 c_3; simp [c_1, c_3]), ht⟩) (fun _ h => nomatch h) dLa_needed_21
  · refine lv_iconst (v := 0) hx hb dLa_needed_7 (by decide +kernel) ?_
    exact W.iret (v := 0) hx hb hr (fun t ht hW => ⟨_, rfl, (by simp only [hr_1, b2_0, b2_n] at c_1; simp [c_1]), ht⟩) (fun _ h => nomatch h) dLa_needed_8

set_option maxHeartbeats 4000000 in
set_option maxRecDepth 100000 in
theorem cLa_growth (l : Launch) (a : Int32) : Met l yLa_growth (kLa_growth :: CW) ({ frames := 1, cells := 0, slots := 0, locals := 20 }) (va_Pc [.int a] (fun _ => True)) (vp_Si (fun r => r = if psh a then 1 else if jns a then -1 else 0)) 0 0 (fun _ => False) := by
  refine Met.ofW (cc := bLa_growth) (maxL := 1) (ret := (some .int)) (by decide) rfl ?_
  intro p e s m args below meth c s₁ B hml hv
  obtain ⟨rfl, -⟩ := hv
  have hx := B.exec
  have hb := B.bytes
  have hr := B.returns
  have hts := atoms_spec (ws := kLa_growth :: CW) B.pre
  have hc : ∀ w ∈ CW, w.before _ s = true := fun w h => hts w (List.mem_cons_of_mem _ h)
  have hown : s.vm.findClass RLa = some m.cls := findClass_of_methodNamed B.named
  have hlocks := B.notSynchronized
  have hl := lv_entry ([.int a]) (n := 1) (Nat.le_of_ble_eq_true rfl)
  rw [lg_entry_eq]
  generalize (lg_sl ([.int a]) ++ List.replicate (1 - (lg_sl ([.int a])).length) Slot.unset).toArray = ls at hl ⊢
  have hl : lv_has ls 1 [(0, .int a)] := hl
  refine lv_iload_n hx hb dLa_growth_0 rfl (lv_at hl 0 rfl) ?_
  refine vp_callSi (va_Run.run (va_runS (As := [.int a]) (rest := []) ⟨hx, hb, hml, hown, hc⟩ (cLa_pushes l a) (va_cwS 1 hc (g_S w359 w360 w3 qLa_pushes) rfl rfl rfl (by decide +kernel) ⟨Nat.le_of_ble_eq_true rfl, Nat.le_of_ble_eq_true rfl⟩) ⟨tPre_blind, tPre_in⟩ rfl rfl hl.1 rfl (lv_room (Nat.le_of_ble_eq_true rfl)) dLa_growth_1 ⟨Nat.zero_le _, Nat.zero_le _⟩)) (fun r_1 hr_1 => ?_)
  refine lv_if_eq (tgt := 9) hx hb dLa_growth_4 (by decide) (fun c_1 => ?_) (fun c_1 => ?_)
  · refine lv_iload_n hx hb dLa_growth_9 rfl (lv_at hl 0 rfl) ?_
    refine vp_callSi (va_Run.run (va_runS (As := [.int a]) (rest := []) ⟨hx, hb, hml, hown, hc⟩ (cLa_joins l a) (va_cwS 1 hc (g_S w362 w363 w3 qLa_joins) rfl rfl rfl (by decide +kernel) ⟨Nat.le_of_ble_eq_true rfl, Nat.le_of_ble_eq_true rfl⟩) ⟨tPre_blind, tPre_in⟩ rfl rfl hl.1 rfl (lv_room (Nat.le_of_ble_eq_true rfl)) dLa_growth_10 ⟨Nat.zero_le _, Nat.zero_le _⟩)) (fun r_3 hr_3 => ?_)
    refine lv_if_eq (tgt := 20) hx hb dLa_growth_13 (by decide) (fun c_3 => ?_) (fun c_3 => ?_)
    · refine lv_iconst (v := 0) hx hb dLa_growth_20 (by decide +kernel) ?_
      exact W.iret (v := 0) hx hb hr (fun t ht hW => ⟨_, rfl, (by simp only [hr_1, hr_3, b2_0, b2_n] at c_1 c_3; simp [c_1, c_3]), ht⟩) (fun _ h => nomatch h) dLa_growth_21
    · refine lv_iconst (v := (-1)) hx hb dLa_growth_16 (by decide +kernel) ?_
      refine lv_goto (tgt := 21) hx hb dLa_growth_17 (by decide) ?_
      exact W.iret (v := (-1)) hx hb hr (fun t ht hW => ⟨_, rfl, (by simp only [hr_1, hr_3, b2_0, b2_n] at c_1 c_3; simp [c_1, c_3]), ht⟩) (fun _ h => nomatch h) dLa_growth_21
  · refine lv_iconst (v := 1) hx hb dLa_growth_7 (by decide +kernel) ?_
    exact W.iret (v := 1) hx hb hr (fun t ht hW => ⟨_, rfl, (by simp only [hr_1, b2_0, b2_n] at c_1; simp [c_1]), ht⟩) (fun _ h => nomatch h) dLa_growth_8
