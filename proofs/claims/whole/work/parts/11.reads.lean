set_option maxHeartbeats 4000000 in
set_option maxRecDepth 100000 in
theorem cX_isMade (l : Launch) (dC : Nat → ClassId) (dI : Nat → Nat → Nat) (ad : Nat → Nat) (ca : Nat → ClassId) (sz : Nat) (S : Ss) (a : Int32) : Met l yX_isMade (kX_isMade :: CW) ({ frames := 1, cells := 0, slots := 0, locals := 22 }) (va_Pc [.ref (ad 0), .int a] (gPre (dC, dI) (xT ca) (XW ad ca S) sz)) (vp_Si (fun r => r = b2 (wi a 0 (S 0 0 - 1)))) 0 0 (fun _ => False) := by
  refine Met.ofW (cc := bX_isMade) (maxL := 2) (ret := (some .boolean)) (by decide) rfl ?_
  intro p e s m args below meth c s₁ B hml hv
  obtain ⟨rfl, hsz, hP, hK, hD0⟩ := hv
  have hx := B.exec
  have hb := B.bytes
  have hr := B.returns
  have hts := atoms_spec (ws := kX_isMade :: CW) B.pre
  have hc : ∀ w ∈ CW, w.before _ s = true := fun w h => hts w (List.mem_cons_of_mem _ h)
  have hown : s.vm.findClass RX = some m.cls := findClass_of_methodNamed B.named
  have hlocks := B.notSynchronized
  subst hsz
  have hD := hD0
  have hl := lv_entry ([.ref (ad 0), .int a]) (n := 2) (Nat.le_of_ble_eq_true rfl)
  rw [lg_entry_eq]
  generalize (lg_sl ([.ref (ad 0), .int a]) ++ List.replicate (2 - (lg_sl ([.ref (ad 0), .int a])).length) Slot.unset).toArray = ls at hl ⊢
  have hl : lv_has ls 2 [(0, .ref (ad 0)), (1, .int a)] := hl
  refine lv_iload_n hx hb dX_isMade_0 rfl (lv_at hl 1 rfl) ?_
  refine lv_iconst (v := 0) hx hb dX_isMade_1 (by decide +kernel) ?_
  refine lv_aload_n hx hb dX_isMade_2 rfl (lv_at hl 0 rfl) ?_
  refine va_get (D := (dC, dI)) (ci := 0) (v := .int (S 0 0)) (C := RX) (T := TX) (N := 8) hx hb hc inX hown hK hP 0 rfl rfl 4 (by decide) (hc _ w115) (fun _ h9 => h9) rfl dX_isMade_3 ?_
  refine lv_iconst (v := 1) hx hb dX_isMade_6 (by decide +kernel) ?_
  refine lv_isub hx hb dX_isMade_7 ?_
  refine vp_callSi (va_Run.run (va_runS (As := [.int a, .int 0, .int ((S 0 0) - 1)]) (rest := []) ⟨hx, hb, hml, hown, hc⟩ (cX_isWithin l a 0 ((S 0 0) - 1)) (va_cwS 3 hc (g_S w187 w188 w1 qX_isWithin) rfl rfl rfl (by decide +kernel) ⟨Nat.le_of_ble_eq_true rfl, Nat.le_of_ble_eq_true rfl⟩) ⟨tPre_blind, tPre_in⟩ rfl rfl hl.1 rfl (lv_room (Nat.le_of_ble_eq_true rfl)) dX_isMade_8 ⟨Nat.zero_le _, Nat.zero_le _⟩)) (fun r_1 hr_1 => ?_)
  exact W.zret (v := r_1) (ty := .boolean) hx hb hr (by rw [hr_1]; exact nar_b2 _) (fun t ht hW => ⟨_, rfl, hr_1, ht⟩) (fun _ h => nomatch h) dX_isMade_11

set_option maxHeartbeats 4000000 in
set_option maxRecDepth 100000 in
theorem cX_isStep (l : Launch) (dC : Nat → ClassId) (dI : Nat → Nat → Nat) (ad : Nat → Nat) (ca : Nat → ClassId) (sz : Nat) (S : Ss) (k a : Int32) : Met l yX_isStep (kX_isStep :: CW) ({ frames := 2, cells := 0, slots := 0, locals := 43 }) (va_Pc [.ref (ad 0), .int k, .int a] (gPre (dC, dI) (xT ca) (XW ad ca S) sz)) (vp_Si (fun r => r = b2 (okO (S 0 0) k a))) 0 0 (fun _ => False) := by
  refine Met.ofW (cc := bX_isStep) (maxL := 3) (ret := (some .boolean)) (by decide) rfl ?_
  intro p e s m args below meth c s₁ B hml hv
  obtain ⟨rfl, hsz, hP, hK, hD0⟩ := hv
  have hx := B.exec
  have hb := B.bytes
  have hr := B.returns
  have hts := atoms_spec (ws := kX_isStep :: CW) B.pre
  have hc : ∀ w ∈ CW, w.before _ s = true := fun w h => hts w (List.mem_cons_of_mem _ h)
  have hown : s.vm.findClass RX = some m.cls := findClass_of_methodNamed B.named
  have hlocks := B.notSynchronized
  subst hsz
  have hD := hD0
  have hl := lv_entry ([.ref (ad 0), .int k, .int a]) (n := 3) (Nat.le_of_ble_eq_true rfl)
  rw [lg_entry_eq]
  generalize (lg_sl ([.ref (ad 0), .int k, .int a]) ++ List.replicate (3 - (lg_sl ([.ref (ad 0), .int k, .int a])).length) Slot.unset).toArray = ls at hl ⊢
  have hl : lv_has ls 3 [(0, .ref (ad 0)), (1, .int k), (2, .int a)] := hl
  refine lv_iload_n hx hb dX_isStep_0 rfl (lv_at hl 1 rfl) ?_
  by_cases w_0 : k = 0
  · refine lv_tableIn (tgt := 72) hx hb dX_isStep_1 (by rw [w_0]; decide) (by rw [w_0]; decide) (by rw [w_0]; rfl) (by decide) ?_
    refine lv_iload_n hx hb dX_isStep_72 rfl (lv_at hl 2 rfl) ?_
    refine vp_callSi (va_Run.run (va_runS (As := [.int a]) (rest := []) ⟨hx, hb, hml, hown, hc⟩ (cX_isBit l a) (va_cwS 1 hc (g_S w190 w191 w1 qX_isBit) rfl rfl rfl (by decide +kernel) ⟨Nat.le_of_ble_eq_true rfl, Nat.le_of_ble_eq_true rfl⟩) ⟨tPre_blind, tPre_in⟩ rfl rfl hl.1 rfl (lv_room (Nat.le_of_ble_eq_true rfl)) dX_isStep_73 ⟨Nat.zero_le _, Nat.zero_le _⟩)) (fun r_2 hr_2 => ?_)
    exact W.zret (v := r_2) (ty := .boolean) hx hb hr (by rw [hr_2]; exact nar_b2 _) (fun t ht hW => ⟨_, rfl, (hr_2.trans (b2_c (by (try simp only [okO, wi, Int32.lt_iff_toInt_lt, Int32.le_iff_toInt_le, ← Int32.toInt_inj, Int32.reduceToInt] at w_0); (try simp only [okO, wi, Int32.lt_iff_toInt_lt, Int32.le_iff_toInt_le, ← Int32.toInt_inj, Int32.reduceToInt]); omega))), ht⟩) (fun _ h => nomatch h) dX_isStep_76
  by_cases w_2 : k = 1
  · refine lv_tableIn (tgt := 72) hx hb dX_isStep_1 (by rw [w_2]; decide) (by rw [w_2]; decide) (by rw [w_2]; rfl) (by decide) ?_
    refine lv_iload_n hx hb dX_isStep_72 rfl (lv_at hl 2 rfl) ?_
    refine vp_callSi (va_Run.run (va_runS (As := [.int a]) (rest := []) ⟨hx, hb, hml, hown, hc⟩ (cX_isBit l a) (va_cwS 1 hc (g_S w190 w191 w1 qX_isBit) rfl rfl rfl (by decide +kernel) ⟨Nat.le_of_ble_eq_true rfl, Nat.le_of_ble_eq_true rfl⟩) ⟨tPre_blind, tPre_in⟩ rfl rfl hl.1 rfl (lv_room (Nat.le_of_ble_eq_true rfl)) dX_isStep_73 ⟨Nat.zero_le _, Nat.zero_le _⟩)) (fun r_4 hr_4 => ?_)
    exact W.zret (v := r_4) (ty := .boolean) hx hb hr (by rw [hr_4]; exact nar_b2 _) (fun t ht hW => ⟨_, rfl, (hr_4.trans (b2_c (by (try simp only [okO, wi, Int32.lt_iff_toInt_lt, Int32.le_iff_toInt_le, ← Int32.toInt_inj, Int32.reduceToInt] at w_0); (try simp only [okO, wi, Int32.lt_iff_toInt_lt, Int32.le_iff_toInt_le, ← Int32.toInt_inj, Int32.reduceToInt] at w_2); (try simp only [okO, wi, Int32.lt_iff_toInt_lt, Int32.le_iff_toInt_le, ← Int32.toInt_inj, Int32.reduceToInt]); omega))), ht⟩) (fun _ h => nomatch h) dX_isStep_76
  by_cases w_4 : k = 2
  · refine lv_tableIn (tgt := 72) hx hb dX_isStep_1 (by rw [w_4]; decide) (by rw [w_4]; decide) (by rw [w_4]; rfl) (by decide) ?_
    refine lv_iload_n hx hb dX_isStep_72 rfl (lv_at hl 2 rfl) ?_
    refine vp_callSi (va_Run.run (va_runS (As := [.int a]) (rest := []) ⟨hx, hb, hml, hown, hc⟩ (cX_isBit l a) (va_cwS 1 hc (g_S w190 w191 w1 qX_isBit) rfl rfl rfl (by decide +kernel) ⟨Nat.le_of_ble_eq_true rfl, Nat.le_of_ble_eq_true rfl⟩) ⟨tPre_blind, tPre_in⟩ rfl rfl hl.1 rfl (lv_room (Nat.le_of_ble_eq_true rfl)) dX_isStep_73 ⟨Nat.zero_le _, Nat.zero_le _⟩)) (fun r_6 hr_6 => ?_)
    exact W.zret (v := r_6) (ty := .boolean) hx hb hr (by rw [hr_6]; exact nar_b2 _) (fun t ht hW => ⟨_, rfl, (hr_6.trans (b2_c (by (try simp only [okO, wi, Int32.lt_iff_toInt_lt, Int32.le_iff_toInt_le, ← Int32.toInt_inj, Int32.reduceToInt] at w_0); (try simp only [okO, wi, Int32.lt_iff_toInt_lt, Int32.le_iff_toInt_le, ← Int32.toInt_inj, Int32.reduceToInt] at w_2); (try simp only [okO, wi, Int32.lt_iff_toInt_lt, Int32.le_iff_toInt_le, ← Int32.toInt_inj, Int32.reduceToInt] at w_4); (try simp only [okO, wi, Int32.lt_iff_toInt_lt, Int32.le_iff_toInt_le, ← Int32.toInt_inj, Int32.reduceToInt]); omega))), ht⟩) (fun _ h => nomatch h) dX_isStep_76
  by_cases w_6 : k = 3
  · refine lv_tableIn (tgt := 72) hx hb dX_isStep_1 (by rw [w_6]; decide) (by rw [w_6]; decide) (by rw [w_6]; rfl) (by decide) ?_
    refine lv_iload_n hx hb dX_isStep_72 rfl (lv_at hl 2 rfl) ?_
    refine vp_callSi (va_Run.run (va_runS (As := [.int a]) (rest := []) ⟨hx, hb, hml, hown, hc⟩ (cX_isBit l a) (va_cwS 1 hc (g_S w190 w191 w1 qX_isBit) rfl rfl rfl (by decide +kernel) ⟨Nat.le_of_ble_eq_true rfl, Nat.le_of_ble_eq_true rfl⟩) ⟨tPre_blind, tPre_in⟩ rfl rfl hl.1 rfl (lv_room (Nat.le_of_ble_eq_true rfl)) dX_isStep_73 ⟨Nat.zero_le _, Nat.zero_le _⟩)) (fun r_8 hr_8 => ?_)
    exact W.zret (v := r_8) (ty := .boolean) hx hb hr (by rw [hr_8]; exact nar_b2 _) (fun t ht hW => ⟨_, rfl, (hr_8.trans (b2_c (by (try simp only [okO, wi, Int32.lt_iff_toInt_lt, Int32.le_iff_toInt_le, ← Int32.toInt_inj, Int32.reduceToInt] at w_0); (try simp only [okO, wi, Int32.lt_iff_toInt_lt, Int32.le_iff_toInt_le, ← Int32.toInt_inj, Int32.reduceToInt] at w_2); (try simp only [okO, wi, Int32.lt_iff_toInt_lt, Int32.le_iff_toInt_le, ← Int32.toInt_inj, Int32.reduceToInt] at w_4); (try simp only [okO, wi, Int32.lt_iff_toInt_lt, Int32.le_iff_toInt_le, ← Int32.toInt_inj, Int32.reduceToInt] at w_6); (try simp only [okO, wi, Int32.lt_iff_toInt_lt, Int32.le_iff_toInt_le, ← Int32.toInt_inj, Int32.reduceToInt]); omega))), ht⟩) (fun _ h => nomatch h) dX_isStep_76
  by_cases w_8 : k = 4
  · refine lv_tableIn (tgt := 72) hx hb dX_isStep_1 (by rw [w_8]; decide) (by rw [w_8]; decide) (by rw [w_8]; rfl) (by decide) ?_
    refine lv_iload_n hx hb dX_isStep_72 rfl (lv_at hl 2 rfl) ?_
    refine vp_callSi (va_Run.run (va_runS (As := [.int a]) (rest := []) ⟨hx, hb, hml, hown, hc⟩ (cX_isBit l a) (va_cwS 1 hc (g_S w190 w191 w1 qX_isBit) rfl rfl rfl (by decide +kernel) ⟨Nat.le_of_ble_eq_true rfl, Nat.le_of_ble_eq_true rfl⟩) ⟨tPre_blind, tPre_in⟩ rfl rfl hl.1 rfl (lv_room (Nat.le_of_ble_eq_true rfl)) dX_isStep_73 ⟨Nat.zero_le _, Nat.zero_le _⟩)) (fun r_10 hr_10 => ?_)
    exact W.zret (v := r_10) (ty := .boolean) hx hb hr (by rw [hr_10]; exact nar_b2 _) (fun t ht hW => ⟨_, rfl, (hr_10.trans (b2_c (by (try simp only [okO, wi, Int32.lt_iff_toInt_lt, Int32.le_iff_toInt_le, ← Int32.toInt_inj, Int32.reduceToInt] at w_0); (try simp only [okO, wi, Int32.lt_iff_toInt_lt, Int32.le_iff_toInt_le, ← Int32.toInt_inj, Int32.reduceToInt] at w_2); (try simp only [okO, wi, Int32.lt_iff_toInt_lt, Int32.le_iff_toInt_le, ← Int32.toInt_inj, Int32.reduceToInt] at w_4); (try simp only [okO, wi, Int32.lt_iff_toInt_lt, Int32.le_iff_toInt_le, ← Int32.toInt_inj, Int32.reduceToInt] at w_6); (try simp only [okO, wi, Int32.lt_iff_toInt_lt, Int32.le_iff_toInt_le, ← Int32.toInt_inj, Int32.reduceToInt] at w_8); (try simp only [okO, wi, Int32.lt_iff_toInt_lt, Int32.le_iff_toInt_le, ← Int32.toInt_inj, Int32.reduceToInt]); omega))), ht⟩) (fun _ h => nomatch h) dX_isStep_76
  by_cases w_10 : k = 5
  · refine lv_tableIn (tgt := 72) hx hb dX_isStep_1 (by rw [w_10]; decide) (by rw [w_10]; decide) (by rw [w_10]; rfl) (by decide) ?_
    refine lv_iload_n hx hb dX_isStep_72 rfl (lv_at hl 2 rfl) ?_
    refine vp_callSi (va_Run.run (va_runS (As := [.int a]) (rest := []) ⟨hx, hb, hml, hown, hc⟩ (cX_isBit l a) (va_cwS 1 hc (g_S w190 w191 w1 qX_isBit) rfl rfl rfl (by decide +kernel) ⟨Nat.le_of_ble_eq_true rfl, Nat.le_of_ble_eq_true rfl⟩) ⟨tPre_blind, tPre_in⟩ rfl rfl hl.1 rfl (lv_room (Nat.le_of_ble_eq_true rfl)) dX_isStep_73 ⟨Nat.zero_le _, Nat.zero_le _⟩)) (fun r_12 hr_12 => ?_)
    exact W.zret (v := r_12) (ty := .boolean) hx hb hr (by rw [hr_12]; exact nar_b2 _) (fun t ht hW => ⟨_, rfl, (hr_12.trans (b2_c (by (try simp only [okO, wi, Int32.lt_iff_toInt_lt, Int32.le_iff_toInt_le, ← Int32.toInt_inj, Int32.reduceToInt] at w_0); (try simp only [okO, wi, Int32.lt_iff_toInt_lt, Int32.le_iff_toInt_le, ← Int32.toInt_inj, Int32.reduceToInt] at w_2); (try simp only [okO, wi, Int32.lt_iff_toInt_lt, Int32.le_iff_toInt_le, ← Int32.toInt_inj, Int32.reduceToInt] at w_4); (try simp only [okO, wi, Int32.lt_iff_toInt_lt, Int32.le_iff_toInt_le, ← Int32.toInt_inj, Int32.reduceToInt] at w_6); (try simp only [okO, wi, Int32.lt_iff_toInt_lt, Int32.le_iff_toInt_le, ← Int32.toInt_inj, Int32.reduceToInt] at w_8); (try simp only [okO, wi, Int32.lt_iff_toInt_lt, Int32.le_iff_toInt_le, ← Int32.toInt_inj, Int32.reduceToInt] at w_10); (try simp only [okO, wi, Int32.lt_iff_toInt_lt, Int32.le_iff_toInt_le, ← Int32.toInt_inj, Int32.reduceToInt]); omega))), ht⟩) (fun _ h => nomatch h) dX_isStep_76
  by_cases w_12 : k = 6
  · refine lv_tableIn (tgt := 77) hx hb dX_isStep_1 (by rw [w_12]; decide) (by rw [w_12]; decide) (by rw [w_12]; rfl) (by decide) ?_
    refine lv_iconst (v := 1) hx hb dX_isStep_77 (by decide +kernel) ?_
    exact W.zret (v := 1) (ty := .boolean) hx hb hr rfl (fun t ht hW => ⟨_, rfl, (b2_t (by (try simp only [okO, wi, Int32.lt_iff_toInt_lt, Int32.le_iff_toInt_le, ← Int32.toInt_inj, Int32.reduceToInt] at w_0); (try simp only [okO, wi, Int32.lt_iff_toInt_lt, Int32.le_iff_toInt_le, ← Int32.toInt_inj, Int32.reduceToInt] at w_2); (try simp only [okO, wi, Int32.lt_iff_toInt_lt, Int32.le_iff_toInt_le, ← Int32.toInt_inj, Int32.reduceToInt] at w_4); (try simp only [okO, wi, Int32.lt_iff_toInt_lt, Int32.le_iff_toInt_le, ← Int32.toInt_inj, Int32.reduceToInt] at w_6); (try simp only [okO, wi, Int32.lt_iff_toInt_lt, Int32.le_iff_toInt_le, ← Int32.toInt_inj, Int32.reduceToInt] at w_8); (try simp only [okO, wi, Int32.lt_iff_toInt_lt, Int32.le_iff_toInt_le, ← Int32.toInt_inj, Int32.reduceToInt] at w_10); (try simp only [okO, wi, Int32.lt_iff_toInt_lt, Int32.le_iff_toInt_le, ← Int32.toInt_inj, Int32.reduceToInt] at w_12); (try simp only [okO, wi, Int32.lt_iff_toInt_lt, Int32.le_iff_toInt_le, ← Int32.toInt_inj, Int32.reduceToInt]); omega)).symm, ht⟩) (fun _ h => nomatch h) dX_isStep_78
  by_cases w_13 : k = 7
  · refine lv_tableIn (tgt := 77) hx hb dX_isStep_1 (by rw [w_13]; decide) (by rw [w_13]; decide) (by rw [w_13]; rfl) (by decide) ?_
    refine lv_iconst (v := 1) hx hb dX_isStep_77 (by decide +kernel) ?_
    exact W.zret (v := 1) (ty := .boolean) hx hb hr rfl (fun t ht hW => ⟨_, rfl, (b2_t (by (try simp only [okO, wi, Int32.lt_iff_toInt_lt, Int32.le_iff_toInt_le, ← Int32.toInt_inj, Int32.reduceToInt] at w_0); (try simp only [okO, wi, Int32.lt_iff_toInt_lt, Int32.le_iff_toInt_le, ← Int32.toInt_inj, Int32.reduceToInt] at w_2); (try simp only [okO, wi, Int32.lt_iff_toInt_lt, Int32.le_iff_toInt_le, ← Int32.toInt_inj, Int32.reduceToInt] at w_4); (try simp only [okO, wi, Int32.lt_iff_toInt_lt, Int32.le_iff_toInt_le, ← Int32.toInt_inj, Int32.reduceToInt] at w_6); (try simp only [okO, wi, Int32.lt_iff_toInt_lt, Int32.le_iff_toInt_le, ← Int32.toInt_inj, Int32.reduceToInt] at w_8); (try simp only [okO, wi, Int32.lt_iff_toInt_lt, Int32.le_iff_toInt_le, ← Int32.toInt_inj, Int32.reduceToInt] at w_10); (try simp only [okO, wi, Int32.lt_iff_toInt_lt, Int32.le_iff_toInt_le, ← Int32.toInt_inj, Int32.reduceToInt] at w_12); (try simp only [okO, wi, Int32.lt_iff_toInt_lt, Int32.le_iff_toInt_le, ← Int32.toInt_inj, Int32.reduceToInt] at w_13); (try simp only [okO, wi, Int32.lt_iff_toInt_lt, Int32.le_iff_toInt_le, ← Int32.toInt_inj, Int32.reduceToInt]); omega)).symm, ht⟩) (fun _ h => nomatch h) dX_isStep_78
  by_cases w_14 : k = 8
  · refine lv_tableIn (tgt := 79) hx hb dX_isStep_1 (by rw [w_14]; decide) (by rw [w_14]; decide) (by rw [w_14]; rfl) (by decide) ?_
    refine lv_iload_n hx hb dX_isStep_79 rfl (lv_at hl 2 rfl) ?_
    refine lv_iconst (v := 0) hx hb dX_isStep_80 (by decide +kernel) ?_
    refine lv_bipush (v := 63) hx hb dX_isStep_81 (by decide +kernel) ?_
    refine vp_callSi (va_Run.run (va_runS (As := [.int a, .int 0, .int 63]) (rest := []) ⟨hx, hb, hml, hown, hc⟩ (cX_isWithin l a 0 63) (va_cwS 3 hc (g_S w187 w188 w1 qX_isWithin) rfl rfl rfl (by decide +kernel) ⟨Nat.le_of_ble_eq_true rfl, Nat.le_of_ble_eq_true rfl⟩) ⟨tPre_blind, tPre_in⟩ rfl rfl hl.1 rfl (lv_room (Nat.le_of_ble_eq_true rfl)) dX_isStep_83 ⟨Nat.zero_le _, Nat.zero_le _⟩)) (fun r_16 hr_16 => ?_)
    exact W.zret (v := r_16) (ty := .boolean) hx hb hr (by rw [hr_16]; exact nar_b2 _) (fun t ht hW => ⟨_, rfl, (hr_16.trans (b2_c (by (try simp only [okO, wi, Int32.lt_iff_toInt_lt, Int32.le_iff_toInt_le, ← Int32.toInt_inj, Int32.reduceToInt] at w_0); (try simp only [okO, wi, Int32.lt_iff_toInt_lt, Int32.le_iff_toInt_le, ← Int32.toInt_inj, Int32.reduceToInt] at w_2); (try simp only [okO, wi, Int32.lt_iff_toInt_lt, Int32.le_iff_toInt_le, ← Int32.toInt_inj, Int32.reduceToInt] at w_4); (try simp only [okO, wi, Int32.lt_iff_toInt_lt, Int32.le_iff_toInt_le, ← Int32.toInt_inj, Int32.reduceToInt] at w_6); (try simp only [okO, wi, Int32.lt_iff_toInt_lt, Int32.le_iff_toInt_le, ← Int32.toInt_inj, Int32.reduceToInt] at w_8); (try simp only [okO, wi, Int32.lt_iff_toInt_lt, Int32.le_iff_toInt_le, ← Int32.toInt_inj, Int32.reduceToInt] at w_10); (try simp only [okO, wi, Int32.lt_iff_toInt_lt, Int32.le_iff_toInt_le, ← Int32.toInt_inj, Int32.reduceToInt] at w_12); (try simp only [okO, wi, Int32.lt_iff_toInt_lt, Int32.le_iff_toInt_le, ← Int32.toInt_inj, Int32.reduceToInt] at w_13); (try simp only [okO, wi, Int32.lt_iff_toInt_lt, Int32.le_iff_toInt_le, ← Int32.toInt_inj, Int32.reduceToInt] at w_14); (try simp only [okO, wi, Int32.lt_iff_toInt_lt, Int32.le_iff_toInt_le, ← Int32.toInt_inj, Int32.reduceToInt]); omega))), ht⟩) (fun _ h => nomatch h) dX_isStep_86
  by_cases w_16 : k = 9
  · refine lv_tableIn (tgt := 87) hx hb dX_isStep_1 (by rw [w_16]; decide) (by rw [w_16]; decide) (by rw [w_16]; rfl) (by decide) ?_
    refine lv_aload_n hx hb dX_isStep_87 rfl (lv_at hl 0 rfl) ?_
    refine lv_iload_n hx hb dX_isStep_88 rfl (lv_at hl 2 rfl) ?_
    refine vp_callSi (va_Run.run (va_runV (As := [.int a]) (rest := []) ⟨hx, hb, hml, hown, hc⟩ (cX_isMade l dC dI ad ca s.heap.size S a) (cwV 1 hc (gV w289 w291 s1 w1 qX_isMade) rfl rfl rfl (by decide +kernel) ⟨Nat.le_of_ble_eq_true rfl, Nat.le_of_ble_eq_true rfl⟩) ⟨gPre_blind, va_recv hK hP (ci := 0) (q0 := 0) rfl rfl, (gPre_in hP hK hD)⟩ rfl rfl hl.1 rfl (lv_room (Nat.le_of_ble_eq_true rfl)) dX_isStep_89 ⟨Nat.zero_le _, Nat.zero_le _⟩)) (fun r_18 hr_18 => ?_)
    exact W.zret (v := r_18) (ty := .boolean) hx hb hr (by rw [hr_18]; exact nar_b2 _) (fun t ht hW => ⟨_, rfl, (hr_18.trans (b2_c (by (try simp only [okO, wi, Int32.lt_iff_toInt_lt, Int32.le_iff_toInt_le, ← Int32.toInt_inj, Int32.reduceToInt] at w_0); (try simp only [okO, wi, Int32.lt_iff_toInt_lt, Int32.le_iff_toInt_le, ← Int32.toInt_inj, Int32.reduceToInt] at w_2); (try simp only [okO, wi, Int32.lt_iff_toInt_lt, Int32.le_iff_toInt_le, ← Int32.toInt_inj, Int32.reduceToInt] at w_4); (try simp only [okO, wi, Int32.lt_iff_toInt_lt, Int32.le_iff_toInt_le, ← Int32.toInt_inj, Int32.reduceToInt] at w_6); (try simp only [okO, wi, Int32.lt_iff_toInt_lt, Int32.le_iff_toInt_le, ← Int32.toInt_inj, Int32.reduceToInt] at w_8); (try simp only [okO, wi, Int32.lt_iff_toInt_lt, Int32.le_iff_toInt_le, ← Int32.toInt_inj, Int32.reduceToInt] at w_10); (try simp only [okO, wi, Int32.lt_iff_toInt_lt, Int32.le_iff_toInt_le, ← Int32.toInt_inj, Int32.reduceToInt] at w_12); (try simp only [okO, wi, Int32.lt_iff_toInt_lt, Int32.le_iff_toInt_le, ← Int32.toInt_inj, Int32.reduceToInt] at w_13); (try simp only [okO, wi, Int32.lt_iff_toInt_lt, Int32.le_iff_toInt_le, ← Int32.toInt_inj, Int32.reduceToInt] at w_14); (try simp only [okO, wi, Int32.lt_iff_toInt_lt, Int32.le_iff_toInt_le, ← Int32.toInt_inj, Int32.reduceToInt] at w_16); (try simp only [okO, wi, Int32.lt_iff_toInt_lt, Int32.le_iff_toInt_le, ← Int32.toInt_inj, Int32.reduceToInt]); omega))), ht⟩) (fun _ h => nomatch h) dX_isStep_92
  by_cases w_18 : k = 10
  · refine lv_tableIn (tgt := 93) hx hb dX_isStep_1 (by rw [w_18]; decide) (by rw [w_18]; decide) (by rw [w_18]; rfl) (by decide) ?_
    refine lv_iload_n hx hb dX_isStep_93 rfl (lv_at hl 2 rfl) ?_
    refine lv_bipush (v := 8) hx hb dX_isStep_94 (by decide +kernel) ?_
    refine lv_bipush (v := 31) hx hb dX_isStep_96 (by decide +kernel) ?_
    refine vp_callSi (va_Run.run (va_runS (As := [.int a, .int 8, .int 31]) (rest := []) ⟨hx, hb, hml, hown, hc⟩ (cX_isWithin l a 8 31) (va_cwS 3 hc (g_S w187 w188 w1 qX_isWithin) rfl rfl rfl (by decide +kernel) ⟨Nat.le_of_ble_eq_true rfl, Nat.le_of_ble_eq_true rfl⟩) ⟨tPre_blind, tPre_in⟩ rfl rfl hl.1 rfl (lv_room (Nat.le_of_ble_eq_true rfl)) dX_isStep_98 ⟨Nat.zero_le _, Nat.zero_le _⟩)) (fun r_20 hr_20 => ?_)
    exact W.zret (v := r_20) (ty := .boolean) hx hb hr (by rw [hr_20]; exact nar_b2 _) (fun t ht hW => ⟨_, rfl, (hr_20.trans (b2_c (by (try simp only [okO, wi, Int32.lt_iff_toInt_lt, Int32.le_iff_toInt_le, ← Int32.toInt_inj, Int32.reduceToInt] at w_0); (try simp only [okO, wi, Int32.lt_iff_toInt_lt, Int32.le_iff_toInt_le, ← Int32.toInt_inj, Int32.reduceToInt] at w_2); (try simp only [okO, wi, Int32.lt_iff_toInt_lt, Int32.le_iff_toInt_le, ← Int32.toInt_inj, Int32.reduceToInt] at w_4); (try simp only [okO, wi, Int32.lt_iff_toInt_lt, Int32.le_iff_toInt_le, ← Int32.toInt_inj, Int32.reduceToInt] at w_6); (try simp only [okO, wi, Int32.lt_iff_toInt_lt, Int32.le_iff_toInt_le, ← Int32.toInt_inj, Int32.reduceToInt] at w_8); (try simp only [okO, wi, Int32.lt_iff_toInt_lt, Int32.le_iff_toInt_le, ← Int32.toInt_inj, Int32.reduceToInt] at w_10); (try simp only [okO, wi, Int32.lt_iff_toInt_lt, Int32.le_iff_toInt_le, ← Int32.toInt_inj, Int32.reduceToInt] at w_12); (try simp only [okO, wi, Int32.lt_iff_toInt_lt, Int32.le_iff_toInt_le, ← Int32.toInt_inj, Int32.reduceToInt] at w_13); (try simp only [okO, wi, Int32.lt_iff_toInt_lt, Int32.le_iff_toInt_le, ← Int32.toInt_inj, Int32.reduceToInt] at w_14); (try simp only [okO, wi, Int32.lt_iff_toInt_lt, Int32.le_iff_toInt_le, ← Int32.toInt_inj, Int32.reduceToInt] at w_16); (try simp only [okO, wi, Int32.lt_iff_toInt_lt, Int32.le_iff_toInt_le, ← Int32.toInt_inj, Int32.reduceToInt] at w_18); (try simp only [okO, wi, Int32.lt_iff_toInt_lt, Int32.le_iff_toInt_le, ← Int32.toInt_inj, Int32.reduceToInt]); omega))), ht⟩) (fun _ h => nomatch h) dX_isStep_101
  by_cases w_20 : k = 11
  · refine lv_tableIn (tgt := 93) hx hb dX_isStep_1 (by rw [w_20]; decide) (by rw [w_20]; decide) (by rw [w_20]; rfl) (by decide) ?_
    refine lv_iload_n hx hb dX_isStep_93 rfl (lv_at hl 2 rfl) ?_
    refine lv_bipush (v := 8) hx hb dX_isStep_94 (by decide +kernel) ?_
    refine lv_bipush (v := 31) hx hb dX_isStep_96 (by decide +kernel) ?_
    refine vp_callSi (va_Run.run (va_runS (As := [.int a, .int 8, .int 31]) (rest := []) ⟨hx, hb, hml, hown, hc⟩ (cX_isWithin l a 8 31) (va_cwS 3 hc (g_S w187 w188 w1 qX_isWithin) rfl rfl rfl (by decide +kernel) ⟨Nat.le_of_ble_eq_true rfl, Nat.le_of_ble_eq_true rfl⟩) ⟨tPre_blind, tPre_in⟩ rfl rfl hl.1 rfl (lv_room (Nat.le_of_ble_eq_true rfl)) dX_isStep_98 ⟨Nat.zero_le _, Nat.zero_le _⟩)) (fun r_22 hr_22 => ?_)
    exact W.zret (v := r_22) (ty := .boolean) hx hb hr (by rw [hr_22]; exact nar_b2 _) (fun t ht hW => ⟨_, rfl, (hr_22.trans (b2_c (by (try simp only [okO, wi, Int32.lt_iff_toInt_lt, Int32.le_iff_toInt_le, ← Int32.toInt_inj, Int32.reduceToInt] at w_0); (try simp only [okO, wi, Int32.lt_iff_toInt_lt, Int32.le_iff_toInt_le, ← Int32.toInt_inj, Int32.reduceToInt] at w_2); (try simp only [okO, wi, Int32.lt_iff_toInt_lt, Int32.le_iff_toInt_le, ← Int32.toInt_inj, Int32.reduceToInt] at w_4); (try simp only [okO, wi, Int32.lt_iff_toInt_lt, Int32.le_iff_toInt_le, ← Int32.toInt_inj, Int32.reduceToInt] at w_6); (try simp only [okO, wi, Int32.lt_iff_toInt_lt, Int32.le_iff_toInt_le, ← Int32.toInt_inj, Int32.reduceToInt] at w_8); (try simp only [okO, wi, Int32.lt_iff_toInt_lt, Int32.le_iff_toInt_le, ← Int32.toInt_inj, Int32.reduceToInt] at w_10); (try simp only [okO, wi, Int32.lt_iff_toInt_lt, Int32.le_iff_toInt_le, ← Int32.toInt_inj, Int32.reduceToInt] at w_12); (try simp only [okO, wi, Int32.lt_iff_toInt_lt, Int32.le_iff_toInt_le, ← Int32.toInt_inj, Int32.reduceToInt] at w_13); (try simp only [okO, wi, Int32.lt_iff_toInt_lt, Int32.le_iff_toInt_le, ← Int32.toInt_inj, Int32.reduceToInt] at w_14); (try simp only [okO, wi, Int32.lt_iff_toInt_lt, Int32.le_iff_toInt_le, ← Int32.toInt_inj, Int32.reduceToInt] at w_16); (try simp only [okO, wi, Int32.lt_iff_toInt_lt, Int32.le_iff_toInt_le, ← Int32.toInt_inj, Int32.reduceToInt] at w_18); (try simp only [okO, wi, Int32.lt_iff_toInt_lt, Int32.le_iff_toInt_le, ← Int32.toInt_inj, Int32.reduceToInt] at w_20); (try simp only [okO, wi, Int32.lt_iff_toInt_lt, Int32.le_iff_toInt_le, ← Int32.toInt_inj, Int32.reduceToInt]); omega))), ht⟩) (fun _ h => nomatch h) dX_isStep_101
  by_cases w_22 : k = 12
  · refine lv_tableIn (tgt := 93) hx hb dX_isStep_1 (by rw [w_22]; decide) (by rw [w_22]; decide) (by rw [w_22]; rfl) (by decide) ?_
    refine lv_iload_n hx hb dX_isStep_93 rfl (lv_at hl 2 rfl) ?_
    refine lv_bipush (v := 8) hx hb dX_isStep_94 (by decide +kernel) ?_
    refine lv_bipush (v := 31) hx hb dX_isStep_96 (by decide +kernel) ?_
    refine vp_callSi (va_Run.run (va_runS (As := [.int a, .int 8, .int 31]) (rest := []) ⟨hx, hb, hml, hown, hc⟩ (cX_isWithin l a 8 31) (va_cwS 3 hc (g_S w187 w188 w1 qX_isWithin) rfl rfl rfl (by decide +kernel) ⟨Nat.le_of_ble_eq_true rfl, Nat.le_of_ble_eq_true rfl⟩) ⟨tPre_blind, tPre_in⟩ rfl rfl hl.1 rfl (lv_room (Nat.le_of_ble_eq_true rfl)) dX_isStep_98 ⟨Nat.zero_le _, Nat.zero_le _⟩)) (fun r_24 hr_24 => ?_)
    exact W.zret (v := r_24) (ty := .boolean) hx hb hr (by rw [hr_24]; exact nar_b2 _) (fun t ht hW => ⟨_, rfl, (hr_24.trans (b2_c (by (try simp only [okO, wi, Int32.lt_iff_toInt_lt, Int32.le_iff_toInt_le, ← Int32.toInt_inj, Int32.reduceToInt] at w_0); (try simp only [okO, wi, Int32.lt_iff_toInt_lt, Int32.le_iff_toInt_le, ← Int32.toInt_inj, Int32.reduceToInt] at w_2); (try simp only [okO, wi, Int32.lt_iff_toInt_lt, Int32.le_iff_toInt_le, ← Int32.toInt_inj, Int32.reduceToInt] at w_4); (try simp only [okO, wi, Int32.lt_iff_toInt_lt, Int32.le_iff_toInt_le, ← Int32.toInt_inj, Int32.reduceToInt] at w_6); (try simp only [okO, wi, Int32.lt_iff_toInt_lt, Int32.le_iff_toInt_le, ← Int32.toInt_inj, Int32.reduceToInt] at w_8); (try simp only [okO, wi, Int32.lt_iff_toInt_lt, Int32.le_iff_toInt_le, ← Int32.toInt_inj, Int32.reduceToInt] at w_10); (try simp only [okO, wi, Int32.lt_iff_toInt_lt, Int32.le_iff_toInt_le, ← Int32.toInt_inj, Int32.reduceToInt] at w_12); (try simp only [okO, wi, Int32.lt_iff_toInt_lt, Int32.le_iff_toInt_le, ← Int32.toInt_inj, Int32.reduceToInt] at w_13); (try simp only [okO, wi, Int32.lt_iff_toInt_lt, Int32.le_iff_toInt_le, ← Int32.toInt_inj, Int32.reduceToInt] at w_14); (try simp only [okO, wi, Int32.lt_iff_toInt_lt, Int32.le_iff_toInt_le, ← Int32.toInt_inj, Int32.reduceToInt] at w_16); (try simp only [okO, wi, Int32.lt_iff_toInt_lt, Int32.le_iff_toInt_le, ← Int32.toInt_inj, Int32.reduceToInt] at w_18); (try simp only [okO, wi, Int32.lt_iff_toInt_lt, Int32.le_iff_toInt_le, ← Int32.toInt_inj, Int32.reduceToInt] at w_20); (try simp only [okO, wi, Int32.lt_iff_toInt_lt, Int32.le_iff_toInt_le, ← Int32.toInt_inj, Int32.reduceToInt] at w_22); (try simp only [okO, wi, Int32.lt_iff_toInt_lt, Int32.le_iff_toInt_le, ← Int32.toInt_inj, Int32.reduceToInt]); omega))), ht⟩) (fun _ h => nomatch h) dX_isStep_101
  by_cases w_24 : k = 13
  · refine lv_tableIn (tgt := 102) hx hb dX_isStep_1 (by rw [w_24]; decide) (by rw [w_24]; decide) (by rw [w_24]; rfl) (by decide) ?_
    refine lv_iload_n hx hb dX_isStep_102 rfl (lv_at hl 2 rfl) ?_
    refine vp_callSi (va_Run.run (va_runS (As := [.int a]) (rest := []) ⟨hx, hb, hml, hown, hc⟩ (cX_isRung l a) (va_cwS 1 hc (g_S w345 w346 w1 qX_isRung) rfl rfl rfl (by decide +kernel) ⟨Nat.le_of_ble_eq_true rfl, Nat.le_of_ble_eq_true rfl⟩) ⟨tPre_blind, tPre_in⟩ rfl rfl hl.1 rfl (lv_room (Nat.le_of_ble_eq_true rfl)) dX_isStep_103 ⟨Nat.zero_le _, Nat.zero_le _⟩)) (fun r_26 hr_26 => ?_)
    exact W.zret (v := r_26) (ty := .boolean) hx hb hr (by rw [hr_26]; exact nar_b2 _) (fun t ht hW => ⟨_, rfl, (hr_26.trans (b2_c (by (try simp only [okO, wi, Int32.lt_iff_toInt_lt, Int32.le_iff_toInt_le, ← Int32.toInt_inj, Int32.reduceToInt] at w_0); (try simp only [okO, wi, Int32.lt_iff_toInt_lt, Int32.le_iff_toInt_le, ← Int32.toInt_inj, Int32.reduceToInt] at w_2); (try simp only [okO, wi, Int32.lt_iff_toInt_lt, Int32.le_iff_toInt_le, ← Int32.toInt_inj, Int32.reduceToInt] at w_4); (try simp only [okO, wi, Int32.lt_iff_toInt_lt, Int32.le_iff_toInt_le, ← Int32.toInt_inj, Int32.reduceToInt] at w_6); (try simp only [okO, wi, Int32.lt_iff_toInt_lt, Int32.le_iff_toInt_le, ← Int32.toInt_inj, Int32.reduceToInt] at w_8); (try simp only [okO, wi, Int32.lt_iff_toInt_lt, Int32.le_iff_toInt_le, ← Int32.toInt_inj, Int32.reduceToInt] at w_10); (try simp only [okO, wi, Int32.lt_iff_toInt_lt, Int32.le_iff_toInt_le, ← Int32.toInt_inj, Int32.reduceToInt] at w_12); (try simp only [okO, wi, Int32.lt_iff_toInt_lt, Int32.le_iff_toInt_le, ← Int32.toInt_inj, Int32.reduceToInt] at w_13); (try simp only [okO, wi, Int32.lt_iff_toInt_lt, Int32.le_iff_toInt_le, ← Int32.toInt_inj, Int32.reduceToInt] at w_14); (try simp only [okO, wi, Int32.lt_iff_toInt_lt, Int32.le_iff_toInt_le, ← Int32.toInt_inj, Int32.reduceToInt] at w_16); (try simp only [okO, wi, Int32.lt_iff_toInt_lt, Int32.le_iff_toInt_le, ← Int32.toInt_inj, Int32.reduceToInt] at w_18); (try simp only [okO, wi, Int32.lt_iff_toInt_lt, Int32.le_iff_toInt_le, ← Int32.toInt_inj, Int32.reduceToInt] at w_20); (try simp only [okO, wi, Int32.lt_iff_toInt_lt, Int32.le_iff_toInt_le, ← Int32.toInt_inj, Int32.reduceToInt] at w_22); (try simp only [okO, wi, Int32.lt_iff_toInt_lt, Int32.le_iff_toInt_le, ← Int32.toInt_inj, Int32.reduceToInt] at w_24); (try simp only [okO, wi, Int32.lt_iff_toInt_lt, Int32.le_iff_toInt_le, ← Int32.toInt_inj, Int32.reduceToInt]); omega))), ht⟩) (fun _ h => nomatch h) dX_isStep_106
  have iw_0 : (k : Int32).toInt ≠ 0 := fun z => w_0 (Int32.toInt_inj.mp (by rw [z]; rfl))
  have iw_2 : (k : Int32).toInt ≠ 1 := fun z => w_2 (Int32.toInt_inj.mp (by rw [z]; rfl))
  have iw_4 : (k : Int32).toInt ≠ 2 := fun z => w_4 (Int32.toInt_inj.mp (by rw [z]; rfl))
  have iw_6 : (k : Int32).toInt ≠ 3 := fun z => w_6 (Int32.toInt_inj.mp (by rw [z]; rfl))
  have iw_8 : (k : Int32).toInt ≠ 4 := fun z => w_8 (Int32.toInt_inj.mp (by rw [z]; rfl))
  have iw_10 : (k : Int32).toInt ≠ 5 := fun z => w_10 (Int32.toInt_inj.mp (by rw [z]; rfl))
  have iw_12 : (k : Int32).toInt ≠ 6 := fun z => w_12 (Int32.toInt_inj.mp (by rw [z]; rfl))
  have iw_13 : (k : Int32).toInt ≠ 7 := fun z => w_13 (Int32.toInt_inj.mp (by rw [z]; rfl))
  have iw_14 : (k : Int32).toInt ≠ 8 := fun z => w_14 (Int32.toInt_inj.mp (by rw [z]; rfl))
  have iw_16 : (k : Int32).toInt ≠ 9 := fun z => w_16 (Int32.toInt_inj.mp (by rw [z]; rfl))
  have iw_18 : (k : Int32).toInt ≠ 10 := fun z => w_18 (Int32.toInt_inj.mp (by rw [z]; rfl))
  have iw_20 : (k : Int32).toInt ≠ 11 := fun z => w_20 (Int32.toInt_inj.mp (by rw [z]; rfl))
  have iw_22 : (k : Int32).toInt ≠ 12 := fun z => w_22 (Int32.toInt_inj.mp (by rw [z]; rfl))
  have iw_24 : (k : Int32).toInt ≠ 13 := fun z => w_24 (Int32.toInt_inj.mp (by rw [z]; rfl))
  refine lv_tableOut (tgt := 107) hx hb dX_isStep_1 (by omega) (by decide) ?_
  refine lv_iconst (v := 0) hx hb dX_isStep_107 (by decide +kernel) ?_
  exact W.zret (v := 0) (ty := .boolean) hx hb hr rfl (fun t ht hW => ⟨_, rfl, (b2_f (by (try simp only [okO, wi, Int32.lt_iff_toInt_lt, Int32.le_iff_toInt_le, ← Int32.toInt_inj, Int32.reduceToInt] at w_0); (try simp only [okO, wi, Int32.lt_iff_toInt_lt, Int32.le_iff_toInt_le, ← Int32.toInt_inj, Int32.reduceToInt] at w_2); (try simp only [okO, wi, Int32.lt_iff_toInt_lt, Int32.le_iff_toInt_le, ← Int32.toInt_inj, Int32.reduceToInt] at w_4); (try simp only [okO, wi, Int32.lt_iff_toInt_lt, Int32.le_iff_toInt_le, ← Int32.toInt_inj, Int32.reduceToInt] at w_6); (try simp only [okO, wi, Int32.lt_iff_toInt_lt, Int32.le_iff_toInt_le, ← Int32.toInt_inj, Int32.reduceToInt] at w_8); (try simp only [okO, wi, Int32.lt_iff_toInt_lt, Int32.le_iff_toInt_le, ← Int32.toInt_inj, Int32.reduceToInt] at w_10); (try simp only [okO, wi, Int32.lt_iff_toInt_lt, Int32.le_iff_toInt_le, ← Int32.toInt_inj, Int32.reduceToInt] at w_12); (try simp only [okO, wi, Int32.lt_iff_toInt_lt, Int32.le_iff_toInt_le, ← Int32.toInt_inj, Int32.reduceToInt] at w_13); (try simp only [okO, wi, Int32.lt_iff_toInt_lt, Int32.le_iff_toInt_le, ← Int32.toInt_inj, Int32.reduceToInt] at w_14); (try simp only [okO, wi, Int32.lt_iff_toInt_lt, Int32.le_iff_toInt_le, ← Int32.toInt_inj, Int32.reduceToInt] at w_16); (try simp only [okO, wi, Int32.lt_iff_toInt_lt, Int32.le_iff_toInt_le, ← Int32.toInt_inj, Int32.reduceToInt] at w_18); (try simp only [okO, wi, Int32.lt_iff_toInt_lt, Int32.le_iff_toInt_le, ← Int32.toInt_inj, Int32.reduceToInt] at w_20); (try simp only [okO, wi, Int32.lt_iff_toInt_lt, Int32.le_iff_toInt_le, ← Int32.toInt_inj, Int32.reduceToInt] at w_22); (try simp only [okO, wi, Int32.lt_iff_toInt_lt, Int32.le_iff_toInt_le, ← Int32.toInt_inj, Int32.reduceToInt] at w_24); (try simp only [okO, wi, Int32.lt_iff_toInt_lt, Int32.le_iff_toInt_le, ← Int32.toInt_inj, Int32.reduceToInt]); omega)).symm, ht⟩) (fun _ h => nomatch h) dX_isStep_108

set_option maxHeartbeats 4000000 in
set_option maxRecDepth 100000 in
theorem cMe_read (l : Launch) (dC : Nat → ClassId) (dI : Nat → Nat → Nat) (ad : Nat → Nat) (ca : Nat → ClassId) (sz : Nat) (S : Ss) (k : Nat) (hk : k < 32) : Met l yMe_read (kMe_read :: CW) ({ frames := 0, cells := 0, slots := 0, locals := 0 }) (va_Pc [.ref (ad 1), .int (nI k)] (gPre (dC, dI) (xT ca) (XW ad ca S) sz)) (vp_Si (fun r => r = rd S k)) 0 0 (fun _ => False) := by
  refine Met.ofW (cc := bMe_read) (maxL := 2) (ret := (some .int)) (by decide) rfl ?_
  intro p e s m args below meth c s₁ B hml hv
  obtain ⟨rfl, hsz, hP, hK, hD0⟩ := hv
  have hx := B.exec
  have hb := B.bytes
  have hr := B.returns
  have hts := atoms_spec (ws := kMe_read :: CW) B.pre
  have hc : ∀ w ∈ CW, w.before _ s = true := fun w h => hts w (List.mem_cons_of_mem _ h)
  have hown : s.vm.findClass RMe = some m.cls := findClass_of_methodNamed B.named
  have hlocks := B.notSynchronized
  subst hsz
  have hD := hD0
  have hl := lv_entry ([.ref (ad 1), .int (nI k)]) (n := 2) (Nat.le_of_ble_eq_true rfl)
  rw [lg_entry_eq]
  generalize (lg_sl ([.ref (ad 1), .int (nI k)]) ++ List.replicate (2 - (lg_sl ([.ref (ad 1), .int (nI k)])).length) Slot.unset).toArray = ls at hl ⊢
  have hl : lv_has ls 2 [(0, .ref (ad 1)), (1, .int (nI k))] := hl
  refine lv_aload_n hx hb dMe_read_0 rfl (lv_at hl 0 rfl) ?_
  refine va_get (D := (dC, dI)) (ci := 1) (v := .ref (ad 3)) (C := RMe) (T := TMe) (N := 5) hx hb hc inMe hown hK hP 1 rfl rfl 1 (by decide) (hc _ w31) (fun _ h9 => h9) rfl dMe_read_1 ?_
  refine lv_iload_n hx hb dMe_read_4 rfl (lv_at hl 1 rfl) ?_
  refine va_iald hx hb hK hP 3 1 rfl rfl (vp_in_nI (by omega) (by decide)) dMe_read_5 ?_
  refine lv_topi (fun v_1 ev_1 => ?_)
  rw [nI_clamp (by omega)] at ev_1
  subst v_1
  refine lv_iconst (v := (-1)) hx hb dMe_read_6 (by decide +kernel) ?_
  refine lv_icmp_ne (tgt := 19) hx hb dMe_read_7 (by decide) (fun c_1 => ?_) (fun c_1 => ?_)
  · refine lv_aload_n hx hb dMe_read_19 rfl (lv_at hl 0 rfl) ?_
    refine va_get (D := (dC, dI)) (ci := 1) (v := .ref (ad 3)) (C := RMe) (T := TMe) (N := 5) hx hb hc inMe hown hK hP 1 rfl rfl 1 (by decide) (hc _ w31) (fun _ h9 => h9) rfl dMe_read_20 ?_
    refine lv_iload_n hx hb dMe_read_23 rfl (lv_at hl 1 rfl) ?_
    refine va_iald hx hb hK hP 3 1 rfl rfl (vp_in_nI (by omega) (by decide)) dMe_read_24 ?_
    refine lv_topi (fun v_3 ev_3 => ?_)
    rw [nI_clamp (by omega)] at ev_3
    subst v_3
    exact W.iret (v := (S 2 k)) hx hb hr (fun t ht hW => ⟨_, rfl, (by unfold rd; first | rw [if_pos c_1] | rw [if_neg c_1]), ht⟩) (fun _ h => nomatch h) dMe_read_25
  · refine lv_aload_n hx hb dMe_read_10 rfl (lv_at hl 0 rfl) ?_
    refine va_get (D := (dC, dI)) (ci := 1) (v := .ref (ad 2)) (C := RMe) (T := TMe) (N := 5) hx hb hc inMe hown hK hP 1 rfl rfl 0 (by decide) (hc _ w30) (fun _ h9 => h9) rfl dMe_read_11 ?_
    refine lv_iload_n hx hb dMe_read_14 rfl (lv_at hl 1 rfl) ?_
    refine va_iald hx hb hK hP 2 0 rfl rfl (vp_in_nI (by omega) (by decide)) dMe_read_15 ?_
    refine lv_topi (fun v_4 ev_4 => ?_)
    rw [nI_clamp (by omega)] at ev_4
    subst v_4
    refine lv_goto (tgt := 25) hx hb dMe_read_16 (by decide) ?_
    exact W.iret (v := (S 1 k)) hx hb hr (fun t ht hW => ⟨_, rfl, (by unfold rd; first | rw [if_pos c_1] | rw [if_neg c_1]), ht⟩) (fun _ h => nomatch h) dMe_read_25

set_option maxHeartbeats 4000000 in
set_option maxRecDepth 100000 in
theorem cMe_isAbove (l : Launch) (dC : Nat → ClassId) (dI : Nat → Nat → Nat) (ad : Nat → Nat) (ca : Nat → ClassId) (sz : Nat) (S : Ss) (k j : Nat) (hk : k < 8) (hj : j < 8) : Met l yMe_isAbove (kMe_isAbove :: CW) ({ frames := 0, cells := 0, slots := 0, locals := 0 }) (va_Pc [.ref (ad 1), .int (nI k), .int (nI j)] (gPre (dC, dI) (xT ca) (XW ad ca S) sz)) (vp_Si (fun r => r = b2 (S 5 j < S 5 k))) 0 0 (fun _ => False) := by
  refine Met.ofW (cc := bMe_isAbove) (maxL := 3) (ret := (some .boolean)) (by decide) rfl ?_
  intro p e s m args below meth c s₁ B hml hv
  obtain ⟨rfl, hsz, hP, hK, hD0⟩ := hv
  have hx := B.exec
  have hb := B.bytes
  have hr := B.returns
  have hts := atoms_spec (ws := kMe_isAbove :: CW) B.pre
  have hc : ∀ w ∈ CW, w.before _ s = true := fun w h => hts w (List.mem_cons_of_mem _ h)
  have hown : s.vm.findClass RMe = some m.cls := findClass_of_methodNamed B.named
  have hlocks := B.notSynchronized
  subst hsz
  have hD := hD0
  have hl := lv_entry ([.ref (ad 1), .int (nI k), .int (nI j)]) (n := 3) (Nat.le_of_ble_eq_true rfl)
  rw [lg_entry_eq]
  generalize (lg_sl ([.ref (ad 1), .int (nI k), .int (nI j)]) ++ List.replicate (3 - (lg_sl ([.ref (ad 1), .int (nI k), .int (nI j)])).length) Slot.unset).toArray = ls at hl ⊢
  have hl : lv_has ls 3 [(0, .ref (ad 1)), (1, .int (nI k)), (2, .int (nI j))] := hl
  refine lv_aload_n hx hb dMe_isAbove_0 rfl (lv_at hl 0 rfl) ?_
  refine va_get (D := (dC, dI)) (ci := 1) (v := .ref (ad 6)) (C := RMe) (T := TMe) (N := 5) hx hb hc inMe hown hK hP 1 rfl rfl 4 (by decide) (hc _ w37) (fun _ h9 => h9) rfl dMe_isAbove_1 ?_
  refine lv_iload_n hx hb dMe_isAbove_4 rfl (lv_at hl 1 rfl) ?_
  refine va_iald hx hb hK hP 6 4 rfl rfl (vp_in_nI (by omega) (by decide)) dMe_isAbove_5 ?_
  refine lv_topi (fun v_1 ev_1 => ?_)
  rw [nI_clamp (by omega)] at ev_1
  subst v_1
  refine lv_aload_n hx hb dMe_isAbove_6 rfl (lv_at hl 0 rfl) ?_
  refine va_get (D := (dC, dI)) (ci := 1) (v := .ref (ad 6)) (C := RMe) (T := TMe) (N := 5) hx hb hc inMe hown hK hP 1 rfl rfl 4 (by decide) (hc _ w37) (fun _ h9 => h9) rfl dMe_isAbove_7 ?_
  refine lv_iload_n hx hb dMe_isAbove_10 rfl (lv_at hl 2 rfl) ?_
  refine va_iald hx hb hK hP 6 4 rfl rfl (vp_in_nI (by omega) (by decide)) dMe_isAbove_11 ?_
  refine lv_topi (fun v_2 ev_2 => ?_)
  rw [nI_clamp (by omega)] at ev_2
  subst v_2
  refine lv_icmp_le (tgt := 19) hx hb dMe_isAbove_12 (by decide) (fun c_2 => ?_) (fun c_2 => ?_)
  · refine lv_iconst (v := 0) hx hb dMe_isAbove_19 (by decide +kernel) ?_
    exact W.zret (v := 0) (ty := .boolean) hx hb hr rfl (fun t ht hW => ⟨_, rfl, (b2_f (by (try simp only [wi, Int32.lt_iff_toInt_lt, Int32.le_iff_toInt_le, ← Int32.toInt_inj, Int32.reduceToInt] at c_2); (try simp only [wi, Int32.lt_iff_toInt_lt, Int32.le_iff_toInt_le, ← Int32.toInt_inj, Int32.reduceToInt]); omega)).symm, ht⟩) (fun _ h => nomatch h) dMe_isAbove_20
  · refine lv_iconst (v := 1) hx hb dMe_isAbove_15 (by decide +kernel) ?_
    refine lv_goto (tgt := 20) hx hb dMe_isAbove_16 (by decide) ?_
    exact W.zret (v := 1) (ty := .boolean) hx hb hr rfl (fun t ht hW => ⟨_, rfl, (b2_t (by (try simp only [wi, Int32.lt_iff_toInt_lt, Int32.le_iff_toInt_le, ← Int32.toInt_inj, Int32.reduceToInt] at c_2); (try simp only [wi, Int32.lt_iff_toInt_lt, Int32.le_iff_toInt_le, ← Int32.toInt_inj, Int32.reduceToInt]); omega)).symm, ht⟩) (fun _ h => nomatch h) dMe_isAbove_20

set_option maxHeartbeats 4000000 in
set_option maxRecDepth 100000 in
theorem cLa_isFull (l : Launch) (dC : Nat → ClassId) (dI : Nat → Nat → Nat) (ad : Nat → Nat) (ca : Nat → ClassId) (sz : Nat) (S : Ss) (k : Nat) (hk : k < 12) : Met l yLa_isFull (kLa_isFull :: CW) ({ frames := 0, cells := 0, slots := 0, locals := 0 }) (va_Pc [.ref (ad 8), .int (nI k)] (gPre (dC, dI) (xT ca) (XW ad ca S) sz)) (vp_Si (fun r => r = b2 (10 ≤ S 8 k))) 0 0 (fun _ => False) := by
  refine Met.ofW (cc := bLa_isFull) (maxL := 2) (ret := (some .boolean)) (by decide) rfl ?_
  intro p e s m args below meth c s₁ B hml hv
  obtain ⟨rfl, hsz, hP, hK, hD0⟩ := hv
  have hx := B.exec
  have hb := B.bytes
  have hr := B.returns
  have hts := atoms_spec (ws := kLa_isFull :: CW) B.pre
  have hc : ∀ w ∈ CW, w.before _ s = true := fun w h => hts w (List.mem_cons_of_mem _ h)
  have hown : s.vm.findClass RLa = some m.cls := findClass_of_methodNamed B.named
  have hlocks := B.notSynchronized
  subst hsz
  have hD := hD0
  have hl := lv_entry ([.ref (ad 8), .int (nI k)]) (n := 2) (Nat.le_of_ble_eq_true rfl)
  rw [lg_entry_eq]
  generalize (lg_sl ([.ref (ad 8), .int (nI k)]) ++ List.replicate (2 - (lg_sl ([.ref (ad 8), .int (nI k)])).length) Slot.unset).toArray = ls at hl ⊢
  have hl : lv_has ls 2 [(0, .ref (ad 8)), (1, .int (nI k))] := hl
  refine lv_aload_n hx hb dLa_isFull_0 rfl (lv_at hl 0 rfl) ?_
  refine va_get (D := (dC, dI)) (ci := 3) (v := .ref (ad 11)) (C := RLa) (T := TLa) (N := 4) hx hb hc inLa hown hK hP 8 rfl rfl 2 (by decide) (hc _ w64) (fun _ h9 => h9) rfl dLa_isFull_1 ?_
  refine lv_iload_n hx hb dLa_isFull_4 rfl (lv_at hl 1 rfl) ?_
  refine va_iald hx hb hK hP 11 8 rfl rfl (vp_in_nI (by omega) (by decide)) dLa_isFull_5 ?_
  refine lv_topi (fun v_1 ev_1 => ?_)
  rw [nI_clamp (by omega)] at ev_1
  subst v_1
  refine lv_bipush (v := 10) hx hb dLa_isFull_6 (by decide +kernel) ?_
  refine lv_icmp_lt (tgt := 15) hx hb dLa_isFull_8 (by decide) (fun c_1 => ?_) (fun c_1 => ?_)
  · refine lv_iconst (v := 0) hx hb dLa_isFull_15 (by decide +kernel) ?_
    exact W.zret (v := 0) (ty := .boolean) hx hb hr rfl (fun t ht hW => ⟨_, rfl, (b2_f (by (try simp only [wi, Int32.lt_iff_toInt_lt, Int32.le_iff_toInt_le, ← Int32.toInt_inj, Int32.reduceToInt] at c_1); (try simp only [wi, Int32.lt_iff_toInt_lt, Int32.le_iff_toInt_le, ← Int32.toInt_inj, Int32.reduceToInt]); omega)).symm, ht⟩) (fun _ h => nomatch h) dLa_isFull_16
  · refine lv_iconst (v := 1) hx hb dLa_isFull_11 (by decide +kernel) ?_
    refine lv_goto (tgt := 16) hx hb dLa_isFull_12 (by decide) ?_
    exact W.zret (v := 1) (ty := .boolean) hx hb hr rfl (fun t ht hW => ⟨_, rfl, (b2_t (by (try simp only [wi, Int32.lt_iff_toInt_lt, Int32.le_iff_toInt_le, ← Int32.toInt_inj, Int32.reduceToInt] at c_1); (try simp only [wi, Int32.lt_iff_toInt_lt, Int32.le_iff_toInt_le, ← Int32.toInt_inj, Int32.reduceToInt]); omega)).symm, ht⟩) (fun _ h => nomatch h) dLa_isFull_16

set_option maxHeartbeats 4000000 in
set_option maxRecDepth 100000 in
theorem cLa_size (l : Launch) (dC : Nat → ClassId) (dI : Nat → Nat → Nat) (ad : Nat → Nat) (ca : Nat → ClassId) (sz : Nat) (S : Ss) : Met l yLa_size (kLa_size :: CW) ({ frames := 0, cells := 0, slots := 0, locals := 0 }) (va_Pc [.ref (ad 13)] (gPre (dC, dI) (xT ca) (XW ad ca S) sz)) (vp_Si (fun r => r = sumN (S 12) 0 12)) 0 0 (fun _ => False) := by
  refine Met.ofW (cc := bLa_size) (maxL := 3) (ret := (some .int)) (by decide) rfl ?_
  intro p e s m args below meth c s₁ B hml hv
  obtain ⟨rfl, hsz, hP, hK, hD0⟩ := hv
  have hx := B.exec
  have hb := B.bytes
  have hr := B.returns
  have hts := atoms_spec (ws := kLa_size :: CW) B.pre
  have hc : ∀ w ∈ CW, w.before _ s = true := fun w h => hts w (List.mem_cons_of_mem _ h)
  have hown : s.vm.findClass RLa = some m.cls := findClass_of_methodNamed B.named
  have hlocks := B.notSynchronized
  subst hsz
  have hD := hD0
  have hl := lv_entry ([.ref (ad 13)]) (n := 3) (Nat.le_of_ble_eq_true rfl)
  rw [lg_entry_eq]
  generalize (lg_sl ([.ref (ad 13)]) ++ List.replicate (3 - (lg_sl ([.ref (ad 13)])).length) Slot.unset).toArray = ls at hl ⊢
  have hl : lv_has ls 3 [(0, .ref (ad 13))] := hl
  refine lv_iconst (v := 0) hx hb dLa_size_0 (by decide +kernel) ?_
  refine lv_istore_n (lv' := [(1, .int 0), (0, .ref (ad 13))]) hx hb dLa_size_1 rfl hl (by decide) rfl (fun ls hl => ?_)
  refine lv_iconst (v := 0) hx hb dLa_size_2 (by decide +kernel) ?_
  refine lv_istore_n (lv' := [(2, .int 0), (1, .int 0), (0, .ref (ad 13))]) hx hb dLa_size_3 rfl hl (by decide) rfl (fun ls hl => ?_)
  refine g_loop (fun n H locs ls => H = s.heap ∧ locs = [] ∧ ∃ (i : Nat), ∃ (v : Int32), n = 12 - i ∧ i ≤ 12 ∧ v = sumN (S 12) 0 i ∧ lv_has ls 3 [(0, .ref (ad 13)), (1, .int v), (2, .int (nI i))]) ?_ _ _ _ _ ⟨rfl, rfl, 0, 0, rfl, Nat.zero_le _, rfl, lv_sub hl [2, 1, 0] rfl⟩
  rintro n _ _ ls ⟨rfl, rfl, i, v, en_4, hi, ev, hl⟩ ih_4
  refine lv_iload_n hx hb dLa_size_4 rfl (lv_at hl 2 rfl) ?_
  refine lv_bipush (v := 12) hx hb dLa_size_5 (by decide +kernel) ?_
  refine lv_icmp_ge (tgt := 25) hx hb dLa_size_7 (by decide) (fun c_0 => ?_) (fun c_0 => ?_)
  · have p_7 : 12 ≤ i := (nI_leI (a := 12) (b := i) (by omega) (by omega)).mp c_0
    refine lv_iload_n hx hb dLa_size_25 rfl (lv_at hl 1 rfl) ?_
    exact W.iret (v := v) hx hb hr (fun t ht hW => ⟨_, rfl, (by rw [ev, show i = 12 by omega]), ht⟩) (fun _ h => nomatch h) dLa_size_26
  · have p_7 : i < 12 := by have := mt (nI_leI (a := 12) (b := i) (by omega) (by omega)).mpr c_0; omega
    refine lv_iload_n hx hb dLa_size_10 rfl (lv_at hl 1 rfl) ?_
    refine lv_aload_n hx hb dLa_size_11 rfl (lv_at hl 0 rfl) ?_
    refine va_get (D := (dC, dI)) (ci := 3) (v := .ref (ad 16)) (C := RLa) (T := TLa) (N := 4) hx hb hc inLa hown hK hP 13 rfl rfl 2 (by decide) (hc _ w64) (fun _ h9 => h9) rfl dLa_size_12 ?_
    refine lv_iload_n hx hb dLa_size_15 rfl (lv_at hl 2 rfl) ?_
    refine va_iald hx hb hK hP 16 12 rfl rfl (vp_in_nI (by omega) (by decide)) dLa_size_16 ?_
    refine lv_topi (fun v_2 ev_2 => ?_)
    rw [nI_clamp (by omega)] at ev_2
    subst v_2
    refine lv_iadd hx hb dLa_size_17 ?_
    refine lv_topi (fun v_3 ev_3 => ?_)
    refine lv_istore_n (lv' := [(1, .int v_3), (0, .ref (ad 13)), (2, .int (nI i))]) hx hb dLa_size_18 rfl hl (by decide) rfl (fun ls hl => ?_)
    obtain ⟨v_4, ev_4⟩ : ∃ y : Int32, y = (nI i) + 1 := ⟨_, rfl⟩
    refine lv_iinc (v := v_4) (lv' := [(2, .int v_4), (1, .int v_3), (0, .ref (ad 13))]) hx hb dLa_size_19 hl (k := 2) rfl (by rw [ev_4]; rfl) (by decide) rfl (fun ls hl => ?_)
    refine lv_goto (tgt := 4) hx hb dLa_size_22 (by decide) ?_
    have gv_4 : v_4 = nI (i + 1) := (by rw [ev_4]; exact nI_1 i)
    clear ev_4
    subst v_4
    exact ih_4 _ _ _ _ (by omega) ⟨rfl, rfl, (i + 1), v_3, rfl, (by omega), (by rw [ev_3, ev]; show _ = sumN (S 12) 0 i + S 12 (0 + i); rw [Nat.zero_add]), lv_sub hl [2, 1, 0] rfl⟩

set_option maxHeartbeats 4000000 in
set_option maxRecDepth 100000 in
theorem cMe_keptOnes (l : Launch) (dC : Nat → ClassId) (dI : Nat → Nat → Nat) (ad : Nat → Nat) (ca : Nat → ClassId) (sz : Nat) (S : Ss) : Met l yMe_keptOnes (kMe_keptOnes :: CW) ({ frames := 0, cells := 0, slots := 0, locals := 0 }) (va_Pc [.ref (ad 1)] (gPre (dC, dI) (xT ca) (XW ad ca S) sz)) (vp_Si (fun r => r = sumN (S 1) 24 8)) 0 0 (fun _ => False) := by
  refine Met.ofW (cc := bMe_keptOnes) (maxL := 3) (ret := (some .int)) (by decide) rfl ?_
  intro p e s m args below meth c s₁ B hml hv
  obtain ⟨rfl, hsz, hP, hK, hD0⟩ := hv
  have hx := B.exec
  have hb := B.bytes
  have hr := B.returns
  have hts := atoms_spec (ws := kMe_keptOnes :: CW) B.pre
  have hc : ∀ w ∈ CW, w.before _ s = true := fun w h => hts w (List.mem_cons_of_mem _ h)
  have hown : s.vm.findClass RMe = some m.cls := findClass_of_methodNamed B.named
  have hlocks := B.notSynchronized
  subst hsz
  have hD := hD0
  have hl := lv_entry ([.ref (ad 1)]) (n := 3) (Nat.le_of_ble_eq_true rfl)
  rw [lg_entry_eq]
  generalize (lg_sl ([.ref (ad 1)]) ++ List.replicate (3 - (lg_sl ([.ref (ad 1)])).length) Slot.unset).toArray = ls at hl ⊢
  have hl : lv_has ls 3 [(0, .ref (ad 1))] := hl
  refine lv_iconst (v := 0) hx hb dMe_keptOnes_0 (by decide +kernel) ?_
  refine lv_istore_n (lv' := [(1, .int 0), (0, .ref (ad 1))]) hx hb dMe_keptOnes_1 rfl hl (by decide) rfl (fun ls hl => ?_)
  refine lv_bipush (v := 24) hx hb dMe_keptOnes_2 (by decide +kernel) ?_
  refine lv_istore_n (lv' := [(2, .int 24), (1, .int 0), (0, .ref (ad 1))]) hx hb dMe_keptOnes_4 rfl hl (by decide) rfl (fun ls hl => ?_)
  refine g_loop (fun n H locs ls => H = s.heap ∧ locs = [] ∧ ∃ (i : Nat), ∃ (v : Int32), n = 8 - i ∧ i ≤ 8 ∧ v = sumN (S 1) 24 i ∧ lv_has ls 3 [(0, .ref (ad 1)), (1, .int v), (2, .int (nI (24 + i)))]) ?_ _ _ _ _ ⟨rfl, rfl, 0, 0, rfl, Nat.zero_le _, rfl, lv_sub hl [2, 1, 0] rfl⟩
  rintro n _ _ ls ⟨rfl, rfl, i, v, en_5, hi, ev, hl⟩ ih_5
  refine lv_iload_n hx hb dMe_keptOnes_5 rfl (lv_at hl 2 rfl) ?_
  refine lv_bipush (v := 32) hx hb dMe_keptOnes_6 (by decide +kernel) ?_
  refine lv_icmp_ge (tgt := 26) hx hb dMe_keptOnes_8 (by decide) (fun c_0 => ?_) (fun c_0 => ?_)
  · have p_8 : 32 ≤ (24 + i) := (nI_leI (a := 32) (b := (24 + i)) (by omega) (by omega)).mp c_0
    refine lv_iload_n hx hb dMe_keptOnes_26 rfl (lv_at hl 1 rfl) ?_
    exact W.iret (v := v) hx hb hr (fun t ht hW => ⟨_, rfl, (by rw [ev, show i = 8 by omega]), ht⟩) (fun _ h => nomatch h) dMe_keptOnes_27
  · have p_8 : (24 + i) < 32 := by have := mt (nI_leI (a := 32) (b := (24 + i)) (by omega) (by omega)).mpr c_0; omega
    refine lv_iload_n hx hb dMe_keptOnes_11 rfl (lv_at hl 1 rfl) ?_
    refine lv_aload_n hx hb dMe_keptOnes_12 rfl (lv_at hl 0 rfl) ?_
    refine va_get (D := (dC, dI)) (ci := 1) (v := .ref (ad 2)) (C := RMe) (T := TMe) (N := 5) hx hb hc inMe hown hK hP 1 rfl rfl 0 (by decide) (hc _ w30) (fun _ h9 => h9) rfl dMe_keptOnes_13 ?_
    refine lv_iload_n hx hb dMe_keptOnes_16 rfl (lv_at hl 2 rfl) ?_
    refine va_iald hx hb hK hP 2 0 rfl rfl (vp_in_nI (by omega) (by decide)) dMe_keptOnes_17 ?_
    refine lv_topi (fun v_2 ev_2 => ?_)
    rw [nI_clamp (by omega)] at ev_2
    subst v_2
    refine lv_iadd hx hb dMe_keptOnes_18 ?_
    refine lv_topi (fun v_3 ev_3 => ?_)
    refine lv_istore_n (lv' := [(1, .int v_3), (0, .ref (ad 1)), (2, .int (nI (24 + i)))]) hx hb dMe_keptOnes_19 rfl hl (by decide) rfl (fun ls hl => ?_)
    obtain ⟨v_4, ev_4⟩ : ∃ y : Int32, y = (nI (24 + i)) + 1 := ⟨_, rfl⟩
    refine lv_iinc (v := v_4) (lv' := [(2, .int v_4), (1, .int v_3), (0, .ref (ad 1))]) hx hb dMe_keptOnes_20 hl (k := 2) rfl (by rw [ev_4]; rfl) (by decide) rfl (fun ls hl => ?_)
    refine lv_goto (tgt := 5) hx hb dMe_keptOnes_23 (by decide) ?_
    have gv_4 : v_4 = nI (24 + (i + 1)) := (by rw [ev_4]; exact nI_1 (24 + i))
    clear ev_4
    subst v_4
    exact ih_5 _ _ _ _ (by omega) ⟨rfl, rfl, (i + 1), v_3, rfl, (by omega), (by rw [ev_3, ev]; rfl), lv_sub hl [2, 1, 0] rfl⟩

set_option maxHeartbeats 4000000 in
set_option maxRecDepth 100000 in
theorem cMe_forcedBits (l : Launch) (dC : Nat → ClassId) (dI : Nat → Nat → Nat) (ad : Nat → Nat) (ca : Nat → ClassId) (sz : Nat) (S : Ss) : Met l yMe_forcedBits (kMe_forcedBits :: CW) ({ frames := 0, cells := 0, slots := 0, locals := 0 }) (va_Pc [.ref (ad 1)] (gPre (dC, dI) (xT ca) (XW ad ca S) sz)) (vp_Si (fun r => r = cntF (S 2) 32)) 0 0 (fun _ => False) := by
  refine Met.ofW (cc := bMe_forcedBits) (maxL := 3) (ret := (some .int)) (by decide) rfl ?_
  intro p e s m args below meth c s₁ B hml hv
  obtain ⟨rfl, hsz, hP, hK, hD0⟩ := hv
  have hx := B.exec
  have hb := B.bytes
  have hr := B.returns
  have hts := atoms_spec (ws := kMe_forcedBits :: CW) B.pre
  have hc : ∀ w ∈ CW, w.before _ s = true := fun w h => hts w (List.mem_cons_of_mem _ h)
  have hown : s.vm.findClass RMe = some m.cls := findClass_of_methodNamed B.named
  have hlocks := B.notSynchronized
  subst hsz
  have hD := hD0
  have hl := lv_entry ([.ref (ad 1)]) (n := 3) (Nat.le_of_ble_eq_true rfl)
  rw [lg_entry_eq]
  generalize (lg_sl ([.ref (ad 1)]) ++ List.replicate (3 - (lg_sl ([.ref (ad 1)])).length) Slot.unset).toArray = ls at hl ⊢
  have hl : lv_has ls 3 [(0, .ref (ad 1))] := hl
  refine lv_iconst (v := 0) hx hb dMe_forcedBits_0 (by decide +kernel) ?_
  refine lv_istore_n (lv' := [(1, .int 0), (0, .ref (ad 1))]) hx hb dMe_forcedBits_1 rfl hl (by decide) rfl (fun ls hl => ?_)
  refine lv_iconst (v := 0) hx hb dMe_forcedBits_2 (by decide +kernel) ?_
  refine lv_istore_n (lv' := [(2, .int 0), (1, .int 0), (0, .ref (ad 1))]) hx hb dMe_forcedBits_3 rfl hl (by decide) rfl (fun ls hl => ?_)
  refine g_loop (fun n H locs ls => H = s.heap ∧ locs = [] ∧ ∃ (i : Nat), ∃ (v : Int32), n = 32 - i ∧ i ≤ 32 ∧ v = cntF (S 2) i ∧ lv_has ls 3 [(0, .ref (ad 1)), (1, .int v), (2, .int (nI i))]) ?_ _ _ _ _ ⟨rfl, rfl, 0, 0, rfl, Nat.zero_le _, rfl, lv_sub hl [2, 1, 0] rfl⟩
  rintro n _ _ ls ⟨rfl, rfl, i, v, en_4, hi, ev, hl⟩ ih_4
  refine lv_iload_n hx hb dMe_forcedBits_4 rfl (lv_at hl 2 rfl) ?_
  refine lv_bipush (v := 32) hx hb dMe_forcedBits_5 (by decide +kernel) ?_
  refine lv_icmp_ge (tgt := 29) hx hb dMe_forcedBits_7 (by decide) (fun c_0 => ?_) (fun c_0 => ?_)
  · have p_7 : 32 ≤ i := (nI_leI (a := 32) (b := i) (by omega) (by omega)).mp c_0
    refine lv_iload_n hx hb dMe_forcedBits_29 rfl (lv_at hl 1 rfl) ?_
    exact W.iret (v := v) hx hb hr (fun t ht hW => ⟨_, rfl, (by rw [ev, show i = 32 by omega]), ht⟩) (fun _ h => nomatch h) dMe_forcedBits_30
  · have p_7 : i < 32 := by have := mt (nI_leI (a := 32) (b := i) (by omega) (by omega)).mpr c_0; omega
    refine lv_aload_n hx hb dMe_forcedBits_10 rfl (lv_at hl 0 rfl) ?_
    refine va_get (D := (dC, dI)) (ci := 1) (v := .ref (ad 3)) (C := RMe) (T := TMe) (N := 5) hx hb hc inMe hown hK hP 1 rfl rfl 1 (by decide) (hc _ w31) (fun _ h9 => h9) rfl dMe_forcedBits_11 ?_
    refine lv_iload_n hx hb dMe_forcedBits_14 rfl (lv_at hl 2 rfl) ?_
    refine va_iald hx hb hK hP 3 1 rfl rfl (vp_in_nI (by omega) (by decide)) dMe_forcedBits_15 ?_
    refine lv_topi (fun v_2 ev_2 => ?_)
    rw [nI_clamp (by omega)] at ev_2
    subst v_2
    refine lv_iconst (v := (-1)) hx hb dMe_forcedBits_16 (by decide +kernel) ?_
    refine lv_icmp_eq (tgt := 23) hx hb dMe_forcedBits_17 (by decide) (fun c_2 => ?_) (fun c_2 => ?_)
    · obtain ⟨v_4, ev_4⟩ : ∃ y : Int32, y = (nI i) + 1 := ⟨_, rfl⟩
      refine lv_iinc (v := v_4) (lv' := [(2, .int v_4), (0, .ref (ad 1)), (1, .int v)]) hx hb dMe_forcedBits_23 hl (k := 2) rfl (by rw [ev_4]; rfl) (by decide) rfl (fun ls hl => ?_)
      refine lv_goto (tgt := 4) hx hb dMe_forcedBits_26 (by decide) ?_
      have gv_4 : v_4 = nI (i + 1) := (by rw [ev_4]; exact nI_1 i)
      clear ev_4
      subst v_4
      exact ih_4 _ _ _ _ (by omega) ⟨rfl, rfl, (i + 1), v, rfl, (by omega), (by show _ = if S 2 i = -1 then cntF (S 2) i else cntF (S 2) i + 1; first | rw [if_pos c_2]; exact ev | rw [if_neg c_2, ev, ev]), lv_sub hl [1, 2, 0] rfl⟩
    · obtain ⟨v_5, ev_5⟩ : ∃ y : Int32, y = v + 1 := ⟨_, rfl⟩
      refine lv_iinc (v := v_5) (lv' := [(1, .int v_5), (0, .ref (ad 1)), (2, .int (nI i))]) hx hb dMe_forcedBits_20 hl (k := 1) rfl (by rw [ev_5]; rfl) (by decide) rfl (fun ls hl => ?_)
      obtain ⟨v_6, ev_6⟩ : ∃ y : Int32, y = (nI i) + 1 := ⟨_, rfl⟩
      refine lv_iinc (v := v_6) (lv' := [(2, .int v_6), (1, .int v_5), (0, .ref (ad 1))]) hx hb dMe_forcedBits_23 hl (k := 2) rfl (by rw [ev_6]; rfl) (by decide) rfl (fun ls hl => ?_)
      refine lv_goto (tgt := 4) hx hb dMe_forcedBits_26 (by decide) ?_
      have gv_6 : v_6 = nI (i + 1) := (by rw [ev_6]; exact nI_1 i)
      clear ev_6
      subst v_6
      exact ih_4 _ _ _ _ (by omega) ⟨rfl, rfl, (i + 1), v_5, rfl, (by omega), (by show _ = if S 2 i = -1 then cntF (S 2) i else cntF (S 2) i + 1; first | rw [if_pos c_2]; exact ev | rw [if_neg c_2, ev_5, ev]), lv_sub hl [2, 1, 0] rfl⟩

set_option maxHeartbeats 4000000 in
set_option maxRecDepth 100000 in
theorem cLa_stackAllows (l : Launch) (dC : Nat → ClassId) (dI : Nat → Nat → Nat) (ad : Nat → Nat) (ca : Nat → ClassId) (sz : Nat) (S : Ss) (k : Nat) (a : Int32) (hk : k < 12) : Met l yLa_stackAllows (kLa_stackAllows :: CW) ({ frames := 2, cells := 0, slots := 0, locals := 40 }) (va_Pc [.ref (ad 8), .int (nI k), .int a] (gPre (dC, dI) (xT ca) (XW ad ca S) sz)) (vp_Si (fun r => r = b2 ((if psh a then 0 else if jns a then 2 else 1) ≤ S 9 k ∧ S 9 k + (if psh a then 1 else if jns a then -1 else 0) ≤ 4))) 0 0 (fun _ => False) := by
  refine Met.ofW (cc := bLa_stackAllows) (maxL := 3) (ret := (some .boolean)) (by decide) rfl ?_
  intro p e s m args below meth c s₁ B hml hv
  obtain ⟨rfl, hsz, hP, hK, hD0⟩ := hv
  have hx := B.exec
  have hb := B.bytes
  have hr := B.returns
  have hts := atoms_spec (ws := kLa_stackAllows :: CW) B.pre
  have hc : ∀ w ∈ CW, w.before _ s = true := fun w h => hts w (List.mem_cons_of_mem _ h)
  have hown : s.vm.findClass RLa = some m.cls := findClass_of_methodNamed B.named
  have hlocks := B.notSynchronized
  subst hsz
  have hD := hD0
  have hl := lv_entry ([.ref (ad 8), .int (nI k), .int a]) (n := 3) (Nat.le_of_ble_eq_true rfl)
  rw [lg_entry_eq]
  generalize (lg_sl ([.ref (ad 8), .int (nI k), .int a]) ++ List.replicate (3 - (lg_sl ([.ref (ad 8), .int (nI k), .int a])).length) Slot.unset).toArray = ls at hl ⊢
  have hl : lv_has ls 3 [(0, .ref (ad 8)), (1, .int (nI k)), (2, .int a)] := hl
  refine lv_aload_n hx hb dLa_stackAllows_0 rfl (lv_at hl 0 rfl) ?_
  refine va_get (D := (dC, dI)) (ci := 3) (v := .ref (ad 12)) (C := RLa) (T := TLa) (N := 4) hx hb hc inLa hown hK hP 8 rfl rfl 3 (by decide) (hc _ w66) (fun _ h9 => h9) rfl dLa_stackAllows_1 ?_
  refine lv_iload_n hx hb dLa_stackAllows_4 rfl (lv_at hl 1 rfl) ?_
  refine va_iald hx hb hK hP 12 9 rfl rfl (vp_in_nI (by omega) (by decide)) dLa_stackAllows_5 ?_
  refine lv_topi (fun v_1 ev_1 => ?_)
  rw [nI_clamp (by omega)] at ev_1
  subst v_1
  refine lv_iload_n hx hb dLa_stackAllows_6 rfl (lv_at hl 2 rfl) ?_
  refine vp_callSi (va_Run.run (va_runS (As := [.int a]) (rest := [.int (S 9 k)]) ⟨hx, hb, hml, hown, hc⟩ (cLa_needed l a) (va_cwS 1 hc (g_S w356 w357 w3 qLa_needed) rfl rfl rfl (by decide +kernel) ⟨Nat.le_of_ble_eq_true rfl, Nat.le_of_ble_eq_true rfl⟩) ⟨tPre_blind, tPre_in⟩ rfl rfl hl.1 rfl (lv_room (Nat.le_of_ble_eq_true rfl)) dLa_stackAllows_7 ⟨Nat.zero_le _, Nat.zero_le _⟩)) (fun r_2 hr_2 => ?_)
  refine lv_icmp_lt (tgt := 32) hx hb dLa_stackAllows_10 (by decide) (fun c_2 => ?_) (fun c_2 => ?_)
  · refine lv_iconst (v := 0) hx hb dLa_stackAllows_32 (by decide +kernel) ?_
    exact W.zret (v := 0) (ty := .boolean) hx hb hr rfl (fun t ht hW => ⟨_, rfl, (b2_f (fun h => by rw [← hr_2] at h; exact Int32.not_lt.mpr h.1 c_2)).symm, ht⟩) (fun _ h => nomatch h) dLa_stackAllows_33
  · refine lv_aload_n hx hb dLa_stackAllows_13 rfl (lv_at hl 0 rfl) ?_
    refine va_get (D := (dC, dI)) (ci := 3) (v := .ref (ad 12)) (C := RLa) (T := TLa) (N := 4) hx hb hc inLa hown hK hP 8 rfl rfl 3 (by decide) (hc _ w66) (fun _ h9 => h9) rfl dLa_stackAllows_14 ?_
    refine lv_iload_n hx hb dLa_stackAllows_17 rfl (lv_at hl 1 rfl) ?_
    refine va_iald hx hb hK hP 12 9 rfl rfl (vp_in_nI (by omega) (by decide)) dLa_stackAllows_18 ?_
    refine lv_topi (fun v_4 ev_4 => ?_)
    rw [nI_clamp (by omega)] at ev_4
    subst v_4
    refine lv_iload_n hx hb dLa_stackAllows_19 rfl (lv_at hl 2 rfl) ?_
    refine vp_callSi (va_Run.run (va_runS (As := [.int a]) (rest := [.int (S 9 k)]) ⟨hx, hb, hml, hown, hc⟩ (cLa_growth l a) (va_cwS 1 hc (g_S w365 w366 w3 qLa_growth) rfl rfl rfl (by decide +kernel) ⟨Nat.le_of_ble_eq_true rfl, Nat.le_of_ble_eq_true rfl⟩) ⟨tPre_blind, tPre_in⟩ rfl rfl hl.1 rfl (lv_room (Nat.le_of_ble_eq_true rfl)) dLa_stackAllows_20 ⟨Nat.zero_le _, Nat.zero_le _⟩)) (fun r_5 hr_5 => ?_)
    refine lv_iadd hx hb dLa_stackAllows_23 ?_
    refine lv_iconst (v := 4) hx hb dLa_stackAllows_24 (by decide +kernel) ?_
    refine lv_icmp_gt (tgt := 32) hx hb dLa_stackAllows_25 (by decide) (fun c_5 => ?_) (fun c_5 => ?_)
    · refine lv_iconst (v := 0) hx hb dLa_stackAllows_32 (by decide +kernel) ?_
      exact W.zret (v := 0) (ty := .boolean) hx hb hr rfl (fun t ht hW => ⟨_, rfl, (b2_f (fun h => by rw [← hr_5] at h; exact Int32.not_lt.mpr h.2 c_5)).symm, ht⟩) (fun _ h => nomatch h) dLa_stackAllows_33
    · refine lv_iconst (v := 1) hx hb dLa_stackAllows_28 (by decide +kernel) ?_
      refine lv_goto (tgt := 33) hx hb dLa_stackAllows_29 (by decide) ?_
      exact W.zret (v := 1) (ty := .boolean) hx hb hr rfl (fun t ht hW => ⟨_, rfl, (b2_t ⟨by rw [← hr_2]; exact Int32.not_lt.mp c_2, by rw [← hr_5]; exact Int32.not_lt.mp c_5⟩).symm, ht⟩) (fun _ h => nomatch h) dLa_stackAllows_33

set_option maxHeartbeats 4000000 in
set_option maxRecDepth 100000 in
theorem cBl_failsWith (l : Launch) (dC : Nat → ClassId) (dI : Nat → Nat → Nat) (ad : Nat → Nat) (ca : Nat → ClassId) (sz : Nat) (S : Ss) (j : Nat) (hj : j < 10) (x : Int32) : Met l yBl_failsWith (kBl_failsWith :: CW) ({ frames := 0, cells := 0, slots := 0, locals := 0 }) (va_Pc [.ref (ad (18 + j)), .int x] (gPre (dC, dI) (xT ca) (XW ad ca S) sz)) (vp_Si (fun r => r = b2 (failB S j x))) 0 0 (fun _ => False) := by
  refine Met.ofW (cc := bBl_failsWith) (maxL := 2) (ret := (some .boolean)) (by decide) rfl ?_
  intro p e s m args below meth c s₁ B hml hv
  obtain ⟨rfl, hsz, hP, hK, hD0⟩ := hv
  have hx := B.exec
  have hb := B.bytes
  have hr := B.returns
  have hts := atoms_spec (ws := kBl_failsWith :: CW) B.pre
  have hc : ∀ w ∈ CW, w.before _ s = true := fun w h => hts w (List.mem_cons_of_mem _ h)
  have hown : s.vm.findClass RBl = some m.cls := findClass_of_methodNamed B.named
  have hlocks := B.notSynchronized
  subst hsz
  have hD := hD0
  have hl := lv_entry ([.ref (ad (18 + j)), .int x]) (n := 2) (Nat.le_of_ble_eq_true rfl)
  rw [lg_entry_eq]
  generalize (lg_sl ([.ref (ad (18 + j)), .int x]) ++ List.replicate (2 - (lg_sl ([.ref (ad (18 + j)), .int x])).length) Slot.unset).toArray = ls at hl ⊢
  have hl : lv_has ls 2 [(0, .ref (ad (18 + j))), (1, .int x)] := hl
  refine lv_aload_n hx hb dBl_failsWith_0 rfl (lv_at hl 0 rfl) ?_
  refine va_get (D := (dC, dI)) (ci := 2) (v := .int (S 14 j)) (C := RBl) (T := TBl) (N := 8) hx hb hc inBl hown hK hP (18 + j) (xb_cell (by omega)) rfl 0 (by decide) (hc _ w81) (fun _ h9 => h9) rfl dBl_failsWith_1 ?_
  refine lv_bipush (v := 6) hx hb dBl_failsWith_4 (by decide +kernel) ?_
  refine lv_icmp_ne (tgt := 25) hx hb dBl_failsWith_6 (by decide) (fun c_0 => ?_) (fun c_0 => ?_)
  · refine lv_iconst (v := 0) hx hb dBl_failsWith_25 (by decide +kernel) ?_
    exact W.zret (v := 0) (ty := .boolean) hx hb hr rfl (fun t ht hW => ⟨_, rfl, (b2_f (by (try simp only [failB, Int32.lt_iff_toInt_lt, Int32.le_iff_toInt_le, ← Int32.toInt_inj, Int32.reduceToInt] at c_0); (try simp only [failB, Int32.lt_iff_toInt_lt, Int32.le_iff_toInt_le, ← Int32.toInt_inj, Int32.reduceToInt]); omega)).symm, ht⟩) (fun _ h => nomatch h) dBl_failsWith_26
  · refine lv_iload_n hx hb dBl_failsWith_9 rfl (lv_at hl 1 rfl) ?_
    refine lv_iconst (v := 1) hx hb dBl_failsWith_10 (by decide +kernel) ?_
    refine lv_icmp_ne (tgt := 25) hx hb dBl_failsWith_11 (by decide) (fun c_1 => ?_) (fun c_1 => ?_)
    · refine lv_iconst (v := 0) hx hb dBl_failsWith_25 (by decide +kernel) ?_
      exact W.zret (v := 0) (ty := .boolean) hx hb hr rfl (fun t ht hW => ⟨_, rfl, (b2_f (by (try simp only [failB, Int32.lt_iff_toInt_lt, Int32.le_iff_toInt_le, ← Int32.toInt_inj, Int32.reduceToInt] at c_0); (try simp only [failB, Int32.lt_iff_toInt_lt, Int32.le_iff_toInt_le, ← Int32.toInt_inj, Int32.reduceToInt] at c_1); (try simp only [failB, Int32.lt_iff_toInt_lt, Int32.le_iff_toInt_le, ← Int32.toInt_inj, Int32.reduceToInt]); omega)).symm, ht⟩) (fun _ h => nomatch h) dBl_failsWith_26
    · refine lv_aload_n hx hb dBl_failsWith_14 rfl (lv_at hl 0 rfl) ?_
      refine va_get (D := (dC, dI)) (ci := 2) (v := .int (S 17 j)) (C := RBl) (T := TBl) (N := 8) hx hb hc inBl hown hK hP (18 + j) (xb_cell (by omega)) rfl 3 (by decide) (hc _ w85) (fun _ h9 => h9) rfl dBl_failsWith_15 ?_
      refine lv_if_ne (tgt := 25) hx hb dBl_failsWith_18 (by decide) (fun c_2 => ?_) (fun c_2 => ?_)
      · refine lv_iconst (v := 0) hx hb dBl_failsWith_25 (by decide +kernel) ?_
        exact W.zret (v := 0) (ty := .boolean) hx hb hr rfl (fun t ht hW => ⟨_, rfl, (b2_f (by (try simp only [failB, Int32.lt_iff_toInt_lt, Int32.le_iff_toInt_le, ← Int32.toInt_inj, Int32.reduceToInt] at c_0); (try simp only [failB, Int32.lt_iff_toInt_lt, Int32.le_iff_toInt_le, ← Int32.toInt_inj, Int32.reduceToInt] at c_1); (try simp only [failB, Int32.lt_iff_toInt_lt, Int32.le_iff_toInt_le, ← Int32.toInt_inj, Int32.reduceToInt] at c_2); (try simp only [failB, Int32.lt_iff_toInt_lt, Int32.le_iff_toInt_le, ← Int32.toInt_inj, Int32.reduceToInt]); omega)).symm, ht⟩) (fun _ h => nomatch h) dBl_failsWith_26
      · refine lv_iconst (v := 1) hx hb dBl_failsWith_21 (by decide +kernel) ?_
        refine lv_goto (tgt := 26) hx hb dBl_failsWith_22 (by decide) ?_
        exact W.zret (v := 1) (ty := .boolean) hx hb hr rfl (fun t ht hW => ⟨_, rfl, (b2_t (by (try simp only [failB, Int32.lt_iff_toInt_lt, Int32.le_iff_toInt_le, ← Int32.toInt_inj, Int32.reduceToInt] at c_0); (try simp only [failB, Int32.lt_iff_toInt_lt, Int32.le_iff_toInt_le, ← Int32.toInt_inj, Int32.reduceToInt] at c_1); (try simp only [failB, Int32.lt_iff_toInt_lt, Int32.le_iff_toInt_le, ← Int32.toInt_inj, Int32.reduceToInt] at c_2); (try simp only [failB, Int32.lt_iff_toInt_lt, Int32.le_iff_toInt_le, ← Int32.toInt_inj, Int32.reduceToInt]); omega)).symm, ht⟩) (fun _ h => nomatch h) dBl_failsWith_26

set_option maxHeartbeats 4000000 in
set_option maxRecDepth 100000 in
theorem cBl_countWith (l : Launch) (dC : Nat → ClassId) (dI : Nat → Nat → Nat) (ad : Nat → Nat) (ca : Nat → ClassId) (sz : Nat) (S : Ss) (j : Nat) (hj : j < 10) (x y : Int32) : Met l yBl_countWith (kBl_countWith :: CW) ({ frames := 1, cells := 0, slots := 0, locals := 23 }) (va_Pc [.ref (ad (18 + j)), .int x, .int y] (gPre (dC, dI) (xT ca) (XW ad ca S) sz)) (vp_Si (fun r => r = if y = 1 then 0 else if x = 1 ∧ S 21 j = 0 then (if S 15 j < S 20 j + 1 then S 15 j else S 20 j + 1) else S 20 j)) 0 0 (fun _ => False) := by
  refine Met.ofW (cc := bBl_countWith) (maxL := 3) (ret := (some .int)) (by decide) rfl ?_
  intro p e s m args below meth c s₁ B hml hv
  obtain ⟨rfl, hsz, hP, hK, hD0⟩ := hv
  have hx := B.exec
  have hb := B.bytes
  have hr := B.returns
  have hts := atoms_spec (ws := kBl_countWith :: CW) B.pre
  have hc : ∀ w ∈ CW, w.before _ s = true := fun w h => hts w (List.mem_cons_of_mem _ h)
  have hown : s.vm.findClass RBl = some m.cls := findClass_of_methodNamed B.named
  have hlocks := B.notSynchronized
  subst hsz
  have hD := hD0
  have hl := lv_entry ([.ref (ad (18 + j)), .int x, .int y]) (n := 3) (Nat.le_of_ble_eq_true rfl)
  rw [lg_entry_eq]
  generalize (lg_sl ([.ref (ad (18 + j)), .int x, .int y]) ++ List.replicate (3 - (lg_sl ([.ref (ad (18 + j)), .int x, .int y])).length) Slot.unset).toArray = ls at hl ⊢
  have hl : lv_has ls 3 [(0, .ref (ad (18 + j))), (1, .int x), (2, .int y)] := hl
  refine lv_iload_n hx hb dBl_countWith_0 rfl (lv_at hl 2 rfl) ?_
  refine lv_iconst (v := 1) hx hb dBl_countWith_1 (by decide +kernel) ?_
  refine lv_icmp_ne (tgt := 7) hx hb dBl_countWith_2 (by decide) (fun c_0 => ?_) (fun c_0 => ?_)
  · refine lv_iload_n hx hb dBl_countWith_7 rfl (lv_at hl 1 rfl) ?_
    refine lv_iconst (v := 1) hx hb dBl_countWith_8 (by decide +kernel) ?_
    refine lv_icmp_ne (tgt := 35) hx hb dBl_countWith_9 (by decide) (fun c_1 => ?_) (fun c_1 => ?_)
    · refine lv_aload_n hx hb dBl_countWith_35 rfl (lv_at hl 0 rfl) ?_
      refine va_get (D := (dC, dI)) (ci := 2) (v := .int (S 20 j)) (C := RBl) (T := TBl) (N := 8) hx hb hc inBl hown hK hP (18 + j) (xb_cell (by omega)) rfl 6 (by decide) (hc _ w91) (fun _ h9 => h9) rfl dBl_countWith_36 ?_
      exact W.iret (v := (S 20 j)) hx hb hr (fun t ht hW => ⟨_, rfl, (by simp [c_0, c_1]), ht⟩) (fun _ h => nomatch h) dBl_countWith_39
    · refine lv_aload_n hx hb dBl_countWith_12 rfl (lv_at hl 0 rfl) ?_
      refine va_get (D := (dC, dI)) (ci := 2) (v := .int (S 21 j)) (C := RBl) (T := TBl) (N := 8) hx hb hc inBl hown hK hP (18 + j) (xb_cell (by omega)) rfl 7 (by decide) (hc _ w93) (fun _ h9 => h9) rfl dBl_countWith_13 ?_
      refine lv_if_ne (tgt := 35) hx hb dBl_countWith_16 (by decide) (fun c_2 => ?_) (fun c_2 => ?_)
      · refine lv_aload_n hx hb dBl_countWith_35 rfl (lv_at hl 0 rfl) ?_
        refine va_get (D := (dC, dI)) (ci := 2) (v := .int (S 20 j)) (C := RBl) (T := TBl) (N := 8) hx hb hc inBl hown hK hP (18 + j) (xb_cell (by omega)) rfl 6 (by decide) (hc _ w91) (fun _ h9 => h9) rfl dBl_countWith_36 ?_
        exact W.iret (v := (S 20 j)) hx hb hr (fun t ht hW => ⟨_, rfl, (by simp [c_0, c_1, c_2]), ht⟩) (fun _ h => nomatch h) dBl_countWith_39
      · refine lv_aload_n hx hb dBl_countWith_19 rfl (lv_at hl 0 rfl) ?_
        refine va_get (D := (dC, dI)) (ci := 2) (v := .int (S 20 j)) (C := RBl) (T := TBl) (N := 8) hx hb hc inBl hown hK hP (18 + j) (xb_cell (by omega)) rfl 6 (by decide) (hc _ w91) (fun _ h9 => h9) rfl dBl_countWith_20 ?_
        refine lv_iconst (v := 1) hx hb dBl_countWith_23 (by decide +kernel) ?_
        refine lv_iadd hx hb dBl_countWith_24 ?_
        refine lv_aload_n hx hb dBl_countWith_25 rfl (lv_at hl 0 rfl) ?_
        refine va_get (D := (dC, dI)) (ci := 2) (v := .int (S 15 j)) (C := RBl) (T := TBl) (N := 8) hx hb hc inBl hown hK hP (18 + j) (xb_cell (by omega)) rfl 1 (by decide) (hc _ w83) (fun _ h9 => h9) rfl dBl_countWith_26 ?_
        refine va_mmin hx hb (by rw [hml]; exact hl.1.symm) hown (hc _ w440) (hc _ w441) (hc _ w14) (hc _ w442) (Nat.le_of_ble_eq_true rfl) (Nat.le_of_ble_eq_true rfl) (Nat.zero_le _) (Nat.zero_le _) dBl_countWith_29 ?_
        refine lv_topi (fun v_4 ev_4 => ?_)
        refine lv_goto (tgt := 39) hx hb dBl_countWith_32 (by decide) ?_
        exact W.iret (v := v_4) hx hb hr (fun t ht hW => ⟨_, rfl, (by simp [c_0, c_1, c_2, ev_4]), ht⟩) (fun _ h => nomatch h) dBl_countWith_39
  · refine lv_iconst (v := 0) hx hb dBl_countWith_5 (by decide +kernel) ?_
    exact W.iret (v := 0) hx hb hr (fun t ht hW => ⟨_, rfl, (by simp [c_0]), ht⟩) (fun _ h => nomatch h) dBl_countWith_6
