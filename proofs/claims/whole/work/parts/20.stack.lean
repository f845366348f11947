set_option maxHeartbeats 4000000 in
set_option maxRecDepth 100000 in
theorem cX_stackAfter (l : Launch) (dC : Nat → ClassId) (dI : Nat → Nat → Nat) (ad : Nat → Nat) (ca : Nat → ClassId) (sz : Nat) (S : Ss) (L : List Int32) (k a : Int32) (q : Nat) (h01 : ∀ v ∈ L, b01 v) (h4 : L.length ≤ 4) (hb1 : ∀ i, i < 32 → b01 (S 1 i)) (hb2 : ∀ i, i < 32 → S 2 i = -1 ∨ b01 (S 2 i)) (hop : wi k 0 8) (ha : ¬ k = 6 → ¬ k = 7 → a = nI q ∧ q < 64 ∧ (¬ k = 8 → q < 32)) : Met l yX_stackAfter (kX_stackAfter :: CW) ({ frames := 1, cells := 0, slots := 0, locals := 22 }) (va_Pc [.ref (ad 0), .int (pk L), .int k, .int a] (gPre (dC, dI) (xT ca) (XW ad ca S) sz)) (vp_Si (fun r => r = pk (stA S L k q))) 0 0 (fun _ => False) := by
  refine Met.ofW (cc := bX_stackAfter) (maxL := 4) (ret := (some .int)) (by decide +kernel) rfl ?_
  intro p e s m args below meth c s₁ B hml hv
  obtain ⟨rfl, hsz, hP, hK, hD0⟩ := hv
  have hx := B.exec
  have hb := B.bytes
  have hr := B.returns
  have hts := atoms_spec (ws := kX_stackAfter :: CW) B.pre
  have hc : ∀ w ∈ CW, w.before _ s = true := fun w h => hts w (List.mem_cons_of_mem _ h)
  have hown : s.vm.findClass RX = some m.cls := findClass_of_methodNamed B.named
  have hlocks := B.notSynchronized
  subst hsz
  have hD := hD0
  have hl := lv_entry ([.ref (ad 0), .int (pk L), .int k, .int a]) (n := 4) (Nat.le_of_ble_eq_true rfl)
  rw [lg_entry_eq]
  generalize (lg_sl ([.ref (ad 0), .int (pk L), .int k, .int a]) ++ List.replicate (4 - (lg_sl ([.ref (ad 0), .int (pk L), .int k, .int a])).length) Slot.unset).toArray = ls at hl ⊢
  have hl : lv_has ls 4 [(0, .ref (ad 0)), (1, .int (pk L)), (2, .int k), (3, .int a)] := hl
  refine lv_iload_n hx hb dX_stackAfter_0 rfl (lv_at hl 2 rfl) ?_
  by_cases w_0 : k = 0
  · refine lv_tableIn (tgt := 52) hx hb dX_stackAfter_1 (by rw [w_0]; decide) (by rw [w_0]; decide) (by rw [w_0]; rfl) (by decide) ?_
    obtain ⟨ha1, ha2, ha3⟩ := ha (by rw [w_0]; decide) (by rw [w_0]; decide)
    have ha4 := ha3 (by rw [w_0]; decide)
    have hrd : b01 (rd S q) := rd01 hb1 hb2 ha4
    subst ha1
    refine lv_iload_n hx hb dX_stackAfter_52 rfl (lv_at hl 1 rfl) ?_
    refine lv_aload_n hx hb dX_stackAfter_53 rfl (lv_at hl 0 rfl) ?_
    refine va_get (D := (dC, dI)) (ci := 0) (v := .ref (ad 1)) (C := RX) (T := TX) (N := 8) hx hb hc inX hown hK hP 0 rfl rfl 0 (by decide) (hc _ w111) (fun _ h9 => h9) rfl dX_stackAfter_54 ?_
    refine lv_iload_n hx hb dX_stackAfter_57 rfl (lv_at hl 3 rfl) ?_
    refine vp_callSi (va_Run.run (va_runV (As := [.int (nI q)]) (rest := [.int (pk L)]) ⟨hx, hb, hml, hown, hc⟩ (cMe_read l dC dI ad ca s.heap.size S q (by omega)) (cwV 1 hc (gV w487 w447 w448 w2 qMe_read) rfl rfl rfl (by decide +kernel) ⟨Nat.le_of_ble_eq_true rfl, Nat.le_of_ble_eq_true rfl⟩) ⟨gPre_blind, va_recv hK hP (ci := 1) (q0 := 1) rfl rfl, (gPre_in hP hK hD)⟩ rfl rfl hl.1 rfl (lv_room (Nat.le_of_ble_eq_true rfl)) dX_stackAfter_58 ⟨Nat.zero_le _, Nat.zero_le _⟩)) (fun r_2 hr_2 => ?_)
    refine vp_callSi (va_Run.run (va_runS (As := [.int (pk L), .int r_2]) (rest := []) ⟨hx, hb, hml, hown, hc⟩ (cX_withPushed l (pk L) r_2) (va_cwS 2 hc (g_S w488 w489 w1 qX_withPushed) rfl rfl rfl (by decide +kernel) ⟨Nat.le_of_ble_eq_true rfl, Nat.le_of_ble_eq_true rfl⟩) ⟨tPre_blind, tPre_in⟩ rfl rfl hl.1 rfl (lv_room (Nat.le_of_ble_eq_true rfl)) dX_stackAfter_61 ⟨Nat.zero_le _, Nat.zero_le _⟩)) (fun r_3 hr_3 => ?_)
    exact W.iret (v := r_3) hx hb hr (fun t ht hW => ⟨_, rfl, (by (try dsimp only); exact (by rw [hr_3, hr_2]; unfold stA; rw [if_pos w_0]; rfl)), ht⟩) (fun _ h => nomatch h) dX_stackAfter_64
  by_cases w_3 : k = 1
  · refine lv_tableIn (tgt := 65) hx hb dX_stackAfter_1 (by rw [w_3]; decide) (by rw [w_3]; decide) (by rw [w_3]; rfl) (by decide) ?_
    obtain ⟨ha1, ha2, ha3⟩ := ha (by rw [w_3]; decide) (by rw [w_3]; decide)
    have ha4 := ha3 (by rw [w_3]; decide)
    have hrd : b01 (rd S q) := rd01 hb1 hb2 ha4
    subst ha1
    refine lv_iload_n hx hb dX_stackAfter_65 rfl (lv_at hl 1 rfl) ?_
    refine lv_iconst (v := 1) hx hb dX_stackAfter_66 (by decide +kernel) ?_
    refine lv_aload_n hx hb dX_stackAfter_67 rfl (lv_at hl 0 rfl) ?_
    refine va_get (D := (dC, dI)) (ci := 0) (v := .ref (ad 1)) (C := RX) (T := TX) (N := 8) hx hb hc inX hown hK hP 0 rfl rfl 0 (by decide) (hc _ w111) (fun _ h9 => h9) rfl dX_stackAfter_68 ?_
    refine lv_iload_n hx hb dX_stackAfter_71 rfl (lv_at hl 3 rfl) ?_
    refine vp_callSi (va_Run.run (va_runV (As := [.int (nI q)]) (rest := [.int 1, .int (pk L)]) ⟨hx, hb, hml, hown, hc⟩ (cMe_read l dC dI ad ca s.heap.size S q (by omega)) (cwV 1 hc (gV w487 w447 w448 w2 qMe_read) rfl rfl rfl (by decide +kernel) ⟨Nat.le_of_ble_eq_true rfl, Nat.le_of_ble_eq_true rfl⟩) ⟨gPre_blind, va_recv hK hP (ci := 1) (q0 := 1) rfl rfl, (gPre_in hP hK hD)⟩ rfl rfl hl.1 rfl (lv_room (Nat.le_of_ble_eq_true rfl)) dX_stackAfter_72 ⟨Nat.zero_le _, Nat.zero_le _⟩)) (fun r_5 hr_5 => ?_)
    refine lv_isub hx hb dX_stackAfter_75 ?_
    refine vp_callSi (va_Run.run (va_runS (As := [.int (pk L), .int (1 - r_5)]) (rest := []) ⟨hx, hb, hml, hown, hc⟩ (cX_withPushed l (pk L) (1 - r_5)) (va_cwS 2 hc (g_S w488 w489 w1 qX_withPushed) rfl rfl rfl (by decide +kernel) ⟨Nat.le_of_ble_eq_true rfl, Nat.le_of_ble_eq_true rfl⟩) ⟨tPre_blind, tPre_in⟩ rfl rfl hl.1 rfl (lv_room (Nat.le_of_ble_eq_true rfl)) dX_stackAfter_76 ⟨Nat.zero_le _, Nat.zero_le _⟩)) (fun r_6 hr_6 => ?_)
    exact W.iret (v := r_6) hx hb hr (fun t ht hW => ⟨_, rfl, (by (try dsimp only); exact (by rw [hr_6, hr_5]; unfold stA; rw [if_neg w_0, if_pos w_3]; rfl)), ht⟩) (fun _ h => nomatch h) dX_stackAfter_79
  by_cases w_6 : k = 2
  · refine lv_tableIn (tgt := 80) hx hb dX_stackAfter_1 (by rw [w_6]; decide) (by rw [w_6]; decide) (by rw [w_6]; rfl) (by decide) ?_
    obtain ⟨ha1, ha2, ha3⟩ := ha (by rw [w_6]; decide) (by rw [w_6]; decide)
    have ha4 := ha3 (by rw [w_6]; decide)
    have hrd : b01 (rd S q) := rd01 hb1 hb2 ha4
    subst ha1
    refine lv_iload_n hx hb dX_stackAfter_80 rfl (lv_at hl 1 rfl) ?_
    refine lv_iload_n hx hb dX_stackAfter_81 rfl (lv_at hl 1 rfl) ?_
    refine lv_aload_n hx hb dX_stackAfter_82 rfl (lv_at hl 0 rfl) ?_
    refine va_get (D := (dC, dI)) (ci := 0) (v := .ref (ad 1)) (C := RX) (T := TX) (N := 8) hx hb hc inX hown hK hP 0 rfl rfl 0 (by decide) (hc _ w111) (fun _ h9 => h9) rfl dX_stackAfter_83 ?_
    refine lv_iload_n hx hb dX_stackAfter_86 rfl (lv_at hl 3 rfl) ?_
    refine vp_callSi (va_Run.run (va_runV (As := [.int (nI q)]) (rest := [.int (pk L), .int (pk L)]) ⟨hx, hb, hml, hown, hc⟩ (cMe_read l dC dI ad ca s.heap.size S q (by omega)) (cwV 1 hc (gV w487 w447 w448 w2 qMe_read) rfl rfl rfl (by decide +kernel) ⟨Nat.le_of_ble_eq_true rfl, Nat.le_of_ble_eq_true rfl⟩) ⟨gPre_blind, va_recv hK hP (ci := 1) (q0 := 1) rfl rfl, (gPre_in hP hK hD)⟩ rfl rfl hl.1 rfl (lv_room (Nat.le_of_ble_eq_true rfl)) dX_stackAfter_87 ⟨Nat.zero_le _, Nat.zero_le _⟩)) (fun r_8 hr_8 => ?_)
    refine lv_iand hx hb dX_stackAfter_90 ?_
    refine vp_callSi (va_Run.run (va_runS (As := [.int (pk L), .int ((pk L) &&& r_8)]) (rest := []) ⟨hx, hb, hml, hown, hc⟩ (cX_withTop l (pk L) ((pk L) &&& r_8)) (va_cwS 2 hc (g_S w476 w477 w1 qX_withTop) rfl rfl rfl (by decide +kernel) ⟨Nat.le_of_ble_eq_true rfl, Nat.le_of_ble_eq_true rfl⟩) ⟨tPre_blind, tPre_in⟩ rfl rfl hl.1 rfl (lv_room (Nat.le_of_ble_eq_true rfl)) dX_stackAfter_91 ⟨Nat.zero_le _, Nat.zero_le _⟩)) (fun r_9 hr_9 => ?_)
    exact W.iret (v := r_9) hx hb hr (fun t ht hW => ⟨_, rfl, (by (try dsimp only); exact (by rw [hr_9, hr_8]; unfold stA; rw [if_neg w_0, if_neg w_3, if_pos w_6]; rw [pk_andv h01 h4 hrd]; exact pk_with h01 h4 (and01 (hd01 h01) hrd))), ht⟩) (fun _ h => nomatch h) dX_stackAfter_94
  by_cases w_9 : k = 3
  · refine lv_tableIn (tgt := 95) hx hb dX_stackAfter_1 (by rw [w_9]; decide) (by rw [w_9]; decide) (by rw [w_9]; rfl) (by decide) ?_
    obtain ⟨ha1, ha2, ha3⟩ := ha (by rw [w_9]; decide) (by rw [w_9]; decide)
    have ha4 := ha3 (by rw [w_9]; decide)
    have hrd : b01 (rd S q) := rd01 hb1 hb2 ha4
    subst ha1
    refine lv_iload_n hx hb dX_stackAfter_95 rfl (lv_at hl 1 rfl) ?_
    refine lv_iload_n hx hb dX_stackAfter_96 rfl (lv_at hl 1 rfl) ?_
    refine lv_iconst (v := 1) hx hb dX_stackAfter_97 (by decide +kernel) ?_
    refine lv_aload_n hx hb dX_stackAfter_98 rfl (lv_at hl 0 rfl) ?_
    refine va_get (D := (dC, dI)) (ci := 0) (v := .ref (ad 1)) (C := RX) (T := TX) (N := 8) hx hb hc inX hown hK hP 0 rfl rfl 0 (by decide) (hc _ w111) (fun _ h9 => h9) rfl dX_stackAfter_99 ?_
    refine lv_iload_n hx hb dX_stackAfter_102 rfl (lv_at hl 3 rfl) ?_
    refine vp_callSi (va_Run.run (va_runV (As := [.int (nI q)]) (rest := [.int 1, .int (pk L), .int (pk L)]) ⟨hx, hb, hml, hown, hc⟩ (cMe_read l dC dI ad ca s.heap.size S q (by omega)) (cwV 1 hc (gV w487 w447 w448 w2 qMe_read) rfl rfl rfl (by decide +kernel) ⟨Nat.le_of_ble_eq_true rfl, Nat.le_of_ble_eq_true rfl⟩) ⟨gPre_blind, va_recv hK hP (ci := 1) (q0 := 1) rfl rfl, (gPre_in hP hK hD)⟩ rfl rfl hl.1 rfl (lv_room (Nat.le_of_ble_eq_true rfl)) dX_stackAfter_103 ⟨Nat.zero_le _, Nat.zero_le _⟩)) (fun r_11 hr_11 => ?_)
    refine lv_isub hx hb dX_stackAfter_106 ?_
    refine lv_iand hx hb dX_stackAfter_107 ?_
    refine vp_callSi (va_Run.run (va_runS (As := [.int (pk L), .int ((pk L) &&& (1 - r_11))]) (rest := []) ⟨hx, hb, hml, hown, hc⟩ (cX_withTop l (pk L) ((pk L) &&& (1 - r_11))) (va_cwS 2 hc (g_S w476 w477 w1 qX_withTop) rfl rfl rfl (by decide +kernel) ⟨Nat.le_of_ble_eq_true rfl, Nat.le_of_ble_eq_true rfl⟩) ⟨tPre_blind, tPre_in⟩ rfl rfl hl.1 rfl (lv_room (Nat.le_of_ble_eq_true rfl)) dX_stackAfter_108 ⟨Nat.zero_le _, Nat.zero_le _⟩)) (fun r_12 hr_12 => ?_)
    exact W.iret (v := r_12) hx hb hr (fun t ht hW => ⟨_, rfl, (by (try dsimp only); exact (by rw [hr_12, hr_11]; unfold stA; rw [if_neg w_0, if_neg w_3, if_neg w_6, if_pos w_9]; rw [pk_andv h01 h4 (not01 hrd)]; exact pk_with h01 h4 (and01 (hd01 h01) (not01 hrd)))), ht⟩) (fun _ h => nomatch h) dX_stackAfter_111
  by_cases w_12 : k = 4
  · refine lv_tableIn (tgt := 112) hx hb dX_stackAfter_1 (by rw [w_12]; decide) (by rw [w_12]; decide) (by rw [w_12]; rfl) (by decide) ?_
    obtain ⟨ha1, ha2, ha3⟩ := ha (by rw [w_12]; decide) (by rw [w_12]; decide)
    have ha4 := ha3 (by rw [w_12]; decide)
    have hrd : b01 (rd S q) := rd01 hb1 hb2 ha4
    subst ha1
    refine lv_iload_n hx hb dX_stackAfter_112 rfl (lv_at hl 1 rfl) ?_
    refine lv_iload_n hx hb dX_stackAfter_113 rfl (lv_at hl 1 rfl) ?_
    refine lv_iconst (v := 1) hx hb dX_stackAfter_114 (by decide +kernel) ?_
    refine lv_iand hx hb dX_stackAfter_115 ?_
    refine lv_aload_n hx hb dX_stackAfter_116 rfl (lv_at hl 0 rfl) ?_
    refine va_get (D := (dC, dI)) (ci := 0) (v := .ref (ad 1)) (C := RX) (T := TX) (N := 8) hx hb hc inX hown hK hP 0 rfl rfl 0 (by decide) (hc _ w111) (fun _ h9 => h9) rfl dX_stackAfter_117 ?_
    refine lv_iload_n hx hb dX_stackAfter_120 rfl (lv_at hl 3 rfl) ?_
    refine vp_callSi (va_Run.run (va_runV (As := [.int (nI q)]) (rest := [.int ((pk L) &&& 1), .int (pk L)]) ⟨hx, hb, hml, hown, hc⟩ (cMe_read l dC dI ad ca s.heap.size S q (by omega)) (cwV 1 hc (gV w487 w447 w448 w2 qMe_read) rfl rfl rfl (by decide +kernel) ⟨Nat.le_of_ble_eq_true rfl, Nat.le_of_ble_eq_true rfl⟩) ⟨gPre_blind, va_recv hK hP (ci := 1) (q0 := 1) rfl rfl, (gPre_in hP hK hD)⟩ rfl rfl hl.1 rfl (lv_room (Nat.le_of_ble_eq_true rfl)) dX_stackAfter_121 ⟨Nat.zero_le _, Nat.zero_le _⟩)) (fun r_14 hr_14 => ?_)
    refine lv_ior hx hb dX_stackAfter_124 ?_
    refine vp_callSi (va_Run.run (va_runS (As := [.int (pk L), .int (((pk L) &&& 1) ||| r_14)]) (rest := []) ⟨hx, hb, hml, hown, hc⟩ (cX_withTop l (pk L) (((pk L) &&& 1) ||| r_14)) (va_cwS 2 hc (g_S w476 w477 w1 qX_withTop) rfl rfl rfl (by decide +kernel) ⟨Nat.le_of_ble_eq_true rfl, Nat.le_of_ble_eq_true rfl⟩) ⟨tPre_blind, tPre_in⟩ rfl rfl hl.1 rfl (lv_room (Nat.le_of_ble_eq_true rfl)) dX_stackAfter_125 ⟨Nat.zero_le _, Nat.zero_le _⟩)) (fun r_15 hr_15 => ?_)
    exact W.iret (v := r_15) hx hb hr (fun t ht hW => ⟨_, rfl, (by (try dsimp only); exact (by rw [hr_15, hr_14]; unfold stA; rw [if_neg w_0, if_neg w_3, if_neg w_6, if_neg w_9, if_pos w_12]; rw [pk_top h01 h4]; exact pk_with h01 h4 (or01 (hd01 h01) hrd))), ht⟩) (fun _ h => nomatch h) dX_stackAfter_128
  by_cases w_15 : k = 5
  · refine lv_tableIn (tgt := 129) hx hb dX_stackAfter_1 (by rw [w_15]; decide) (by rw [w_15]; decide) (by rw [w_15]; rfl) (by decide) ?_
    obtain ⟨ha1, ha2, ha3⟩ := ha (by rw [w_15]; decide) (by rw [w_15]; decide)
    have ha4 := ha3 (by rw [w_15]; decide)
    have hrd : b01 (rd S q) := rd01 hb1 hb2 ha4
    subst ha1
    refine lv_iload_n hx hb dX_stackAfter_129 rfl (lv_at hl 1 rfl) ?_
    refine lv_iload_n hx hb dX_stackAfter_130 rfl (lv_at hl 1 rfl) ?_
    refine lv_iconst (v := 1) hx hb dX_stackAfter_131 (by decide +kernel) ?_
    refine lv_iand hx hb dX_stackAfter_132 ?_
    refine lv_iconst (v := 1) hx hb dX_stackAfter_133 (by decide +kernel) ?_
    refine lv_aload_n hx hb dX_stackAfter_134 rfl (lv_at hl 0 rfl) ?_
    refine va_get (D := (dC, dI)) (ci := 0) (v := .ref (ad 1)) (C := RX) (T := TX) (N := 8) hx hb hc inX hown hK hP 0 rfl rfl 0 (by decide) (hc _ w111) (fun _ h9 => h9) rfl dX_stackAfter_135 ?_
    refine lv_iload_n hx hb dX_stackAfter_138 rfl (lv_at hl 3 rfl) ?_
    refine vp_callSi (va_Run.run (va_runV (As := [.int (nI q)]) (rest := [.int 1, .int ((pk L) &&& 1), .int (pk L)]) ⟨hx, hb, hml, hown, hc⟩ (cMe_read l dC dI ad ca s.heap.size S q (by omega)) (cwV 1 hc (gV w487 w447 w448 w2 qMe_read) rfl rfl rfl (by decide +kernel) ⟨Nat.le_of_ble_eq_true rfl, Nat.le_of_ble_eq_true rfl⟩) ⟨gPre_blind, va_recv hK hP (ci := 1) (q0 := 1) rfl rfl, (gPre_in hP hK hD)⟩ rfl rfl hl.1 rfl (lv_room (Nat.le_of_ble_eq_true rfl)) dX_stackAfter_139 ⟨Nat.zero_le _, Nat.zero_le _⟩)) (fun r_17 hr_17 => ?_)
    refine lv_isub hx hb dX_stackAfter_142 ?_
    refine lv_ior hx hb dX_stackAfter_143 ?_
    refine vp_callSi (va_Run.run (va_runS (As := [.int (pk L), .int (((pk L) &&& 1) ||| (1 - r_17))]) (rest := []) ⟨hx, hb, hml, hown, hc⟩ (cX_withTop l (pk L) (((pk L) &&& 1) ||| (1 - r_17))) (va_cwS 2 hc (g_S w476 w477 w1 qX_withTop) rfl rfl rfl (by decide +kernel) ⟨Nat.le_of_ble_eq_true rfl, Nat.le_of_ble_eq_true rfl⟩) ⟨tPre_blind, tPre_in⟩ rfl rfl hl.1 rfl (lv_room (Nat.le_of_ble_eq_true rfl)) dX_stackAfter_144 ⟨Nat.zero_le _, Nat.zero_le _⟩)) (fun r_18 hr_18 => ?_)
    exact W.iret (v := r_18) hx hb hr (fun t ht hW => ⟨_, rfl, (by (try dsimp only); exact (by rw [hr_18, hr_17]; unfold stA; rw [if_neg w_0, if_neg w_3, if_neg w_6, if_neg w_9, if_neg w_12, if_pos w_15]; rw [pk_top h01 h4]; exact pk_with h01 h4 (or01 (hd01 h01) (not01 hrd)))), ht⟩) (fun _ h => nomatch h) dX_stackAfter_147
  by_cases w_18 : k = 6
  · refine lv_tableIn (tgt := 148) hx hb dX_stackAfter_1 (by rw [w_18]; decide) (by rw [w_18]; decide) (by rw [w_18]; rfl) (by decide) ?_
    refine lv_iload_n hx hb dX_stackAfter_148 rfl (lv_at hl 1 rfl) ?_
    refine lv_iconst (v := 1) hx hb dX_stackAfter_149 (by decide +kernel) ?_
    refine lv_ishr hx hb dX_stackAfter_150 ?_
    refine lv_iload_n hx hb dX_stackAfter_151 rfl (lv_at hl 1 rfl) ?_
    refine lv_iconst (v := 1) hx hb dX_stackAfter_152 (by decide +kernel) ?_
    refine lv_ishr hx hb dX_stackAfter_153 ?_
    refine lv_iload_n hx hb dX_stackAfter_154 rfl (lv_at hl 1 rfl) ?_
    refine lv_iand hx hb dX_stackAfter_155 ?_
    refine lv_iconst (v := 1) hx hb dX_stackAfter_156 (by decide +kernel) ?_
    refine lv_iand hx hb dX_stackAfter_157 ?_
    refine vp_callSi (va_Run.run (va_runS (As := [.int ((pk L) >>> (1 &&& 31)), .int ((((pk L) >>> (1 &&& 31)) &&& (pk L)) &&& 1)]) (rest := []) ⟨hx, hb, hml, hown, hc⟩ (cX_withTop l ((pk L) >>> (1 &&& 31)) ((((pk L) >>> (1 &&& 31)) &&& (pk L)) &&& 1)) (va_cwS 2 hc (g_S w476 w477 w1 qX_withTop) rfl rfl rfl (by decide +kernel) ⟨Nat.le_of_ble_eq_true rfl, Nat.le_of_ble_eq_true rfl⟩) ⟨tPre_blind, tPre_in⟩ rfl rfl hl.1 rfl (lv_room (Nat.le_of_ble_eq_true rfl)) dX_stackAfter_158 ⟨Nat.zero_le _, Nat.zero_le _⟩)) (fun r_20 hr_20 => ?_)
    exact W.iret (v := r_20) hx hb hr (fun t ht hW => ⟨_, rfl, (by (try dsimp only); exact (by rw [hr_20]; unfold stA; rw [if_neg w_0, if_neg w_3, if_neg w_6, if_neg w_9, if_neg w_12, if_neg w_15, if_pos w_18]; exact pk_and2 h01 h4)), ht⟩) (fun _ h => nomatch h) dX_stackAfter_161
  by_cases w_20 : k = 7
  · refine lv_tableIn (tgt := 162) hx hb dX_stackAfter_1 (by rw [w_20]; decide) (by rw [w_20]; decide) (by rw [w_20]; rfl) (by decide) ?_
    refine lv_iload_n hx hb dX_stackAfter_162 rfl (lv_at hl 1 rfl) ?_
    refine lv_iconst (v := 1) hx hb dX_stackAfter_163 (by decide +kernel) ?_
    refine lv_ishr hx hb dX_stackAfter_164 ?_
    refine lv_iload_n hx hb dX_stackAfter_165 rfl (lv_at hl 1 rfl) ?_
    refine lv_iconst (v := 1) hx hb dX_stackAfter_166 (by decide +kernel) ?_
    refine lv_ishr hx hb dX_stackAfter_167 ?_
    refine lv_iload_n hx hb dX_stackAfter_168 rfl (lv_at hl 1 rfl) ?_
    refine lv_ior hx hb dX_stackAfter_169 ?_
    refine lv_iconst (v := 1) hx hb dX_stackAfter_170 (by decide +kernel) ?_
    refine lv_iand hx hb dX_stackAfter_171 ?_
    refine vp_callSi (va_Run.run (va_runS (As := [.int ((pk L) >>> (1 &&& 31)), .int ((((pk L) >>> (1 &&& 31)) ||| (pk L)) &&& 1)]) (rest := []) ⟨hx, hb, hml, hown, hc⟩ (cX_withTop l ((pk L) >>> (1 &&& 31)) ((((pk L) >>> (1 &&& 31)) ||| (pk L)) &&& 1)) (va_cwS 2 hc (g_S w476 w477 w1 qX_withTop) rfl rfl rfl (by decide +kernel) ⟨Nat.le_of_ble_eq_true rfl, Nat.le_of_ble_eq_true rfl⟩) ⟨tPre_blind, tPre_in⟩ rfl rfl hl.1 rfl (lv_room (Nat.le_of_ble_eq_true rfl)) dX_stackAfter_172 ⟨Nat.zero_le _, Nat.zero_le _⟩)) (fun r_22 hr_22 => ?_)
    exact W.iret (v := r_22) hx hb hr (fun t ht hW => ⟨_, rfl, (by (try dsimp only); exact (by rw [hr_22]; unfold stA; rw [if_neg w_0, if_neg w_3, if_neg w_6, if_neg w_9, if_neg w_12, if_neg w_15, if_neg w_18, if_pos w_20]; exact pk_or2 h01 h4)), ht⟩) (fun _ h => nomatch h) dX_stackAfter_175
  by_cases w_22 : k = 8
  · refine lv_tableIn (tgt := 176) hx hb dX_stackAfter_1 (by rw [w_22]; decide) (by rw [w_22]; decide) (by rw [w_22]; rfl) (by decide) ?_
    obtain ⟨ha1, ha2, ha3⟩ := ha (by rw [w_22]; decide) (by rw [w_22]; decide)
    subst ha1
    refine lv_iload_n hx hb dX_stackAfter_176 rfl (lv_at hl 1 rfl) ?_
    refine lv_aload_n hx hb dX_stackAfter_177 rfl (lv_at hl 0 rfl) ?_
    refine va_get (D := (dC, dI)) (ci := 0) (v := .ref (ad 1)) (C := RX) (T := TX) (N := 8) hx hb hc inX hown hK hP 0 rfl rfl 0 (by decide) (hc _ w111) (fun _ h9 => h9) rfl dX_stackAfter_178 ?_
    refine lv_iload_n hx hb dX_stackAfter_181 rfl (lv_at hl 3 rfl) ?_
    refine lv_bipush (v := 8) hx hb dX_stackAfter_182 (by decide +kernel) ?_
    refine lv_idiv hx hb dX_stackAfter_184 (by decide) ?_
    refine lv_topi (fun v_24 ev_24 => ?_)
    rw [show nI q / 8 = nI (q / 8) from pk_div (d := 8) (by omega) (by decide) (by decide)] at ev_24
    subst v_24
    refine lv_iload_n hx hb dX_stackAfter_185 rfl (lv_at hl 3 rfl) ?_
    refine lv_bipush (v := 8) hx hb dX_stackAfter_186 (by decide +kernel) ?_
    refine lv_irem hx hb dX_stackAfter_188 (by decide) ?_
    refine lv_topi (fun v_25 ev_25 => ?_)
    rw [show nI q - nI q / 8 * 8 = nI (q % 8) from pk_rem (d := 8) (by omega) (by decide) (by decide)] at ev_25
    subst v_25
    refine vp_callSi (va_Run.run (va_runV (As := [.int (nI (q / 8)), .int (nI (q % 8))]) (rest := [.int (pk L)]) ⟨hx, hb, hml, hown, hc⟩ (cMe_isAbove l dC dI ad ca s.heap.size S (q / 8) (q % 8) (by omega) (by omega)) (cwV 2 hc (gV w491 w492 w493 w2 qMe_isAbove) rfl rfl rfl (by decide +kernel) ⟨Nat.le_of_ble_eq_true rfl, Nat.le_of_ble_eq_true rfl⟩) ⟨gPre_blind, va_recv hK hP (ci := 1) (q0 := 1) rfl rfl, (gPre_in hP hK hD)⟩ rfl rfl hl.1 rfl (lv_room (Nat.le_of_ble_eq_true rfl)) dX_stackAfter_189 ⟨Nat.zero_le _, Nat.zero_le _⟩)) (fun r_26 hr_26 => ?_)
    refine lv_if_eq (tgt := 199) hx hb dX_stackAfter_192 (by decide) (fun c_26 => ?_) (fun c_26 => ?_)
    · refine lv_iconst (v := 0) hx hb dX_stackAfter_199 (by decide +kernel) ?_
      refine vp_callSi (va_Run.run (va_runS (As := [.int (pk L), .int 0]) (rest := []) ⟨hx, hb, hml, hown, hc⟩ (cX_withPushed l (pk L) 0) (va_cwS 2 hc (g_S w488 w489 w1 qX_withPushed) rfl rfl rfl (by decide +kernel) ⟨Nat.le_of_ble_eq_true rfl, Nat.le_of_ble_eq_true rfl⟩) ⟨tPre_blind, tPre_in⟩ rfl rfl hl.1 rfl (lv_room (Nat.le_of_ble_eq_true rfl)) dX_stackAfter_200 ⟨Nat.zero_le _, Nat.zero_le _⟩)) (fun r_28 hr_28 => ?_)
      exact W.iret (v := r_28) hx hb hr (fun t ht hW => ⟨_, rfl, (by (try dsimp only); exact (by rw [hr_26] at c_26; rw [hr_28]; unfold stA; rw [if_neg w_0, if_neg w_3, if_neg w_6, if_neg w_9, if_neg w_12, if_neg w_15, if_neg w_18, if_neg w_20]; first | rw [b2_t (b2_n.mp c_26)]; rfl | rw [b2_f (b2_0.mp c_26)]; rfl)), ht⟩) (fun _ h => nomatch h) dX_stackAfter_203
    · refine lv_iconst (v := 1) hx hb dX_stackAfter_195 (by decide +kernel) ?_
      refine lv_goto (tgt := 200) hx hb dX_stackAfter_196 (by decide) ?_
      refine vp_callSi (va_Run.run (va_runS (As := [.int (pk L), .int 1]) (rest := []) ⟨hx, hb, hml, hown, hc⟩ (cX_withPushed l (pk L) 1) (va_cwS 2 hc (g_S w488 w489 w1 qX_withPushed) rfl rfl rfl (by decide +kernel) ⟨Nat.le_of_ble_eq_true rfl, Nat.le_of_ble_eq_true rfl⟩) ⟨tPre_blind, tPre_in⟩ rfl rfl hl.1 rfl (lv_room (Nat.le_of_ble_eq_true rfl)) dX_stackAfter_200 ⟨Nat.zero_le _, Nat.zero_le _⟩)) (fun r_29 hr_29 => ?_)
      exact W.iret (v := r_29) hx hb hr (fun t ht hW => ⟨_, rfl, (by (try dsimp only); exact (by rw [hr_26] at c_26; rw [hr_29]; unfold stA; rw [if_neg w_0, if_neg w_3, if_neg w_6, if_neg w_9, if_neg w_12, if_neg w_15, if_neg w_18, if_neg w_20]; first | rw [b2_t (b2_n.mp c_26)]; rfl | rw [b2_f (b2_0.mp c_26)]; rfl)), ht⟩) (fun _ h => nomatch h) dX_stackAfter_203
  exact absurd (k08 hop w_0 w_3 w_6 w_9 w_12 w_15 w_18 w_20 w_22) id
