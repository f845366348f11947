set_option maxHeartbeats 4000000 in
set_option maxRecDepth 100000 in
theorem law_block {p : Program} {e : Env} {s : State} {m : MethodId} {below : List Frame} {meth : Method} {c : Code} {l : Launch} {b L : Nat} {xs : Nat → Int32} {A : Nat → Prop} {dC : Nat → ClassId} {dI : Nat → Nat → Nat} {ax am : Nat → Nat} {cx cm : Nat → ClassId} {qo : Nat} {co : ClassId} {qd : Nat} {cd : ClassId} (C9 : LC p s m meth c b L xs A dC dI cx cm co cd) (hl9 : l.stackTraces = false) {i : Nat} (hi : 4 * i + 4 ≤ L) {S E : Ss} {fo : Nat → Int64} {fd : Nat → UInt64} {H : Heap} {locs : List Loc} {ls : Array Slot} {cells slots : Nat} (hcell : cells + 1 ≤ 601024) (hslot : slots + 6 ≤ 7293034) (hI : Inv S) (hP : va_P (dC, dI) vwCl (lwW ax cx am cm qo co qd cd S E fo fd) H) (hD : va_D A (lwW ax cx am cm qo co qd cd S E fo fd)) (hS : va_S A s.heap H locs) (hl : lv_has ls 9 [(0, .ref b), (1, .ref (ax 0)), (2, .ref (am 0)), (3, .ref qo), (4, .ref qd), (5, .int (nI (4 * i)))]) (K : LK p l e s m below meth c b A dC dI ax cx am cm qo co qd cd (cells + 1) (slots + 6) 1104 (nI (4 * i))) : W p l e room_1 s m #[Value.ref b] below meth c H locs cells slots (lw_Z below #[Value.ref b] s) (F0 m 124 ls []) := by
  obtain ⟨C0, hL, hA, hbA, hu, hn, hnc, hKx, hKm⟩ := id C9
  obtain ⟨hx, hb, hr, hml, hown, hts, hX, hbl, hlocks, hgv⟩ := id C0
  have hc : ∀ w ∈ CW, w.before #[Value.ref b] s = true := fun w h => hts w (List.mem_filter.mp h).1
  obtain ⟨m0, hm, em⟩ := Inv_made hI
  refine lv_aload_n hx hb dLw_law_124 rfl (lv_at hl 1 rfl) ?_
  refine lv_aload_n hx hb dLw_law_125 rfl (lv_at hl 0 rfl) ?_
  refine lv_iload hx hb dLw_law_126 (lv_at hl 5 rfl) ?_
  refine lv_iconst (v := 1) hx hb dLw_law_128 (by decide +kernel) ?_
  refine lv_iadd hx hb dLw_law_129 ?_
  refine lv_topi (fun v_1 ev_1 => ?_)
  rw [nI_1] at ev_1
  subst v_1
  refine va_sld hx hb hX hbl hbA hS (vp_in_nI (by omega) (by omega)) dLw_law_130 ?_
  refine lv_topi (fun v_2 ev_2 => ?_)
  rw [nI_clamp (by omega)] at ev_2
  subst v_2
  refine lv_aload_n hx hb dLw_law_131 rfl (lv_at hl 0 rfl) ?_
  refine lv_iload hx hb dLw_law_132 (lv_at hl 5 rfl) ?_
  refine lv_iconst (v := 2) hx hb dLw_law_134 (by decide +kernel) ?_
  refine lv_iadd hx hb dLw_law_135 ?_
  refine lv_topi (fun v_3 ev_3 => ?_)
  rw [ad_2] at ev_3
  subst v_3
  refine va_sld hx hb hX hbl hbA hS (vp_in_nI (by omega) (by omega)) dLw_law_136 ?_
  refine lv_topi (fun v_4 ev_4 => ?_)
  rw [nI_clamp (by omega)] at ev_4
  subst v_4
  refine lv_aload_n hx hb dLw_law_137 rfl (lv_at hl 0 rfl) ?_
  refine lv_iload hx hb dLw_law_138 (lv_at hl 5 rfl) ?_
  refine lv_iconst (v := 3) hx hb dLw_law_140 (by decide +kernel) ?_
  refine lv_iadd hx hb dLw_law_141 ?_
  refine lv_topi (fun v_5 ev_5 => ?_)
  rw [ad_3] at ev_5
  subst v_5
  refine va_sld hx hb hX hbl hbA hS (vp_in_nI (by omega) (by omega)) dLw_law_142 ?_
  refine lv_topi (fun v_6 ev_6 => ?_)
  rw [nI_clamp (by omega)] at ev_6
  subst v_6
  refine lv_aload_n hx hb dLw_law_143 rfl (lv_at hl 3 rfl) ?_
  refine f_calli (vx_runSW (As := [.ref (ax 0), .int (xs (4 * i + 1)), .int (xs (4 * i + 2)), .int (xs (4 * i + 3)), .ref qo]) (rest := []) ⟨hx, hb, hml, hown, hc⟩ (cLw_block l hl9 dC dI ax cx H.size S qo co fo qd cd fd (xs (4 * i + 1)) (xs (4 * i + 2)) (xs (4 * i + 3)) m0 hm em) (vx_cwSW 5 hc (g_S w175 w176 w0 qLw_block) rfl rfl rfl (by decide +kernel) ⟨(Nat.le_of_ble_eq_true rfl), (Nat.le_of_ble_eq_true rfl)⟩) ⟨wPre_blind, wPre_in (fr_Pl hP) hKx (fr_Dl hD) hS (fr_freel hD hS hA) hu hn hnc⟩ rfl rfl hl.1 rfl (lv_room (Nat.le_of_ble_eq_true rfl)) dLw_law_144 ⟨show cells + 1 ≤ 601024 by omega, show slots + 6 ≤ 7293034 by omega⟩) hP hD hS hA (fun r1 u H locs hu9 hP hD hS => ?_)
  obtain ⟨S1, fo1, fd1⟩ := u
  obtain ⟨w1, w2, w3⟩ := hu9
  dsimp only at w1 w2 w3 hP hD
  subst w2
  refine lv_istore (lv' := [(6, .int r1), (0, .ref b), (1, .ref (ax 0)), (2, .ref (am 0)), (3, .ref qo), (4, .ref qd), (5, .int (nI (4 * i)))]) hx hb dLw_law_147 hl (by decide) rfl (fun ls hl => ?_)
  refine lv_aload_n hx hb dLw_law_149 rfl (lv_at hl 3 rfl) ?_
  refine lv_aload_n hx hb dLw_law_150 rfl (lv_at hl 1 rfl) ?_
  refine lv_iload hx hb dLw_law_151 (lv_at hl 6 rfl) ?_
  refine lv_iconst (v := 1) hx hb dLw_law_153 (by decide +kernel) ?_
  refine lv_iadd hx hb dLw_law_154 ?_
  refine lv_topi (fun v_7 ev_7 => ?_)
  rw [nI_1] at ev_7
  subst v_7
  refine va_sld hx hb hX hbl hbA hS (vp_in_nI (by omega) (by omega)) dLw_law_155 ?_
  refine lv_topi (fun v_8 ev_8 => ?_)
  rw [nI_clamp (by omega)] at ev_8
  subst v_8
  refine lv_aload_n hx hb dLw_law_156 rfl (lv_at hl 1 rfl) ?_
  refine lv_iload hx hb dLw_law_157 (lv_at hl 6 rfl) ?_
  refine lv_iconst (v := 2) hx hb dLw_law_159 (by decide +kernel) ?_
  refine lv_iadd hx hb dLw_law_160 ?_
  refine lv_topi (fun v_9 ev_9 => ?_)
  rw [ad_2] at ev_9
  subst v_9
  refine va_sld hx hb hX hbl hbA hS (vp_in_nI (by omega) (by omega)) dLw_law_161 ?_
  refine lv_topi (fun v_10 ev_10 => ?_)
  rw [nI_clamp (by omega)] at ev_10
  subst v_10
  refine lv_aload_n hx hb dLw_law_162 rfl (lv_at hl 1 rfl) ?_
  refine lv_iload hx hb dLw_law_163 (lv_at hl 6 rfl) ?_
  refine lv_iconst (v := 3) hx hb dLw_law_165 (by decide +kernel) ?_
  refine lv_iadd hx hb dLw_law_166 ?_
  refine lv_topi (fun v_11 ev_11 => ?_)
  rw [ad_3] at ev_11
  subst v_11
  refine va_sld hx hb hX hbl hbA hS (vp_in_nI (by omega) (by omega)) dLw_law_167 ?_
  refine lv_topi (fun v_12 ev_12 => ?_)
  rw [nI_clamp (by omega)] at ev_12
  subst v_12
  refine f_calliR (va_runV (As := [.int (xs (4 * i + 1)), .int (xs (4 * i + 2)), .int (xs (4 * i + 3))]) (rest := []) ⟨hx, hb, hml, hown, hc⟩ (cMo_block l dC dI am cm H.size S E (xs (4 * i + 1)) (xs (4 * i + 2)) (xs (4 * i + 3)) m0 hm em) (cwV 3 hc (gV w654 w655 w656 w5 qMo_block) rfl rfl rfl (by decide +kernel) ⟨(Nat.le_of_ble_eq_true rfl), (Nat.le_of_ble_eq_true rfl)⟩) ⟨gPre_blind, va_recv hKm (fr_Pr hP) (ci := 4) (q0 := 0) rfl rfl, gPre_in (fr_Pr hP) hKm (fr_Dr hD)⟩ rfl rfl hl.1 rfl (lv_room (Nat.le_of_ble_eq_true rfl)) dLw_law_168 ⟨by show _ ≤ 601024; omega, by show _ ≤ 7293034; omega⟩) hP hD hS hA (fun r2 u H locs hu8 hP hD hS => ?_)
  obtain ⟨S2, E2⟩ := u
  obtain ⟨m1, m2, m3⟩ := hu8
  dsimp only at m1 m2 m3 hP hD
  subst m3
  refine lv_istore (lv' := [(7, .int r2), (6, .int r1), (0, .ref b), (1, .ref (ax 0)), (2, .ref (am 0)), (3, .ref qo), (4, .ref qd), (5, .int (nI (4 * i)))]) hx hb dLw_law_171 hl (by decide) rfl (fun ls hl => ?_)
  refine lv_aload_n hx hb dLw_law_173 rfl (lv_at hl 4 rfl) ?_
  refine vp_callSi (va_Run.run (va_runV (As := []) (rest := []) ⟨hx, hb, hml, hown, hc⟩ (cMo_thrown l dC dI am cm H.size (oBlock S (xs (4 * i + 1)) (xs (4 * i + 2)) (xs (4 * i + 3))).2.2 E2) (cwV 0 hc (gV w650 w651 w652 w5 qMo_thrown) rfl rfl rfl (by decide +kernel) ⟨(Nat.le_of_ble_eq_true rfl), (Nat.le_of_ble_eq_true rfl)⟩) ⟨gPre_blind, va_recv hKm (fr_Pr hP) (ci := 4) (q0 := 0) rfl rfl, gPre_in (fr_Pr hP) hKm (fr_Dr hD)⟩ rfl rfl hl.1 rfl (lv_room (Nat.le_of_ble_eq_true rfl)) dLw_law_174 ⟨by show _ ≤ 601024; omega, by show _ ≤ 7293034; omega⟩)) (fun r3 h3 => ?_)
  refine lv_iload hx hb dLw_law_177 (lv_at hl 1 rfl) ?_
  refine lv_icmp_eq (tgt := 184) hx hb dLw_law_179 (by decide) (fun c_12 => ?_) (fun c_12 => ?_)
  · refine lv_iload hx hb dLw_law_184 (lv_at hl 1 rfl) ?_
    refine lv_if_ne (tgt := 201) hx hb dLw_law_186 (by decide) (fun c_13 => ?_) (fun c_13 => ?_)
    · refine lv_goto (tgt := 1104) hx hb dLw_law_201 (by decide) ?_
      refine W.widen (k := cells + 1) (n := slots + 6) (by omega) (by omega) ?_
      exact K _ _ _ _ _ _ _ (Inv_block hI _ _ _) hP hD hS (lv_sub hl [2, 3, 4, 5, 6, 7] rfl)
    · have hz := c_13
      have hq := (w3 hz).trans (congrArg Int32.toInt64 (m2 (w1.symm.trans hz)).symm)
      refine lv_aload_n hx hb dLw_law_189 rfl (lv_at hl 5 rfl) ?_
      refine lv_iconst (v := 0) hx hb dLw_law_190 (by decide +kernel) ?_
      refine va_lald hx hb hKx (fr_Pl hP) 28 14 rfl rfl (vp_in_nI (n := 0) (by decide) (by decide)) dLw_law_191 ?_
      refine W.eq (g2 := F0 m 192 ls [.long (fo1 0)]) rfl ?_
      refine lv_iload hx hb dLw_law_192 (lv_at hl 0 rfl) ?_
      refine lv_i2l (v := r2.toInt64) hx hb dLw_law_194 rfl ?_
      refine W.lcmp hx hb dLw_law_195 ?_
      refine lv_if_eq (tgt := 201) hx hb dLw_law_196 (by decide) (fun c_14 => ?_) (fun c_14 => ?_)
      · refine lv_goto (tgt := 1104) hx hb dLw_law_201 (by decide) ?_
        refine W.widen (k := cells + 1) (n := slots + 6) (by omega) (by omega) ?_
        exact K _ _ _ _ _ _ _ (Inv_block hI _ _ _) hP hD hS (lv_sub hl [2, 3, 4, 5, 6, 7] rfl)
      · exact absurd ((lg_cmp_eq _ _).mpr hq) c_14
  · exact absurd (h3.trans (m1.symm.trans w1.symm)) c_12

set_option maxHeartbeats 4000000 in
set_option maxRecDepth 100000 in
theorem law_tune {p : Program} {e : Env} {s : State} {m : MethodId} {below : List Frame} {meth : Method} {c : Code} {l : Launch} {b L : Nat} {xs : Nat → Int32} {A : Nat → Prop} {dC : Nat → ClassId} {dI : Nat → Nat → Nat} {ax am : Nat → Nat} {cx cm : Nat → ClassId} {qo : Nat} {co : ClassId} {qd : Nat} {cd : ClassId} (C9 : LC p s m meth c b L xs A dC dI cx cm co cd) (hl9 : l.stackTraces = false) {i : Nat} (hi : 4 * i + 4 ≤ L) {S E : Ss} {fo : Nat → Int64} {fd : Nat → UInt64} {H : Heap} {locs : List Loc} {ls : Array Slot} {cells slots : Nat} (hcell : cells + 1 ≤ 601024) (hslot : slots + 6 ≤ 7293034) (hI : Inv S) (hP : va_P (dC, dI) vwCl (lwW ax cx am cm qo co qd cd S E fo fd) H) (hD : va_D A (lwW ax cx am cm qo co qd cd S E fo fd)) (hS : va_S A s.heap H locs) (hl : lv_has ls 9 [(0, .ref b), (1, .ref (ax 0)), (2, .ref (am 0)), (3, .ref qo), (4, .ref qd), (5, .int (nI (4 * i)))]) (K : LK p l e s m below meth c b A dC dI ax cx am cm qo co qd cd (cells + 1) (slots + 6) 1104 (nI (4 * i))) : W p l e room_1 s m #[Value.ref b] below meth c H locs cells slots (lw_Z below #[Value.ref b] s) (F0 m 204 ls []) := by
  obtain ⟨C0, hL, hA, hbA, hu, hn, hnc, hKx, hKm⟩ := id C9
  obtain ⟨hx, hb, hr, hml, hown, hts, hX, hbl, hlocks, hgv⟩ := id C0
  have hc : ∀ w ∈ CW, w.before #[Value.ref b] s = true := fun w h => hts w (List.mem_filter.mp h).1
  obtain ⟨m0, hm, em⟩ := Inv_made hI
  refine lv_aload_n hx hb dLw_law_204 rfl (lv_at hl 1 rfl) ?_
  refine lv_aload_n hx hb dLw_law_205 rfl (lv_at hl 0 rfl) ?_
  refine lv_iload hx hb dLw_law_206 (lv_at hl 5 rfl) ?_
  refine lv_iconst (v := 1) hx hb dLw_law_208 (by decide +kernel) ?_
  refine lv_iadd hx hb dLw_law_209 ?_
  refine lv_topi (fun v_1 ev_1 => ?_)
  rw [nI_1] at ev_1
  subst v_1
  refine va_sld hx hb hX hbl hbA hS (vp_in_nI (by omega) (by omega)) dLw_law_210 ?_
  refine lv_topi (fun v_2 ev_2 => ?_)
  rw [nI_clamp (by omega)] at ev_2
  subst v_2
  refine lv_aload_n hx hb dLw_law_211 rfl (lv_at hl 0 rfl) ?_
  refine lv_iload hx hb dLw_law_212 (lv_at hl 5 rfl) ?_
  refine lv_iconst (v := 2) hx hb dLw_law_214 (by decide +kernel) ?_
  refine lv_iadd hx hb dLw_law_215 ?_
  refine lv_topi (fun v_3 ev_3 => ?_)
  rw [ad_2] at ev_3
  subst v_3
  refine va_sld hx hb hX hbl hbA hS (vp_in_nI (by omega) (by omega)) dLw_law_216 ?_
  refine lv_topi (fun v_4 ev_4 => ?_)
  rw [nI_clamp (by omega)] at ev_4
  subst v_4
  refine lv_i2d hx hb dLw_law_217 ?_
  refine lv_ldc2d (v := 4593671619917905920) hx hb hown (hc _ w785) dLw_law_218 ?_
  refine lv_dmul hx hb dLw_law_221 (e8_n (e8_eD (xs (4 * i + 2)))) ?_
  refine W.eq (g2 := F0 m 222 ls [.double (eD (xs (4 * i + 2))), .int (xs (4 * i + 1)), .ref (ax 0)]) rfl ?_
  refine lv_aload_n hx hb dLw_law_222 rfl (lv_at hl 0 rfl) ?_
  refine lv_iload hx hb dLw_law_223 (lv_at hl 5 rfl) ?_
  refine lv_iconst (v := 3) hx hb dLw_law_225 (by decide +kernel) ?_
  refine lv_iadd hx hb dLw_law_226 ?_
  refine lv_topi (fun v_5 ev_5 => ?_)
  rw [ad_3] at ev_5
  subst v_5
  refine va_sld hx hb hX hbl hbA hS (vp_in_nI (by omega) (by omega)) dLw_law_227 ?_
  refine lv_topi (fun v_6 ev_6 => ?_)
  rw [nI_clamp (by omega)] at ev_6
  subst v_6
  refine lv_i2d hx hb dLw_law_228 ?_
  refine lv_ldc2d (v := 4593671619917905920) hx hb hown (hc _ w785) dLw_law_229 ?_
  refine lv_dmul hx hb dLw_law_232 (e8_n (e8_eD (xs (4 * i + 3)))) ?_
  refine W.eq (g2 := F0 m 233 ls [.double (eD (xs (4 * i + 3))), .double (eD (xs (4 * i + 2))), .int (xs (4 * i + 1)), .ref (ax 0)]) rfl ?_
  refine lv_aload hx hb dLw_law_233 (lv_at hl 4 rfl) ?_
  refine f_calli (vx_runSW (As := [.ref (ax 0), .int (xs (4 * i + 1)), .double (eD (xs (4 * i + 2))), .double (eD (xs (4 * i + 3))), .ref qd]) (rest := []) ⟨hx, hb, hml, hown, hc⟩ (cLw_tune l hl9 dC dI ax cx H.size S qo co fo qd cd fd (xs (4 * i + 1)) (xs (4 * i + 2)) (xs (4 * i + 3)) m0 hm em) (vx_cwSW 5 hc (g_S w280 w281 w0 qLw_tune) rfl rfl rfl (by decide +kernel) ⟨(Nat.le_of_ble_eq_true rfl), (Nat.le_of_ble_eq_true rfl)⟩) ⟨wPre_blind, wPre_in (fr_Pl hP) hKx (fr_Dl hD) hS (fr_freel hD hS hA) hu hn hnc⟩ rfl rfl hl.1 rfl (lv_room (Nat.le_of_ble_eq_true rfl)) dLw_law_235 ⟨show cells + 1 ≤ 601024 by omega, show slots + 6 ≤ 7293034 by omega⟩) hP hD hS hA (fun r1 u H locs hu9 hP hD hS => ?_)
  obtain ⟨S1, fo1, fd1⟩ := u
  obtain ⟨w1, w2, w3⟩ := hu9
  dsimp only at w1 w2 w3 hP hD
  subst w2
  refine lv_istore (lv' := [(6, .int r1), (0, .ref b), (1, .ref (ax 0)), (2, .ref (am 0)), (3, .ref qo), (4, .ref qd), (5, .int (nI (4 * i)))]) hx hb dLw_law_238 hl (by decide) rfl (fun ls hl => ?_)
  refine lv_aload_n hx hb dLw_law_240 rfl (lv_at hl 3 rfl) ?_
  refine lv_aload_n hx hb dLw_law_241 rfl (lv_at hl 1 rfl) ?_
  refine lv_iload hx hb dLw_law_242 (lv_at hl 6 rfl) ?_
  refine lv_iconst (v := 1) hx hb dLw_law_244 (by decide +kernel) ?_
  refine lv_iadd hx hb dLw_law_245 ?_
  refine lv_topi (fun v_7 ev_7 => ?_)
  rw [nI_1] at ev_7
  subst v_7
  refine va_sld hx hb hX hbl hbA hS (vp_in_nI (by omega) (by omega)) dLw_law_246 ?_
  refine lv_topi (fun v_8 ev_8 => ?_)
  rw [nI_clamp (by omega)] at ev_8
  subst v_8
  refine lv_aload_n hx hb dLw_law_247 rfl (lv_at hl 1 rfl) ?_
  refine lv_iload hx hb dLw_law_248 (lv_at hl 6 rfl) ?_
  refine lv_iconst (v := 2) hx hb dLw_law_250 (by decide +kernel) ?_
  refine lv_iadd hx hb dLw_law_251 ?_
  refine lv_topi (fun v_9 ev_9 => ?_)
  rw [ad_2] at ev_9
  subst v_9
  refine va_sld hx hb hX hbl hbA hS (vp_in_nI (by omega) (by omega)) dLw_law_252 ?_
  refine lv_topi (fun v_10 ev_10 => ?_)
  rw [nI_clamp (by omega)] at ev_10
  subst v_10
  refine lv_i2d hx hb dLw_law_253 ?_
  refine lv_ldc2d (v := 4593671619917905920) hx hb hown (hc _ w785) dLw_law_254 ?_
  refine lv_dmul hx hb dLw_law_257 (e8_n (e8_eD (xs (4 * i + 2)))) ?_
  refine W.eq (g2 := F0 m 258 ls [.double (eD (xs (4 * i + 2))), .int (xs (4 * i + 1)), .ref (am 0)]) rfl ?_
  refine lv_aload_n hx hb dLw_law_258 rfl (lv_at hl 1 rfl) ?_
  refine lv_iload hx hb dLw_law_259 (lv_at hl 6 rfl) ?_
  refine lv_iconst (v := 3) hx hb dLw_law_261 (by decide +kernel) ?_
  refine lv_iadd hx hb dLw_law_262 ?_
  refine lv_topi (fun v_11 ev_11 => ?_)
  rw [ad_3] at ev_11
  subst v_11
  refine va_sld hx hb hX hbl hbA hS (vp_in_nI (by omega) (by omega)) dLw_law_263 ?_
  refine lv_topi (fun v_12 ev_12 => ?_)
  rw [nI_clamp (by omega)] at ev_12
  subst v_12
  refine lv_i2d hx hb dLw_law_264 ?_
  refine lv_ldc2d (v := 4593671619917905920) hx hb hown (hc _ w785) dLw_law_265 ?_
  refine lv_dmul hx hb dLw_law_268 (e8_n (e8_eD (xs (4 * i + 3)))) ?_
  refine W.eq (g2 := F0 m 269 ls [.double (eD (xs (4 * i + 3))), .double (eD (xs (4 * i + 2))), .int (xs (4 * i + 1)), .ref (am 0)]) rfl ?_
  refine f_calldR (va_runV (As := [.int (xs (4 * i + 1)), .double (eD (xs (4 * i + 2))), .double (eD (xs (4 * i + 3)))]) (rest := []) ⟨hx, hb, hml, hown, hc⟩ (cMo_tune l dC dI am cm H.size S E (xs (4 * i + 1)) (xs (4 * i + 2)) (xs (4 * i + 3)) m0 hm em) (cwV 3 hc (gV w665 w666 w667 w5 qMo_tune) rfl rfl rfl (by decide +kernel) ⟨(Nat.le_of_ble_eq_true rfl), (Nat.le_of_ble_eq_true rfl)⟩) ⟨gPre_blind, va_recv hKm (fr_Pr hP) (ci := 4) (q0 := 0) rfl rfl, gPre_in (fr_Pr hP) hKm (fr_Dr hD)⟩ rfl rfl hl.1 rfl (lv_room (Nat.le_of_ble_eq_true rfl)) dLw_law_269 ⟨by show _ ≤ 601024; omega, by show _ ≤ 7293034; omega⟩) hP hD hS hA (fun r2 u H locs hu8 hP hD hS => ?_)
  obtain ⟨S2, E2⟩ := u
  obtain ⟨m1, m2, m3⟩ := hu8
  dsimp only at m1 m2 m3 hP hD
  subst m3
  refine lv_dstore (lv' := [(7, .double r2), (6, .int r1), (0, .ref b), (1, .ref (ax 0)), (2, .ref (am 0)), (3, .ref qo), (4, .ref qd), (5, .int (nI (4 * i)))]) hx hb dLw_law_272 hl (by decide) rfl (fun ls hl => ?_)
  refine lv_aload_n hx hb dLw_law_274 rfl (lv_at hl 4 rfl) ?_
  refine vp_callSi (va_Run.run (va_runV (As := []) (rest := []) ⟨hx, hb, hml, hown, hc⟩ (cMo_thrown l dC dI am cm H.size (oTune S (xs (4 * i + 1)) (xs (4 * i + 2)) (xs (4 * i + 3))).2.2 E2) (cwV 0 hc (gV w650 w651 w652 w5 qMo_thrown) rfl rfl rfl (by decide +kernel) ⟨(Nat.le_of_ble_eq_true rfl), (Nat.le_of_ble_eq_true rfl)⟩) ⟨gPre_blind, va_recv hKm (fr_Pr hP) (ci := 4) (q0 := 0) rfl rfl, gPre_in (fr_Pr hP) hKm (fr_Dr hD)⟩ rfl rfl hl.1 rfl (lv_room (Nat.le_of_ble_eq_true rfl)) dLw_law_275 ⟨by show _ ≤ 601024; omega, by show _ ≤ 7293034; omega⟩)) (fun r3 h3 => ?_)
  refine lv_iload hx hb dLw_law_278 (lv_at hl 1 rfl) ?_
  refine lv_icmp_eq (tgt := 285) hx hb dLw_law_280 (by decide) (fun c_12 => ?_) (fun c_12 => ?_)
  · refine lv_iload hx hb dLw_law_285 (lv_at hl 1 rfl) ?_
    refine lv_if_ne (tgt := 322) hx hb dLw_law_287 (by decide) (fun c_13 => ?_) (fun c_13 => ?_)
    · refine lv_goto (tgt := 1104) hx hb dLw_law_322 (by decide) ?_
      refine W.widen (k := cells + 1) (n := slots + 6) (by omega) (by omega) ?_
      exact K _ _ _ _ _ _ _ (Inv_tune hI _ _ _) hP hD hS (lv_sub hl [2, 3, 4, 5, 6, 7] rfl)
    · have hz := c_13
      have hq := (w3 hz).trans (m2 (w1.symm.trans hz)).symm
      refine lv_aload hx hb dLw_law_290 (lv_at hl 6 rfl) ?_
      refine lv_iconst (v := 0) hx hb dLw_law_292 (by decide +kernel) ?_
      refine va_dald hx hb hKx (fr_Pl hP) 29 15 rfl rfl (vp_in_nI (n := 0) (by decide) (by decide)) dLw_law_293 ?_
      refine W.eq (g2 := F0 m 294 ls [.double (fd1 0)]) rfl ?_
      refine lv_dload hx hb dLw_law_294 (lv_at hl 0 rfl) ?_
      refine lv_dcmp hx hb dLw_law_296 ?_
      refine lv_if_eq (tgt := 322) hx hb dLw_law_297 (by decide) (fun c_14 => ?_) (fun c_14 => ?_)
      · refine lv_goto (tgt := 1104) hx hb dLw_law_322 (by decide) ?_
        refine W.widen (k := cells + 1) (n := slots + 6) (by omega) (by omega) ?_
        exact K _ _ _ _ _ _ _ (Inv_tune hI _ _ _) hP hD hS (lv_sub hl [2, 3, 4, 5, 6, 7] rfl)
      · have c1 := c_14
        refine lv_aload hx hb dLw_law_300 (lv_at hl 6 rfl) ?_
        refine lv_iconst (v := 0) hx hb dLw_law_302 (by decide +kernel) ?_
        refine va_dald hx hb hKx (fr_Pl hP) 29 15 rfl rfl (vp_in_nI (n := 0) (by decide) (by decide)) dLw_law_303 ?_
        refine W.eq (g2 := F0 m 304 ls [.double (fd1 0)]) rfl ?_
        refine lv_aload hx hb dLw_law_304 (lv_at hl 6 rfl) ?_
        refine lv_iconst (v := 0) hx hb dLw_law_306 (by decide +kernel) ?_
        refine va_dald hx hb hKx (fr_Pl hP) 29 15 rfl rfl (vp_in_nI (n := 0) (by decide) (by decide)) dLw_law_307 ?_
        refine W.eq (g2 := F0 m 308 ls [.double (fd1 0), .double (fd1 0)]) rfl ?_
        refine lv_dcmp hx hb dLw_law_308 ?_
        refine lv_if_eq (tgt := 320) hx hb dLw_law_309 (by decide) (fun c_15 => ?_) (fun c_15 => ?_)
        · exact absurd (by rw [← hq]; exact c_15) c1
        · refine lv_dload hx hb dLw_law_312 (lv_at hl 0 rfl) ?_
          refine lv_dload hx hb dLw_law_314 (lv_at hl 0 rfl) ?_
          refine lv_dcmp hx hb dLw_law_316 ?_
          refine lv_if_ne (tgt := 322) hx hb dLw_law_317 (by decide) (fun c_16 => ?_) (fun c_16 => ?_)
          · refine lv_goto (tgt := 1104) hx hb dLw_law_322 (by decide) ?_
            refine W.widen (k := cells + 1) (n := slots + 6) (by omega) (by omega) ?_
            exact K _ _ _ _ _ _ _ (Inv_tune hI _ _ _) hP hD hS (lv_sub hl [2, 3, 4, 5, 6, 7] rfl)
          · exact absurd (by rw [hq]; exact c_16) c1
  · exact absurd (h3.trans (m1.symm.trans w1.symm)) c_12

set_option maxHeartbeats 4000000 in
set_option maxRecDepth 100000 in
theorem law_step {p : Program} {e : Env} {s : State} {m : MethodId} {below : List Frame} {meth : Method} {c : Code} {l : Launch} {b L : Nat} {xs : Nat → Int32} {A : Nat → Prop} {dC : Nat → ClassId} {dI : Nat → Nat → Nat} {ax am : Nat → Nat} {cx cm : Nat → ClassId} {qo : Nat} {co : ClassId} {qd : Nat} {cd : ClassId} (C9 : LC p s m meth c b L xs A dC dI cx cm co cd) (hl9 : l.stackTraces = false) {i : Nat} (hi : 4 * i + 4 ≤ L) {S E : Ss} {fo : Nat → Int64} {fd : Nat → UInt64} {H : Heap} {locs : List Loc} {ls : Array Slot} {cells slots : Nat} (hcell : cells + 1 ≤ 601024) (hslot : slots + 6 ≤ 7293034) (hI : Inv S) (hP : va_P (dC, dI) vwCl (lwW ax cx am cm qo co qd cd S E fo fd) H) (hD : va_D A (lwW ax cx am cm qo co qd cd S E fo fd)) (hS : va_S A s.heap H locs) (hl : lv_has ls 9 [(0, .ref b), (1, .ref (ax 0)), (2, .ref (am 0)), (3, .ref qo), (4, .ref qd), (5, .int (nI (4 * i)))]) (K : LK p l e s m below meth c b A dC dI ax cx am cm qo co qd cd (cells + 1) (slots + 6) 1104 (nI (4 * i))) : W p l e room_1 s m #[Value.ref b] below meth c H locs cells slots (lw_Z below #[Value.ref b] s) (F0 m 325 ls []) := by
  obtain ⟨C0, hL, hA, hbA, hu, hn, hnc, hKx, hKm⟩ := id C9
  obtain ⟨hx, hb, hr, hml, hown, hts, hX, hbl, hlocks, hgv⟩ := id C0
  have hc : ∀ w ∈ CW, w.before #[Value.ref b] s = true := fun w h => hts w (List.mem_filter.mp h).1
  obtain ⟨n9, h9, hn9⟩ := Inv_rung hI (xs (4 * i + 1))
  refine lv_aload_n hx hb dLw_law_325 rfl (lv_at hl 1 rfl) ?_
  refine lv_aload_n hx hb dLw_law_326 rfl (lv_at hl 0 rfl) ?_
  refine lv_iload hx hb dLw_law_327 (lv_at hl 5 rfl) ?_
  refine lv_iconst (v := 1) hx hb dLw_law_329 (by decide +kernel) ?_
  refine lv_iadd hx hb dLw_law_330 ?_
  refine lv_topi (fun v_1 ev_1 => ?_)
  rw [nI_1] at ev_1
  subst v_1
  refine va_sld hx hb hX hbl hbA hS (vp_in_nI (by omega) (by omega)) dLw_law_331 ?_
  refine lv_topi (fun v_2 ev_2 => ?_)
  rw [nI_clamp (by omega)] at ev_2
  subst v_2
  refine lv_aload_n hx hb dLw_law_332 rfl (lv_at hl 0 rfl) ?_
  refine lv_iload hx hb dLw_law_333 (lv_at hl 5 rfl) ?_
  refine lv_iconst (v := 2) hx hb dLw_law_335 (by decide +kernel) ?_
  refine lv_iadd hx hb dLw_law_336 ?_
  refine lv_topi (fun v_3 ev_3 => ?_)
  rw [ad_2] at ev_3
  subst v_3
  refine va_sld hx hb hX hbl hbA hS (vp_in_nI (by omega) (by omega)) dLw_law_337 ?_
  refine lv_topi (fun v_4 ev_4 => ?_)
  rw [nI_clamp (by omega)] at ev_4
  subst v_4
  refine lv_aload_n hx hb dLw_law_338 rfl (lv_at hl 0 rfl) ?_
  refine lv_iload hx hb dLw_law_339 (lv_at hl 5 rfl) ?_
  refine lv_iconst (v := 3) hx hb dLw_law_341 (by decide +kernel) ?_
  refine lv_iadd hx hb dLw_law_342 ?_
  refine lv_topi (fun v_5 ev_5 => ?_)
  rw [ad_3] at ev_5
  subst v_5
  refine va_sld hx hb hX hbl hbA hS (vp_in_nI (by omega) (by omega)) dLw_law_343 ?_
  refine lv_topi (fun v_6 ev_6 => ?_)
  rw [nI_clamp (by omega)] at ev_6
  subst v_6
  refine lv_aload_n hx hb dLw_law_344 rfl (lv_at hl 3 rfl) ?_
  refine f_calli (vx_runSW (As := [.ref (ax 0), .int (xs (4 * i + 1)), .int (xs (4 * i + 2)), .int (xs (4 * i + 3)), .ref qo]) (rest := []) ⟨hx, hb, hml, hown, hc⟩ (cLw_step l hl9 dC dI ax cx H.size S qo co fo qd cd fd (xs (4 * i + 1)) (xs (4 * i + 2)) (xs (4 * i + 3)) n9 (fun z => ⟨(hn9 z).1, (hn9 z).2.1⟩)) (vx_cwSW 5 hc (g_S w338 w339 w0 qLw_step) rfl rfl rfl (by decide +kernel) ⟨(Nat.le_of_ble_eq_true rfl), (Nat.le_of_ble_eq_true rfl)⟩) ⟨wPre_blind, wPre_in (fr_Pl hP) hKx (fr_Dl hD) hS (fr_freel hD hS hA) hu hn hnc⟩ rfl rfl hl.1 rfl (lv_room (Nat.le_of_ble_eq_true rfl)) dLw_law_345 ⟨show cells + 1 ≤ 601024 by omega, show slots + 6 ≤ 7293034 by omega⟩) hP hD hS hA (fun r1 u H locs hu9 hP hD hS => ?_)
  obtain ⟨S1, fo1, fd1⟩ := u
  obtain ⟨w1, w2, w3⟩ := hu9
  dsimp only at w1 w2 w3 hP hD
  subst w2
  refine lv_istore (lv' := [(6, .int r1), (0, .ref b), (1, .ref (ax 0)), (2, .ref (am 0)), (3, .ref qo), (4, .ref qd), (5, .int (nI (4 * i)))]) hx hb dLw_law_348 hl (by decide) rfl (fun ls hl => ?_)
  refine lv_aload_n hx hb dLw_law_350 rfl (lv_at hl 3 rfl) ?_
  refine lv_aload_n hx hb dLw_law_351 rfl (lv_at hl 1 rfl) ?_
  refine lv_iload hx hb dLw_law_352 (lv_at hl 6 rfl) ?_
  refine lv_iconst (v := 1) hx hb dLw_law_354 (by decide +kernel) ?_
  refine lv_iadd hx hb dLw_law_355 ?_
  refine lv_topi (fun v_7 ev_7 => ?_)
  rw [nI_1] at ev_7
  subst v_7
  refine va_sld hx hb hX hbl hbA hS (vp_in_nI (by omega) (by omega)) dLw_law_356 ?_
  refine lv_topi (fun v_8 ev_8 => ?_)
  rw [nI_clamp (by omega)] at ev_8
  subst v_8
  refine lv_aload_n hx hb dLw_law_357 rfl (lv_at hl 1 rfl) ?_
  refine lv_iload hx hb dLw_law_358 (lv_at hl 6 rfl) ?_
  refine lv_iconst (v := 2) hx hb dLw_law_360 (by decide +kernel) ?_
  refine lv_iadd hx hb dLw_law_361 ?_
  refine lv_topi (fun v_9 ev_9 => ?_)
  rw [ad_2] at ev_9
  subst v_9
  refine va_sld hx hb hX hbl hbA hS (vp_in_nI (by omega) (by omega)) dLw_law_362 ?_
  refine lv_topi (fun v_10 ev_10 => ?_)
  rw [nI_clamp (by omega)] at ev_10
  subst v_10
  refine lv_aload_n hx hb dLw_law_363 rfl (lv_at hl 1 rfl) ?_
  refine lv_iload hx hb dLw_law_364 (lv_at hl 6 rfl) ?_
  refine lv_iconst (v := 3) hx hb dLw_law_366 (by decide +kernel) ?_
  refine lv_iadd hx hb dLw_law_367 ?_
  refine lv_topi (fun v_11 ev_11 => ?_)
  rw [ad_3] at ev_11
  subst v_11
  refine va_sld hx hb hX hbl hbA hS (vp_in_nI (by omega) (by omega)) dLw_law_368 ?_
  refine lv_topi (fun v_12 ev_12 => ?_)
  rw [nI_clamp (by omega)] at ev_12
  subst v_12
  refine f_calliR (va_runV (As := [.int (xs (4 * i + 1)), .int (xs (4 * i + 2)), .int (xs (4 * i + 3))]) (rest := []) ⟨hx, hb, hml, hown, hc⟩ (cMo_step l dC dI am cm H.size S E (xs (4 * i + 1)) (xs (4 * i + 2)) (xs (4 * i + 3)) n9 h9 hn9) (cwV 3 hc (gV w682 w683 w684 w5 qMo_step) rfl rfl rfl (by decide +kernel) ⟨(Nat.le_of_ble_eq_true rfl), (Nat.le_of_ble_eq_true rfl)⟩) ⟨gPre_blind, va_recv hKm (fr_Pr hP) (ci := 4) (q0 := 0) rfl rfl, gPre_in (fr_Pr hP) hKm (fr_Dr hD)⟩ rfl rfl hl.1 rfl (lv_room (Nat.le_of_ble_eq_true rfl)) dLw_law_369 ⟨by show _ ≤ 601024; omega, by show _ ≤ 7293034; omega⟩) hP hD hS hA (fun r2 u H locs hu8 hP hD hS => ?_)
  obtain ⟨S2, E2⟩ := u
  obtain ⟨m1, m2, m3⟩ := hu8
  dsimp only at m1 m2 m3 hP hD
  subst m3
  refine lv_istore (lv' := [(7, .int r2), (6, .int r1), (0, .ref b), (1, .ref (ax 0)), (2, .ref (am 0)), (3, .ref qo), (4, .ref qd), (5, .int (nI (4 * i)))]) hx hb dLw_law_372 hl (by decide) rfl (fun ls hl => ?_)
  refine lv_aload_n hx hb dLw_law_374 rfl (lv_at hl 4 rfl) ?_
  refine vp_callSi (va_Run.run (va_runV (As := []) (rest := []) ⟨hx, hb, hml, hown, hc⟩ (cMo_thrown l dC dI am cm H.size (oStep S (xs (4 * i + 1)) (xs (4 * i + 2)) (xs (4 * i + 3))).2.2 E2) (cwV 0 hc (gV w650 w651 w652 w5 qMo_thrown) rfl rfl rfl (by decide +kernel) ⟨(Nat.le_of_ble_eq_true rfl), (Nat.le_of_ble_eq_true rfl)⟩) ⟨gPre_blind, va_recv hKm (fr_Pr hP) (ci := 4) (q0 := 0) rfl rfl, gPre_in (fr_Pr hP) hKm (fr_Dr hD)⟩ rfl rfl hl.1 rfl (lv_room (Nat.le_of_ble_eq_true rfl)) dLw_law_375 ⟨by show _ ≤ 601024; omega, by show _ ≤ 7293034; omega⟩)) (fun r3 h3 => ?_)
  refine lv_iload hx hb dLw_law_378 (lv_at hl 1 rfl) ?_
  refine lv_icmp_eq (tgt := 385) hx hb dLw_law_380 (by decide) (fun c_12 => ?_) (fun c_12 => ?_)
  · refine lv_iload hx hb dLw_law_385 (lv_at hl 1 rfl) ?_
    refine lv_if_ne (tgt := 402) hx hb dLw_law_387 (by decide) (fun c_13 => ?_) (fun c_13 => ?_)
    · refine lv_goto (tgt := 1104) hx hb dLw_law_402 (by decide) ?_
      refine W.widen (k := cells + 1) (n := slots + 6) (by omega) (by omega) ?_
      exact K _ _ _ _ _ _ _ (Inv_step hI _ _ _) hP hD hS (lv_sub hl [2, 3, 4, 5, 6, 7] rfl)
    · have hz := c_13
      have hq := (w3 hz).trans (congrArg Int32.toInt64 (m2 (w1.symm.trans hz)).symm)
      refine lv_aload_n hx hb dLw_law_390 rfl (lv_at hl 5 rfl) ?_
      refine lv_iconst (v := 0) hx hb dLw_law_391 (by decide +kernel) ?_
      refine va_lald hx hb hKx (fr_Pl hP) 28 14 rfl rfl (vp_in_nI (n := 0) (by decide) (by decide)) dLw_law_392 ?_
      refine W.eq (g2 := F0 m 393 ls [.long (fo1 0)]) rfl ?_
      refine lv_iload hx hb dLw_law_393 (lv_at hl 0 rfl) ?_
      refine lv_i2l (v := r2.toInt64) hx hb dLw_law_395 rfl ?_
      refine W.lcmp hx hb dLw_law_396 ?_
      refine lv_if_eq (tgt := 402) hx hb dLw_law_397 (by decide) (fun c_14 => ?_) (fun c_14 => ?_)
      · refine lv_goto (tgt := 1104) hx hb dLw_law_402 (by decide) ?_
        refine W.widen (k := cells + 1) (n := slots + 6) (by omega) (by omega) ?_
        exact K _ _ _ _ _ _ _ (Inv_step hI _ _ _) hP hD hS (lv_sub hl [2, 3, 4, 5, 6, 7] rfl)
      · exact absurd ((lg_cmp_eq _ _).mpr hq) c_14
  · exact absurd (h3.trans (m1.symm.trans w1.symm)) c_12

set_option maxHeartbeats 4000000 in
set_option maxRecDepth 100000 in
theorem law_erase {p : Program} {e : Env} {s : State} {m : MethodId} {below : List Frame} {meth : Method} {c : Code} {l : Launch} {b L : Nat} {xs : Nat → Int32} {A : Nat → Prop} {dC : Nat → ClassId} {dI : Nat → Nat → Nat} {ax am : Nat → Nat} {cx cm : Nat → ClassId} {qo : Nat} {co : ClassId} {qd : Nat} {cd : ClassId} (C9 : LC p s m meth c b L xs A dC dI cx cm co cd) (hl9 : l.stackTraces = false) {i : Nat} (hi : 4 * i + 4 ≤ L) {S E : Ss} {fo : Nat → Int64} {fd : Nat → UInt64} {H : Heap} {locs : List Loc} {ls : Array Slot} {cells slots : Nat} (hcell : cells + 1 ≤ 601024) (hslot : slots + 6 ≤ 7293034) (hI : Inv S) (hP : va_P (dC, dI) vwCl (lwW ax cx am cm qo co qd cd S E fo fd) H) (hD : va_D A (lwW ax cx am cm qo co qd cd S E fo fd)) (hS : va_S A s.heap H locs) (hl : lv_has ls 9 [(0, .ref b), (1, .ref (ax 0)), (2, .ref (am 0)), (3, .ref qo), (4, .ref qd), (5, .int (nI (4 * i)))]) (K : LK p l e s m below meth c b A dC dI ax cx am cm qo co qd cd (cells + 1) (slots + 6) 1104 (nI (4 * i))) : W p l e room_1 s m #[Value.ref b] below meth c H locs cells slots (lw_Z below #[Value.ref b] s) (F0 m 405 ls []) := by
  obtain ⟨C0, hL, hA, hbA, hu, hn, hnc, hKx, hKm⟩ := id C9
  obtain ⟨hx, hb, hr, hml, hown, hts, hX, hbl, hlocks, hgv⟩ := id C0
  have hc : ∀ w ∈ CW, w.before #[Value.ref b] s = true := fun w h => hts w (List.mem_filter.mp h).1
  refine lv_aload_n hx hb dLw_law_405 rfl (lv_at hl 1 rfl) ?_
  refine lv_aload_n hx hb dLw_law_406 rfl (lv_at hl 0 rfl) ?_
  refine lv_iload hx hb dLw_law_407 (lv_at hl 5 rfl) ?_
  refine lv_iconst (v := 1) hx hb dLw_law_409 (by decide +kernel) ?_
  refine lv_iadd hx hb dLw_law_410 ?_
  refine lv_topi (fun v_1 ev_1 => ?_)
  rw [nI_1] at ev_1
  subst v_1
  refine va_sld hx hb hX hbl hbA hS (vp_in_nI (by omega) (by omega)) dLw_law_411 ?_
  refine lv_topi (fun v_2 ev_2 => ?_)
  rw [nI_clamp (by omega)] at ev_2
  subst v_2
  refine lv_aload_n hx hb dLw_law_412 rfl (lv_at hl 3 rfl) ?_
  refine f_calli (vx_runSW (As := [.ref (ax 0), .int (xs (4 * i + 1)), .ref qo]) (rest := []) ⟨hx, hb, hml, hown, hc⟩ (cLw_erase l hl9 dC dI ax cx H.size S qo co fo qd cd fd (xs (4 * i + 1))) (vx_cwSW 3 hc (g_S w376 w377 w0 qLw_erase) rfl rfl rfl (by decide +kernel) ⟨(Nat.le_of_ble_eq_true rfl), (Nat.le_of_ble_eq_true rfl)⟩) ⟨wPre_blind, wPre_in (fr_Pl hP) hKx (fr_Dl hD) hS (fr_freel hD hS hA) hu hn hnc⟩ rfl rfl hl.1 rfl (lv_room (Nat.le_of_ble_eq_true rfl)) dLw_law_413 ⟨show cells + 1 ≤ 601024 by omega, show slots + 6 ≤ 7293034 by omega⟩) hP hD hS hA (fun r1 u H locs hu9 hP hD hS => ?_)
  obtain ⟨S1, fo1, fd1⟩ := u
  obtain ⟨w1, w2, w3⟩ := hu9
  dsimp only at w1 w2 w3 hP hD
  subst w2
  refine lv_istore (lv' := [(6, .int r1), (0, .ref b), (1, .ref (ax 0)), (2, .ref (am 0)), (3, .ref qo), (4, .ref qd), (5, .int (nI (4 * i)))]) hx hb dLw_law_416 hl (by decide) rfl (fun ls hl => ?_)
  refine lv_aload_n hx hb dLw_law_418 rfl (lv_at hl 3 rfl) ?_
  refine lv_aload_n hx hb dLw_law_419 rfl (lv_at hl 1 rfl) ?_
  refine lv_iload hx hb dLw_law_420 (lv_at hl 6 rfl) ?_
  refine lv_iconst (v := 1) hx hb dLw_law_422 (by decide +kernel) ?_
  refine lv_iadd hx hb dLw_law_423 ?_
  refine lv_topi (fun v_3 ev_3 => ?_)
  rw [nI_1] at ev_3
  subst v_3
  refine va_sld hx hb hX hbl hbA hS (vp_in_nI (by omega) (by omega)) dLw_law_424 ?_
  refine lv_topi (fun v_4 ev_4 => ?_)
  rw [nI_clamp (by omega)] at ev_4
  subst v_4
  refine f_calliR (va_runV (As := [.int (xs (4 * i + 1))]) (rest := []) ⟨hx, hb, hml, hown, hc⟩ (cMo_erase l dC dI am cm H.size S E (xs (4 * i + 1))) (cwV 1 hc (gV w696 w697 w698 w5 qMo_erase) rfl rfl rfl (by decide +kernel) ⟨(Nat.le_of_ble_eq_true rfl), (Nat.le_of_ble_eq_true rfl)⟩) ⟨gPre_blind, va_recv hKm (fr_Pr hP) (ci := 4) (q0 := 0) rfl rfl, gPre_in (fr_Pr hP) hKm (fr_Dr hD)⟩ rfl rfl hl.1 rfl (lv_room (Nat.le_of_ble_eq_true rfl)) dLw_law_425 ⟨by show _ ≤ 601024; omega, by show _ ≤ 7293034; omega⟩) hP hD hS hA (fun r2 u H locs hu8 hP hD hS => ?_)
  obtain ⟨S2, E2⟩ := u
  obtain ⟨m1, m2, m3⟩ := hu8
  dsimp only at m1 m2 m3 hP hD
  subst m3
  refine lv_istore (lv' := [(7, .int r2), (6, .int r1), (0, .ref b), (1, .ref (ax 0)), (2, .ref (am 0)), (3, .ref qo), (4, .ref qd), (5, .int (nI (4 * i)))]) hx hb dLw_law_428 hl (by decide) rfl (fun ls hl => ?_)
  refine lv_aload_n hx hb dLw_law_430 rfl (lv_at hl 4 rfl) ?_
  refine vp_callSi (va_Run.run (va_runV (As := []) (rest := []) ⟨hx, hb, hml, hown, hc⟩ (cMo_thrown l dC dI am cm H.size (oErase S (xs (4 * i + 1))).2.2 E2) (cwV 0 hc (gV w650 w651 w652 w5 qMo_thrown) rfl rfl rfl (by decide +kernel) ⟨(Nat.le_of_ble_eq_true rfl), (Nat.le_of_ble_eq_true rfl)⟩) ⟨gPre_blind, va_recv hKm (fr_Pr hP) (ci := 4) (q0 := 0) rfl rfl, gPre_in (fr_Pr hP) hKm (fr_Dr hD)⟩ rfl rfl hl.1 rfl (lv_room (Nat.le_of_ble_eq_true rfl)) dLw_law_431 ⟨by show _ ≤ 601024; omega, by show _ ≤ 7293034; omega⟩)) (fun r3 h3 => ?_)
  refine lv_iload hx hb dLw_law_434 (lv_at hl 1 rfl) ?_
  refine lv_icmp_eq (tgt := 441) hx hb dLw_law_436 (by decide) (fun c_4 => ?_) (fun c_4 => ?_)
  · refine lv_iload hx hb dLw_law_441 (lv_at hl 1 rfl) ?_
    refine lv_if_ne (tgt := 458) hx hb dLw_law_443 (by decide) (fun c_5 => ?_) (fun c_5 => ?_)
    · refine lv_goto (tgt := 1104) hx hb dLw_law_458 (by decide) ?_
      refine W.widen (k := cells + 1) (n := slots + 6) (by omega) (by omega) ?_
      exact K _ _ _ _ _ _ _ (Inv_erase hI _) hP hD hS (lv_sub hl [2, 3, 4, 5, 6, 7] rfl)
    · have hz := c_5
      have hq := (w3 hz).trans (congrArg Int32.toInt64 (m2 (w1.symm.trans hz)).symm)
      refine lv_aload_n hx hb dLw_law_446 rfl (lv_at hl 5 rfl) ?_
      refine lv_iconst (v := 0) hx hb dLw_law_447 (by decide +kernel) ?_
      refine va_lald hx hb hKx (fr_Pl hP) 28 14 rfl rfl (vp_in_nI (n := 0) (by decide) (by decide)) dLw_law_448 ?_
      refine W.eq (g2 := F0 m 449 ls [.long (fo1 0)]) rfl ?_
      refine lv_iload hx hb dLw_law_449 (lv_at hl 0 rfl) ?_
      refine lv_i2l (v := r2.toInt64) hx hb dLw_law_451 rfl ?_
      refine W.lcmp hx hb dLw_law_452 ?_
      refine lv_if_eq (tgt := 458) hx hb dLw_law_453 (by decide) (fun c_6 => ?_) (fun c_6 => ?_)
      · refine lv_goto (tgt := 1104) hx hb dLw_law_458 (by decide) ?_
        refine W.widen (k := cells + 1) (n := slots + 6) (by omega) (by omega) ?_
        exact K _ _ _ _ _ _ _ (Inv_erase hI _) hP hD hS (lv_sub hl [2, 3, 4, 5, 6, 7] rfl)
      · exact absurd ((lg_cmp_eq _ _).mpr hq) c_6
  · exact absurd (h3.trans (m1.symm.trans w1.symm)) c_4

set_option maxHeartbeats 4000000 in
set_option maxRecDepth 100000 in
theorem law_download {p : Program} {e : Env} {s : State} {m : MethodId} {below : List Frame} {meth : Method} {c : Code} {l : Launch} {b L : Nat} {xs : Nat → Int32} {A : Nat → Prop} {dC : Nat → ClassId} {dI : Nat → Nat → Nat} {ax am : Nat → Nat} {cx cm : Nat → ClassId} {qo : Nat} {co : ClassId} {qd : Nat} {cd : ClassId} (C9 : LC p s m meth c b L xs A dC dI cx cm co cd) (hl9 : l.stackTraces = false) {i : Nat} (hi : 4 * i + 4 ≤ L) {S E : Ss} {fo : Nat → Int64} {fd : Nat → UInt64} {H : Heap} {locs : List Loc} {ls : Array Slot} {cells slots : Nat} (hcell : cells + 1 ≤ 601024) (hslot : slots + 6 ≤ 7293034) (hI : Inv S) (hP : va_P (dC, dI) vwCl (lwW ax cx am cm qo co qd cd S E fo fd) H) (hD : va_D A (lwW ax cx am cm qo co qd cd S E fo fd)) (hS : va_S A s.heap H locs) (hl : lv_has ls 9 [(0, .ref b), (1, .ref (ax 0)), (2, .ref (am 0)), (3, .ref qo), (4, .ref qd), (5, .int (nI (4 * i)))]) (K : LK p l e s m below meth c b A dC dI ax cx am cm qo co qd cd (cells + 1) (slots + 6) 1104 (nI (4 * i))) : W p l e room_1 s m #[Value.ref b] below meth c H locs cells slots (lw_Z below #[Value.ref b] s) (F0 m 461 ls []) := by
  obtain ⟨C0, hL, hA, hbA, hu, hn, hnc, hKx, hKm⟩ := id C9
  obtain ⟨hx, hb, hr, hml, hown, hts, hX, hbl, hlocks, hgv⟩ := id C0
  have hc : ∀ w ∈ CW, w.before #[Value.ref b] s = true := fun w h => hts w (List.mem_filter.mp h).1
  refine lv_aload_n hx hb dLw_law_461 rfl (lv_at hl 1 rfl) ?_
  unfold lwW at hP hD
  rw [List.append_assoc] at hP hD
  refine f_calli (va_runV (As := []) (rest := []) ⟨hx, hb, hml, hown, hc⟩ (cX_download l dC dI ax cx H.size S) (cwV 0 hc (gV w136 w137 w138 w1 qX_download) rfl rfl rfl (by decide +kernel) ⟨(Nat.le_of_ble_eq_true rfl), (Nat.le_of_ble_eq_true rfl)⟩) ⟨gPre_blind, va_recv (fr_Kl hKx) (fr_Pl hP) (ci := 0) (q0 := 0) rfl rfl, gPre_in (fr_Pl hP) (fr_Kl hKx) (fr_Dl hD)⟩ rfl rfl hl.1 rfl (lv_room (Nat.le_of_ble_eq_true rfl)) dLw_law_462 ⟨by show _ ≤ 601024; omega, by show _ ≤ 7293034; omega⟩) hP hD hS hA (fun r1 S1 H locs w1 hP hD hS => ?_)
  rw [← List.append_assoc] at hP hD
  refine lv_aload_n hx hb dLw_law_465 rfl (lv_at hl 2 rfl) ?_
  refine f_calliR (va_runV (As := []) (rest := [.int r1]) ⟨hx, hb, hml, hown, hc⟩ (cMo_download l dC dI am cm H.size S E ) (cwV 0 hc (gV w700 w701 w702 w5 qMo_download) rfl rfl rfl (by decide +kernel) ⟨(Nat.le_of_ble_eq_true rfl), (Nat.le_of_ble_eq_true rfl)⟩) ⟨gPre_blind, va_recv hKm (fr_Pr hP) (ci := 4) (q0 := 0) rfl rfl, gPre_in (fr_Pr hP) hKm (fr_Dr hD)⟩ rfl rfl hl.1 rfl (lv_room (Nat.le_of_ble_eq_true rfl)) dLw_law_466 ⟨by show _ ≤ 601024; omega, by show _ ≤ 7293034; omega⟩) hP hD hS hA (fun r2 u H locs hu8 hP hD hS => ?_)
  obtain ⟨S2, E2⟩ := u
  dsimp only at hu8 hP hD
  obtain ⟨e1, e2⟩ := Prod.mk.inj (w1.symm.trans hu8)
  subst e2
  refine lv_icmp_eq (tgt := 1104) hx hb dLw_law_469 (by decide) (fun c_0 => ?_) (fun c_0 => ?_)
  · refine W.widen (k := cells + 1) (n := slots + 6) (by omega) (by omega) ?_
    exact K _ _ _ _ _ _ _ (by have z := Inv_down hI; rw [w1] at z; exact z) hP hD hS (lv_sub hl [0, 1, 2, 3, 4, 5] rfl)
  · exact absurd e1 c_0

set_option maxHeartbeats 4000000 in
set_option maxRecDepth 100000 in
theorem law_wire {p : Program} {e : Env} {s : State} {m : MethodId} {below : List Frame} {meth : Method} {c : Code} {l : Launch} {b L : Nat} {xs : Nat → Int32} {A : Nat → Prop} {dC : Nat → ClassId} {dI : Nat → Nat → Nat} {ax am : Nat → Nat} {cx cm : Nat → ClassId} {qo : Nat} {co : ClassId} {qd : Nat} {cd : ClassId} (C9 : LC p s m meth c b L xs A dC dI cx cm co cd) (hl9 : l.stackTraces = false) {i : Nat} (hi : 4 * i + 4 ≤ L) {S E : Ss} {fo : Nat → Int64} {fd : Nat → UInt64} {H : Heap} {locs : List Loc} {ls : Array Slot} {cells slots : Nat} (hcell : cells + 1 ≤ 601024) (hslot : slots + 6 ≤ 7293034) (hI : Inv S) (hP : va_P (dC, dI) vwCl (lwW ax cx am cm qo co qd cd S E fo fd) H) (hD : va_D A (lwW ax cx am cm qo co qd cd S E fo fd)) (hS : va_S A s.heap H locs) (hl : lv_has ls 9 [(0, .ref b), (1, .ref (ax 0)), (2, .ref (am 0)), (3, .ref qo), (4, .ref qd), (5, .int (nI (4 * i)))]) (K : LK p l e s m below meth c b A dC dI ax cx am cm qo co qd cd (cells + 1) (slots + 6) 1104 (nI (4 * i))) : W p l e room_1 s m #[Value.ref b] below meth c H locs cells slots (lw_Z below #[Value.ref b] s) (F0 m 474 ls []) := by
  obtain ⟨C0, hL, hA, hbA, hu, hn, hnc, hKx, hKm⟩ := id C9
  obtain ⟨hx, hb, hr, hml, hown, hts, hX, hbl, hlocks, hgv⟩ := id C0
  have hc : ∀ w ∈ CW, w.before #[Value.ref b] s = true := fun w h => hts w (List.mem_filter.mp h).1
  refine lv_aload_n hx hb dLw_law_474 rfl (lv_at hl 1 rfl) ?_
  refine lv_aload_n hx hb dLw_law_475 rfl (lv_at hl 0 rfl) ?_
  refine lv_iload hx hb dLw_law_476 (lv_at hl 5 rfl) ?_
  refine lv_iconst (v := 1) hx hb dLw_law_478 (by decide +kernel) ?_
  refine lv_iadd hx hb dLw_law_479 ?_
  refine lv_topi (fun v_1 ev_1 => ?_)
  rw [nI_1] at ev_1
  subst v_1
  refine va_sld hx hb hX hbl hbA hS (vp_in_nI (by omega) (by omega)) dLw_law_480 ?_
  refine lv_topi (fun v_2 ev_2 => ?_)
  rw [nI_clamp (by omega)] at ev_2
  subst v_2
  refine lv_aload_n hx hb dLw_law_481 rfl (lv_at hl 0 rfl) ?_
  refine lv_iload hx hb dLw_law_482 (lv_at hl 5 rfl) ?_
  refine lv_iconst (v := 2) hx hb dLw_law_484 (by decide +kernel) ?_
  refine lv_iadd hx hb dLw_law_485 ?_
  refine lv_topi (fun v_3 ev_3 => ?_)
  rw [ad_2] at ev_3
  subst v_3
  refine va_sld hx hb hX hbl hbA hS (vp_in_nI (by omega) (by omega)) dLw_law_486 ?_
  refine lv_topi (fun v_4 ev_4 => ?_)
  rw [nI_clamp (by omega)] at ev_4
  subst v_4
  refine lv_aload_n hx hb dLw_law_487 rfl (lv_at hl 3 rfl) ?_
  refine f_calli (vx_runSW (As := [.ref (ax 0), .int (xs (4 * i + 1)), .int (xs (4 * i + 2)), .ref qo]) (rest := []) ⟨hx, hb, hml, hown, hc⟩ (cLw_wire l hl9 dC dI ax cx H.size S qo co fo qd cd fd (xs (4 * i + 1)) (xs (4 * i + 2))) (vx_cwSW 4 hc (g_S w387 w388 w0 qLw_wire) rfl rfl rfl (by decide +kernel) ⟨(Nat.le_of_ble_eq_true rfl), (Nat.le_of_ble_eq_true rfl)⟩) ⟨wPre_blind, wPre_in (fr_Pl hP) hKx (fr_Dl hD) hS (fr_freel hD hS hA) hu hn hnc⟩ rfl rfl hl.1 rfl (lv_room (Nat.le_of_ble_eq_true rfl)) dLw_law_488 ⟨show cells + 1 ≤ 601024 by omega, show slots + 6 ≤ 7293034 by omega⟩) hP hD hS hA (fun r1 u H locs hu9 hP hD hS => ?_)
  obtain ⟨S1, fo1, fd1⟩ := u
  obtain ⟨w1, w2, w3⟩ := hu9
  dsimp only at w1 w2 w3 hP hD
  subst w2
  refine lv_istore (lv' := [(6, .int r1), (0, .ref b), (1, .ref (ax 0)), (2, .ref (am 0)), (3, .ref qo), (4, .ref qd), (5, .int (nI (4 * i)))]) hx hb dLw_law_491 hl (by decide) rfl (fun ls hl => ?_)
  refine lv_aload_n hx hb dLw_law_493 rfl (lv_at hl 3 rfl) ?_
  refine lv_aload_n hx hb dLw_law_494 rfl (lv_at hl 1 rfl) ?_
  refine lv_iload hx hb dLw_law_495 (lv_at hl 6 rfl) ?_
  refine lv_iconst (v := 1) hx hb dLw_law_497 (by decide +kernel) ?_
  refine lv_iadd hx hb dLw_law_498 ?_
  refine lv_topi (fun v_5 ev_5 => ?_)
  rw [nI_1] at ev_5
  subst v_5
  refine va_sld hx hb hX hbl hbA hS (vp_in_nI (by omega) (by omega)) dLw_law_499 ?_
  refine lv_topi (fun v_6 ev_6 => ?_)
  rw [nI_clamp (by omega)] at ev_6
  subst v_6
  refine lv_aload_n hx hb dLw_law_500 rfl (lv_at hl 1 rfl) ?_
  refine lv_iload hx hb dLw_law_501 (lv_at hl 6 rfl) ?_
  refine lv_iconst (v := 2) hx hb dLw_law_503 (by decide +kernel) ?_
  refine lv_iadd hx hb dLw_law_504 ?_
  refine lv_topi (fun v_7 ev_7 => ?_)
  rw [ad_2] at ev_7
  subst v_7
  refine va_sld hx hb hX hbl hbA hS (vp_in_nI (by omega) (by omega)) dLw_law_505 ?_
  refine lv_topi (fun v_8 ev_8 => ?_)
  rw [nI_clamp (by omega)] at ev_8
  subst v_8
  refine f_calliR (va_runV (As := [.int (xs (4 * i + 1)), .int (xs (4 * i + 2))]) (rest := []) ⟨hx, hb, hml, hown, hc⟩ (cMo_wire l dC dI am cm H.size S E (xs (4 * i + 1)) (xs (4 * i + 2))) (cwV 2 hc (gV w704 w705 w706 w5 qMo_wire) rfl rfl rfl (by decide +kernel) ⟨(Nat.le_of_ble_eq_true rfl), (Nat.le_of_ble_eq_true rfl)⟩) ⟨gPre_blind, va_recv hKm (fr_Pr hP) (ci := 4) (q0 := 0) rfl rfl, gPre_in (fr_Pr hP) hKm (fr_Dr hD)⟩ rfl rfl hl.1 rfl (lv_room (Nat.le_of_ble_eq_true rfl)) dLw_law_506 ⟨by show _ ≤ 601024; omega, by show _ ≤ 7293034; omega⟩) hP hD hS hA (fun r2 u H locs hu8 hP hD hS => ?_)
  obtain ⟨S2, E2⟩ := u
  obtain ⟨m1, m2, m3⟩ := hu8
  dsimp only at m1 m2 m3 hP hD
  subst m3
  refine lv_istore (lv' := [(7, .int r2), (6, .int r1), (0, .ref b), (1, .ref (ax 0)), (2, .ref (am 0)), (3, .ref qo), (4, .ref qd), (5, .int (nI (4 * i)))]) hx hb dLw_law_509 hl (by decide) rfl (fun ls hl => ?_)
  refine lv_aload_n hx hb dLw_law_511 rfl (lv_at hl 4 rfl) ?_
  refine vp_callSi (va_Run.run (va_runV (As := []) (rest := []) ⟨hx, hb, hml, hown, hc⟩ (cMo_thrown l dC dI am cm H.size (oWire S (xs (4 * i + 1)) (xs (4 * i + 2))).2.2 E2) (cwV 0 hc (gV w650 w651 w652 w5 qMo_thrown) rfl rfl rfl (by decide +kernel) ⟨(Nat.le_of_ble_eq_true rfl), (Nat.le_of_ble_eq_true rfl)⟩) ⟨gPre_blind, va_recv hKm (fr_Pr hP) (ci := 4) (q0 := 0) rfl rfl, gPre_in (fr_Pr hP) hKm (fr_Dr hD)⟩ rfl rfl hl.1 rfl (lv_room (Nat.le_of_ble_eq_true rfl)) dLw_law_512 ⟨by show _ ≤ 601024; omega, by show _ ≤ 7293034; omega⟩)) (fun r3 h3 => ?_)
  refine lv_iload hx hb dLw_law_515 (lv_at hl 1 rfl) ?_
  refine lv_icmp_eq (tgt := 522) hx hb dLw_law_517 (by decide) (fun c_8 => ?_) (fun c_8 => ?_)
  · refine lv_iload hx hb dLw_law_522 (lv_at hl 1 rfl) ?_
    refine lv_if_ne (tgt := 539) hx hb dLw_law_524 (by decide) (fun c_9 => ?_) (fun c_9 => ?_)
    · refine lv_goto (tgt := 1104) hx hb dLw_law_539 (by decide) ?_
      refine W.widen (k := cells + 1) (n := slots + 6) (by omega) (by omega) ?_
      exact K _ _ _ _ _ _ _ (Inv_wire hI _ _) hP hD hS (lv_sub hl [2, 3, 4, 5, 6, 7] rfl)
    · have hz := c_9
      have hq := (w3 hz).trans (congrArg Int32.toInt64 (m2 (w1.symm.trans hz)).symm)
      refine lv_aload_n hx hb dLw_law_527 rfl (lv_at hl 5 rfl) ?_
      refine lv_iconst (v := 0) hx hb dLw_law_528 (by decide +kernel) ?_
      refine va_lald hx hb hKx (fr_Pl hP) 28 14 rfl rfl (vp_in_nI (n := 0) (by decide) (by decide)) dLw_law_529 ?_
      refine W.eq (g2 := F0 m 530 ls [.long (fo1 0)]) rfl ?_
      refine lv_iload hx hb dLw_law_530 (lv_at hl 0 rfl) ?_
      refine lv_i2l (v := r2.toInt64) hx hb dLw_law_532 rfl ?_
      refine W.lcmp hx hb dLw_law_533 ?_
      refine lv_if_eq (tgt := 539) hx hb dLw_law_534 (by decide) (fun c_10 => ?_) (fun c_10 => ?_)
      · refine lv_goto (tgt := 1104) hx hb dLw_law_539 (by decide) ?_
        refine W.widen (k := cells + 1) (n := slots + 6) (by omega) (by omega) ?_
        exact K _ _ _ _ _ _ _ (Inv_wire hI _ _) hP hD hS (lv_sub hl [2, 3, 4, 5, 6, 7] rfl)
      · exact absurd ((lg_cmp_eq _ _).mpr hq) c_10
  · exact absurd (h3.trans (m1.symm.trans w1.symm)) c_8

set_option maxHeartbeats 4000000 in
set_option maxRecDepth 100000 in
theorem law_put {p : Program} {e : Env} {s : State} {m : MethodId} {below : List Frame} {meth : Method} {c : Code} {l : Launch} {b L : Nat} {xs : Nat → Int32} {A : Nat → Prop} {dC : Nat → ClassId} {dI : Nat → Nat → Nat} {ax am : Nat → Nat} {cx cm : Nat → ClassId} {qo : Nat} {co : ClassId} {qd : Nat} {cd : ClassId} (C9 : LC p s m meth c b L xs A dC dI cx cm co cd) (hl9 : l.stackTraces = false) {i : Nat} (hi : 4 * i + 4 ≤ L) {S E : Ss} {fo : Nat → Int64} {fd : Nat → UInt64} {H : Heap} {locs : List Loc} {ls : Array Slot} {cells slots : Nat} (hcell : cells + 1 ≤ 601024) (hslot : slots + 6 ≤ 7293034) (hI : Inv S) (hP : va_P (dC, dI) vwCl (lwW ax cx am cm qo co qd cd S E fo fd) H) (hD : va_D A (lwW ax cx am cm qo co qd cd S E fo fd)) (hS : va_S A s.heap H locs) (hl : lv_has ls 9 [(0, .ref b), (1, .ref (ax 0)), (2, .ref (am 0)), (3, .ref qo), (4, .ref qd), (5, .int (nI (4 * i)))]) (K : LK p l e s m below meth c b A dC dI ax cx am cm qo co qd cd (cells + 1) (slots + 6) 1104 (nI (4 * i))) : W p l e room_1 s m #[Value.ref b] below meth c H locs cells slots (lw_Z below #[Value.ref b] s) (F0 m 542 ls []) := by
  obtain ⟨C0, hL, hA, hbA, hu, hn, hnc, hKx, hKm⟩ := id C9
  obtain ⟨hx, hb, hr, hml, hown, hts, hX, hbl, hlocks, hgv⟩ := id C0
  have hc : ∀ w ∈ CW, w.before #[Value.ref b] s = true := fun w h => hts w (List.mem_filter.mp h).1
  refine lv_aload_n hx hb dLw_law_542 rfl (lv_at hl 1 rfl) ?_
  refine lv_aload_n hx hb dLw_law_543 rfl (lv_at hl 0 rfl) ?_
  refine lv_iload hx hb dLw_law_544 (lv_at hl 5 rfl) ?_
  refine lv_iconst (v := 1) hx hb dLw_law_546 (by decide +kernel) ?_
  refine lv_iadd hx hb dLw_law_547 ?_
  refine lv_topi (fun v_1 ev_1 => ?_)
  rw [nI_1] at ev_1
  subst v_1
  refine va_sld hx hb hX hbl hbA hS (vp_in_nI (by omega) (by omega)) dLw_law_548 ?_
  refine lv_topi (fun v_2 ev_2 => ?_)
  rw [nI_clamp (by omega)] at ev_2
  subst v_2
  refine lv_aload_n hx hb dLw_law_549 rfl (lv_at hl 0 rfl) ?_
  refine lv_iload hx hb dLw_law_550 (lv_at hl 5 rfl) ?_
  refine lv_iconst (v := 2) hx hb dLw_law_552 (by decide +kernel) ?_
  refine lv_iadd hx hb dLw_law_553 ?_
  refine lv_topi (fun v_3 ev_3 => ?_)
  rw [ad_2] at ev_3
  subst v_3
  refine va_sld hx hb hX hbl hbA hS (vp_in_nI (by omega) (by omega)) dLw_law_554 ?_
  refine lv_topi (fun v_4 ev_4 => ?_)
  rw [nI_clamp (by omega)] at ev_4
  subst v_4
  refine lv_i2d hx hb dLw_law_555 ?_
  refine lv_ldc2d (v := 4593671619917905920) hx hb hown (hc _ w785) dLw_law_556 ?_
  refine lv_dmul hx hb dLw_law_559 (e8_n (e8_eD (xs (4 * i + 2)))) ?_
  refine W.eq (g2 := F0 m 560 ls [.double (eD (xs (4 * i + 2))), .int (xs (4 * i + 1)), .ref (ax 0)]) rfl ?_
  refine lv_aload hx hb dLw_law_560 (lv_at hl 4 rfl) ?_
  refine f_calli (vx_runSW (As := [.ref (ax 0), .int (xs (4 * i + 1)), .double (eD (xs (4 * i + 2))), .ref qd]) (rest := []) ⟨hx, hb, hml, hown, hc⟩ (cLw_put l hl9 dC dI ax cx H.size S qo co fo qd cd fd (xs (4 * i + 1)) (xs (4 * i + 2))) (vx_cwSW 4 hc (g_S w394 w395 w0 qLw_put) rfl rfl rfl (by decide +kernel) ⟨(Nat.le_of_ble_eq_true rfl), (Nat.le_of_ble_eq_true rfl)⟩) ⟨wPre_blind, wPre_in (fr_Pl hP) hKx (fr_Dl hD) hS (fr_freel hD hS hA) hu hn hnc⟩ rfl rfl hl.1 rfl (lv_room (Nat.le_of_ble_eq_true rfl)) dLw_law_562 ⟨show cells + 1 ≤ 601024 by omega, show slots + 6 ≤ 7293034 by omega⟩) hP hD hS hA (fun r1 u H locs hu9 hP hD hS => ?_)
  obtain ⟨S1, fo1, fd1⟩ := u
  obtain ⟨w1, w2, w3⟩ := hu9
  dsimp only at w1 w2 w3 hP hD
  subst w2
  refine lv_istore (lv' := [(6, .int r1), (0, .ref b), (1, .ref (ax 0)), (2, .ref (am 0)), (3, .ref qo), (4, .ref qd), (5, .int (nI (4 * i)))]) hx hb dLw_law_565 hl (by decide) rfl (fun ls hl => ?_)
  refine lv_aload_n hx hb dLw_law_567 rfl (lv_at hl 3 rfl) ?_
  refine lv_aload_n hx hb dLw_law_568 rfl (lv_at hl 1 rfl) ?_
  refine lv_iload hx hb dLw_law_569 (lv_at hl 6 rfl) ?_
  refine lv_iconst (v := 1) hx hb dLw_law_571 (by decide +kernel) ?_
  refine lv_iadd hx hb dLw_law_572 ?_
  refine lv_topi (fun v_5 ev_5 => ?_)
  rw [nI_1] at ev_5
  subst v_5
  refine va_sld hx hb hX hbl hbA hS (vp_in_nI (by omega) (by omega)) dLw_law_573 ?_
  refine lv_topi (fun v_6 ev_6 => ?_)
  rw [nI_clamp (by omega)] at ev_6
  subst v_6
  refine lv_aload_n hx hb dLw_law_574 rfl (lv_at hl 1 rfl) ?_
  refine lv_iload hx hb dLw_law_575 (lv_at hl 6 rfl) ?_
  refine lv_iconst (v := 2) hx hb dLw_law_577 (by decide +kernel) ?_
  refine lv_iadd hx hb dLw_law_578 ?_
  refine lv_topi (fun v_7 ev_7 => ?_)
  rw [ad_2] at ev_7
  subst v_7
  refine va_sld hx hb hX hbl hbA hS (vp_in_nI (by omega) (by omega)) dLw_law_579 ?_
  refine lv_topi (fun v_8 ev_8 => ?_)
  rw [nI_clamp (by omega)] at ev_8
  subst v_8
  refine lv_i2d hx hb dLw_law_580 ?_
  refine lv_ldc2d (v := 4593671619917905920) hx hb hown (hc _ w785) dLw_law_581 ?_
  refine lv_dmul hx hb dLw_law_584 (e8_n (e8_eD (xs (4 * i + 2)))) ?_
  refine W.eq (g2 := F0 m 585 ls [.double (eD (xs (4 * i + 2))), .int (xs (4 * i + 1)), .ref (am 0)]) rfl ?_
  refine f_calldR (va_runV (As := [.int (xs (4 * i + 1)), .double (eD (xs (4 * i + 2)))]) (rest := []) ⟨hx, hb, hml, hown, hc⟩ (cMo_put l dC dI am cm H.size S E (xs (4 * i + 1)) (xs (4 * i + 2))) (cwV 2 hc (gV w708 w709 w710 w5 qMo_put) rfl rfl rfl (by decide +kernel) ⟨(Nat.le_of_ble_eq_true rfl), (Nat.le_of_ble_eq_true rfl)⟩) ⟨gPre_blind, va_recv hKm (fr_Pr hP) (ci := 4) (q0 := 0) rfl rfl, gPre_in (fr_Pr hP) hKm (fr_Dr hD)⟩ rfl rfl hl.1 rfl (lv_room (Nat.le_of_ble_eq_true rfl)) dLw_law_585 ⟨by show _ ≤ 601024; omega, by show _ ≤ 7293034; omega⟩) hP hD hS hA (fun r2 u H locs hu8 hP hD hS => ?_)
  obtain ⟨S2, E2⟩ := u
  obtain ⟨m1, m2, m3⟩ := hu8
  dsimp only at m1 m2 m3 hP hD
  subst m3
  refine lv_dstore (lv' := [(7, .double r2), (6, .int r1), (0, .ref b), (1, .ref (ax 0)), (2, .ref (am 0)), (3, .ref qo), (4, .ref qd), (5, .int (nI (4 * i)))]) hx hb dLw_law_588 hl (by decide) rfl (fun ls hl => ?_)
  refine lv_aload_n hx hb dLw_law_590 rfl (lv_at hl 4 rfl) ?_
  refine vp_callSi (va_Run.run (va_runV (As := []) (rest := []) ⟨hx, hb, hml, hown, hc⟩ (cMo_thrown l dC dI am cm H.size (oPut S (xs (4 * i + 1)) (xs (4 * i + 2))).2.2 E2) (cwV 0 hc (gV w650 w651 w652 w5 qMo_thrown) rfl rfl rfl (by decide +kernel) ⟨(Nat.le_of_ble_eq_true rfl), (Nat.le_of_ble_eq_true rfl)⟩) ⟨gPre_blind, va_recv hKm (fr_Pr hP) (ci := 4) (q0 := 0) rfl rfl, gPre_in (fr_Pr hP) hKm (fr_Dr hD)⟩ rfl rfl hl.1 rfl (lv_room (Nat.le_of_ble_eq_true rfl)) dLw_law_591 ⟨by show _ ≤ 601024; omega, by show _ ≤ 7293034; omega⟩)) (fun r3 h3 => ?_)
  refine lv_iload hx hb dLw_law_594 (lv_at hl 1 rfl) ?_
  refine lv_icmp_eq (tgt := 601) hx hb dLw_law_596 (by decide) (fun c_8 => ?_) (fun c_8 => ?_)
  · refine lv_iload hx hb dLw_law_601 (lv_at hl 1 rfl) ?_
    refine lv_if_ne (tgt := 638) hx hb dLw_law_603 (by decide) (fun c_9 => ?_) (fun c_9 => ?_)
    · refine lv_goto (tgt := 1104) hx hb dLw_law_638 (by decide) ?_
      refine W.widen (k := cells + 1) (n := slots + 6) (by omega) (by omega) ?_
      exact K _ _ _ _ _ _ _ (Inv_put hI _ _) hP hD hS (lv_sub hl [2, 3, 4, 5, 6, 7] rfl)
    · have hz := c_9
      have hq := (w3 hz).trans (m2 (w1.symm.trans hz)).symm
      refine lv_aload hx hb dLw_law_606 (lv_at hl 6 rfl) ?_
      refine lv_iconst (v := 0) hx hb dLw_law_608 (by decide +kernel) ?_
      refine va_dald hx hb hKx (fr_Pl hP) 29 15 rfl rfl (vp_in_nI (n := 0) (by decide) (by decide)) dLw_law_609 ?_
      refine W.eq (g2 := F0 m 610 ls [.double (fd1 0)]) rfl ?_
      refine lv_dload hx hb dLw_law_610 (lv_at hl 0 rfl) ?_
      refine lv_dcmp hx hb dLw_law_612 ?_
      refine lv_if_eq (tgt := 638) hx hb dLw_law_613 (by decide) (fun c_10 => ?_) (fun c_10 => ?_)
      · refine lv_goto (tgt := 1104) hx hb dLw_law_638 (by decide) ?_
        refine W.widen (k := cells + 1) (n := slots + 6) (by omega) (by omega) ?_
        exact K _ _ _ _ _ _ _ (Inv_put hI _ _) hP hD hS (lv_sub hl [2, 3, 4, 5, 6, 7] rfl)
      · have c1 := c_10
        refine lv_aload hx hb dLw_law_616 (lv_at hl 6 rfl) ?_
        refine lv_iconst (v := 0) hx hb dLw_law_618 (by decide +kernel) ?_
        refine va_dald hx hb hKx (fr_Pl hP) 29 15 rfl rfl (vp_in_nI (n := 0) (by decide) (by decide)) dLw_law_619 ?_
        refine W.eq (g2 := F0 m 620 ls [.double (fd1 0)]) rfl ?_
        refine lv_aload hx hb dLw_law_620 (lv_at hl 6 rfl) ?_
        refine lv_iconst (v := 0) hx hb dLw_law_622 (by decide +kernel) ?_
        refine va_dald hx hb hKx (fr_Pl hP) 29 15 rfl rfl (vp_in_nI (n := 0) (by decide) (by decide)) dLw_law_623 ?_
        refine W.eq (g2 := F0 m 624 ls [.double (fd1 0), .double (fd1 0)]) rfl ?_
        refine lv_dcmp hx hb dLw_law_624 ?_
        refine lv_if_eq (tgt := 636) hx hb dLw_law_625 (by decide) (fun c_11 => ?_) (fun c_11 => ?_)
        · exact absurd (by rw [← hq]; exact c_11) c1
        · refine lv_dload hx hb dLw_law_628 (lv_at hl 0 rfl) ?_
          refine lv_dload hx hb dLw_law_630 (lv_at hl 0 rfl) ?_
          refine lv_dcmp hx hb dLw_law_632 ?_
          refine lv_if_ne (tgt := 638) hx hb dLw_law_633 (by decide) (fun c_12 => ?_) (fun c_12 => ?_)
          · refine lv_goto (tgt := 1104) hx hb dLw_law_638 (by decide) ?_
            refine W.widen (k := cells + 1) (n := slots + 6) (by omega) (by omega) ?_
            exact K _ _ _ _ _ _ _ (Inv_put hI _ _) hP hD hS (lv_sub hl [2, 3, 4, 5, 6, 7] rfl)
          · exact absurd (by rw [hq]; exact c_12) c1
  · exact absurd (h3.trans (m1.symm.trans w1.symm)) c_8

set_option maxHeartbeats 4000000 in
set_option maxRecDepth 100000 in
theorem law_force {p : Program} {e : Env} {s : State} {m : MethodId} {below : List Frame} {meth : Method} {c : Code} {l : Launch} {b L : Nat} {xs : Nat → Int32} {A : Nat → Prop} {dC : Nat → ClassId} {dI : Nat → Nat → Nat} {ax am : Nat → Nat} {cx cm : Nat → ClassId} {qo : Nat} {co : ClassId} {qd : Nat} {cd : ClassId} (C9 : LC p s m meth c b L xs A dC dI cx cm co cd) (hl9 : l.stackTraces = false) {i : Nat} (hi : 4 * i + 4 ≤ L) {S E : Ss} {fo : Nat → Int64} {fd : Nat → UInt64} {H : Heap} {locs : List Loc} {ls : Array Slot} {cells slots : Nat} (hcell : cells + 1 ≤ 601024) (hslot : slots + 6 ≤ 7293034) (hI : Inv S) (hP : va_P (dC, dI) vwCl (lwW ax cx am cm qo co qd cd S E fo fd) H) (hD : va_D A (lwW ax cx am cm qo co qd cd S E fo fd)) (hS : va_S A s.heap H locs) (hl : lv_has ls 9 [(0, .ref b), (1, .ref (ax 0)), (2, .ref (am 0)), (3, .ref qo), (4, .ref qd), (5, .int (nI (4 * i)))]) (K : LK p l e s m below meth c b A dC dI ax cx am cm qo co qd cd (cells + 1) (slots + 6) 1104 (nI (4 * i))) : W p l e room_1 s m #[Value.ref b] below meth c H locs cells slots (lw_Z below #[Value.ref b] s) (F0 m 641 ls []) := by
  obtain ⟨C0, hL, hA, hbA, hu, hn, hnc, hKx, hKm⟩ := id C9
  obtain ⟨hx, hb, hr, hml, hown, hts, hX, hbl, hlocks, hgv⟩ := id C0
  have hc : ∀ w ∈ CW, w.before #[Value.ref b] s = true := fun w h => hts w (List.mem_filter.mp h).1
  refine lv_aload_n hx hb dLw_law_641 rfl (lv_at hl 1 rfl) ?_
  refine lv_aload_n hx hb dLw_law_642 rfl (lv_at hl 0 rfl) ?_
  refine lv_iload hx hb dLw_law_643 (lv_at hl 5 rfl) ?_
  refine lv_iconst (v := 1) hx hb dLw_law_645 (by decide +kernel) ?_
  refine lv_iadd hx hb dLw_law_646 ?_
  refine lv_topi (fun v_1 ev_1 => ?_)
  rw [nI_1] at ev_1
  subst v_1
  refine va_sld hx hb hX hbl hbA hS (vp_in_nI (by omega) (by omega)) dLw_law_647 ?_
  refine lv_topi (fun v_2 ev_2 => ?_)
  rw [nI_clamp (by omega)] at ev_2
  subst v_2
  refine lv_aload_n hx hb dLw_law_648 rfl (lv_at hl 0 rfl) ?_
  refine lv_iload hx hb dLw_law_649 (lv_at hl 5 rfl) ?_
  refine lv_iconst (v := 2) hx hb dLw_law_651 (by decide +kernel) ?_
  refine lv_iadd hx hb dLw_law_652 ?_
  refine lv_topi (fun v_3 ev_3 => ?_)
  rw [ad_2] at ev_3
  subst v_3
  refine va_sld hx hb hX hbl hbA hS (vp_in_nI (by omega) (by omega)) dLw_law_653 ?_
  refine lv_topi (fun v_4 ev_4 => ?_)
  rw [nI_clamp (by omega)] at ev_4
  subst v_4
  refine lv_aload_n hx hb dLw_law_654 rfl (lv_at hl 3 rfl) ?_
  refine f_calli (vx_runSW (As := [.ref (ax 0), .int (xs (4 * i + 1)), .int (xs (4 * i + 2)), .ref qo]) (rest := []) ⟨hx, hb, hml, hown, hc⟩ (cLw_force l hl9 dC dI ax cx H.size S qo co fo qd cd fd (xs (4 * i + 1)) (xs (4 * i + 2))) (vx_cwSW 4 hc (g_S w401 w402 w0 qLw_force) rfl rfl rfl (by decide +kernel) ⟨(Nat.le_of_ble_eq_true rfl), (Nat.le_of_ble_eq_true rfl)⟩) ⟨wPre_blind, wPre_in (fr_Pl hP) hKx (fr_Dl hD) hS (fr_freel hD hS hA) hu hn hnc⟩ rfl rfl hl.1 rfl (lv_room (Nat.le_of_ble_eq_true rfl)) dLw_law_655 ⟨show cells + 1 ≤ 601024 by omega, show slots + 6 ≤ 7293034 by omega⟩) hP hD hS hA (fun r1 u H locs hu9 hP hD hS => ?_)
  obtain ⟨S1, fo1, fd1⟩ := u
  obtain ⟨w1, w2, w3⟩ := hu9
  dsimp only at w1 w2 w3 hP hD
  subst w2
  refine lv_istore (lv' := [(6, .int r1), (0, .ref b), (1, .ref (ax 0)), (2, .ref (am 0)), (3, .ref qo), (4, .ref qd), (5, .int (nI (4 * i)))]) hx hb dLw_law_658 hl (by decide) rfl (fun ls hl => ?_)
  refine lv_aload_n hx hb dLw_law_660 rfl (lv_at hl 3 rfl) ?_
  refine lv_aload_n hx hb dLw_law_661 rfl (lv_at hl 1 rfl) ?_
  refine lv_iload hx hb dLw_law_662 (lv_at hl 6 rfl) ?_
  refine lv_iconst (v := 1) hx hb dLw_law_664 (by decide +kernel) ?_
  refine lv_iadd hx hb dLw_law_665 ?_
  refine lv_topi (fun v_5 ev_5 => ?_)
  rw [nI_1] at ev_5
  subst v_5
  refine va_sld hx hb hX hbl hbA hS (vp_in_nI (by omega) (by omega)) dLw_law_666 ?_
  refine lv_topi (fun v_6 ev_6 => ?_)
  rw [nI_clamp (by omega)] at ev_6
  subst v_6
  refine lv_aload_n hx hb dLw_law_667 rfl (lv_at hl 1 rfl) ?_
  refine lv_iload hx hb dLw_law_668 (lv_at hl 6 rfl) ?_
  refine lv_iconst (v := 2) hx hb dLw_law_670 (by decide +kernel) ?_
  refine lv_iadd hx hb dLw_law_671 ?_
  refine lv_topi (fun v_7 ev_7 => ?_)
  rw [ad_2] at ev_7
  subst v_7
  refine va_sld hx hb hX hbl hbA hS (vp_in_nI (by omega) (by omega)) dLw_law_672 ?_
  refine lv_topi (fun v_8 ev_8 => ?_)
  rw [nI_clamp (by omega)] at ev_8
  subst v_8
  refine f_calliR (va_runV (As := [.int (xs (4 * i + 1)), .int (xs (4 * i + 2))]) (rest := []) ⟨hx, hb, hml, hown, hc⟩ (cMo_force l dC dI am cm H.size S E (xs (4 * i + 1)) (xs (4 * i + 2))) (cwV 2 hc (gV w712 w713 w714 w5 qMo_force) rfl rfl rfl (by decide +kernel) ⟨(Nat.le_of_ble_eq_true rfl), (Nat.le_of_ble_eq_true rfl)⟩) ⟨gPre_blind, va_recv hKm (fr_Pr hP) (ci := 4) (q0 := 0) rfl rfl, gPre_in (fr_Pr hP) hKm (fr_Dr hD)⟩ rfl rfl hl.1 rfl (lv_room (Nat.le_of_ble_eq_true rfl)) dLw_law_673 ⟨by show _ ≤ 601024; omega, by show _ ≤ 7293034; omega⟩) hP hD hS hA (fun r2 u H locs hu8 hP hD hS => ?_)
  obtain ⟨S2, E2⟩ := u
  obtain ⟨m1, m2, m3⟩ := hu8
  dsimp only at m1 m2 m3 hP hD
  subst m3
  refine lv_istore (lv' := [(7, .int r2), (6, .int r1), (0, .ref b), (1, .ref (ax 0)), (2, .ref (am 0)), (3, .ref qo), (4, .ref qd), (5, .int (nI (4 * i)))]) hx hb dLw_law_676 hl (by decide) rfl (fun ls hl => ?_)
  refine lv_aload_n hx hb dLw_law_678 rfl (lv_at hl 4 rfl) ?_
  refine vp_callSi (va_Run.run (va_runV (As := []) (rest := []) ⟨hx, hb, hml, hown, hc⟩ (cMo_thrown l dC dI am cm H.size (oForce S (xs (4 * i + 1)) (xs (4 * i + 2))).2.2 E2) (cwV 0 hc (gV w650 w651 w652 w5 qMo_thrown) rfl rfl rfl (by decide +kernel) ⟨(Nat.le_of_ble_eq_true rfl), (Nat.le_of_ble_eq_true rfl)⟩) ⟨gPre_blind, va_recv hKm (fr_Pr hP) (ci := 4) (q0 := 0) rfl rfl, gPre_in (fr_Pr hP) hKm (fr_Dr hD)⟩ rfl rfl hl.1 rfl (lv_room (Nat.le_of_ble_eq_true rfl)) dLw_law_679 ⟨by show _ ≤ 601024; omega, by show _ ≤ 7293034; omega⟩)) (fun r3 h3 => ?_)
  refine lv_iload hx hb dLw_law_682 (lv_at hl 1 rfl) ?_
  refine lv_icmp_eq (tgt := 689) hx hb dLw_law_684 (by decide) (fun c_8 => ?_) (fun c_8 => ?_)
  · refine lv_iload hx hb dLw_law_689 (lv_at hl 1 rfl) ?_
    refine lv_if_ne (tgt := 706) hx hb dLw_law_691 (by decide) (fun c_9 => ?_) (fun c_9 => ?_)
    · refine lv_goto (tgt := 1104) hx hb dLw_law_706 (by decide) ?_
      refine W.widen (k := cells + 1) (n := slots + 6) (by omega) (by omega) ?_
      exact K _ _ _ _ _ _ _ (Inv_force hI _ _) hP hD hS (lv_sub hl [2, 3, 4, 5, 6, 7] rfl)
    · have hz := c_9
      have hq := (w3 hz).trans (congrArg Int32.toInt64 (m2 (w1.symm.trans hz)).symm)
      refine lv_aload_n hx hb dLw_law_694 rfl (lv_at hl 5 rfl) ?_
      refine lv_iconst (v := 0) hx hb dLw_law_695 (by decide +kernel) ?_
      refine va_lald hx hb hKx (fr_Pl hP) 28 14 rfl rfl (vp_in_nI (n := 0) (by decide) (by decide)) dLw_law_696 ?_
      refine W.eq (g2 := F0 m 697 ls [.long (fo1 0)]) rfl ?_
      refine lv_iload hx hb dLw_law_697 (lv_at hl 0 rfl) ?_
      refine lv_i2l (v := r2.toInt64) hx hb dLw_law_699 rfl ?_
      refine W.lcmp hx hb dLw_law_700 ?_
      refine lv_if_eq (tgt := 706) hx hb dLw_law_701 (by decide) (fun c_10 => ?_) (fun c_10 => ?_)
      · refine lv_goto (tgt := 1104) hx hb dLw_law_706 (by decide) ?_
        refine W.widen (k := cells + 1) (n := slots + 6) (by omega) (by omega) ?_
        exact K _ _ _ _ _ _ _ (Inv_force hI _ _) hP hD hS (lv_sub hl [2, 3, 4, 5, 6, 7] rfl)
      · exact absurd ((lg_cmp_eq _ _).mpr hq) c_10
  · exact absurd (h3.trans (m1.symm.trans w1.symm)) c_8

set_option maxHeartbeats 4000000 in
set_option maxRecDepth 100000 in
theorem law_scan {p : Program} {e : Env} {s : State} {m : MethodId} {below : List Frame} {meth : Method} {c : Code} {l : Launch} {b L : Nat} {xs : Nat → Int32} {A : Nat → Prop} {dC : Nat → ClassId} {dI : Nat → Nat → Nat} {ax am : Nat → Nat} {cx cm : Nat → ClassId} {qo : Nat} {co : ClassId} {qd : Nat} {cd : ClassId} (C9 : LC p s m meth c b L xs A dC dI cx cm co cd) (hl9 : l.stackTraces = false) {i : Nat} (hi : 4 * i + 4 ≤ L) {S E : Ss} {fo : Nat → Int64} {fd : Nat → UInt64} {H : Heap} {locs : List Loc} {ls : Array Slot} {cells slots : Nat} (hcell : cells + 1 ≤ 601024) (hslot : slots + 6 ≤ 7293034) (hI : Inv S) (hP : va_P (dC, dI) vwCl (lwW ax cx am cm qo co qd cd S E fo fd) H) (hD : va_D A (lwW ax cx am cm qo co qd cd S E fo fd)) (hS : va_S A s.heap H locs) (hl : lv_has ls 9 [(0, .ref b), (1, .ref (ax 0)), (2, .ref (am 0)), (3, .ref qo), (4, .ref qd), (5, .int (nI (4 * i)))]) (K : LK p l e s m below meth c b A dC dI ax cx am cm qo co qd cd (cells + 1) (slots + 6) 1104 (nI (4 * i))) : W p l e room_1 s m #[Value.ref b] below meth c H locs cells slots (lw_Z below #[Value.ref b] s) (F0 m 709 ls []) := by
  obtain ⟨C0, hL, hA, hbA, hu, hn, hnc, hKx, hKm⟩ := id C9
  obtain ⟨hx, hb, hr, hml, hown, hts, hX, hbl, hlocks, hgv⟩ := id C0
  have hc : ∀ w ∈ CW, w.before #[Value.ref b] s = true := fun w h => hts w (List.mem_filter.mp h).1
  refine lv_aload_n hx hb dLw_law_709 rfl (lv_at hl 1 rfl) ?_
  refine lv_aload_n hx hb dLw_law_710 rfl (lv_at hl 0 rfl) ?_
  refine lv_iload hx hb dLw_law_711 (lv_at hl 5 rfl) ?_
  refine lv_iconst (v := 1) hx hb dLw_law_713 (by decide +kernel) ?_
  refine lv_iadd hx hb dLw_law_714 ?_
  refine lv_topi (fun v_1 ev_1 => ?_)
  rw [nI_1] at ev_1
  subst v_1
  refine va_sld hx hb hX hbl hbA hS (vp_in_nI (by omega) (by omega)) dLw_law_715 ?_
  refine lv_topi (fun v_2 ev_2 => ?_)
  rw [nI_clamp (by omega)] at ev_2
  subst v_2
  refine lv_aload_n hx hb dLw_law_716 rfl (lv_at hl 3 rfl) ?_
  refine f_calli (vx_runSW (As := [.ref (ax 0), .int (xs (4 * i + 1)), .ref qo]) (rest := []) ⟨hx, hb, hml, hown, hc⟩ (cLw_scan l hl9 dC dI ax cx H.size S qo co fo qd cd fd (xs (4 * i + 1)) hI.1) (vx_cwSW 3 hc (g_S w408 w409 w0 qLw_scan) rfl rfl rfl (by decide +kernel) ⟨(Nat.le_of_ble_eq_true rfl), (Nat.le_of_ble_eq_true rfl)⟩) ⟨wPre_blind, wPre_in (fr_Pl hP) hKx (fr_Dl hD) hS (fr_freel hD hS hA) hu hn hnc⟩ rfl rfl hl.1 rfl (lv_room (Nat.le_of_ble_eq_true rfl)) dLw_law_717 ⟨show cells + 1 ≤ 601024 by omega, show slots + 6 ≤ 7293034 by omega⟩) hP hD hS hA (fun r1 u H locs hu9 hP hD hS => ?_)
  obtain ⟨S1, fo1, fd1⟩ := u
  obtain ⟨w1, w2, w3⟩ := hu9
  dsimp only at w1 w2 w3 hP hD
  subst w2
  refine lv_istore (lv' := [(6, .int r1), (0, .ref b), (1, .ref (ax 0)), (2, .ref (am 0)), (3, .ref qo), (4, .ref qd), (5, .int (nI (4 * i)))]) hx hb dLw_law_720 hl (by decide) rfl (fun ls hl => ?_)
  refine lv_aload_n hx hb dLw_law_722 rfl (lv_at hl 3 rfl) ?_
  refine lv_aload_n hx hb dLw_law_723 rfl (lv_at hl 1 rfl) ?_
  refine lv_iload hx hb dLw_law_724 (lv_at hl 6 rfl) ?_
  refine lv_iconst (v := 1) hx hb dLw_law_726 (by decide +kernel) ?_
  refine lv_iadd hx hb dLw_law_727 ?_
  refine lv_topi (fun v_3 ev_3 => ?_)
  rw [nI_1] at ev_3
  subst v_3
  refine va_sld hx hb hX hbl hbA hS (vp_in_nI (by omega) (by omega)) dLw_law_728 ?_
  refine lv_topi (fun v_4 ev_4 => ?_)
  rw [nI_clamp (by omega)] at ev_4
  subst v_4
  refine f_calliR (va_runV (As := [.int (xs (4 * i + 1))]) (rest := []) ⟨hx, hb, hml, hown, hc⟩ (cMo_scan l dC dI am cm H.size S E (xs (4 * i + 1)) hI.1) (cwV 1 hc (gV w716 w717 w718 w5 qMo_scan) rfl rfl rfl (by decide +kernel) ⟨(Nat.le_of_ble_eq_true rfl), (Nat.le_of_ble_eq_true rfl)⟩) ⟨gPre_blind, va_recv hKm (fr_Pr hP) (ci := 4) (q0 := 0) rfl rfl, gPre_in (fr_Pr hP) hKm (fr_Dr hD)⟩ rfl rfl hl.1 rfl (lv_room (Nat.le_of_ble_eq_true rfl)) dLw_law_729 ⟨by show _ ≤ 601024; omega, by show _ ≤ 7293034; omega⟩) hP hD hS hA (fun r2 u H locs hu8 hP hD hS => ?_)
  obtain ⟨S2, E2⟩ := u
  obtain ⟨m1, m2, m3⟩ := hu8
  dsimp only at m1 m2 m3 hP hD
  subst m3
  refine lv_istore (lv' := [(7, .int r2), (6, .int r1), (0, .ref b), (1, .ref (ax 0)), (2, .ref (am 0)), (3, .ref qo), (4, .ref qd), (5, .int (nI (4 * i)))]) hx hb dLw_law_732 hl (by decide) rfl (fun ls hl => ?_)
  refine lv_aload_n hx hb dLw_law_734 rfl (lv_at hl 4 rfl) ?_
  refine vp_callSi (va_Run.run (va_runV (As := []) (rest := []) ⟨hx, hb, hml, hown, hc⟩ (cMo_thrown l dC dI am cm H.size (oScan S (xs (4 * i + 1))).2.2 E2) (cwV 0 hc (gV w650 w651 w652 w5 qMo_thrown) rfl rfl rfl (by decide +kernel) ⟨(Nat.le_of_ble_eq_true rfl), (Nat.le_of_ble_eq_true rfl)⟩) ⟨gPre_blind, va_recv hKm (fr_Pr hP) (ci := 4) (q0 := 0) rfl rfl, gPre_in (fr_Pr hP) hKm (fr_Dr hD)⟩ rfl rfl hl.1 rfl (lv_room (Nat.le_of_ble_eq_true rfl)) dLw_law_735 ⟨by show _ ≤ 601024; omega, by show _ ≤ 7293034; omega⟩)) (fun r3 h3 => ?_)
  refine lv_iload hx hb dLw_law_738 (lv_at hl 1 rfl) ?_
  refine lv_icmp_eq (tgt := 745) hx hb dLw_law_740 (by decide) (fun c_4 => ?_) (fun c_4 => ?_)
  · refine lv_iload hx hb dLw_law_745 (lv_at hl 1 rfl) ?_
    refine lv_if_ne (tgt := 762) hx hb dLw_law_747 (by decide) (fun c_5 => ?_) (fun c_5 => ?_)
    · refine lv_goto (tgt := 1104) hx hb dLw_law_762 (by decide) ?_
      refine W.widen (k := cells + 1) (n := slots + 6) (by omega) (by omega) ?_
      exact K _ _ _ _ _ _ _ (Inv_scan hI _) hP hD hS (lv_sub hl [2, 3, 4, 5, 6, 7] rfl)
    · have hz := c_5
      have hq := (w3 hz).trans (congrArg Int32.toInt64 (m2 (w1.symm.trans hz)).symm)
      refine lv_aload_n hx hb dLw_law_750 rfl (lv_at hl 5 rfl) ?_
      refine lv_iconst (v := 0) hx hb dLw_law_751 (by decide +kernel) ?_
      refine va_lald hx hb hKx (fr_Pl hP) 28 14 rfl rfl (vp_in_nI (n := 0) (by decide) (by decide)) dLw_law_752 ?_
      refine W.eq (g2 := F0 m 753 ls [.long (fo1 0)]) rfl ?_
      refine lv_iload hx hb dLw_law_753 (lv_at hl 0 rfl) ?_
      refine lv_i2l (v := r2.toInt64) hx hb dLw_law_755 rfl ?_
      refine W.lcmp hx hb dLw_law_756 ?_
      refine lv_if_eq (tgt := 762) hx hb dLw_law_757 (by decide) (fun c_6 => ?_) (fun c_6 => ?_)
      · refine lv_goto (tgt := 1104) hx hb dLw_law_762 (by decide) ?_
        refine W.widen (k := cells + 1) (n := slots + 6) (by omega) (by omega) ?_
        exact K _ _ _ _ _ _ _ (Inv_scan hI _) hP hD hS (lv_sub hl [2, 3, 4, 5, 6, 7] rfl)
      · exact absurd ((lg_cmp_eq _ _).mpr hq) c_6
  · exact absurd (h3.trans (m1.symm.trans w1.symm)) c_4

set_option maxHeartbeats 4000000 in
set_option maxRecDepth 100000 in
theorem law_restart {p : Program} {e : Env} {s : State} {m : MethodId} {below : List Frame} {meth : Method} {c : Code} {l : Launch} {b L : Nat} {xs : Nat → Int32} {A : Nat → Prop} {dC : Nat → ClassId} {dI : Nat → Nat → Nat} {ax am : Nat → Nat} {cx cm : Nat → ClassId} {qo : Nat} {co : ClassId} {qd : Nat} {cd : ClassId} (C9 : LC p s m meth c b L xs A dC dI cx cm co cd) (hl9 : l.stackTraces = false) {i : Nat} (hi : 4 * i + 4 ≤ L) {S E : Ss} {fo : Nat → Int64} {fd : Nat → UInt64} {H : Heap} {locs : List Loc} {ls : Array Slot} {cells slots : Nat} (hcell : cells + 1 ≤ 601024) (hslot : slots + 6 ≤ 7293034) (hI : Inv S) (hP : va_P (dC, dI) vwCl (lwW ax cx am cm qo co qd cd S E fo fd) H) (hD : va_D A (lwW ax cx am cm qo co qd cd S E fo fd)) (hS : va_S A s.heap H locs) (hl : lv_has ls 9 [(0, .ref b), (1, .ref (ax 0)), (2, .ref (am 0)), (3, .ref qo), (4, .ref qd), (5, .int (nI (4 * i)))]) (K : LK p l e s m below meth c b A dC dI ax cx am cm qo co qd cd (cells + 1) (slots + 6) 1104 (nI (4 * i))) : W p l e room_1 s m #[Value.ref b] below meth c H locs cells slots (lw_Z below #[Value.ref b] s) (F0 m 765 ls []) := by
  obtain ⟨C0, hL, hA, hbA, hu, hn, hnc, hKx, hKm⟩ := id C9
  obtain ⟨hx, hb, hr, hml, hown, hts, hX, hbl, hlocks, hgv⟩ := id C0
  have hc : ∀ w ∈ CW, w.before #[Value.ref b] s = true := fun w h => hts w (List.mem_filter.mp h).1
  refine lv_aload_n hx hb dLw_law_765 rfl (lv_at hl 1 rfl) ?_
  unfold lwW at hP hD
  rw [List.append_assoc] at hP hD
  refine f_calli (va_runV (As := []) (rest := []) ⟨hx, hb, hml, hown, hc⟩ (cX_restart l dC dI ax cx H.size S) (cwV 0 hc (gV w151 w152 w153 w1 qX_restart) rfl rfl rfl (by decide +kernel) ⟨(Nat.le_of_ble_eq_true rfl), (Nat.le_of_ble_eq_true rfl)⟩) ⟨gPre_blind, va_recv (fr_Kl hKx) (fr_Pl hP) (ci := 0) (q0 := 0) rfl rfl, gPre_in (fr_Pl hP) (fr_Kl hKx) (fr_Dl hD)⟩ rfl rfl hl.1 rfl (lv_room (Nat.le_of_ble_eq_true rfl)) dLw_law_766 ⟨by show _ ≤ 601024; omega, by show _ ≤ 7293034; omega⟩) hP hD hS hA (fun r1 S1 H locs w1 hP hD hS => ?_)
  rw [← List.append_assoc] at hP hD
  refine lv_aload_n hx hb dLw_law_769 rfl (lv_at hl 2 rfl) ?_
  refine f_calliR (va_runV (As := []) (rest := [.int r1]) ⟨hx, hb, hml, hown, hc⟩ (cMo_restart l dC dI am cm H.size S E ) (cwV 0 hc (gV w757 w758 w759 w5 qMo_restart) rfl rfl rfl (by decide +kernel) ⟨(Nat.le_of_ble_eq_true rfl), (Nat.le_of_ble_eq_true rfl)⟩) ⟨gPre_blind, va_recv hKm (fr_Pr hP) (ci := 4) (q0 := 0) rfl rfl, gPre_in (fr_Pr hP) hKm (fr_Dr hD)⟩ rfl rfl hl.1 rfl (lv_room (Nat.le_of_ble_eq_true rfl)) dLw_law_770 ⟨by show _ ≤ 601024; omega, by show _ ≤ 7293034; omega⟩) hP hD hS hA (fun r2 u H locs hu8 hP hD hS => ?_)
  obtain ⟨S2, E2⟩ := u
  dsimp only at hu8 hP hD
  obtain ⟨e1, e2⟩ := Prod.mk.inj (w1.symm.trans hu8)
  subst e2
  refine lv_icmp_eq (tgt := 1104) hx hb dLw_law_773 (by decide) (fun c_0 => ?_) (fun c_0 => ?_)
  · refine W.widen (k := cells + 1) (n := slots + 6) (by omega) (by omega) ?_
    exact K _ _ _ _ _ _ _ (by have z := Inv_restart hI; rw [w1] at z; exact z) hP hD hS (lv_sub hl [0, 1, 2, 3, 4, 5] rfl)
  · exact absurd e1 c_0

set_option maxHeartbeats 4000000 in
set_option maxRecDepth 100000 in
theorem law_fail {p : Program} {e : Env} {s : State} {m : MethodId} {below : List Frame} {meth : Method} {c : Code} {l : Launch} {b L : Nat} {xs : Nat → Int32} {A : Nat → Prop} {dC : Nat → ClassId} {dI : Nat → Nat → Nat} {ax am : Nat → Nat} {cx cm : Nat → ClassId} {qo : Nat} {co : ClassId} {qd : Nat} {cd : ClassId} (C9 : LC p s m meth c b L xs A dC dI cx cm co cd) (hl9 : l.stackTraces = false) {i : Nat} (hi : 4 * i + 4 ≤ L) {S E : Ss} {fo : Nat → Int64} {fd : Nat → UInt64} {H : Heap} {locs : List Loc} {ls : Array Slot} {cells slots : Nat} (hcell : cells + 1 ≤ 601024) (hslot : slots + 6 ≤ 7293034) (hI : Inv S) (hP : va_P (dC, dI) vwCl (lwW ax cx am cm qo co qd cd S E fo fd) H) (hD : va_D A (lwW ax cx am cm qo co qd cd S E fo fd)) (hS : va_S A s.heap H locs) (hl : lv_has ls 9 [(0, .ref b), (1, .ref (ax 0)), (2, .ref (am 0)), (3, .ref qo), (4, .ref qd), (5, .int (nI (4 * i)))]) (K : LK p l e s m below meth c b A dC dI ax cx am cm qo co qd cd (cells + 1) (slots + 6) 1104 (nI (4 * i))) : W p l e room_1 s m #[Value.ref b] below meth c H locs cells slots (lw_Z below #[Value.ref b] s) (F0 m 778 ls []) := by
  obtain ⟨C0, hL, hA, hbA, hu, hn, hnc, hKx, hKm⟩ := id C9
  obtain ⟨hx, hb, hr, hml, hown, hts, hX, hbl, hlocks, hgv⟩ := id C0
  have hc : ∀ w ∈ CW, w.before #[Value.ref b] s = true := fun w h => hts w (List.mem_filter.mp h).1
  refine lv_aload_n hx hb dLw_law_778 rfl (lv_at hl 1 rfl) ?_
  unfold lwW at hP hD
  rw [List.append_assoc] at hP hD
  refine f_calli (va_runV (As := []) (rest := []) ⟨hx, hb, hml, hown, hc⟩ (cX_fail l dC dI ax cx H.size S) (cwV 0 hc (gV w155 w156 w157 w1 qX_fail) rfl rfl rfl (by decide +kernel) ⟨(Nat.le_of_ble_eq_true rfl), (Nat.le_of_ble_eq_true rfl)⟩) ⟨gPre_blind, va_recv (fr_Kl hKx) (fr_Pl hP) (ci := 0) (q0 := 0) rfl rfl, gPre_in (fr_Pl hP) (fr_Kl hKx) (fr_Dl hD)⟩ rfl rfl hl.1 rfl (lv_room (Nat.le_of_ble_eq_true rfl)) dLw_law_779 ⟨by show _ ≤ 601024; omega, by show _ ≤ 7293034; omega⟩) hP hD hS hA (fun r1 S1 H locs w1 hP hD hS => ?_)
  rw [← List.append_assoc] at hP hD
  refine lv_aload_n hx hb dLw_law_782 rfl (lv_at hl 2 rfl) ?_
  refine f_calliR (va_runV (As := []) (rest := [.int r1]) ⟨hx, hb, hml, hown, hc⟩ (cMo_fail l dC dI am cm H.size S E ) (cwV 0 hc (gV w761 w762 w763 w5 qMo_fail) rfl rfl rfl (by decide +kernel) ⟨(Nat.le_of_ble_eq_true rfl), (Nat.le_of_ble_eq_true rfl)⟩) ⟨gPre_blind, va_recv hKm (fr_Pr hP) (ci := 4) (q0 := 0) rfl rfl, gPre_in (fr_Pr hP) hKm (fr_Dr hD)⟩ rfl rfl hl.1 rfl (lv_room (Nat.le_of_ble_eq_true rfl)) dLw_law_783 ⟨by show _ ≤ 601024; omega, by show _ ≤ 7293034; omega⟩) hP hD hS hA (fun r2 u H locs hu8 hP hD hS => ?_)
  obtain ⟨S2, E2⟩ := u
  dsimp only at hu8 hP hD
  obtain ⟨e1, e2⟩ := Prod.mk.inj (w1.symm.trans hu8)
  subst e2
  refine lv_icmp_eq (tgt := 1104) hx hb dLw_law_786 (by decide) (fun c_0 => ?_) (fun c_0 => ?_)
  · refine W.widen (k := cells + 1) (n := slots + 6) (by omega) (by omega) ?_
    exact K _ _ _ _ _ _ _ (by have z := Inv_fail hI; rw [w1] at z; exact z) hP hD hS (lv_sub hl [0, 1, 2, 3, 4, 5] rfl)
  · exact absurd e1 c_0

set_option maxHeartbeats 4000000 in
set_option maxRecDepth 100000 in
theorem law_bit {p : Program} {e : Env} {s : State} {m : MethodId} {below : List Frame} {meth : Method} {c : Code} {l : Launch} {b L : Nat} {xs : Nat → Int32} {A : Nat → Prop} {dC : Nat → ClassId} {dI : Nat → Nat → Nat} {ax am : Nat → Nat} {cx cm : Nat → ClassId} {qo : Nat} {co : ClassId} {qd : Nat} {cd : ClassId} (C9 : LC p s m meth c b L xs A dC dI cx cm co cd) (hl9 : l.stackTraces = false) {i : Nat} (hi : 4 * i + 4 ≤ L) {S E : Ss} {fo : Nat → Int64} {fd : Nat → UInt64} {H : Heap} {locs : List Loc} {ls : Array Slot} {cells slots : Nat} (hcell : cells + 1 ≤ 601024) (hslot : slots + 6 ≤ 7293034) (hI : Inv S) (hP : va_P (dC, dI) vwCl (lwW ax cx am cm qo co qd cd S E fo fd) H) (hD : va_D A (lwW ax cx am cm qo co qd cd S E fo fd)) (hS : va_S A s.heap H locs) (hl : lv_has ls 9 [(0, .ref b), (1, .ref (ax 0)), (2, .ref (am 0)), (3, .ref qo), (4, .ref qd), (5, .int (nI (4 * i)))]) (K : LK p l e s m below meth c b A dC dI ax cx am cm qo co qd cd (cells + 1) (slots + 6) 1104 (nI (4 * i))) : W p l e room_1 s m #[Value.ref b] below meth c H locs cells slots (lw_Z below #[Value.ref b] s) (F0 m 791 ls []) := by
  obtain ⟨C0, hL, hA, hbA, hu, hn, hnc, hKx, hKm⟩ := id C9
  obtain ⟨hx, hb, hr, hml, hown, hts, hX, hbl, hlocks, hgv⟩ := id C0
  have hc : ∀ w ∈ CW, w.before #[Value.ref b] s = true := fun w h => hts w (List.mem_filter.mp h).1
  refine lv_aload_n hx hb dLw_law_791 rfl (lv_at hl 1 rfl) ?_
  refine lv_aload_n hx hb dLw_law_792 rfl (lv_at hl 0 rfl) ?_
  refine lv_iload hx hb dLw_law_793 (lv_at hl 5 rfl) ?_
  refine lv_iconst (v := 1) hx hb dLw_law_795 (by decide +kernel) ?_
  refine lv_iadd hx hb dLw_law_796 ?_
  refine lv_topi (fun v_1 ev_1 => ?_)
  rw [nI_1] at ev_1
  subst v_1
  refine va_sld hx hb hX hbl hbA hS (vp_in_nI (by omega) (by omega)) dLw_law_797 ?_
  refine lv_topi (fun v_2 ev_2 => ?_)
  rw [nI_clamp (by omega)] at ev_2
  subst v_2
  refine lv_aload_n hx hb dLw_law_798 rfl (lv_at hl 3 rfl) ?_
  refine f_calli (vx_runSW (As := [.ref (ax 0), .int (xs (4 * i + 1)), .ref qo]) (rest := []) ⟨hx, hb, hml, hown, hc⟩ (cLw_bit l hl9 dC dI ax cx H.size S qo co fo qd cd fd (xs (4 * i + 1))) (vx_cwSW 3 hc (g_S w516 w517 w0 qLw_bit) rfl rfl rfl (by decide +kernel) ⟨(Nat.le_of_ble_eq_true rfl), (Nat.le_of_ble_eq_true rfl)⟩) ⟨wPre_blind, wPre_in (fr_Pl hP) hKx (fr_Dl hD) hS (fr_freel hD hS hA) hu hn hnc⟩ rfl rfl hl.1 rfl (lv_room (Nat.le_of_ble_eq_true rfl)) dLw_law_799 ⟨show cells + 1 ≤ 601024 by omega, show slots + 6 ≤ 7293034 by omega⟩) hP hD hS hA (fun r1 u H locs hu9 hP hD hS => ?_)
  obtain ⟨S1, fo1, fd1⟩ := u
  obtain ⟨w1, w2, w3⟩ := hu9
  dsimp only at w1 w2 w3 hP hD
  subst w2
  refine lv_istore (lv' := [(6, .int r1), (0, .ref b), (1, .ref (ax 0)), (2, .ref (am 0)), (3, .ref qo), (4, .ref qd), (5, .int (nI (4 * i)))]) hx hb dLw_law_802 hl (by decide) rfl (fun ls hl => ?_)
  refine lv_aload_n hx hb dLw_law_804 rfl (lv_at hl 3 rfl) ?_
  refine lv_aload_n hx hb dLw_law_805 rfl (lv_at hl 1 rfl) ?_
  refine lv_iload hx hb dLw_law_806 (lv_at hl 6 rfl) ?_
  refine lv_iconst (v := 1) hx hb dLw_law_808 (by decide +kernel) ?_
  refine lv_iadd hx hb dLw_law_809 ?_
  refine lv_topi (fun v_3 ev_3 => ?_)
  rw [nI_1] at ev_3
  subst v_3
  refine va_sld hx hb hX hbl hbA hS (vp_in_nI (by omega) (by omega)) dLw_law_810 ?_
  refine lv_topi (fun v_4 ev_4 => ?_)
  rw [nI_clamp (by omega)] at ev_4
  subst v_4
  refine f_calliR (va_runV (As := [.int (xs (4 * i + 1))]) (rest := []) ⟨hx, hb, hml, hown, hc⟩ (cMo_bit l dC dI am cm H.size S E (xs (4 * i + 1)) (Inv_F hI)) (cwV 1 hc (gV w765 w766 w767 w5 qMo_bit) rfl rfl rfl (by decide +kernel) ⟨(Nat.le_of_ble_eq_true rfl), (Nat.le_of_ble_eq_true rfl)⟩) ⟨gPre_blind, va_recv hKm (fr_Pr hP) (ci := 4) (q0 := 0) rfl rfl, gPre_in (fr_Pr hP) hKm (fr_Dr hD)⟩ rfl rfl hl.1 rfl (lv_room (Nat.le_of_ble_eq_true rfl)) dLw_law_811 ⟨by show _ ≤ 601024; omega, by show _ ≤ 7293034; omega⟩) hP hD hS hA (fun r2 u H locs hu8 hP hD hS => ?_)
  obtain ⟨S2, E2⟩ := u
  obtain ⟨m1, m2, m3⟩ := hu8
  dsimp only at m1 m2 m3 hP hD
  subst m3
  refine lv_istore (lv' := [(7, .int r2), (6, .int r1), (0, .ref b), (1, .ref (ax 0)), (2, .ref (am 0)), (3, .ref qo), (4, .ref qd), (5, .int (nI (4 * i)))]) hx hb dLw_law_814 hl (by decide) rfl (fun ls hl => ?_)
  refine lv_aload_n hx hb dLw_law_816 rfl (lv_at hl 4 rfl) ?_
  refine vp_callSi (va_Run.run (va_runV (As := []) (rest := []) ⟨hx, hb, hml, hown, hc⟩ (cMo_thrown l dC dI am cm H.size (oBit S (xs (4 * i + 1))).2.2 E2) (cwV 0 hc (gV w650 w651 w652 w5 qMo_thrown) rfl rfl rfl (by decide +kernel) ⟨(Nat.le_of_ble_eq_true rfl), (Nat.le_of_ble_eq_true rfl)⟩) ⟨gPre_blind, va_recv hKm (fr_Pr hP) (ci := 4) (q0 := 0) rfl rfl, gPre_in (fr_Pr hP) hKm (fr_Dr hD)⟩ rfl rfl hl.1 rfl (lv_room (Nat.le_of_ble_eq_true rfl)) dLw_law_817 ⟨by show _ ≤ 601024; omega, by show _ ≤ 7293034; omega⟩)) (fun r3 h3 => ?_)
  refine lv_iload hx hb dLw_law_820 (lv_at hl 1 rfl) ?_
  refine lv_icmp_eq (tgt := 827) hx hb dLw_law_822 (by decide) (fun c_4 => ?_) (fun c_4 => ?_)
  · refine lv_iload hx hb dLw_law_827 (lv_at hl 1 rfl) ?_
    refine lv_if_ne (tgt := 844) hx hb dLw_law_829 (by decide) (fun c_5 => ?_) (fun c_5 => ?_)
    · refine lv_goto (tgt := 1104) hx hb dLw_law_844 (by decide) ?_
      refine W.widen (k := cells + 1) (n := slots + 6) (by omega) (by omega) ?_
      exact K _ _ _ _ _ _ _ (by rw [bit_S]; exact hI) hP hD hS (lv_sub hl [2, 3, 4, 5, 6, 7] rfl)
    · have hz := c_5
      have hq := (w3 hz).trans (congrArg Int32.toInt64 (m2 (w1.symm.trans hz)).symm)
      refine lv_aload_n hx hb dLw_law_832 rfl (lv_at hl 5 rfl) ?_
      refine lv_iconst (v := 0) hx hb dLw_law_833 (by decide +kernel) ?_
      refine va_lald hx hb hKx (fr_Pl hP) 28 14 rfl rfl (vp_in_nI (n := 0) (by decide) (by decide)) dLw_law_834 ?_
      refine W.eq (g2 := F0 m 835 ls [.long (fo1 0)]) rfl ?_
      refine lv_iload hx hb dLw_law_835 (lv_at hl 0 rfl) ?_
      refine lv_i2l (v := r2.toInt64) hx hb dLw_law_837 rfl ?_
      refine W.lcmp hx hb dLw_law_838 ?_
      refine lv_if_eq (tgt := 844) hx hb dLw_law_839 (by decide) (fun c_6 => ?_) (fun c_6 => ?_)
      · refine lv_goto (tgt := 1104) hx hb dLw_law_844 (by decide) ?_
        refine W.widen (k := cells + 1) (n := slots + 6) (by omega) (by omega) ?_
        exact K _ _ _ _ _ _ _ (by rw [bit_S]; exact hI) hP hD hS (lv_sub hl [2, 3, 4, 5, 6, 7] rfl)
      · exact absurd ((lg_cmp_eq _ _).mpr hq) c_6
  · exact absurd (h3.trans (m1.symm.trans w1.symm)) c_4

set_option maxHeartbeats 4000000 in
set_option maxRecDepth 100000 in
theorem law_out {p : Program} {e : Env} {s : State} {m : MethodId} {below : List Frame} {meth : Method} {c : Code} {l : Launch} {b L : Nat} {xs : Nat → Int32} {A : Nat → Prop} {dC : Nat → ClassId} {dI : Nat → Nat → Nat} {ax am : Nat → Nat} {cx cm : Nat → ClassId} {qo : Nat} {co : ClassId} {qd : Nat} {cd : ClassId} (C9 : LC p s m meth c b L xs A dC dI cx cm co cd) (hl9 : l.stackTraces = false) {i : Nat} (hi : 4 * i + 4 ≤ L) {S E : Ss} {fo : Nat → Int64} {fd : Nat → UInt64} {H : Heap} {locs : List Loc} {ls : Array Slot} {cells slots : Nat} (hcell : cells + 1 ≤ 601024) (hslot : slots + 6 ≤ 7293034) (hI : Inv S) (hP : va_P (dC, dI) vwCl (lwW ax cx am cm qo co qd cd S E fo fd) H) (hD : va_D A (lwW ax cx am cm qo co qd cd S E fo fd)) (hS : va_S A s.heap H locs) (hl : lv_has ls 9 [(0, .ref b), (1, .ref (ax 0)), (2, .ref (am 0)), (3, .ref qo), (4, .ref qd), (5, .int (nI (4 * i)))]) (K : LK p l e s m below meth c b A dC dI ax cx am cm qo co qd cd (cells + 1) (slots + 6) 1104 (nI (4 * i))) : W p l e room_1 s m #[Value.ref b] below meth c H locs cells slots (lw_Z below #[Value.ref b] s) (F0 m 847 ls []) := by
  obtain ⟨C0, hL, hA, hbA, hu, hn, hnc, hKx, hKm⟩ := id C9
  obtain ⟨hx, hb, hr, hml, hown, hts, hX, hbl, hlocks, hgv⟩ := id C0
  have hc : ∀ w ∈ CW, w.before #[Value.ref b] s = true := fun w h => hts w (List.mem_filter.mp h).1
  refine lv_aload_n hx hb dLw_law_847 rfl (lv_at hl 1 rfl) ?_
  refine lv_aload_n hx hb dLw_law_848 rfl (lv_at hl 0 rfl) ?_
  refine lv_iload hx hb dLw_law_849 (lv_at hl 5 rfl) ?_
  refine lv_iconst (v := 1) hx hb dLw_law_851 (by decide +kernel) ?_
  refine lv_iadd hx hb dLw_law_852 ?_
  refine lv_topi (fun v_1 ev_1 => ?_)
  rw [nI_1] at ev_1
  subst v_1
  refine va_sld hx hb hX hbl hbA hS (vp_in_nI (by omega) (by omega)) dLw_law_853 ?_
  refine lv_topi (fun v_2 ev_2 => ?_)
  rw [nI_clamp (by omega)] at ev_2
  subst v_2
  refine lv_aload_n hx hb dLw_law_854 rfl (lv_at hl 3 rfl) ?_
  refine f_calli (vx_runSW (As := [.ref (ax 0), .int (xs (4 * i + 1)), .ref qo]) (rest := []) ⟨hx, hb, hml, hown, hc⟩ (cLw_out l hl9 dC dI ax cx H.size S qo co fo qd cd fd (xs (4 * i + 1))) (vx_cwSW 3 hc (g_S w523 w524 w0 qLw_out) rfl rfl rfl (by decide +kernel) ⟨(Nat.le_of_ble_eq_true rfl), (Nat.le_of_ble_eq_true rfl)⟩) ⟨wPre_blind, wPre_in (fr_Pl hP) hKx (fr_Dl hD) hS (fr_freel hD hS hA) hu hn hnc⟩ rfl rfl hl.1 rfl (lv_room (Nat.le_of_ble_eq_true rfl)) dLw_law_855 ⟨show cells + 1 ≤ 601024 by omega, show slots + 6 ≤ 7293034 by omega⟩) hP hD hS hA (fun r1 u H locs hu9 hP hD hS => ?_)
  obtain ⟨S1, fo1, fd1⟩ := u
  obtain ⟨w1, w2, w3⟩ := hu9
  dsimp only at w1 w2 w3 hP hD
  subst w2
  refine lv_istore (lv' := [(6, .int r1), (0, .ref b), (1, .ref (ax 0)), (2, .ref (am 0)), (3, .ref qo), (4, .ref qd), (5, .int (nI (4 * i)))]) hx hb dLw_law_858 hl (by decide) rfl (fun ls hl => ?_)
  refine lv_aload_n hx hb dLw_law_860 rfl (lv_at hl 3 rfl) ?_
  refine lv_aload_n hx hb dLw_law_861 rfl (lv_at hl 1 rfl) ?_
  refine lv_iload hx hb dLw_law_862 (lv_at hl 6 rfl) ?_
  refine lv_iconst (v := 1) hx hb dLw_law_864 (by decide +kernel) ?_
  refine lv_iadd hx hb dLw_law_865 ?_
  refine lv_topi (fun v_3 ev_3 => ?_)
  rw [nI_1] at ev_3
  subst v_3
  refine va_sld hx hb hX hbl hbA hS (vp_in_nI (by omega) (by omega)) dLw_law_866 ?_
  refine lv_topi (fun v_4 ev_4 => ?_)
  rw [nI_clamp (by omega)] at ev_4
  subst v_4
  refine f_calliR (va_runV (As := [.int (xs (4 * i + 1))]) (rest := []) ⟨hx, hb, hml, hown, hc⟩ (cMo_out l dC dI am cm H.size S E (xs (4 * i + 1))) (cwV 1 hc (gV w769 w770 w771 w5 qMo_out) rfl rfl rfl (by decide +kernel) ⟨(Nat.le_of_ble_eq_true rfl), (Nat.le_of_ble_eq_true rfl)⟩) ⟨gPre_blind, va_recv hKm (fr_Pr hP) (ci := 4) (q0 := 0) rfl rfl, gPre_in (fr_Pr hP) hKm (fr_Dr hD)⟩ rfl rfl hl.1 rfl (lv_room (Nat.le_of_ble_eq_true rfl)) dLw_law_867 ⟨by show _ ≤ 601024; omega, by show _ ≤ 7293034; omega⟩) hP hD hS hA (fun r2 u H locs hu8 hP hD hS => ?_)
  obtain ⟨S2, E2⟩ := u
  obtain ⟨m1, m2, m3⟩ := hu8
  dsimp only at m1 m2 m3 hP hD
  subst m3
  refine lv_istore (lv' := [(7, .int r2), (6, .int r1), (0, .ref b), (1, .ref (ax 0)), (2, .ref (am 0)), (3, .ref qo), (4, .ref qd), (5, .int (nI (4 * i)))]) hx hb dLw_law_870 hl (by decide) rfl (fun ls hl => ?_)
  refine lv_aload_n hx hb dLw_law_872 rfl (lv_at hl 4 rfl) ?_
  refine vp_callSi (va_Run.run (va_runV (As := []) (rest := []) ⟨hx, hb, hml, hown, hc⟩ (cMo_thrown l dC dI am cm H.size (oOut S (xs (4 * i + 1))).2.2 E2) (cwV 0 hc (gV w650 w651 w652 w5 qMo_thrown) rfl rfl rfl (by decide +kernel) ⟨(Nat.le_of_ble_eq_true rfl), (Nat.le_of_ble_eq_true rfl)⟩) ⟨gPre_blind, va_recv hKm (fr_Pr hP) (ci := 4) (q0 := 0) rfl rfl, gPre_in (fr_Pr hP) hKm (fr_Dr hD)⟩ rfl rfl hl.1 rfl (lv_room (Nat.le_of_ble_eq_true rfl)) dLw_law_873 ⟨by show _ ≤ 601024; omega, by show _ ≤ 7293034; omega⟩)) (fun r3 h3 => ?_)
  refine lv_iload hx hb dLw_law_876 (lv_at hl 1 rfl) ?_
  refine lv_icmp_eq (tgt := 883) hx hb dLw_law_878 (by decide) (fun c_4 => ?_) (fun c_4 => ?_)
  · refine lv_iload hx hb dLw_law_883 (lv_at hl 1 rfl) ?_
    refine lv_if_ne (tgt := 900) hx hb dLw_law_885 (by decide) (fun c_5 => ?_) (fun c_5 => ?_)
    · refine lv_goto (tgt := 1104) hx hb dLw_law_900 (by decide) ?_
      refine W.widen (k := cells + 1) (n := slots + 6) (by omega) (by omega) ?_
      exact K _ _ _ _ _ _ _ (by rw [out_S]; exact hI) hP hD hS (lv_sub hl [2, 3, 4, 5, 6, 7] rfl)
    · have hz := c_5
      have hq := (w3 hz).trans (congrArg Int32.toInt64 (m2 (w1.symm.trans hz)).symm)
      refine lv_aload_n hx hb dLw_law_888 rfl (lv_at hl 5 rfl) ?_
      refine lv_iconst (v := 0) hx hb dLw_law_889 (by decide +kernel) ?_
      refine va_lald hx hb hKx (fr_Pl hP) 28 14 rfl rfl (vp_in_nI (n := 0) (by decide) (by decide)) dLw_law_890 ?_
      refine W.eq (g2 := F0 m 891 ls [.long (fo1 0)]) rfl ?_
      refine lv_iload hx hb dLw_law_891 (lv_at hl 0 rfl) ?_
      refine lv_i2l (v := r2.toInt64) hx hb dLw_law_893 rfl ?_
      refine W.lcmp hx hb dLw_law_894 ?_
      refine lv_if_eq (tgt := 900) hx hb dLw_law_895 (by decide) (fun c_6 => ?_) (fun c_6 => ?_)
      · refine lv_goto (tgt := 1104) hx hb dLw_law_900 (by decide) ?_
        refine W.widen (k := cells + 1) (n := slots + 6) (by omega) (by omega) ?_
        exact K _ _ _ _ _ _ _ (by rw [out_S]; exact hI) hP hD hS (lv_sub hl [2, 3, 4, 5, 6, 7] rfl)
      · exact absurd ((lg_cmp_eq _ _).mpr hq) c_6
  · exact absurd (h3.trans (m1.symm.trans w1.symm)) c_4

set_option maxHeartbeats 4000000 in
set_option maxRecDepth 100000 in
theorem law_register {p : Program} {e : Env} {s : State} {m : MethodId} {below : List Frame} {meth : Method} {c : Code} {l : Launch} {b L : Nat} {xs : Nat → Int32} {A : Nat → Prop} {dC : Nat → ClassId} {dI : Nat → Nat → Nat} {ax am : Nat → Nat} {cx cm : Nat → ClassId} {qo : Nat} {co : ClassId} {qd : Nat} {cd : ClassId} (C9 : LC p s m meth c b L xs A dC dI cx cm co cd) (hl9 : l.stackTraces = false) {i : Nat} (hi : 4 * i + 4 ≤ L) {S E : Ss} {fo : Nat → Int64} {fd : Nat → UInt64} {H : Heap} {locs : List Loc} {ls : Array Slot} {cells slots : Nat} (hcell : cells + 1 ≤ 601024) (hslot : slots + 6 ≤ 7293034) (hI : Inv S) (hP : va_P (dC, dI) vwCl (lwW ax cx am cm qo co qd cd S E fo fd) H) (hD : va_D A (lwW ax cx am cm qo co qd cd S E fo fd)) (hS : va_S A s.heap H locs) (hl : lv_has ls 9 [(0, .ref b), (1, .ref (ax 0)), (2, .ref (am 0)), (3, .ref qo), (4, .ref qd), (5, .int (nI (4 * i)))]) (K : LK p l e s m below meth c b A dC dI ax cx am cm qo co qd cd (cells + 1) (slots + 6) 1104 (nI (4 * i))) : W p l e room_1 s m #[Value.ref b] below meth c H locs cells slots (lw_Z below #[Value.ref b] s) (F0 m 903 ls []) := by
  obtain ⟨C0, hL, hA, hbA, hu, hn, hnc, hKx, hKm⟩ := id C9
  obtain ⟨hx, hb, hr, hml, hown, hts, hX, hbl, hlocks, hgv⟩ := id C0
  have hc : ∀ w ∈ CW, w.before #[Value.ref b] s = true := fun w h => hts w (List.mem_filter.mp h).1
  refine lv_aload_n hx hb dLw_law_903 rfl (lv_at hl 1 rfl) ?_
  refine lv_aload_n hx hb dLw_law_904 rfl (lv_at hl 0 rfl) ?_
  refine lv_iload hx hb dLw_law_905 (lv_at hl 5 rfl) ?_
  refine lv_iconst (v := 1) hx hb dLw_law_907 (by decide +kernel) ?_
  refine lv_iadd hx hb dLw_law_908 ?_
  refine lv_topi (fun v_1 ev_1 => ?_)
  rw [nI_1] at ev_1
  subst v_1
  refine va_sld hx hb hX hbl hbA hS (vp_in_nI (by omega) (by omega)) dLw_law_909 ?_
  refine lv_topi (fun v_2 ev_2 => ?_)
  rw [nI_clamp (by omega)] at ev_2
  subst v_2
  refine lv_aload hx hb dLw_law_910 (lv_at hl 4 rfl) ?_
  refine f_calli (vx_runSW (As := [.ref (ax 0), .int (xs (4 * i + 1)), .ref qd]) (rest := []) ⟨hx, hb, hml, hown, hc⟩ (cLw_register l hl9 dC dI ax cx H.size S qo co fo qd cd fd (xs (4 * i + 1))) (vx_cwSW 3 hc (g_S w530 w531 w0 qLw_register) rfl rfl rfl (by decide +kernel) ⟨(Nat.le_of_ble_eq_true rfl), (Nat.le_of_ble_eq_true rfl)⟩) ⟨wPre_blind, wPre_in (fr_Pl hP) hKx (fr_Dl hD) hS (fr_freel hD hS hA) hu hn hnc⟩ rfl rfl hl.1 rfl (lv_room (Nat.le_of_ble_eq_true rfl)) dLw_law_912 ⟨show cells + 1 ≤ 601024 by omega, show slots + 6 ≤ 7293034 by omega⟩) hP hD hS hA (fun r1 u H locs hu9 hP hD hS => ?_)
  obtain ⟨S1, fo1, fd1⟩ := u
  obtain ⟨w1, w2, w3⟩ := hu9
  dsimp only at w1 w2 w3 hP hD
  subst w2
  refine lv_istore (lv' := [(6, .int r1), (0, .ref b), (1, .ref (ax 0)), (2, .ref (am 0)), (3, .ref qo), (4, .ref qd), (5, .int (nI (4 * i)))]) hx hb dLw_law_915 hl (by decide) rfl (fun ls hl => ?_)
  refine lv_aload_n hx hb dLw_law_917 rfl (lv_at hl 3 rfl) ?_
  refine lv_aload_n hx hb dLw_law_918 rfl (lv_at hl 1 rfl) ?_
  refine lv_iload hx hb dLw_law_919 (lv_at hl 6 rfl) ?_
  refine lv_iconst (v := 1) hx hb dLw_law_921 (by decide +kernel) ?_
  refine lv_iadd hx hb dLw_law_922 ?_
  refine lv_topi (fun v_3 ev_3 => ?_)
  rw [nI_1] at ev_3
  subst v_3
  refine va_sld hx hb hX hbl hbA hS (vp_in_nI (by omega) (by omega)) dLw_law_923 ?_
  refine lv_topi (fun v_4 ev_4 => ?_)
  rw [nI_clamp (by omega)] at ev_4
  subst v_4
  refine f_calldR (va_runV (As := [.int (xs (4 * i + 1))]) (rest := []) ⟨hx, hb, hml, hown, hc⟩ (cMo_register l dC dI am cm H.size S E (xs (4 * i + 1))) (cwV 1 hc (gV w773 w774 w775 w5 qMo_register) rfl rfl rfl (by decide +kernel) ⟨(Nat.le_of_ble_eq_true rfl), (Nat.le_of_ble_eq_true rfl)⟩) ⟨gPre_blind, va_recv hKm (fr_Pr hP) (ci := 4) (q0 := 0) rfl rfl, gPre_in (fr_Pr hP) hKm (fr_Dr hD)⟩ rfl rfl hl.1 rfl (lv_room (Nat.le_of_ble_eq_true rfl)) dLw_law_924 ⟨by show _ ≤ 601024; omega, by show _ ≤ 7293034; omega⟩) hP hD hS hA (fun r2 u H locs hu8 hP hD hS => ?_)
  obtain ⟨S2, E2⟩ := u
  obtain ⟨m1, m2, m3⟩ := hu8
  dsimp only at m1 m2 m3 hP hD
  subst m3
  refine lv_dstore (lv' := [(7, .double r2), (6, .int r1), (0, .ref b), (1, .ref (ax 0)), (2, .ref (am 0)), (3, .ref qo), (4, .ref qd), (5, .int (nI (4 * i)))]) hx hb dLw_law_927 hl (by decide) rfl (fun ls hl => ?_)
  refine lv_aload_n hx hb dLw_law_929 rfl (lv_at hl 4 rfl) ?_
  refine vp_callSi (va_Run.run (va_runV (As := []) (rest := []) ⟨hx, hb, hml, hown, hc⟩ (cMo_thrown l dC dI am cm H.size (oReg S (xs (4 * i + 1))).2.2 E2) (cwV 0 hc (gV w650 w651 w652 w5 qMo_thrown) rfl rfl rfl (by decide +kernel) ⟨(Nat.le_of_ble_eq_true rfl), (Nat.le_of_ble_eq_true rfl)⟩) ⟨gPre_blind, va_recv hKm (fr_Pr hP) (ci := 4) (q0 := 0) rfl rfl, gPre_in (fr_Pr hP) hKm (fr_Dr hD)⟩ rfl rfl hl.1 rfl (lv_room (Nat.le_of_ble_eq_true rfl)) dLw_law_930 ⟨by show _ ≤ 601024; omega, by show _ ≤ 7293034; omega⟩)) (fun r3 h3 => ?_)
  refine lv_iload hx hb dLw_law_933 (lv_at hl 1 rfl) ?_
  refine lv_icmp_eq (tgt := 940) hx hb dLw_law_935 (by decide) (fun c_4 => ?_) (fun c_4 => ?_)
  · refine lv_iload hx hb dLw_law_940 (lv_at hl 1 rfl) ?_
    refine lv_if_ne (tgt := 977) hx hb dLw_law_942 (by decide) (fun c_5 => ?_) (fun c_5 => ?_)
    · refine lv_goto (tgt := 1104) hx hb dLw_law_977 (by decide) ?_
      refine W.widen (k := cells + 1) (n := slots + 6) (by omega) (by omega) ?_
      exact K _ _ _ _ _ _ _ (by rw [reg_S]; exact hI) hP hD hS (lv_sub hl [2, 3, 4, 5, 6, 7] rfl)
    · have hz := c_5
      have hq := (w3 hz).trans (m2 (w1.symm.trans hz)).symm
      refine lv_aload hx hb dLw_law_945 (lv_at hl 6 rfl) ?_
      refine lv_iconst (v := 0) hx hb dLw_law_947 (by decide +kernel) ?_
      refine va_dald hx hb hKx (fr_Pl hP) 29 15 rfl rfl (vp_in_nI (n := 0) (by decide) (by decide)) dLw_law_948 ?_
      refine W.eq (g2 := F0 m 949 ls [.double (fd1 0)]) rfl ?_
      refine lv_dload hx hb dLw_law_949 (lv_at hl 0 rfl) ?_
      refine lv_dcmp hx hb dLw_law_951 ?_
      refine lv_if_eq (tgt := 977) hx hb dLw_law_952 (by decide) (fun c_6 => ?_) (fun c_6 => ?_)
      · refine lv_goto (tgt := 1104) hx hb dLw_law_977 (by decide) ?_
        refine W.widen (k := cells + 1) (n := slots + 6) (by omega) (by omega) ?_
        exact K _ _ _ _ _ _ _ (by rw [reg_S]; exact hI) hP hD hS (lv_sub hl [2, 3, 4, 5, 6, 7] rfl)
      · have c1 := c_6
        refine lv_aload hx hb dLw_law_955 (lv_at hl 6 rfl) ?_
        refine lv_iconst (v := 0) hx hb dLw_law_957 (by decide +kernel) ?_
        refine va_dald hx hb hKx (fr_Pl hP) 29 15 rfl rfl (vp_in_nI (n := 0) (by decide) (by decide)) dLw_law_958 ?_
        refine W.eq (g2 := F0 m 959 ls [.double (fd1 0)]) rfl ?_
        refine lv_aload hx hb dLw_law_959 (lv_at hl 6 rfl) ?_
        refine lv_iconst (v := 0) hx hb dLw_law_961 (by decide +kernel) ?_
        refine va_dald hx hb hKx (fr_Pl hP) 29 15 rfl rfl (vp_in_nI (n := 0) (by decide) (by decide)) dLw_law_962 ?_
        refine W.eq (g2 := F0 m 963 ls [.double (fd1 0), .double (fd1 0)]) rfl ?_
        refine lv_dcmp hx hb dLw_law_963 ?_
        refine lv_if_eq (tgt := 975) hx hb dLw_law_964 (by decide) (fun c_7 => ?_) (fun c_7 => ?_)
        · exact absurd (by rw [← hq]; exact c_7) c1
        · refine lv_dload hx hb dLw_law_967 (lv_at hl 0 rfl) ?_
          refine lv_dload hx hb dLw_law_969 (lv_at hl 0 rfl) ?_
          refine lv_dcmp hx hb dLw_law_971 ?_
          refine lv_if_ne (tgt := 977) hx hb dLw_law_972 (by decide) (fun c_8 => ?_) (fun c_8 => ?_)
          · refine lv_goto (tgt := 1104) hx hb dLw_law_977 (by decide) ?_
            refine W.widen (k := cells + 1) (n := slots + 6) (by omega) (by omega) ?_
            exact K _ _ _ _ _ _ _ (by rw [reg_S]; exact hI) hP hD hS (lv_sub hl [2, 3, 4, 5, 6, 7] rfl)
          · exact absurd (by rw [hq]; exact c_8) c1
  · exact absurd (h3.trans (m1.symm.trans w1.symm)) c_4

set_option maxHeartbeats 4000000 in
set_option maxRecDepth 100000 in
theorem law_state {p : Program} {e : Env} {s : State} {m : MethodId} {below : List Frame} {meth : Method} {c : Code} {l : Launch} {b L : Nat} {xs : Nat → Int32} {A : Nat → Prop} {dC : Nat → ClassId} {dI : Nat → Nat → Nat} {ax am : Nat → Nat} {cx cm : Nat → ClassId} {qo : Nat} {co : ClassId} {qd : Nat} {cd : ClassId} (C9 : LC p s m meth c b L xs A dC dI cx cm co cd) (hl9 : l.stackTraces = false) {i : Nat} (hi : 4 * i + 4 ≤ L) {S E : Ss} {fo : Nat → Int64} {fd : Nat → UInt64} {H : Heap} {locs : List Loc} {ls : Array Slot} {cells slots : Nat} (hcell : cells + 1 ≤ 601024) (hslot : slots + 6 ≤ 7293034) (hI : Inv S) (hP : va_P (dC, dI) vwCl (lwW ax cx am cm qo co qd cd S E fo fd) H) (hD : va_D A (lwW ax cx am cm qo co qd cd S E fo fd)) (hS : va_S A s.heap H locs) (hl : lv_has ls 9 [(0, .ref b), (1, .ref (ax 0)), (2, .ref (am 0)), (3, .ref qo), (4, .ref qd), (5, .int (nI (4 * i)))]) (K : LK p l e s m below meth c b A dC dI ax cx am cm qo co qd cd (cells + 1) (slots + 6) 1104 (nI (4 * i))) : W p l e room_1 s m #[Value.ref b] below meth c H locs cells slots (lw_Z below #[Value.ref b] s) (F0 m 980 ls []) := by
  obtain ⟨C0, hL, hA, hbA, hu, hn, hnc, hKx, hKm⟩ := id C9
  obtain ⟨hx, hb, hr, hml, hown, hts, hX, hbl, hlocks, hgv⟩ := id C0
  have hc : ∀ w ∈ CW, w.before #[Value.ref b] s = true := fun w h => hts w (List.mem_filter.mp h).1
  obtain ⟨m0, hm, em⟩ := Inv_made hI
  refine lv_aload_n hx hb dLw_law_980 rfl (lv_at hl 1 rfl) ?_
  refine lv_aload_n hx hb dLw_law_981 rfl (lv_at hl 0 rfl) ?_
  refine lv_iload hx hb dLw_law_982 (lv_at hl 5 rfl) ?_
  refine lv_iconst (v := 1) hx hb dLw_law_984 (by decide +kernel) ?_
  refine lv_iadd hx hb dLw_law_985 ?_
  refine lv_topi (fun v_1 ev_1 => ?_)
  rw [nI_1] at ev_1
  subst v_1
  refine va_sld hx hb hX hbl hbA hS (vp_in_nI (by omega) (by omega)) dLw_law_986 ?_
  refine lv_topi (fun v_2 ev_2 => ?_)
  rw [nI_clamp (by omega)] at ev_2
  subst v_2
  refine lv_aload_n hx hb dLw_law_987 rfl (lv_at hl 0 rfl) ?_
  refine lv_iload hx hb dLw_law_988 (lv_at hl 5 rfl) ?_
  refine lv_iconst (v := 2) hx hb dLw_law_990 (by decide +kernel) ?_
  refine lv_iadd hx hb dLw_law_991 ?_
  refine lv_topi (fun v_3 ev_3 => ?_)
  rw [ad_2] at ev_3
  subst v_3
  refine va_sld hx hb hX hbl hbA hS (vp_in_nI (by omega) (by omega)) dLw_law_992 ?_
  refine lv_topi (fun v_4 ev_4 => ?_)
  rw [nI_clamp (by omega)] at ev_4
  subst v_4
  refine lv_aload_n hx hb dLw_law_993 rfl (lv_at hl 3 rfl) ?_
  refine f_calli (vx_runSW (As := [.ref (ax 0), .int (xs (4 * i + 1)), .int (xs (4 * i + 2)), .ref qo]) (rest := []) ⟨hx, hb, hml, hown, hc⟩ (cLw_state l hl9 dC dI ax cx H.size S qo co fo qd cd fd (xs (4 * i + 1)) (xs (4 * i + 2)) m0 hm em) (vx_cwSW 4 hc (g_S w537 w538 w0 qLw_state) rfl rfl rfl (by decide +kernel) ⟨(Nat.le_of_ble_eq_true rfl), (Nat.le_of_ble_eq_true rfl)⟩) ⟨wPre_blind, wPre_in (fr_Pl hP) hKx (fr_Dl hD) hS (fr_freel hD hS hA) hu hn hnc⟩ rfl rfl hl.1 rfl (lv_room (Nat.le_of_ble_eq_true rfl)) dLw_law_994 ⟨show cells + 1 ≤ 601024 by omega, show slots + 6 ≤ 7293034 by omega⟩) hP hD hS hA (fun r1 u H locs hu9 hP hD hS => ?_)
  obtain ⟨S1, fo1, fd1⟩ := u
  obtain ⟨w1, w2, w3⟩ := hu9
  dsimp only at w1 w2 w3 hP hD
  subst w2
  refine lv_istore (lv' := [(6, .int r1), (0, .ref b), (1, .ref (ax 0)), (2, .ref (am 0)), (3, .ref qo), (4, .ref qd), (5, .int (nI (4 * i)))]) hx hb dLw_law_997 hl (by decide) rfl (fun ls hl => ?_)
  refine lv_aload_n hx hb dLw_law_999 rfl (lv_at hl 3 rfl) ?_
  refine lv_aload_n hx hb dLw_law_1000 rfl (lv_at hl 1 rfl) ?_
  refine lv_iload hx hb dLw_law_1001 (lv_at hl 6 rfl) ?_
  refine lv_iconst (v := 1) hx hb dLw_law_1003 (by decide +kernel) ?_
  refine lv_iadd hx hb dLw_law_1004 ?_
  refine lv_topi (fun v_5 ev_5 => ?_)
  rw [nI_1] at ev_5
  subst v_5
  refine va_sld hx hb hX hbl hbA hS (vp_in_nI (by omega) (by omega)) dLw_law_1005 ?_
  refine lv_topi (fun v_6 ev_6 => ?_)
  rw [nI_clamp (by omega)] at ev_6
  subst v_6
  refine lv_aload_n hx hb dLw_law_1006 rfl (lv_at hl 1 rfl) ?_
  refine lv_iload hx hb dLw_law_1007 (lv_at hl 6 rfl) ?_
  refine lv_iconst (v := 2) hx hb dLw_law_1009 (by decide +kernel) ?_
  refine lv_iadd hx hb dLw_law_1010 ?_
  refine lv_topi (fun v_7 ev_7 => ?_)
  rw [ad_2] at ev_7
  subst v_7
  refine va_sld hx hb hX hbl hbA hS (vp_in_nI (by omega) (by omega)) dLw_law_1011 ?_
  refine lv_topi (fun v_8 ev_8 => ?_)
  rw [nI_clamp (by omega)] at ev_8
  subst v_8
  refine f_calliR (va_runV (As := [.int (xs (4 * i + 1)), .int (xs (4 * i + 2))]) (rest := []) ⟨hx, hb, hml, hown, hc⟩ (cMo_state l dC dI am cm H.size S E (xs (4 * i + 1)) (xs (4 * i + 2)) m0 hm em) (cwV 2 hc (gV w777 w778 w779 w5 qMo_state) rfl rfl rfl (by decide +kernel) ⟨(Nat.le_of_ble_eq_true rfl), (Nat.le_of_ble_eq_true rfl)⟩) ⟨gPre_blind, va_recv hKm (fr_Pr hP) (ci := 4) (q0 := 0) rfl rfl, gPre_in (fr_Pr hP) hKm (fr_Dr hD)⟩ rfl rfl hl.1 rfl (lv_room (Nat.le_of_ble_eq_true rfl)) dLw_law_1012 ⟨by show _ ≤ 601024; omega, by show _ ≤ 7293034; omega⟩) hP hD hS hA (fun r2 u H locs hu8 hP hD hS => ?_)
  obtain ⟨S2, E2⟩ := u
  obtain ⟨m1, m2, m3⟩ := hu8
  dsimp only at m1 m2 m3 hP hD
  subst m3
  refine lv_istore (lv' := [(7, .int r2), (6, .int r1), (0, .ref b), (1, .ref (ax 0)), (2, .ref (am 0)), (3, .ref qo), (4, .ref qd), (5, .int (nI (4 * i)))]) hx hb dLw_law_1015 hl (by decide) rfl (fun ls hl => ?_)
  refine lv_aload_n hx hb dLw_law_1017 rfl (lv_at hl 4 rfl) ?_
  refine vp_callSi (va_Run.run (va_runV (As := []) (rest := []) ⟨hx, hb, hml, hown, hc⟩ (cMo_thrown l dC dI am cm H.size (oState S (xs (4 * i + 1)) (xs (4 * i + 2))).2.2 E2) (cwV 0 hc (gV w650 w651 w652 w5 qMo_thrown) rfl rfl rfl (by decide +kernel) ⟨(Nat.le_of_ble_eq_true rfl), (Nat.le_of_ble_eq_true rfl)⟩) ⟨gPre_blind, va_recv hKm (fr_Pr hP) (ci := 4) (q0 := 0) rfl rfl, gPre_in (fr_Pr hP) hKm (fr_Dr hD)⟩ rfl rfl hl.1 rfl (lv_room (Nat.le_of_ble_eq_true rfl)) dLw_law_1018 ⟨by show _ ≤ 601024; omega, by show _ ≤ 7293034; omega⟩)) (fun r3 h3 => ?_)
  refine lv_iload hx hb dLw_law_1021 (lv_at hl 1 rfl) ?_
  refine lv_icmp_eq (tgt := 1028) hx hb dLw_law_1023 (by decide) (fun c_8 => ?_) (fun c_8 => ?_)
  · refine lv_iload hx hb dLw_law_1028 (lv_at hl 1 rfl) ?_
    refine lv_if_ne (tgt := 1045) hx hb dLw_law_1030 (by decide) (fun c_9 => ?_) (fun c_9 => ?_)
    · refine lv_goto (tgt := 1104) hx hb dLw_law_1045 (by decide) ?_
      refine W.widen (k := cells + 1) (n := slots + 6) (by omega) (by omega) ?_
      exact K _ _ _ _ _ _ _ (by rw [state_S]; exact hI) hP hD hS (lv_sub hl [2, 3, 4, 5, 6, 7] rfl)
    · have hz := c_9
      have hq := (w3 hz).trans (congrArg Int32.toInt64 (m2 (w1.symm.trans hz)).symm)
      refine lv_aload_n hx hb dLw_law_1033 rfl (lv_at hl 5 rfl) ?_
      refine lv_iconst (v := 0) hx hb dLw_law_1034 (by decide +kernel) ?_
      refine va_lald hx hb hKx (fr_Pl hP) 28 14 rfl rfl (vp_in_nI (n := 0) (by decide) (by decide)) dLw_law_1035 ?_
      refine W.eq (g2 := F0 m 1036 ls [.long (fo1 0)]) rfl ?_
      refine lv_iload hx hb dLw_law_1036 (lv_at hl 0 rfl) ?_
      refine lv_i2l (v := r2.toInt64) hx hb dLw_law_1038 rfl ?_
      refine W.lcmp hx hb dLw_law_1039 ?_
      refine lv_if_eq (tgt := 1045) hx hb dLw_law_1040 (by decide) (fun c_10 => ?_) (fun c_10 => ?_)
      · refine lv_goto (tgt := 1104) hx hb dLw_law_1045 (by decide) ?_
        refine W.widen (k := cells + 1) (n := slots + 6) (by omega) (by omega) ?_
        exact K _ _ _ _ _ _ _ (by rw [state_S]; exact hI) hP hD hS (lv_sub hl [2, 3, 4, 5, 6, 7] rfl)
      · exact absurd ((lg_cmp_eq _ _).mpr hq) c_10
  · exact absurd (h3.trans (m1.symm.trans w1.symm)) c_8

set_option maxHeartbeats 4000000 in
set_option maxRecDepth 100000 in
theorem law_count {p : Program} {e : Env} {s : State} {m : MethodId} {below : List Frame} {meth : Method} {c : Code} {l : Launch} {b L : Nat} {xs : Nat → Int32} {A : Nat → Prop} {dC : Nat → ClassId} {dI : Nat → Nat → Nat} {ax am : Nat → Nat} {cx cm : Nat → ClassId} {qo : Nat} {co : ClassId} {qd : Nat} {cd : ClassId} (C9 : LC p s m meth c b L xs A dC dI cx cm co cd) (hl9 : l.stackTraces = false) {i : Nat} (hi : 4 * i + 4 ≤ L) {S E : Ss} {fo : Nat → Int64} {fd : Nat → UInt64} {H : Heap} {locs : List Loc} {ls : Array Slot} {cells slots : Nat} (hcell : cells + 1 ≤ 601024) (hslot : slots + 6 ≤ 7293034) (hI : Inv S) (hP : va_P (dC, dI) vwCl (lwW ax cx am cm qo co qd cd S E fo fd) H) (hD : va_D A (lwW ax cx am cm qo co qd cd S E fo fd)) (hS : va_S A s.heap H locs) (hl : lv_has ls 9 [(0, .ref b), (1, .ref (ax 0)), (2, .ref (am 0)), (3, .ref qo), (4, .ref qd), (5, .int (nI (4 * i)))]) (K : LK p l e s m below meth c b A dC dI ax cx am cm qo co qd cd (cells + 1) (slots + 6) 1104 (nI (4 * i))) : W p l e room_1 s m #[Value.ref b] below meth c H locs cells slots (lw_Z below #[Value.ref b] s) (F0 m 1048 ls []) := by
  obtain ⟨C0, hL, hA, hbA, hu, hn, hnc, hKx, hKm⟩ := id C9
  obtain ⟨hx, hb, hr, hml, hown, hts, hX, hbl, hlocks, hgv⟩ := id C0
  have hc : ∀ w ∈ CW, w.before #[Value.ref b] s = true := fun w h => hts w (List.mem_filter.mp h).1
  refine lv_aload_n hx hb dLw_law_1048 rfl (lv_at hl 1 rfl) ?_
  refine lv_aload_n hx hb dLw_law_1049 rfl (lv_at hl 0 rfl) ?_
  refine lv_iload hx hb dLw_law_1050 (lv_at hl 5 rfl) ?_
  refine lv_iconst (v := 1) hx hb dLw_law_1052 (by decide +kernel) ?_
  refine lv_iadd hx hb dLw_law_1053 ?_
  refine lv_topi (fun v_1 ev_1 => ?_)
  rw [nI_1] at ev_1
  subst v_1
  refine va_sld hx hb hX hbl hbA hS (vp_in_nI (by omega) (by omega)) dLw_law_1054 ?_
  refine lv_topi (fun v_2 ev_2 => ?_)
  rw [nI_clamp (by omega)] at ev_2
  subst v_2
  refine lv_aload_n hx hb dLw_law_1055 rfl (lv_at hl 3 rfl) ?_
  refine f_calli (vx_runSW (As := [.ref (ax 0), .int (xs (4 * i + 1)), .ref qo]) (rest := []) ⟨hx, hb, hml, hown, hc⟩ (cLw_count l hl9 dC dI ax cx H.size S qo co fo qd cd fd (xs (4 * i + 1))) (vx_cwSW 3 hc (g_S w544 w545 w0 qLw_count) rfl rfl rfl (by decide +kernel) ⟨(Nat.le_of_ble_eq_true rfl), (Nat.le_of_ble_eq_true rfl)⟩) ⟨wPre_blind, wPre_in (fr_Pl hP) hKx (fr_Dl hD) hS (fr_freel hD hS hA) hu hn hnc⟩ rfl rfl hl.1 rfl (lv_room (Nat.le_of_ble_eq_true rfl)) dLw_law_1056 ⟨show cells + 1 ≤ 601024 by omega, show slots + 6 ≤ 7293034 by omega⟩) hP hD hS hA (fun r1 u H locs hu9 hP hD hS => ?_)
  obtain ⟨S1, fo1, fd1⟩ := u
  obtain ⟨w1, w2, w3⟩ := hu9
  dsimp only at w1 w2 w3 hP hD
  subst w2
  refine lv_istore (lv' := [(6, .int r1), (0, .ref b), (1, .ref (ax 0)), (2, .ref (am 0)), (3, .ref qo), (4, .ref qd), (5, .int (nI (4 * i)))]) hx hb dLw_law_1059 hl (by decide) rfl (fun ls hl => ?_)
  refine lv_aload_n hx hb dLw_law_1061 rfl (lv_at hl 3 rfl) ?_
  refine lv_aload_n hx hb dLw_law_1062 rfl (lv_at hl 1 rfl) ?_
  refine lv_iload hx hb dLw_law_1063 (lv_at hl 6 rfl) ?_
  refine lv_iconst (v := 1) hx hb dLw_law_1065 (by decide +kernel) ?_
  refine lv_iadd hx hb dLw_law_1066 ?_
  refine lv_topi (fun v_3 ev_3 => ?_)
  rw [nI_1] at ev_3
  subst v_3
  refine va_sld hx hb hX hbl hbA hS (vp_in_nI (by omega) (by omega)) dLw_law_1067 ?_
  refine lv_topi (fun v_4 ev_4 => ?_)
  rw [nI_clamp (by omega)] at ev_4
  subst v_4
  refine f_calliR (va_runV (As := [.int (xs (4 * i + 1))]) (rest := []) ⟨hx, hb, hml, hown, hc⟩ (cMo_count l dC dI am cm H.size S E (xs (4 * i + 1)) (Inv_F hI)) (cwV 1 hc (gV w781 w782 w783 w5 qMo_count) rfl rfl rfl (by decide +kernel) ⟨(Nat.le_of_ble_eq_true rfl), (Nat.le_of_ble_eq_true rfl)⟩) ⟨gPre_blind, va_recv hKm (fr_Pr hP) (ci := 4) (q0 := 0) rfl rfl, gPre_in (fr_Pr hP) hKm (fr_Dr hD)⟩ rfl rfl hl.1 rfl (lv_room (Nat.le_of_ble_eq_true rfl)) dLw_law_1068 ⟨by show _ ≤ 601024; omega, by show _ ≤ 7293034; omega⟩) hP hD hS hA (fun r2 u H locs hu8 hP hD hS => ?_)
  obtain ⟨S2, E2⟩ := u
  obtain ⟨m1, m2, m3⟩ := hu8
  dsimp only at m1 m2 m3 hP hD
  subst m3
  refine lv_istore (lv' := [(7, .int r2), (6, .int r1), (0, .ref b), (1, .ref (ax 0)), (2, .ref (am 0)), (3, .ref qo), (4, .ref qd), (5, .int (nI (4 * i)))]) hx hb dLw_law_1071 hl (by decide) rfl (fun ls hl => ?_)
  refine lv_aload_n hx hb dLw_law_1073 rfl (lv_at hl 4 rfl) ?_
  refine vp_callSi (va_Run.run (va_runV (As := []) (rest := []) ⟨hx, hb, hml, hown, hc⟩ (cMo_thrown l dC dI am cm H.size (oCount S (xs (4 * i + 1))).2.2 E2) (cwV 0 hc (gV w650 w651 w652 w5 qMo_thrown) rfl rfl rfl (by decide +kernel) ⟨(Nat.le_of_ble_eq_true rfl), (Nat.le_of_ble_eq_true rfl)⟩) ⟨gPre_blind, va_recv hKm (fr_Pr hP) (ci := 4) (q0 := 0) rfl rfl, gPre_in (fr_Pr hP) hKm (fr_Dr hD)⟩ rfl rfl hl.1 rfl (lv_room (Nat.le_of_ble_eq_true rfl)) dLw_law_1074 ⟨by show _ ≤ 601024; omega, by show _ ≤ 7293034; omega⟩)) (fun r3 h3 => ?_)
  refine lv_iload hx hb dLw_law_1077 (lv_at hl 1 rfl) ?_
  refine lv_icmp_eq (tgt := 1084) hx hb dLw_law_1079 (by decide) (fun c_4 => ?_) (fun c_4 => ?_)
  · refine lv_iload hx hb dLw_law_1084 (lv_at hl 1 rfl) ?_
    refine lv_if_ne (tgt := 1101) hx hb dLw_law_1086 (by decide) (fun c_5 => ?_) (fun c_5 => ?_)
    · refine lv_goto (tgt := 1104) hx hb dLw_law_1101 (by decide) ?_
      refine W.widen (k := cells + 1) (n := slots + 6) (by omega) (by omega) ?_
      exact K _ _ _ _ _ _ _ (by rw [count_S]; exact hI) hP hD hS (lv_sub hl [2, 3, 4, 5, 6, 7] rfl)
    · have hz := c_5
      have hq := (w3 hz).trans (congrArg Int32.toInt64 (m2 (w1.symm.trans hz)).symm)
      refine lv_aload_n hx hb dLw_law_1089 rfl (lv_at hl 5 rfl) ?_
      refine lv_iconst (v := 0) hx hb dLw_law_1090 (by decide +kernel) ?_
      refine va_lald hx hb hKx (fr_Pl hP) 28 14 rfl rfl (vp_in_nI (n := 0) (by decide) (by decide)) dLw_law_1091 ?_
      refine W.eq (g2 := F0 m 1092 ls [.long (fo1 0)]) rfl ?_
      refine lv_iload hx hb dLw_law_1092 (lv_at hl 0 rfl) ?_
      refine lv_i2l (v := r2.toInt64) hx hb dLw_law_1094 rfl ?_
      refine W.lcmp hx hb dLw_law_1095 ?_
      refine lv_if_eq (tgt := 1101) hx hb dLw_law_1096 (by decide) (fun c_6 => ?_) (fun c_6 => ?_)
      · refine lv_goto (tgt := 1104) hx hb dLw_law_1101 (by decide) ?_
        refine W.widen (k := cells + 1) (n := slots + 6) (by omega) (by omega) ?_
        exact K _ _ _ _ _ _ _ (by rw [count_S]; exact hI) hP hD hS (lv_sub hl [2, 3, 4, 5, 6, 7] rfl)
      · exact absurd ((lg_cmp_eq _ _).mpr hq) c_6
  · exact absurd (h3.trans (m1.symm.trans w1.symm)) c_4
