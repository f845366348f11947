set_option maxHeartbeats 4000000 in
set_option maxRecDepth 100000 in
theorem law_step9 {p : Program} {e : Env} {s : State} {m : MethodId} {below : List Frame} {meth : Method} {c : Code} {l : Launch} {b L : Nat} {xs : Nat → Int32} {A : Nat → Prop} {dC : Nat → ClassId} {dI : Nat → Nat → Nat} {ax am : Nat → Nat} {cx cm : Nat → ClassId} {qo : Nat} {co : ClassId} {qd : Nat} {cd : ClassId} (C9 : LC p s m meth c b L xs A dC dI cx cm co cd) (hl9 : l.stackTraces = false) (hAe : ∀ q, A q → s.heap.size ≤ q) {i : Nat} (hi5 : i ≤ 513) {cells slots : Nat} (hcell : cells + 1 ≤ 601024) (hslot : slots + 6 ≤ 7293034) (K : 4 * i + 4 ≤ L → LK p l e s m below meth c b A dC dI ax cx am cm qo co qd cd (cells + 1) (slots + 6) 28 (nI (4 * (i + 1)))) : LK p l e s m below meth c b A dC dI ax cx am cm qo co qd cd cells slots 28 (nI (4 * i)) := by
  intro S E fo fd H locs ls hI hP hD hS hl
  obtain ⟨C0, hL, hA, hbA, hu, hn, hnc, hKx, hKm⟩ := id C9
  obtain ⟨hx, hb, hr, hml, hown, hts, hX, hbl, hlocks, hgv⟩ := id C0
  have hc : ∀ w ∈ CW, w.before #[Value.ref b] s = true := fun w h => hts w (List.mem_filter.mp h).1
  have T : 4 * i + 4 ≤ L → LK p l e s m below meth c b A dC dI ax cx am cm qo co qd cd (cells + 1) (slots + 6) 1104 (nI (4 * i)) := by
    intro hi S E fo fd H locs ls hI hP hD hS hl
    refine lv_iinc (v := nI (4 * (i + 1))) (lv' := [(5, .int (nI (4 * (i + 1)))), (0, .ref b), (1, .ref (ax 0)), (2, .ref (am 0)), (3, .ref qo), (4, .ref qd)]) hx hb dLw_law_1104 hl (k := 5) rfl (by rw [show nI (4 * (i + 1)) = nI (4 * i) + 4 from (ad_4 (4 * i)).symm]; rfl) (by decide) rfl (fun ls hl => ?_)
    refine lv_goto (tgt := 28) hx hb dLw_law_1107 (by decide) ?_
    exact K hi S E fo fd H locs ls hI hP hD hS (lv_sub hl [1, 2, 3, 4, 5, 0] rfl)
  refine lv_iload hx hb dLw_law_28 (lv_at hl 5 rfl) ?_
  refine lv_aload_n hx hb dLw_law_30 rfl (lv_at hl 0 rfl) ?_
  refine va_slen hx hb hX hbl hbA hS dLw_law_31 ?_
  refine W.eq (g2 := F0 m 32 ls [.int (nI L), .int (nI (4 * i))]) rfl ?_
  refine lv_iconst (v := 4) hx hb dLw_law_32 (by decide +kernel) ?_
  refine lv_isub hx hb dLw_law_33 ?_
  refine lv_icmp_gt (tgt := 1110) hx hb dLw_law_34 (by decide) (fun c_0 => ?_) (fun c_0 => ?_)
  · refine lv_iconst (v := 1) hx hb dLw_law_1110 (by decide +kernel) ?_
    refine va_forget (fun q hq => hAe q.base (hS.2.2 q hq)) ?_
    refine W.widen (k := 601024) (n := 7293034) (by omega) (by omega) ?_
    exact lw_ret hx hb hr hlocks dLw_law_1111
  · have hi9 : 4 * i + 4 ≤ L := (le_L4 hL (by omega)).mp (by first | exact Int32.not_lt.mp c_0 | exact c_0)
    refine lv_aload_n hx hb dLw_law_37 rfl (lv_at hl 0 rfl) ?_
    refine lv_iload hx hb dLw_law_38 (lv_at hl 5 rfl) ?_
    refine va_sld hx hb hX hbl hbA hS (vp_in_nI (by omega) (by omega)) dLw_law_40 ?_
    refine lv_topi (fun v_2 ev_2 => ?_)
    rw [nI_clamp (by omega)] at ev_2
    subst v_2
    refine lv_bipush (v := 15) hx hb dLw_law_41 (by decide +kernel) ?_
    refine lv_iand hx hb dLw_law_43 ?_
    refine lv_topi (fun v_3 ev_3 => ?_)
    by_cases w_3 : v_3 = 0
    · refine lv_tableIn (tgt := 124) hx hb dLw_law_44 (by rw [w_3]; decide) (by rw [w_3]; decide) (by rw [w_3]; rfl) (by decide) ?_
      exact law_block C9 hl9 hi9 hcell hslot hI hP hD hS hl (T hi9)
    by_cases w_4 : v_3 = 1
    · refine lv_tableIn (tgt := 204) hx hb dLw_law_44 (by rw [w_4]; decide) (by rw [w_4]; decide) (by rw [w_4]; rfl) (by decide) ?_
      exact law_tune C9 hl9 hi9 hcell hslot hI hP hD hS hl (T hi9)
    by_cases w_5 : v_3 = 2
    · refine lv_tableIn (tgt := 325) hx hb dLw_law_44 (by rw [w_5]; decide) (by rw [w_5]; decide) (by rw [w_5]; rfl) (by decide) ?_
      exact law_step C9 hl9 hi9 hcell hslot hI hP hD hS hl (T hi9)
    by_cases w_6 : v_3 = 3
    · refine lv_tableIn (tgt := 405) hx hb dLw_law_44 (by rw [w_6]; decide) (by rw [w_6]; decide) (by rw [w_6]; rfl) (by decide) ?_
      exact law_erase C9 hl9 hi9 hcell hslot hI hP hD hS hl (T hi9)
    by_cases w_7 : v_3 = 4
    · refine lv_tableIn (tgt := 461) hx hb dLw_law_44 (by rw [w_7]; decide) (by rw [w_7]; decide) (by rw [w_7]; rfl) (by decide) ?_
      exact law_download C9 hl9 hi9 hcell hslot hI hP hD hS hl (T hi9)
    by_cases w_8 : v_3 = 5
    · refine lv_tableIn (tgt := 474) hx hb dLw_law_44 (by rw [w_8]; decide) (by rw [w_8]; decide) (by rw [w_8]; rfl) (by decide) ?_
      exact law_wire C9 hl9 hi9 hcell hslot hI hP hD hS hl (T hi9)
    by_cases w_9 : v_3 = 6
    · refine lv_tableIn (tgt := 542) hx hb dLw_law_44 (by rw [w_9]; decide) (by rw [w_9]; decide) (by rw [w_9]; rfl) (by decide) ?_
      exact law_put C9 hl9 hi9 hcell hslot hI hP hD hS hl (T hi9)
    by_cases w_10 : v_3 = 7
    · refine lv_tableIn (tgt := 641) hx hb dLw_law_44 (by rw [w_10]; decide) (by rw [w_10]; decide) (by rw [w_10]; rfl) (by decide) ?_
      exact law_force C9 hl9 hi9 hcell hslot hI hP hD hS hl (T hi9)
    by_cases w_11 : v_3 = 8
    · refine lv_tableIn (tgt := 709) hx hb dLw_law_44 (by rw [w_11]; decide) (by rw [w_11]; decide) (by rw [w_11]; rfl) (by decide) ?_
      exact law_scan C9 hl9 hi9 hcell hslot hI hP hD hS hl (T hi9)
    by_cases w_12 : v_3 = 9
    · refine lv_tableIn (tgt := 765) hx hb dLw_law_44 (by rw [w_12]; decide) (by rw [w_12]; decide) (by rw [w_12]; rfl) (by decide) ?_
      exact law_restart C9 hl9 hi9 hcell hslot hI hP hD hS hl (T hi9)
    by_cases w_13 : v_3 = 10
    · refine lv_tableIn (tgt := 778) hx hb dLw_law_44 (by rw [w_13]; decide) (by rw [w_13]; decide) (by rw [w_13]; rfl) (by decide) ?_
      exact law_fail C9 hl9 hi9 hcell hslot hI hP hD hS hl (T hi9)
    by_cases w_14 : v_3 = 11
    · refine lv_tableIn (tgt := 791) hx hb dLw_law_44 (by rw [w_14]; decide) (by rw [w_14]; decide) (by rw [w_14]; rfl) (by decide) ?_
      exact law_bit C9 hl9 hi9 hcell hslot hI hP hD hS hl (T hi9)
    by_cases w_15 : v_3 = 12
    · refine lv_tableIn (tgt := 847) hx hb dLw_law_44 (by rw [w_15]; decide) (by rw [w_15]; decide) (by rw [w_15]; rfl) (by decide) ?_
      exact law_out C9 hl9 hi9 hcell hslot hI hP hD hS hl (T hi9)
    by_cases w_16 : v_3 = 13
    · refine lv_tableIn (tgt := 903) hx hb dLw_law_44 (by rw [w_16]; decide) (by rw [w_16]; decide) (by rw [w_16]; rfl) (by decide) ?_
      exact law_register C9 hl9 hi9 hcell hslot hI hP hD hS hl (T hi9)
    by_cases w_17 : v_3 = 14
    · refine lv_tableIn (tgt := 980) hx hb dLw_law_44 (by rw [w_17]; decide) (by rw [w_17]; decide) (by rw [w_17]; rfl) (by decide) ?_
      exact law_state C9 hl9 hi9 hcell hslot hI hP hD hS hl (T hi9)
    by_cases w_18 : v_3 = 15
    · refine lv_tableIn (tgt := 1048) hx hb dLw_law_44 (by rw [w_18]; decide) (by rw [w_18]; decide) (by rw [w_18]; rfl) (by decide) ?_
      exact law_count C9 hl9 hi9 hcell hslot hI hP hD hS hl (T hi9)
    have iw_3 : (v_3 : Int32).toInt ≠ 0 := fun z => w_3 (Int32.toInt_inj.mp (by rw [z]; rfl))
    have iw_4 : (v_3 : Int32).toInt ≠ 1 := fun z => w_4 (Int32.toInt_inj.mp (by rw [z]; rfl))
    have iw_5 : (v_3 : Int32).toInt ≠ 2 := fun z => w_5 (Int32.toInt_inj.mp (by rw [z]; rfl))
    have iw_6 : (v_3 : Int32).toInt ≠ 3 := fun z => w_6 (Int32.toInt_inj.mp (by rw [z]; rfl))
    have iw_7 : (v_3 : Int32).toInt ≠ 4 := fun z => w_7 (Int32.toInt_inj.mp (by rw [z]; rfl))
    have iw_8 : (v_3 : Int32).toInt ≠ 5 := fun z => w_8 (Int32.toInt_inj.mp (by rw [z]; rfl))
    have iw_9 : (v_3 : Int32).toInt ≠ 6 := fun z => w_9 (Int32.toInt_inj.mp (by rw [z]; rfl))
    have iw_10 : (v_3 : Int32).toInt ≠ 7 := fun z => w_10 (Int32.toInt_inj.mp (by rw [z]; rfl))
    have iw_11 : (v_3 : Int32).toInt ≠ 8 := fun z => w_11 (Int32.toInt_inj.mp (by rw [z]; rfl))
    have iw_12 : (v_3 : Int32).toInt ≠ 9 := fun z => w_12 (Int32.toInt_inj.mp (by rw [z]; rfl))
    have iw_13 : (v_3 : Int32).toInt ≠ 10 := fun z => w_13 (Int32.toInt_inj.mp (by rw [z]; rfl))
    have iw_14 : (v_3 : Int32).toInt ≠ 11 := fun z => w_14 (Int32.toInt_inj.mp (by rw [z]; rfl))
    have iw_15 : (v_3 : Int32).toInt ≠ 12 := fun z => w_15 (Int32.toInt_inj.mp (by rw [z]; rfl))
    have iw_16 : (v_3 : Int32).toInt ≠ 13 := fun z => w_16 (Int32.toInt_inj.mp (by rw [z]; rfl))
    have iw_17 : (v_3 : Int32).toInt ≠ 14 := fun z => w_17 (Int32.toInt_inj.mp (by rw [z]; rfl))
    have iw_18 : (v_3 : Int32).toInt ≠ 15 := fun z => w_18 (Int32.toInt_inj.mp (by rw [z]; rfl))
    refine lv_tableOut (tgt := 1104) hx hb dLw_law_44 (by omega) (by decide) ?_
    refine W.widen (k := cells + 1) (n := slots + 6) (by omega) (by omega) ?_
    exact T hi9 _ _ _ _ _ _ _ hI hP hD hS hl

theorem law_loop {p : Program} {e : Env} {s : State} {m : MethodId} {below : List Frame} {meth : Method} {c : Code} {l : Launch} {b L : Nat} {xs : Nat → Int32} {A : Nat → Prop} {dC : Nat → ClassId} {dI : Nat → Nat → Nat} {ax am : Nat → Nat} {cx cm : Nat → ClassId} {qo : Nat} {co : ClassId} {qd : Nat} {cd : ClassId} (C9 : LC p s m meth c b L xs A dC dI cx cm co cd) (hl9 : l.stackTraces = false) (hAe : ∀ q, A q → s.heap.size ≤ q) : ∀ (n i cells slots : Nat), i + n = 513 → cells + n + 1 ≤ 601024 → slots + 6 * n + 6 ≤ 7293034 → LK p l e s m below meth c b A dC dI ax cx am cm qo co qd cd cells slots 28 (nI (4 * i)) := by
  intro n
  induction n with
  | zero =>
    intro i cells slots h1 h2 h3
    exact law_step9 C9 hl9 hAe (by omega) (by omega) (by omega) (fun h => absurd (Nat.le_trans h C9.2.1) (by omega))
  | succ n ih =>
    intro i cells slots h1 h2 h3
    exact law_step9 C9 hl9 hAe (by omega) (by omega) (by omega) (fun _ => ih (i + 1) (cells + 1) (slots + 6) (by omega) (by omega) (by omega))

section Rot
variable {D : va_G} {cl : List vw_C} {A : Nat → Prop} {x m o : va_W} {H : Heap}
theorem fr_rotP (h : va_P D cl ((x ++ m) ++ o) H) : va_P D cl ((x ++ o) ++ m) H := ((fr_Pl (fr_Pl h)).app (fr_Pr h)).app (fr_Pr (fr_Pl h))
theorem fr_rotD (h : va_D A ((x ++ m) ++ o)) : va_D A ((x ++ o) ++ m) := by
  refine fr_Dapp (fr_Dapp (fr_Dl (fr_Dl h)) (fr_Dr h) (fun i j p q hp hq => fr_no h (fr_al hp) hq)) (fr_Dr (fr_Dl h)) (fun i j p q hp hq => ?_)
  rcases fr_split hp with a1 | ⟨a0, a1⟩
  · exact fr_no (fr_Dl h) a1 hq
  · exact (fr_no h (fr_ar hq) a1).symm
end Rot

set_option maxHeartbeats 4000000 in
set_option maxRecDepth 100000 in
/-- THE LAW, from its entry -/
theorem whole_start {p : Program} {e : Env} {s : State} {m : MethodId} {below : List Frame} {meth : Method} {c : Code} (l : Launch) (hl9 : l.stackTraces = false) {b L : Nat} {xs : Nat → Int32} (hL : L ≤ 2048) (C0 : lw_At p s m meth c b L xs) : W p l e room_1 s m #[Value.ref b] below meth c s.heap [] 0 0 (lw_Z below #[Value.ref b] s) (entryFrame m ([Value.ref b] : List Value).toArray 9) := by
  obtain ⟨hx, hb, hr, hml, hown, hts, hX, hbl, hlocks, hgv⟩ := id C0
  have hc : ∀ w ∈ CW, w.before #[Value.ref b] s = true := fun w h => hts w (List.mem_filter.mp h).1
  have htb : ∀ w ∈ tables_1, w.before #[Value.ref b] s = true := fun w h => hts w (List.mem_append_right _ h)
  have hs := flat_of_before _ hgv
  have hN9 : xN s := xN.of htb
  have hO9 : va_AO "LadderScan$Block" s := va_AO.of (htb _ (List.mem_of_getElem? (i := 53) rfl))
  obtain ⟨A, hAd⟩ : ∃ A : Nat → Prop, A = fun q : Nat => s.heap.size ≤ q := ⟨_, rfl⟩
  have hA : ∀ q : Nat, s.heap.size ≤ q → A q := fun q h => by rw [hAd]; exact h
  have hAe : ∀ q : Nat, A q → s.heap.size ≤ q := fun q h => by rw [hAd] at h; exact h
  have hAn : ∀ a : Nat, a < s.heap.size → ¬ A a := fun a h z => Nat.not_le.mpr h (hAe a z)
  have hbA : ¬ A b := hAn b hbl
  have hu : uS A s s.heap := ⟨vx_Zqof (htb _ (List.mem_of_getElem? (i := 223) rfl)) (htb _ (List.mem_of_getElem? (i := 6) rfl)) (hs _ (by decide +kernel)) hAn, vx_Zqof (htb _ (List.mem_of_getElem? (i := 225) rfl)) (htb _ (List.mem_of_getElem? (i := 6) rfl)) (hs _ (by decide +kernel)) hAn⟩
  have hnc : ncs s := ⟨va_Nc.of (hs (.not (.castable eS eA)) (by decide +kernel)), va_Nc.of (hs (.not (.castable eU eN)) (by decide +kernel)), va_Nc.of (hs (.not (.castable eA eN)) (by decide +kernel)), va_Nc.of (hs (.not (.castable eA eU)) (by decide +kernel)), va_Nc.of (hs (.not (.castable eU eA)) (by decide +kernel)), va_Nc.of (hs (.not (.castable eS eU)) (by decide +kernel)), va_Nc.of (hs (.not (.castable eR eA)) (by decide +kernel)), va_Nc.of (hs (.not (.castable eR eS)) (by decide +kernel))⟩
  obtain ⟨c0, iS0, hKn0⟩ := u_known (C := RX) (T := TX) (N := 8) (n := 8) hc inX (hc _ w17)
  obtain ⟨c1, iS1, hKn1⟩ := u_known (C := RMe) (T := TMe) (N := 5) (n := 5) hc inMe (hc _ w25)
  obtain ⟨c2, iS2, hKn2⟩ := u_known (C := RBl) (T := TBl) (N := 8) (n := 8) hc inBl (hc _ w76)
  obtain ⟨c3, iS3, hKn3⟩ := u_known (C := RLa) (T := TLa) (N := 4) (n := 4) hc inLa (hc _ w55)
  obtain ⟨c4, iS4, hKn4⟩ := u_known (C := RMo) (T := TMo) (N := 29) (n := 29) hc inMo (hc _ w556)
  obtain ⟨dC, dI, hKc⟩ : ∃ (dC : Nat → ClassId) (dI : Nat → Nat → Nat), ∀ (k : Nat) (q : vw_C), vwCl[k]? = some q → u_Kn s q.1 q.2.1 q.2.2 (dC k) (dI k) := by
    refine ⟨fun k => if k = 0 then c0 else if k = 1 then c1 else if k = 2 then c2 else if k = 3 then c3 else c4, fun k => if k = 0 then iS0 else if k = 1 then iS1 else if k = 2 then iS2 else if k = 3 then iS3 else iS4, ?_⟩
    intro k q hq
    match k, hq with
    | 0, hq => cases hq; exact hKn0
    | 1, hq => cases hq; exact hKn1
    | 2, hq => cases hq; exact hKn2
    | 3, hq => cases hq; exact hKn3
    | 4, hq => cases hq; exact hKn4
    | k + 5, hq => simp [vwCl] at hq
  have hS : va_S A s.heap s.heap [] := va_S.rf
  have hK : va_K (dC, dI) vwCl [] s := ⟨hKc, fun k q h => by simp at h⟩
  have hP : va_P (dC, dI) vwCl [] s.heap := fun k q h => by simp at h
  have hD : va_D A [] := ⟨fun i j p q h => by simp at h, fun k q h => by simp at h⟩
  have hl := lv_entry ([.ref b]) (n := 9) (Nat.le_of_ble_eq_true rfl)
  rw [lg_entry_eq]
  generalize (lg_sl ([.ref b]) ++ List.replicate (9 - (lg_sl ([.ref b])).length) Slot.unset).toArray = ls at hl ⊢
  have hl : lv_has ls 9 [(0, .ref b)] := hl
  refine va_new (ci := 0) (fs := [.null, .null, .null, .null, .int 0, .int 0, .int 0, .int 0]) (C := RX) (T := TX) (N := 8) hx hb hc inX tyX tyX_ok hown (hc _ w16) (hc _ w17) (hc _ w1) hK hP hD hS hA rfl (by decide +kernel) (Nat.le_of_ble_eq_true rfl) (Nat.le_of_ble_eq_true rfl) dLw_law_0 (fun q0 H hP hD hS => ?_)
  have hP : va_P (dC, dI) vwCl [(q0, .inr (0, [.null, .null, .null, .null, .int 0, .int 0, .int 0, .int 0]))] H := hP
  have hD : va_D A [(q0, .inr (0, [.null, .null, .null, .null, .int 0, .int 0, .int 0, .int 0]))] := hD
  refine W.widen (k := 1) (n := 8) (Nat.le_of_ble_eq_true rfl) (Nat.le_of_ble_eq_true rfl) ?_
  refine lv_dup hx hb dLw_law_3 rfl ?_
  have hF := g_free hD hS hA
  refine va_callv (va_runI (As := []) (rest := [.ref q0]) ⟨hx, hb, hml, hown, hc⟩ (cX_init l dC dI q0 H.size) (cwI 0 hc (g_I qX_init) rfl rfl rfl (hc _ w1) (hc _ w18) (hc _ w19) rfl (by decide +kernel) ⟨(Nat.le_of_ble_eq_true rfl), (Nat.le_of_ble_eq_true rfl)⟩) ⟨cPre_blind, cPre_in hP hK hD hN9 hO9⟩ rfl rfl hl.1 rfl (lv_room (Nat.le_of_ble_eq_true rfl)) dLw_law_4 ⟨(Nat.le_of_ble_eq_true rfl), (Nat.le_of_ble_eq_true rfl)⟩) hS (fun q _ h => hF q h) hF (fun u t H1 locs ht hvm hw hB hz1 hk1 hS => ?_)
  obtain ⟨ax, cx⟩ := u
  obtain ⟨hP1, hK1, hD1⟩ := hB
  rw [ht] at hP1
  dsimp only at hw hP1 hK1 hD1
  have hKx := va_K.moved hvm.symm hK1
  have hD2 := hD1.weaken (B := A) (fun _ _ _ h => hF _ h)
  clear hP hD hF hk1 hz1 ht hK1 hD1
  subst hw
  have hP := hP1
  have hD := hD2
  clear hP1 hD2
  generalize H1 = H at hP hS ⊢
  refine W.widen (k := 28) (n := 727) (Nat.le_of_ble_eq_true rfl) (Nat.le_of_ble_eq_true rfl) ?_
  refine lv_astore_n (lv' := [(1, .ref (ax 0)), (0, .ref b)]) hx hb dLw_law_7 rfl hl (by decide) rfl (fun ls hl => ?_)
  refine va_new (ci := 4) (fs := [.int 0, .null, .null, .null, .null, .null, .null, .null, .null, .null, .null, .null, .null, .null, .int 0, .null, .null, .null, .null, .null, .null, .null, .null, .int 0, .int 0, .int 0, .int 0, .int 0, .int 0]) (C := RMo) (T := TMo) (N := 29) hx hb hc inMo tyMo tyMo_ok hown (hc _ w555) (hc _ w556) (hc _ w5) hK hP hD hS hA rfl (by decide +kernel) (Nat.le_of_ble_eq_true rfl) (Nat.le_of_ble_eq_true rfl) dLw_law_8 (fun q1 H hP hD hS => ?_)
  refine W.widen (k := 29) (n := 756) (Nat.le_of_ble_eq_true rfl) (Nat.le_of_ble_eq_true rfl) ?_
  refine lv_dup hx hb dLw_law_11 rfl ?_
  have hF := fr_freer hD hS hA
  refine va_callv (va_runI (As := []) (rest := [.ref q1]) ⟨hx, hb, hml, hown, hc⟩ (cMo_init l dC dI q1 H.size) (cwI 0 hc (g_I qMo_init) rfl rfl rfl (hc _ w5) (hc _ w557) (hc _ w558) rfl (by decide +kernel) ⟨(Nat.le_of_ble_eq_true rfl), (Nat.le_of_ble_eq_true rfl)⟩) ⟨gPre_blind, gPre_in (fr_Pr hP) hK (fr_Dr hD)⟩ rfl rfl hl.1 rfl (lv_room (Nat.le_of_ble_eq_true rfl)) dLw_law_12 ⟨(Nat.le_of_ble_eq_true rfl), (Nat.le_of_ble_eq_true rfl)⟩) hS (fun q _ h => hF q h) hF (fun u t H1 locs ht hvm hw hB hz1 hk1 hS => ?_)
  obtain ⟨am, cm⟩ := u
  obtain ⟨hP1, hK1, hD1⟩ := hB
  rw [ht] at hP1
  dsimp only at hw hP1 hK1 hD1
  have hKm := va_K.moved hvm.symm hK1
  obtain ⟨hP2, hD2⟩ := fr_joinr hP hD hk1 hF hP1 hD1
  clear hP hD hP1 hD1 hF hk1 hz1 ht hK1
  subst hw
  have hP := hP2
  have hD := hD2
  clear hP2 hD2
  generalize H1 = H at hP hS ⊢
  refine W.widen (k := 50) (n := 1445) (Nat.le_of_ble_eq_true rfl) (Nat.le_of_ble_eq_true rfl) ?_
  refine lv_astore_n (lv' := [(2, .ref (am 0)), (1, .ref (ax 0)), (0, .ref b)]) hx hb dLw_law_15 rfl hl (by decide) rfl (fun ls hl => ?_)
  refine lv_iconst (v := 1) hx hb dLw_law_16 (by decide +kernel) ?_
  refine va_newa (atype := .long) (ty := .long) (a0 := (1, .inr (.inl (fun _ => 0)))) hx hb (hc _ w649) rfl hKx hP hD hS hA (fun _ => rfl) (by decide) (by decide) (by decide) (Nat.le_of_ble_eq_true rfl) (Nat.le_of_ble_eq_true rfl) dLw_law_17 (fun qo co H hKx hP hD hS => ?_)
  refine W.widen (k := 51) (n := 1446) (Nat.le_of_ble_eq_true rfl) (Nat.le_of_ble_eq_true rfl) ?_
  refine lv_astore_n (lv' := [(3, .ref qo), (2, .ref (am 0)), (1, .ref (ax 0)), (0, .ref b)]) hx hb dLw_law_19 rfl hl (by decide) rfl (fun ls hl => ?_)
  refine lv_iconst (v := 1) hx hb dLw_law_20 (by decide +kernel) ?_
  refine va_newa (atype := .double) (ty := .double) (a0 := (1, .inr (.inr (.inr (.inl (fun _ => 0)))))) hx hb (hc _ w786) rfl hKx hP hD hS hA (fun _ => rfl) (by decide) (by decide) (by decide) (Nat.le_of_ble_eq_true rfl) (Nat.le_of_ble_eq_true rfl) dLw_law_21 (fun qd cd H hKx hP hD hS => ?_)
  refine W.widen (k := 52) (n := 1447) (Nat.le_of_ble_eq_true rfl) (Nat.le_of_ble_eq_true rfl) ?_
  refine lv_astore (lv' := [(4, .ref qd), (3, .ref qo), (2, .ref (am 0)), (1, .ref (ax 0)), (0, .ref b)]) hx hb dLw_law_23 hl (by decide) rfl (fun ls hl => ?_)
  refine lv_iconst (v := 0) hx hb dLw_law_25 (by decide +kernel) ?_
  refine lv_istore (lv' := [(5, .int 0), (4, .ref qd), (3, .ref qo), (2, .ref (am 0)), (1, .ref (ax 0)), (0, .ref b)]) hx hb dLw_law_26 hl (by decide) rfl (fun ls hl => ?_)
  rw [List.append_assoc] at hKx
  rw [List.append_assoc (XW ax cx S0 ++ MW am cm S0 E0)] at hP hD
  have C9 : LC p s m meth c b L xs A dC dI cx cm co cd := ⟨C0, hL, hA, hbA, hu, hN9, hnc, hKx, hKm⟩
  exact law_loop C9 hl9 hAe 513 0 52 1447 (by decide) (by decide) (by decide) S0 E0 (fun _ => 0) (fun _ => 0) H _ ls Inv_0 (fr_rotP hP) (fr_rotD hD) hS (lv_sub hl [5, 4, 3, 2, 1, 0] rfl)
