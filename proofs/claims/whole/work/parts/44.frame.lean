/-! two worlds side by side: a call that works on the one leaves the other -/
section Frame
variable {D : va_G} {cl : List vw_C} {A : Nat → Prop} {wa wb w1 : va_W} {H H1 : Heap} {s : State} {ta tb : List (ClassId × FieldType)}
theorem fr_Pl (h : va_P D cl (wa ++ wb) H) : va_P D cl wa H := fun k q hq => h k q (by rw [List.getElem?_append_left (List.getElem?_eq_some_iff.mp hq).1]; exact hq)
theorem fr_Pr (h : va_P D cl (wa ++ wb) H) : va_P D cl wb H := fun k q hq => h (wa.length + k) q (by rw [List.getElem?_append_right (by omega), show wa.length + k - wa.length = k by omega]; exact hq)
theorem fr_Kl (h : va_K D cl (ta ++ tb) s) : va_K D cl ta s := ⟨h.1, fun k q hq => h.2 k q (by rw [List.getElem?_append_left (List.getElem?_eq_some_iff.mp hq).1]; exact hq)⟩
theorem fr_Kr (h : va_K D cl (ta ++ tb) s) : va_K D cl tb s := ⟨h.1, fun k q hq => h.2 (ta.length + k) q (by rw [List.getElem?_append_right (by omega), show ta.length + k - ta.length = k by omega]; exact hq)⟩
theorem fr_al {k : Nat} {q : Nat × va_E} (hq : wa[k]? = some q) : (wa ++ wb)[k]? = some q := by
  rw [List.getElem?_append_left (List.getElem?_eq_some_iff.mp hq).1]
  exact hq
theorem fr_ar {k : Nat} {q : Nat × va_E} (hq : wb[k]? = some q) : (wa ++ wb)[wa.length + k]? = some q := by
  rw [List.getElem?_append_right (by omega), show wa.length + k - wa.length = k by omega]
  exact hq
theorem fr_Dl (h : va_D A (wa ++ wb)) : va_D A wa := ⟨fun i j p q hp hq e => h.1 i j p q (fr_al hp) (fr_al hq) e, fun k q hq => h.2 k q (fr_al hq)⟩
theorem fr_Dr (h : va_D A (wa ++ wb)) : va_D A wb := ⟨fun i j p q hp hq e => by have := h.1 _ _ p q (fr_ar hp) (fr_ar hq) e; omega, fun k q hq => h.2 _ q (fr_ar hq)⟩
theorem fr_no (h : va_D A (wa ++ wb)) {i j : Nat} {p q : Nat × va_E} (hp : wa[i]? = some p) (hq : wb[j]? = some q) : p.1 ≠ q.1 := fun e => by
  have h1 := h.1 _ _ p q (fr_al hp) (fr_ar hq) e
  have h2 := (List.getElem?_eq_some_iff.mp hp).1
  omega
theorem fr_split {k : Nat} {q : Nat × va_E} (h : (wa ++ wb)[k]? = some q) : wa[k]? = some q ∨ (wa.length ≤ k ∧ wb[k - wa.length]? = some q) := by
  rcases Nat.lt_or_ge k wa.length with h1 | h1
  · rw [List.getElem?_append_left h1] at h
    exact Or.inl h
  · rw [List.getElem?_append_right h1] at h
    exact Or.inr ⟨h1, h⟩
theorem fr_Dapp (h1 : va_D A wa) (h2 : va_D A wb) (h : ∀ (i j : Nat) (p q : Nat × va_E), wa[i]? = some p → wb[j]? = some q → p.1 ≠ q.1) : va_D A (wa ++ wb) := by
  refine ⟨fun i j p q hp hq e => ?_, fun k q hq => ?_⟩
  · rcases fr_split hp with a1 | ⟨a0, a1⟩ <;> rcases fr_split hq with b1 | ⟨b0, b1⟩
    · exact h1.1 i j p q a1 b1 e
    · exact absurd e (h _ _ p q a1 b1)
    · exact absurd e.symm (h _ _ q p b1 a1)
    · have := h2.1 _ _ p q a1 b1 e
      omega
  · rcases fr_split hq with a1 | ⟨a0, a1⟩
    · exact h1.2 k q a1
    · exact h2.2 _ q a1
theorem fr_freel {H0 : Heap} {locs : List Loc} (hD : va_D A (wa ++ wb)) (hS : va_S A H0 H locs) (hA : ∀ q, H0.size ≤ q → A q) : ∀ q, va_A wa H.size q → A q := g_free (fr_Dl hD) hS hA
theorem fr_freer {H0 : Heap} {locs : List Loc} (hD : va_D A (wa ++ wb)) (hS : va_S A H0 H locs) (hA : ∀ q, H0.size ≤ q → A q) : ∀ q, va_A wb H.size q → A q := g_free (fr_Dr hD) hS hA
/-- the first world's call comes back -/
theorem fr_joinl (hP : va_P D cl (wa ++ wb) H) (hD : va_D A (wa ++ wb)) (hk : ∀ q : Nat, q < H.size → ¬ va_A wa H.size q → H1[q]? = H[q]?) (hF : ∀ q, va_A wa H.size q → A q) (hP1 : va_P D cl w1 H1) (hD1 : va_D (va_A wa H.size) w1) : va_P D cl (w1 ++ wb) H1 ∧ va_D A (w1 ++ wb) := by
  have hPb := fr_Pr hP
  have hn : ∀ (j : Nat) (q : Nat × va_E), wb[j]? = some q → ¬ va_A wa H.size q.1 := by
    intro j q hq h
    rcases h with ⟨k, e, h⟩ | h
    · exact fr_no hD h hq rfl
    · exact absurd (hPb j q hq).lt (Nat.not_lt.mpr h)
  refine ⟨hP1.app (hPb.kept (fun j q hq => hk q.1 (hPb j q hq).lt (hn j q hq))), fr_Dapp (hD1.weaken (fun _ _ _ h => hF _ h)) (fr_Dr hD) (fun i j p q hp hq e => ?_)⟩
  have h1 := hD1.2 i p hp
  rw [e] at h1
  exact hn j q hq h1
theorem fr_joinr (hP : va_P D cl (wa ++ wb) H) (hD : va_D A (wa ++ wb)) (hk : ∀ q : Nat, q < H.size → ¬ va_A wb H.size q → H1[q]? = H[q]?) (hF : ∀ q, va_A wb H.size q → A q) (hP1 : va_P D cl w1 H1) (hD1 : va_D (va_A wb H.size) w1) : va_P D cl (wa ++ w1) H1 ∧ va_D A (wa ++ w1) := by
  have hPa := fr_Pl hP
  have hn : ∀ (j : Nat) (q : Nat × va_E), wa[j]? = some q → ¬ va_A wb H.size q.1 := by
    intro j q hq h
    rcases h with ⟨k, e, h⟩ | h
    · exact fr_no hD hq h rfl
    · exact absurd (hPa j q hq).lt (Nat.not_lt.mpr h)
  refine ⟨(hPa.kept (fun j q hq => hk q.1 (hPa j q hq).lt (hn j q hq))).app hP1, fr_Dapp (fr_Dl hD) (hD1.weaken (fun _ _ _ h => hF _ h)) (fun i j p q hp hq e => ?_)⟩
  have h1 := hD1.2 j q hq
  rw [← e] at h1
  exact hn i p hp h1
end Frame
section FCalls
variable {p : Program} {l : Launch} {e : Env} {R : Room} {s : State} {m : MethodId} {args : Array Value} {below : List Frame} {meth : Method} {c : Code} {H : Heap} {locs : List Loc} {cells slots mc ms : Nat} {Q : State → Prop} {pc : Nat} {ls : Array Slot} {st0 rest : List Value} {a : Array Value}
variable {D : va_G} {tys : List (ClassId × FieldType)} {ws wr : va_W} {A : Nat → Prop}
theorem f_calli {σ : Type} {post : Int32 → σ → Prop} {Wd : σ → va_W} (hr : va_Run p l e R s m args below meth c H locs cells slots mc ms (F0 m pc ls st0) rest (va_Qi post (fun u => gAt D tys (va_A ws H.size) (Wd u)) (va_A ws H.size) a) (va_A ws H.size)) (hP : va_P D vwCl (ws ++ wr) H) (hD : va_D A (ws ++ wr)) (hS : va_S A s.heap H locs) (hA : ∀ q, s.heap.size ≤ q → A q)
    (kk : ∀ (r : Int32) (u : σ) (H1 : Heap) (locs1 : List Loc), post r u → va_P D vwCl (Wd u ++ wr) H1 → va_D A (Wd u ++ wr) → va_S A s.heap H1 locs1 → W p l e R s m args below meth c H1 locs1 (cells + mc) (slots + ms) Q (F0 m (pc + 3) ls (.int r :: rest))) : W p l e R s m args below meth c H locs cells slots Q (F0 m pc ls st0) := by
  have hF := fr_freel hD hS hA
  refine va_calli hr hS (fun q _ h => hF q h) hF (fun r u t H1 locs1 ht hvm hw hB hz hk hS1 => ?_)
  obtain ⟨hP1, hK1, hD1⟩ := hB
  rw [ht] at hP1
  obtain ⟨hP2, hD2⟩ := fr_joinl hP hD hk hF hP1 hD1
  exact kk r u H1 locs1 hw hP2 hD2 hS1
theorem f_calliR {σ : Type} {post : Int32 → σ → Prop} {Wd : σ → va_W} (hr : va_Run p l e R s m args below meth c H locs cells slots mc ms (F0 m pc ls st0) rest (va_Qi post (fun u => gAt D tys (va_A ws H.size) (Wd u)) (va_A ws H.size) a) (va_A ws H.size)) (hP : va_P D vwCl (wr ++ ws) H) (hD : va_D A (wr ++ ws)) (hS : va_S A s.heap H locs) (hA : ∀ q, s.heap.size ≤ q → A q)
    (kk : ∀ (r : Int32) (u : σ) (H1 : Heap) (locs1 : List Loc), post r u → va_P D vwCl (wr ++ Wd u) H1 → va_D A (wr ++ Wd u) → va_S A s.heap H1 locs1 → W p l e R s m args below meth c H1 locs1 (cells + mc) (slots + ms) Q (F0 m (pc + 3) ls (.int r :: rest))) : W p l e R s m args below meth c H locs cells slots Q (F0 m pc ls st0) := by
  have hF := fr_freer hD hS hA
  refine va_calli hr hS (fun q _ h => hF q h) hF (fun r u t H1 locs1 ht hvm hw hB hz hk hS1 => ?_)
  obtain ⟨hP1, hK1, hD1⟩ := hB
  rw [ht] at hP1
  obtain ⟨hP2, hD2⟩ := fr_joinr hP hD hk hF hP1 hD1
  exact kk r u H1 locs1 hw hP2 hD2 hS1
theorem f_calldR {σ : Type} {post : UInt64 → σ → Prop} {Wd : σ → va_W} (hr : va_Run p l e R s m args below meth c H locs cells slots mc ms (F0 m pc ls st0) rest (va_Qd post (fun u => gAt D tys (va_A ws H.size) (Wd u)) (va_A ws H.size) a) (va_A ws H.size)) (hP : va_P D vwCl (wr ++ ws) H) (hD : va_D A (wr ++ ws)) (hS : va_S A s.heap H locs) (hA : ∀ q, s.heap.size ≤ q → A q)
    (kk : ∀ (r : UInt64) (u : σ) (H1 : Heap) (locs1 : List Loc), post r u → va_P D vwCl (wr ++ Wd u) H1 → va_D A (wr ++ Wd u) → va_S A s.heap H1 locs1 → W p l e R s m args below meth c H1 locs1 (cells + mc) (slots + ms) Q (F0 m (pc + 3) ls (.double r :: rest))) : W p l e R s m args below meth c H locs cells slots Q (F0 m pc ls st0) := by
  have hF := fr_freer hD hS hA
  refine va_calld hr hS (fun q _ h => hF q h) hF (fun r u t H1 locs1 ht hvm hw hB hz hk hS1 => ?_)
  obtain ⟨hP1, hK1, hD1⟩ := hB
  rw [ht] at hP1
  obtain ⟨hP2, hD2⟩ := fr_joinr hP hD hk hF hP1 hD1
  exact kk r u H1 locs1 hw hP2 hD2 hS1
theorem f_vxi {σ σx : Type} {post : Int32 → σ → Prop} {px : σx → Prop} {PX : String → σx → Prop} {Wd : σ → va_W} {Wx : σx → va_W} (hr : vx_Run p l e R s m args below meth c H locs cells slots mc ms (F0 m pc ls st0) rest (va_Qi post (fun u => gAt D tys (va_A ws H.size) (Wd u)) (va_A ws H.size) a) (vx_X px (fun E u t => PX E u ∧ gAt D tys (va_A ws H.size) (Wx u) t) (va_A ws H.size)) (va_A ws H.size)) (hP : va_P D vwCl (ws ++ wr) H) (hD : va_D A (ws ++ wr)) (hS : va_S A s.heap H locs) (hA : ∀ q, s.heap.size ≤ q → A q)
    (kx : ∀ (E : String) (ce : Cell) (q9 : Addr) (u : σx) (H1 : Heap) (locs1 : List Loc), PX E u → va_P D vwCl (Wx u ++ wr) H1 → va_D A (Wx u ++ wr) → va_S A s.heap H1 locs1 → H1[q9]? = some ce → ce.vm = .none → s.vm.findClass E = some ce.cls → vx_W p l e R s m args below meth c H1 locs1 (cells + mc) (slots + ms) Q (F0 m pc ls rest) q9)
    (kk : ∀ (r : Int32) (u : σ) (H1 : Heap) (locs1 : List Loc), post r u → va_P D vwCl (Wd u ++ wr) H1 → va_D A (Wd u ++ wr) → va_S A s.heap H1 locs1 → W p l e R s m args below meth c H1 locs1 (cells + mc) (slots + ms) Q (F0 m (pc + 3) ls (.int r :: rest))) : W p l e R s m args below meth c H locs cells slots Q (F0 m pc ls st0) := by
  have hF := fr_freel hD hS hA
  refine vx_calli hr hS (fun q _ h => hF q h) hF (fun q _ h => hF q h) (fun E ce q9 u t H1 locs1 ht hvm hp hB hz hk hS1 hce hcv hcl => ?_) (fun r u t H1 locs1 ht hvm hw hB hz hk hS1 => ?_)
  · obtain ⟨hX, hP1, hK1, hD1⟩ := hB
    rw [ht] at hP1
    obtain ⟨hP2, hD2⟩ := fr_joinl hP hD hk hF hP1 hD1
    exact kx E ce q9 u H1 locs1 hX hP2 hD2 hS1 hce hcv hcl
  · obtain ⟨hP1, hK1, hD1⟩ := hB
    rw [ht] at hP1
    obtain ⟨hP2, hD2⟩ := fr_joinl hP hD hk hF hP1 hD1
    exact kk r u H1 locs1 hw hP2 hD2 hS1
theorem f_vxd {σ σx : Type} {post : UInt64 → σ → Prop} {px : σx → Prop} {PX : String → σx → Prop} {Wd : σ → va_W} {Wx : σx → va_W} (hr : vx_Run p l e R s m args below meth c H locs cells slots mc ms (F0 m pc ls st0) rest (va_Qd post (fun u => gAt D tys (va_A ws H.size) (Wd u)) (va_A ws H.size) a) (vx_X px (fun E u t => PX E u ∧ gAt D tys (va_A ws H.size) (Wx u) t) (va_A ws H.size)) (va_A ws H.size)) (hP : va_P D vwCl (ws ++ wr) H) (hD : va_D A (ws ++ wr)) (hS : va_S A s.heap H locs) (hA : ∀ q, s.heap.size ≤ q → A q)
    (kx : ∀ (E : String) (ce : Cell) (q9 : Addr) (u : σx) (H1 : Heap) (locs1 : List Loc), PX E u → va_P D vwCl (Wx u ++ wr) H1 → va_D A (Wx u ++ wr) → va_S A s.heap H1 locs1 → H1[q9]? = some ce → ce.vm = .none → s.vm.findClass E = some ce.cls → vx_W p l e R s m args below meth c H1 locs1 (cells + mc) (slots + ms) Q (F0 m pc ls rest) q9)
    (kk : ∀ (r : UInt64) (u : σ) (H1 : Heap) (locs1 : List Loc), post r u → va_P D vwCl (Wd u ++ wr) H1 → va_D A (Wd u ++ wr) → va_S A s.heap H1 locs1 → W p l e R s m args below meth c H1 locs1 (cells + mc) (slots + ms) Q (F0 m (pc + 3) ls (.double r :: rest))) : W p l e R s m args below meth c H locs cells slots Q (F0 m pc ls st0) := by
  have hF := fr_freel hD hS hA
  refine vx_calld hr hS (fun q _ h => hF q h) hF (fun q _ h => hF q h) (fun E ce q9 u t H1 locs1 ht hvm hp hB hz hk hS1 hce hcv hcl => ?_) (fun r u t H1 locs1 ht hvm hw hB hz hk hS1 => ?_)
  · obtain ⟨hX, hP1, hK1, hD1⟩ := hB
    rw [ht] at hP1
    obtain ⟨hP2, hD2⟩ := fr_joinl hP hD hk hF hP1 hD1
    exact kx E ce q9 u H1 locs1 hX hP2 hD2 hS1 hce hcv hcl
  · obtain ⟨hP1, hK1, hD1⟩ := hB
    rw [ht] at hP1
    obtain ⟨hP2, hD2⟩ := fr_joinl hP hD hk hF hP1 hD1
    exact kk r u H1 locs1 hw hP2 hD2 hS1
end FCalls
/-- the law's two arrays of one cell -/
abbrev oW (qo : Nat) (co : ClassId) (fo : Nat → Int64) (qd : Nat) (cd : ClassId) (fd : Nat → UInt64) : va_W := [(qo, .inl (co, 1, .inr (.inl fo))), (qd, .inl (cd, 1, .inr (.inr (.inr (.inl fd)))))]
abbrev oT (co cd : ClassId) : List (ClassId × FieldType) := [(co, .long), (cd, .double)]
/-- what is not castable -/
def ncs (U : State) : Prop := va_Nc eS eA U ∧ va_Nc eU eN U ∧ va_Nc eA eN U ∧ va_Nc eA eU U ∧ va_Nc eU eA U ∧ va_Nc eS eU U ∧ va_Nc eR eA U ∧ va_Nc eR eS U
theorem ncs.moved {u U : State} (hvm : u.vm.Alike U.vm) (h : ncs u) : ncs U := by
  obtain ⟨h1, h2, h3, h4, h5, h6, h7, h8⟩ := h
  exact ⟨h1.moved hvm, h2.moved hvm, h3.moved hvm, h4.moved hvm, h5.moved hvm, h6.moved hvm, h7.moved hvm, h8.moved hvm⟩
/-- what a wrapper of the law finds -/
def wPre (D : va_G) (tys : List (ClassId × FieldType)) (ws : va_W) (sz : Nat) : State → Prop := fun U => tPre D tys ws sz U ∧ ncs U
theorem wPre_blind {D : va_G} {tys : List (ClassId × FieldType)} {ws : va_W} {sz : Nat} {av : List Value} : FrameBlind (va_Pc av (wPre D tys ws sz)) := fun a U g mk q => by
  obtain ⟨q0, qT, qN⟩ := q
  obtain ⟨-, qT2⟩ := tPre2_blind (av := av) a U g mk ⟨q0, qT⟩
  exact ⟨q0, qT2, ncs.moved (u := U) (U := U.calling g mk a) (Vm.Alike.refl U.vm) qN⟩
theorem wPre_in {D : va_G} {tys : List (ClassId × FieldType)} {ws : va_W} {av : List Value} {H : Heap} {s : State} {A : Nat → Prop} {locs : List Loc} (hP : va_P D vwCl ws H) (hK : va_K D vwCl tys s) (hD : va_D A ws) (hS : va_S A s.heap H locs) (hF : ∀ q, va_A ws H.size q → A q) (hu : uS A s s.heap) (hn : xN s) (hc : ncs s) : ∀ U : State, U.heap = H → s.WarmedH U.vm → va_Pc av (wPre D tys ws H.size) av.toArray U :=
  fun U hU hW => ⟨rfl, (tPre2_in (av := av) hP hK hD hS hF hu hn U hU hW).2, hc.moved hW.alike⟩
