/-! throwing: words that no list of good words holds, the two statics of Throwable -/
def nbw : Cond → Bool
  | .declares _ => true
  | .castable _ _ => true
  | .methodLinkNest _ _ _ _ => true
  | _ => false
def NB : List Cond := tables_1.filter nbw
def xN (U : State) : Prop := ∀ w ∈ NB, va_Nw w U
theorem xN.warm {s U : State} (hW : s.WarmedH U.vm) (h : xN s) : xN U := by
  intro w hw
  have h1 := h w hw
  have h2 := (List.mem_filter.mp hw).2
  cases w <;> first | exact va_Nw.warmD hW h1 | exact va_Nw.warmC hW h1 | exact va_Nw.warmM hW h1 | exact absurd h2 (by simp [nbw])
theorem xN.same {s U : State} (hv : s.vm = U.vm) (h : xN s) : xN U := by
  intro w hw
  have h1 := h w hw
  have h2 := (List.mem_filter.mp hw).2
  cases w <;> first | exact va_Nw.same rfl hv h1 | exact absurd h2 (by simp [nbw])
theorem xN.use {s : State} {A : Array Value} {w : Cond} (h : xN s) (hw : w ∈ tables_1) (hb : nbw w = true) : w.before A s = true := by
  have h1 := h w (List.mem_filter.mpr ⟨hw, hb⟩)
  cases w <;> first | exact va_Nw.use rfl h1 | exact absurd hb (by simp [nbw])
theorem xN.of {s : State} {A : Array Value} (h : ∀ w ∈ tables_1, w.before A s = true) : xN s := by
  intro w hw
  have h1 := h w (List.mem_filter.mp hw).1
  have h2 := (List.mem_filter.mp hw).2
  cases w <;> first | exact va_Nw.of rfl h1 | exact absurd h2 (by simp [nbw])
abbrev uS (A : Nat → Prop) (U : State) (H : Heap) : Prop := vx_Zq Bundle.tN "UNASSIGNED_STACK" Bundle.steD A U H ∧ vx_Zq Bundle.tN "SUPPRESSED_SENTINEL" Bundle.listD A U H
/-- what a method that may throw finds -/
def tPre (D : va_G) (tys : List (ClassId × FieldType)) (ws : va_W) (sz : Nat) : State → Prop := fun U => gPre D tys ws sz U ∧ uS (va_A ws sz) U U.heap ∧ xN U
theorem tPre2_blind {D : va_G} {tys : List (ClassId × FieldType)} {ws : va_W} {sz : Nat} {av : List Value} : FrameBlind (va_Pc av (tPre D tys ws sz)) := fun a U g mk q => by
  obtain ⟨q0, ⟨q1, qP, qK, qD⟩, qU, qN⟩ := q
  exact ⟨q0, ⟨q1, qP, va_K.moved (u := U) (U := U.calling g mk a) (Vm.Alike.refl U.vm) qK, qD⟩, ⟨vx_Zq.moved (u := U) (U := U.calling g mk a) (Vm.Alike.refl U.vm) qU.1, vx_Zq.moved (u := U) (U := U.calling g mk a) (Vm.Alike.refl U.vm) qU.2⟩, xN.same (s := U) (U := U.calling g mk a) rfl qN⟩
theorem tPre2_in {D : va_G} {tys : List (ClassId × FieldType)} {ws : va_W} {av : List Value} {H : Heap} {s : State} {A : Nat → Prop} {locs : List Loc} (hP : va_P D vwCl ws H) (hK : va_K D vwCl tys s) (hD : va_D A ws) (hS : va_S A s.heap H locs) (hF : ∀ q, va_A ws H.size q → A q) (hu : uS A s s.heap) (hn : xN s) : ∀ U : State, U.heap = H → s.WarmedH U.vm → va_Pc av (tPre D tys ws H.size) av.toArray U :=
  fun U hU hW => ⟨rfl, ⟨by rw [hU], by rw [hU]; exact hP, va_K.moved hW.alike hK, hD.weaken (fun _ _ _ _ => trivial)⟩, by
    rw [hU]
    exact ⟨((hu.1.kept hS.2.1).moved hW.alike).narrow hF, ((hu.2.kept hS.2.1).moved hW.alike).narrow hF⟩, hn.warm hW⟩
theorem x_thrown {D : va_G} {tys : List (ClassId × FieldType)} {ws : va_W} {H : Heap} {s t : State} {A : Nat → Prop} {locs : List Loc} (hP : va_P D vwCl ws H) (hK : va_K D vwCl tys s) (hD : va_D A ws) (hS : va_S A s.heap H locs) (ha : s.vm.Alike t.vm) (hz : H.size ≤ t.heap.size) (hk : ∀ q : Nat, q < H.size → t.heap[q]? = H[q]?) : gAt D tys A ws t ∧ va_F A s t := by
  refine ⟨⟨fun k q h => ?_, va_K.moved ha hK, hD⟩, Nat.le_trans hS.1 hz, fun q h1 h2 => ?_⟩
  · exact (hP k q h).kept (hk q.1 (hP k q h).lt)
  · rw [hk q (Nat.lt_of_lt_of_le h1 hS.1)]
    exact hS.2.1 q h1 h2
abbrev nms : List String := ["java/lang/RuntimeException", "java/lang/Exception"]
theorem th_hat {args : Array Value} {s : State} {own X : String} {ic : Nat} (h : ∀ w ∈ vx_at0 own ic X nms, w ∈ tables_1 ∧ (goodWord w || nbw w) = true) (hc : ∀ w ∈ CW, w.before args s = true) (hn : xN s) : ∀ w ∈ vx_at0 own ic X nms, w.before args s = true := by
  intro w hw
  obtain ⟨h1, h2⟩ := h w hw
  by_cases hg : goodWord w = true
  · exact hc w (wd_mem h1 hg)
  · rw [Bool.or_eq_true] at h2
    exact hn.use h1 (h2.resolve_left hg)
abbrev eA : String := "java/lang/IllegalArgumentException"
abbrev eS : String := "java/lang/IllegalStateException"
abbrev eU : String := "java/lang/UnsupportedOperationException"
abbrev eN : String := "java/util/NoSuchElementException"
abbrev eR : String := "java/lang/ArithmeticException"
theorem th_eA : ∀ w ∈ vx_at0 "LadderScan" 53 eA nms, w ∈ tables_1 ∧ (goodWord w || nbw w) = true := by decide +kernel
theorem tg_eA : ∀ w ∈ Cond.classLink "LadderScan" 51 eA :: Cond.initialized eA :: vx_at0 "LadderScan" 53 eA nms, vx_ot w = true := by decide +kernel
theorem th_eS : ∀ w ∈ vx_at0 "LadderScan" 56 eS nms, w ∈ tables_1 ∧ (goodWord w || nbw w) = true := by decide +kernel
theorem tg_eS : ∀ w ∈ Cond.classLink "LadderScan" 54 eS :: Cond.initialized eS :: vx_at0 "LadderScan" 56 eS nms, vx_ot w = true := by decide +kernel
theorem th_eU : ∀ w ∈ vx_at0 "LadderScan" 73 eU nms, w ∈ tables_1 ∧ (goodWord w || nbw w) = true := by decide +kernel
theorem tg_eU : ∀ w ∈ Cond.classLink "LadderScan" 71 eU :: Cond.initialized eU :: vx_at0 "LadderScan" 73 eU nms, vx_ot w = true := by decide +kernel
theorem th_eN : ∀ w ∈ vx_at0 "LadderScan" 67 eN nms, w ∈ tables_1 ∧ (goodWord w || nbw w) = true := by decide +kernel
theorem tg_eN : ∀ w ∈ Cond.classLink "LadderScan" 65 eN :: Cond.initialized eN :: vx_at0 "LadderScan" 67 eN nms, vx_ot w = true := by decide +kernel
theorem th_eR : ∀ w ∈ vx_at0 "LadderScan" 148 eR nms, w ∈ tables_1 ∧ (goodWord w || nbw w) = true := by decide +kernel
theorem tg_eR : ∀ w ∈ Cond.classLink "LadderScan" 146 eR :: Cond.initialized eR :: vx_at0 "LadderScan" 148 eR nms, vx_ot w = true := by decide +kernel
