section
-- ===== PART A: goes FIRST, ahead of the names: the tables' words, and 'selects' of the private methods out of them =====
/-- a private method of a class that the tables say can be made, by its rows of tables_1 -/
def lw_okq (q : MethodName × Nat) : Prop := (q.1.cls ≠ "java/lang/invoke/MethodHandle" ∧ q.1.cls ≠ "java/lang/invoke/VarHandle") ∧ Cond.instantiable q.1.cls q.2 ∈ tables_1 ∧ Cond.privateMethod q.1 ∈ tables_1 ∧ Cond.instanceMethod q.1 ∈ tables_1
theorem lw_p0 : lw_okq (⟨"java/lang/Throwable", "fillInStackTrace", "(I)Ljava/lang/Throwable;"⟩, 6) := ⟨⟨by decide +kernel, by decide +kernel⟩, List.mem_of_getElem? (i := 237) (by decide +kernel), List.mem_of_getElem? (i := 235) (by decide +kernel), List.mem_of_getElem? (i := 236) (by decide +kernel)⟩
theorem lw_p1 : lw_okq (⟨"LadderScan", "isMade", "(I)Z"⟩, 8) := ⟨⟨by decide +kernel, by decide +kernel⟩, List.mem_of_getElem? (i := 17) (by decide +kernel), List.mem_of_getElem? (i := 290) (by decide +kernel), List.mem_of_getElem? (i := 291) (by decide +kernel)⟩
theorem lw_p2 : lw_okq (⟨"LadderScan", "isStep", "(II)Z"⟩, 8) := ⟨⟨by decide +kernel, by decide +kernel⟩, List.mem_of_getElem? (i := 17) (by decide +kernel), List.mem_of_getElem? (i := 349) (by decide +kernel), List.mem_of_getElem? (i := 350) (by decide +kernel)⟩
theorem lw_p3 : lw_okq (⟨"LadderScan", "scanOnce", "()I"⟩, 8) := ⟨⟨by decide +kernel, by decide +kernel⟩, List.mem_of_getElem? (i := 17) (by decide +kernel), List.mem_of_getElem? (i := 417) (by decide +kernel), List.mem_of_getElem? (i := 418) (by decide +kernel)⟩
theorem lw_p4 : lw_okq (⟨"LadderScan", "runProgram", "()I"⟩, 8) := ⟨⟨by decide +kernel, by decide +kernel⟩, List.mem_of_getElem? (i := 17) (by decide +kernel), List.mem_of_getElem? (i := 425) (by decide +kernel), List.mem_of_getElem? (i := 426) (by decide +kernel)⟩
theorem lw_p5 : lw_okq (⟨"LadderScan", "runRung", "(I)I"⟩, 8) := ⟨⟨by decide +kernel, by decide +kernel⟩, List.mem_of_getElem? (i := 17) (by decide +kernel), List.mem_of_getElem? (i := 429) (by decide +kernel), List.mem_of_getElem? (i := 430) (by decide +kernel)⟩
theorem lw_p6 : lw_okq (⟨"LadderScan$Block", "countWith", "(II)I"⟩, 8) := ⟨⟨by decide +kernel, by decide +kernel⟩, List.mem_of_getElem? (i := 76) (by decide +kernel), List.mem_of_getElem? (i := 451) (by decide +kernel), List.mem_of_getElem? (i := 452) (by decide +kernel)⟩
theorem lw_p7 : lw_okq (⟨"LadderScan$Block", "reckon", "(J)J"⟩, 8) := ⟨⟨by decide +kernel, by decide +kernel⟩, List.mem_of_getElem? (i := 76) (by decide +kernel), List.mem_of_getElem? (i := 455) (by decide +kernel), List.mem_of_getElem? (i := 456) (by decide +kernel)⟩
theorem lw_p8 : lw_okq (⟨"LadderScan", "stackAfter", "(III)I"⟩, 8) := ⟨⟨by decide +kernel, by decide +kernel⟩, List.mem_of_getElem? (i := 17) (by decide +kernel), List.mem_of_getElem? (i := 484) (by decide +kernel), List.mem_of_getElem? (i := 485) (by decide +kernel)⟩
theorem lw_p9 : lw_okq (⟨"LadderScanModel", "raise", "(I)I"⟩, 29) := ⟨⟨by decide +kernel, by decide +kernel⟩, List.mem_of_getElem? (i := 556) (by decide +kernel), List.mem_of_getElem? (i := 662) (by decide +kernel), List.mem_of_getElem? (i := 663) (by decide +kernel)⟩
theorem lw_p10 : lw_okq (⟨"LadderScanModel", "fits", "(II)Z"⟩, 29) := ⟨⟨by decide +kernel, by decide +kernel⟩, List.mem_of_getElem? (i := 556) (by decide +kernel), List.mem_of_getElem? (i := 687) (by decide +kernel), List.mem_of_getElem? (i := 688) (by decide +kernel)⟩
theorem lw_p11 : lw_okq (⟨"LadderScanModel", "scanOnce", "()V"⟩, 29) := ⟨⟨by decide +kernel, by decide +kernel⟩, List.mem_of_getElem? (i := 556) (by decide +kernel), List.mem_of_getElem? (i := 721) (by decide +kernel), List.mem_of_getElem? (i := 722) (by decide +kernel)⟩
theorem lw_p12 : lw_okq (⟨"LadderScanModel", "rung", "(I)I"⟩, 29) := ⟨⟨by decide +kernel, by decide +kernel⟩, List.mem_of_getElem? (i := 556) (by decide +kernel), List.mem_of_getElem? (i := 725) (by decide +kernel), List.mem_of_getElem? (i := 726) (by decide +kernel)⟩
theorem lw_p13 : lw_okq (⟨"LadderScanModel", "perform", "(II)V"⟩, 29) := ⟨⟨by decide +kernel, by decide +kernel⟩, List.mem_of_getElem? (i := 556) (by decide +kernel), List.mem_of_getElem? (i := 729) (by decide +kernel), List.mem_of_getElem? (i := 730) (by decide +kernel)⟩
theorem lw_p14 : lw_okq (⟨"LadderScanModel", "read", "(I)I"⟩, 29) := ⟨⟨by decide +kernel, by decide +kernel⟩, List.mem_of_getElem? (i := 556) (by decide +kernel), List.mem_of_getElem? (i := 733) (by decide +kernel), List.mem_of_getElem? (i := 734) (by decide +kernel)⟩
theorem lw_p15 : lw_okq (⟨"LadderScanModel", "push", "(I)V"⟩, 29) := ⟨⟨by decide +kernel, by decide +kernel⟩, List.mem_of_getElem? (i := 556) (by decide +kernel), List.mem_of_getElem? (i := 737) (by decide +kernel), List.mem_of_getElem? (i := 738) (by decide +kernel)⟩
def lw_privs_1 : List (MethodName × Nat) := [(⟨"java/lang/Throwable", "fillInStackTrace", "(I)Ljava/lang/Throwable;"⟩, 6), (⟨"LadderScan", "isMade", "(I)Z"⟩, 8), (⟨"LadderScan", "isStep", "(II)Z"⟩, 8), (⟨"LadderScan", "scanOnce", "()I"⟩, 8), (⟨"LadderScan", "runProgram", "()I"⟩, 8), (⟨"LadderScan", "runRung", "(I)I"⟩, 8), (⟨"LadderScan$Block", "countWith", "(II)I"⟩, 8), (⟨"LadderScan$Block", "reckon", "(J)J"⟩, 8), (⟨"LadderScan", "stackAfter", "(III)I"⟩, 8), (⟨"LadderScanModel", "raise", "(I)I"⟩, 29), (⟨"LadderScanModel", "fits", "(II)Z"⟩, 29), (⟨"LadderScanModel", "scanOnce", "()V"⟩, 29), (⟨"LadderScanModel", "rung", "(I)I"⟩, 29), (⟨"LadderScanModel", "perform", "(II)V"⟩, 29), (⟨"LadderScanModel", "read", "(I)I"⟩, 29), (⟨"LadderScanModel", "push", "(I)V"⟩, 29)]
theorem lw_r1 : ∀ q ∈ lw_privs_1, lw_okq q := List.forall_mem_cons.mpr ⟨lw_p0, List.forall_mem_cons.mpr ⟨lw_p1, List.forall_mem_cons.mpr ⟨lw_p2, List.forall_mem_cons.mpr ⟨lw_p3, List.forall_mem_cons.mpr ⟨lw_p4, List.forall_mem_cons.mpr ⟨lw_p5, List.forall_mem_cons.mpr ⟨lw_p6, List.forall_mem_cons.mpr ⟨lw_p7, List.forall_mem_cons.mpr ⟨lw_p8, List.forall_mem_cons.mpr ⟨lw_p9, List.forall_mem_cons.mpr ⟨lw_p10, List.forall_mem_cons.mpr ⟨lw_p11, List.forall_mem_cons.mpr ⟨lw_p12, List.forall_mem_cons.mpr ⟨lw_p13, List.forall_mem_cons.mpr ⟨lw_p14, List.forall_mem_cons.mpr ⟨lw_p15, fun _ h => absurd h List.not_mem_nil⟩⟩⟩⟩⟩⟩⟩⟩⟩⟩⟩⟩⟩⟩⟩⟩
theorem lw_p16 : lw_okq (⟨"LadderScanModel", "work", "(II)V"⟩, 29) := ⟨⟨by decide +kernel, by decide +kernel⟩, List.mem_of_getElem? (i := 556) (by decide +kernel), List.mem_of_getElem? (i := 741) (by decide +kernel), List.mem_of_getElem? (i := 742) (by decide +kernel)⟩
theorem lw_p17 : lw_okq (⟨"LadderScanModel", "calculate", "(I)V"⟩, 29) := ⟨⟨by decide +kernel, by decide +kernel⟩, List.mem_of_getElem? (i := 556) (by decide +kernel), List.mem_of_getElem? (i := 745) (by decide +kernel), List.mem_of_getElem? (i := 746) (by decide +kernel)⟩
def lw_privs_2 : List (MethodName × Nat) := [(⟨"LadderScanModel", "work", "(II)V"⟩, 29), (⟨"LadderScanModel", "calculate", "(I)V"⟩, 29)]
theorem lw_r2 : ∀ q ∈ lw_privs_2, lw_okq q := List.forall_mem_cons.mpr ⟨lw_p16, List.forall_mem_cons.mpr ⟨lw_p17, fun _ h => absurd h List.not_mem_nil⟩⟩
def lw_privs : List (MethodName × Nat) := lw_privs_1 ++ (lw_privs_2)
def lw_tbl : List Cond := k2_sels lw_privs ++ tables_1
theorem lw_privs_ok : ∀ q ∈ lw_privs, lw_okq q := by
  show ∀ q ∈ lw_privs_1 ++ (lw_privs_2), lw_okq q
  exact List.forall_mem_append.mpr ⟨lw_r1, lw_r2⟩
end
section
/-! ===== BEGIN exceptions that leave a method, and their catching by the caller (launches without stack traces) ===== -/
section VXA
/-! The laws vx_back, vx_callV, vx_callS, vx_callSW, vx_throw0, vx_throwS follow proofs of the library, with one case more: JvmDerived/Free/Laws.lean (Back.of_free), Shelf42/LK1.lean (callV, callS), Shelf/KitTraced.lean (throwNew0V, throwNewS). -/
/-- where a method has thrown q: the class by its name, the cell, what was written, the world -/
def vx_T (XC : String → State → State → Prop) (st : State) (q : Addr) (t : State) (mc ms : Nat) (free : Addr → Prop) : Prop :=
  ∃ (E : String) (ce : Cell) (L : List Loc), XC E st t ∧ t.heap[q]? = some ce ∧ ce.vm = .none ∧ st.vm.findClass E = some ce.cls ∧ st.WarmedH t.vm ∧ st.sameButNew ({ t with vm := st.vm } : State) L mc ms ∧ ∀ z ∈ L, free z.base
def vx_Q (Qc : Array Value → State → Outcome → State → Prop) (XC : String → State → State → Prop) (mc ms : Nat) (free : Addr → Prop) : Array Value → State → Outcome → State → Prop := fun a st o t =>
  (Qc a st o t ∧ ∃ L, FrameEnd st o t L mc ms ∧ ∀ q ∈ L, free q.base) ∨ ∃ q, o = .threw q ∧ vx_T XC st q t mc ms free
/-- a callee that returns or throws -/
def vx_Met (l : Launch) (y : MethodName) (ws : List Cond) (rm : Room) (Pc : Array Value → State → Prop) (Qc : Array Value → State → Outcome → State → Prop) (XC : String → State → State → Prop) (mc ms : Nat) (free : Addr → Prop) : Prop :=
  MetFree l y (headSpec ws rm) Pc (fun _ _ _ _ _ => True) (vx_Q Qc XC mc ms free)
def vx_Post (XC : String → State → State → Prop) (mc ms : Nat) (free : Addr → Prop) : Pt → Array Value → Addr → Pt → Prop := fun A a q B =>
  ∃ (g : JFrame) (mk : MethodId) (t : State) (L : List Loc) (E : String) (ce : Cell), B.U.heap = t.heap ∧ B.U.vm = t.vm ∧ XC E (A.U.calling g mk a) t ∧ t.heap[q]? = some ce ∧ ce.vm = .none ∧ A.U.vm.findClass E = some ce.cls ∧ B.locs = A.locs ++ L ∧ (∀ z ∈ L, free z.base) ∧ B.cells = A.cells + mc ∧ B.slots = A.slots + ms
def vx_Back (l : Launch) (R : Room) (p : Program) (e : Env) (below : List Frame) (s : State) (sargs : Array Value) (y : MethodName) (len W9 : Nat)
    (Pre : Pt → Array Value → Prop) (Post : Pt → Array Value → Option Value → Pt → Prop) (PostX : Pt → Array Value → Addr → Pt → Prop) : Prop :=
  ∀ (m : MethodId) (meth : Method) (c : Code) (A : Pt) (g : JFrame) (ig : Instr) (mk : MethodId) (a : Array Value),
    Stand p l e R s m sargs below meth c A.U A.locs A.cells A.slots → g.method = m → g.locals.size = c.maxLocals → decode c.code g.pc = .ok (ig, len) →
    2 * g.monitorRoom + (g.stack.map fun v => v.category).sum ≤ W9 → A.U.methodNamed? y = some mk → Pre A a →
    (∃ (v : Option Value) (B : Pt), Stand p l e R s m sargs below meth c B.U B.locs B.cells B.slots ∧ Post A a v B ∧
      Steps p.tables e below (doInvoke e (A.U.setTop g) [] mk a).1 (B.U.setTop { g with pc := g.pc + len, stack := v.toList ++ g.stack })) ∨
    (∃ (q : Addr) (B : Pt), Stand p l e R s m sargs below meth c B.U B.locs B.cells B.slots ∧ PostX A a q B ∧
      Steps p.tables e below (doInvoke e (A.U.setTop g) [] mk a).1 ((B.U.setTop g).pushFrame (.throwing q)))
section Payer
variable {l : Launch} {R : Room} {p : Program} {e : Env} {below : List Frame} {s : State} {sargs : Array Value} {y : MethodName} {len W9 : Nat}
theorem vx_back {ws : List Cond} {rm : Room} {Pc : Array Value → State → Prop} {Qc : Array Value → State → Outcome → State → Prop} {XC : String → State → State → Prop} {mc ms : Nat} {free : Addr → Prop} {bytes : ByteArray} {maxL : Nat} {ret : Option FieldType}
    (hM : vx_Met l y ws rm Pc Qc XC mc ms free) (hblind : FrameBlind Pc) (hrc : rm.cells = mc) (hrs : rm.slots = ms)
    (hframes : rm.frames + 1 ≤ R.frames) (hlocals : W9 + (maxL + 11) + rm.locals ≤ R.locals)
    (hws : ∀ w ∈ ws, ∀ a' U, s.WarmedH U.vm → w.before a' U = true) (hcode : Cond.code y bytes maxL ret ∈ ws) (hinit : ∀ a' U, s.WarmedH U.vm → (Cond.initialized y.cls).before a' U = true) :
    vx_Back l R p e below s sargs y len W9 (PreOf R mc ms Pc) (PostOf Qc mc ms free) (vx_Post XC mc ms free) := by
  intro m meth c A g ig mk a X hg hsize hdg hW hn hp
  have h1 : (headSpec ws rm).pre.before a A.U = true := atoms_intro fun w hw => hws w hw _ _ X.warmed
  have h2 : (Cond.code y bytes maxL ret).before a A.U = true := hws _ hcode _ _ X.warmed
  have h3 : (Cond.initialized y.cls).before a A.U = true := hinit _ _ X.warmed
  have h4 : A.cells + (headSpec ws rm).room.cells ≤ R.cells := by rw [show (headSpec ws rm).room.cells = mc from hrc]; exact hp.1
  have h5 : A.slots + (headSpec ws rm).room.slots ≤ R.slots := by rw [show (headSpec ws rm).room.slots = ms from hrs]; exact hp.2.1
  have hPc : Pc a (A.U.calling g mk a) := hblind _ _ _ _ hp.2.2
  obtain ⟨U, Ls, c0, s0⟩ := A
  dsimp only [Pt.U, Pt.locs, Pt.cells, Pt.slots] at h1 h2 h3 h4 h5 X hn hPc ⊢
  obtain ⟨methY, cY, hmY, hcY, -, hlY, -, -, -, -⟩ := Cond.code_spec hn h2
  obtain ⟨kY, hkY, -⟩ := className_of_methodNamed hn
  have hinitY : kY.init = .initialized := Cond.initialized_spec (findClass_of_methodNamed hn) hkY h3
  have h : At U g.method c below := by rw [hg]; exact X.here
  have hlocals9 : W9 + (maxL + 11) + (headSpec ws rm).room.locals ≤ R.locals := hlocals
  have happ : (headSpec ws rm).appliesLoose y e.platform (U.calling g mk a) = true :=
    Spec.appliesLoose_calling (g := g) h hdg hn hkY hinitY
      (X.room_calling (g := g) (R' := (headSpec ws rm).room) hsize hmY hcY hframes (by rw [hlY]; omega) h4 h5) h1
  obtain ⟨mid, hmid⟩ := h.above
  have hfr : (U.setTop g).frames = (.java g :: mid) ++ below := by rw [State.frames_setTop' g h.top, hmid]; rfl
  obtain ⟨o, s₂, hsteps, -, hend, hq⟩ := Steps.callFree hM p X.admits X.cas X.clock (acts := []) hfr happ hPc trivial
  have hq' : vx_Q Qc XC mc ms free a (U.calling g mk a) o s₂ := hq
  rw [State.frames_setTop' g h.top] at hend
  obtain ⟨g₀, hg0⟩ := Option.isSome_iff_exists.mp h.top
  obtain ⟨r, hr⟩ := State.topJava?_eq_some.mp hg0
  have hr' : (({ U with heap := s₂.heap, slotsUsed := s₂.slotsUsed } : State).setVm s₂.vm).frames = .java g₀ :: r := hr
  rcases hq' with ⟨hqc, L, hfe, hL⟩ | ⟨q, rfl, E, ce, L, hx, hce, hcv, hcl, hW₂, hsm, hL⟩
  · obtain ⟨⟨v, rfl⟩, hW₂, e2, q2, q3, q4, q5, q6⟩ := id hfe
    have e3 : s₂ = ({ (U.calling g mk a).setFrames s₂.frames with heap := s₂.heap, slotsUsed := s₂.slotsUsed } : State).setVm s₂.vm := by
      have : s₂ = ({ s₂ with vm := (U.calling g mk a).vm } : State).setVm s₂.vm := rfl
      rw [e2] at this
      exact this
    obtain ⟨c₂, i₂, len₂, hc₂, hd₂, hf₂⟩ := hend
    have hW' : U.WarmedH s₂.vm := hW₂
    have hcc : c₂ = c := by
      have h1 : s₂.code? g.method = U.code? g.method := by
        rw [State.code?_eq, State.code?_eq, hW'.alike.method?]
      exact Option.some.inj (hc₂.symm.trans (h1.trans h.code))
    subst hcc
    have hlen : len₂ = len := by rw [hdg] at hd₂; cases hd₂; rfl
    subst hlen
    have hs₂ : s₂ = (({ U with heap := s₂.heap, slotsUsed := s₂.slotsUsed } : State).setVm s₂.vm).setTop { g with pc := g.pc + len₂, stack := v.toList ++ g.stack } := by
      refine e3.trans ?_
      rw [hf₂, State.calling_eq h.top, State.setFrames_setFrames, State.setTop_of_frames _ hr', hr]
      rfl
    have hsame : U.sameButNew ({ U with heap := s₂.heap, slotsUsed := s₂.slotsUsed } : State) L mc ms := by
      refine ⟨?_, q2, q3, q4, q5, q6⟩
      obtain ⟨t, ht, -⟩ := State.frames_cons hr
      show ({ U with heap := s₂.heap, slotsUsed := s₂.slotsUsed } : State) = { U.setFrames U.frames with heap := s₂.heap, slotsUsed := s₂.slotsUsed }
      rw [State.setFrames_self ht]
    subst hg
    refine Or.inl ⟨v, ⟨(({ U with heap := s₂.heap, slotsUsed := s₂.slotsUsed } : State).setVm s₂.vm), Ls ++ L, c0 + mc, s0 + ms⟩,
      ⟨X.admits, X.cas, X.clock, X.frames, X.room, X.hears, X.method, X.code, (X.here.setHeapUsed s₂.heap s₂.slotsUsed).setVm hW'.alike, X.tail, State.WarmedH.trans X.warmed hW', X.limits, X.bytes, X.same.trans (hsame.setVm s.vm)⟩,
      ⟨g, mk, s₂, L, rfl, rfl, hqc, rfl, hL, rfl, rfl⟩, ?_⟩
    show Steps p.tables e below _ ((({ U with heap := s₂.heap, slotsUsed := s₂.slotsUsed } : State).setVm s₂.vm).setTop { g with pc := g.pc + len₂, stack := v.toList ++ g.stack })
    rw [← hs₂]
    exact hsteps
  · obtain ⟨e2, q2, q3, q4, q5, q6⟩ := id hsm
    have e3 : s₂ = ({ (U.calling g mk a).setFrames s₂.frames with heap := s₂.heap, slotsUsed := s₂.slotsUsed } : State).setVm s₂.vm := by
      have : s₂ = ({ s₂ with vm := (U.calling g mk a).vm } : State).setVm s₂.vm := rfl
      rw [e2] at this
      exact this
    have hf₂ : s₂.frames = .throwing q :: .java g :: U.frames.tail := hend
    have hW' : U.WarmedH s₂.vm := hW₂
    have hs₂ : s₂ = ((({ U with heap := s₂.heap, slotsUsed := s₂.slotsUsed } : State).setVm s₂.vm).setTop g).pushFrame (.throwing q) := by
      refine e3.trans ?_
      rw [hf₂, State.calling_eq h.top, State.setFrames_setFrames, State.pushFrame, State.frames_setTop _ hr', State.setTop_of_frames _ hr', State.setFrames_setFrames, hr]
      rfl
    have hsame : U.sameButNew ({ U with heap := s₂.heap, slotsUsed := s₂.slotsUsed } : State) L mc ms := by
      refine ⟨?_, q2, q3, q4, q5, q6⟩
      obtain ⟨t, ht, -⟩ := State.frames_cons hr
      show ({ U with heap := s₂.heap, slotsUsed := s₂.slotsUsed } : State) = { U.setFrames U.frames with heap := s₂.heap, slotsUsed := s₂.slotsUsed }
      rw [State.setFrames_self ht]
    subst hg
    refine Or.inr ⟨q, ⟨(({ U with heap := s₂.heap, slotsUsed := s₂.slotsUsed } : State).setVm s₂.vm), Ls ++ L, c0 + mc, s0 + ms⟩,
      ⟨X.admits, X.cas, X.clock, X.frames, X.room, X.hears, X.method, X.code, (X.here.setHeapUsed s₂.heap s₂.slotsUsed).setVm hW'.alike, X.tail, State.WarmedH.trans X.warmed hW', X.limits, X.bytes, X.same.trans (hsame.setVm s.vm)⟩,
      ⟨g, mk, s₂, L, E, ce, rfl, rfl, hx, hce, hcv, hcl, rfl, hL, rfl, rfl⟩, ?_⟩
    show Steps p.tables e below _ (((({ U with heap := s₂.heap, slotsUsed := s₂.slotsUsed } : State).setVm s₂.vm).setTop g).pushFrame (.throwing q))
    rw [← hs₂]
    exact hsteps
end Payer
section Calls
variable {p : Program} {l : Launch} {e : Env} {R : Room} {s : State} {m : MethodId} {args : Array Value} {below : List Frame} {meth : Method} {c : Code} {T : State} {locs : List Loc} {cells slots : Nat}
theorem vx_callV (X : Stand p l e R s m args below meth c T locs cells slots) (hexec : p.tables.exec = Jvm.exec) {own C : String} {index : Nat} {y : MethodName} {bytes : ByteArray} {maxL : Nat} {ret : Option FieldType}
    (hown : s.vm.findClass own = some m.cls) (hlink : (Cond.methodLink own index y).before args s = true) (hinst : (Cond.instanceMethod y).before args s = true) (hsel : (Cond.selects C y y).before args s = true)
    (hcode : (Cond.code y bytes maxL ret).before args s = true) (hy : y.cls ≠ "java/lang/invoke/MethodHandle" ∧ y.cls ≠ "java/lang/invoke/VarHandle")
    {W9 : Nat} {Pre : Pt → Array Value → Prop} {Post : Pt → Array Value → Option Value → Pt → Prop} {PostX : Pt → Array Value → Addr → Pt → Prop} (hK : vx_Back l R p e below s args y 3 W9 Pre Post PostX)
    {b : Addr} {cellB : Cell} (hcell : T.heap[b]? = some cellB) (hobj : cellB.vm.isStatics = false) (hcls : s.vm.findClass C = some cellB.cls)
    {g : JFrame} (hg : g.method = m) (hsize : g.locals.size = c.maxLocals) {argsL rest : List Value} (hlen : ∀ sig, parseMethodDescriptor y.desc = some sig → argsL.length = sig.parameters.length)
    (hstack : g.stack = argsL.reverse ++ .ref b :: rest) (hW : 2 * g.monitorRoom + (rest.map fun v => v.category).sum ≤ W9) (hdg : decode c.code g.pc = .ok (.invokevirtual index, 3))
    (hpre : ∀ vm₁, s.WarmedH vm₁ → Pre ⟨T.setVm vm₁, locs, cells, slots⟩ (Value.ref b :: argsL).toArray) :
    (∃ (v : Option Value) (vm₁ : Vm) (B : Pt), s.WarmedH vm₁ ∧ Stand p l e R s m args below meth c B.U B.locs B.cells B.slots ∧ Post ⟨T.setVm vm₁, locs, cells, slots⟩ (Value.ref b :: argsL).toArray v B ∧
      ∀ target, Steps p.tables e below (B.U.setTop { g with pc := g.pc + 3, stack := v.toList ++ rest }) target → Steps p.tables e below (T.setTop g) target) ∨
    (∃ (q : Addr) (vm₁ : Vm) (B : Pt), s.WarmedH vm₁ ∧ Stand p l e R s m args below meth c B.U B.locs B.cells B.slots ∧ PostX ⟨T.setVm vm₁, locs, cells, slots⟩ (Value.ref b :: argsL).toArray q B ∧
      Steps p.tables e below (T.setTop g) ((B.U.setTop { g with stack := rest }).pushFrame (.throwing q))) := by
  obtain ⟨mk, methM, hnamed, hmethM, hstM, habM⟩ := Cond.instanceMethod_spec hinst
  obtain ⟨methM', cM, hmethM', -, -, -, -, -, -, hsigM⟩ := Cond.code_spec hnamed hcode
  cases hmethM.symm.trans hmethM'
  obtain ⟨c2, r2, m2, q1, q2, q3, q4, kP, hkP, hkPi⟩ := Cond.selects_spec hsel
  cases hcls.symm.trans q1
  cases (State.methodFound?_of_named hnamed hy).symm.trans q2
  cases hnamed.symm.trans q3
  have hselP : selectMethod e.platform s.vm cellB.cls mk = .method mk := by rw [Launch.admits_selectMethod X.admits]; exact q4
  obtain ⟨vm₁, X₁, hstep₁⟩ := X.invokevirtual hexec hown hlink hnamed hmethM hstM hkP hkPi hy (a := b) (cell := cellB) hcell
    (fun z h => by rw [h] at hobj; cases hobj) hselP hmethM habM hkP hkPi (g := g) hg (argsL := argsL) (rest := rest) (hlen _ hsigM) hstack hdg
  rcases hK m meth c ⟨T.setVm vm₁, locs, cells, slots⟩ { g with stack := rest } (.invokevirtual index) mk (Value.ref b :: argsL).toArray X₁ hg hsize hdg hW (X₁.named hnamed) (hpre vm₁ X₁.warmed) with ⟨v, B, X', hpost, hsteps⟩ | ⟨q, B, X', hpost, hsteps⟩
  · exact Or.inl ⟨v, vm₁, B, X₁.warmed, X', hpost, fun target h => hstep₁ _ fun acts => by rw [doInvoke_state]; exact hsteps.trans h⟩
  · exact Or.inr ⟨q, vm₁, B, X₁.warmed, X', hpost, hstep₁ _ fun acts => by rw [doInvoke_state]; exact hsteps⟩
theorem vx_callS (X : Stand p l e R s m args below meth c T locs cells slots) (hexec : p.tables.exec = Jvm.exec) {own : String} {index : Nat} {y : MethodName} {bytes : ByteArray} {maxL : Nat} {ret : Option FieldType}
    (hown : s.vm.findClass own = some m.cls) (hlink : (Cond.methodLink own index y).before args s = true) (hstat : (Cond.static y).before args s = true) (hinit : (Cond.initialized y.cls).before args s = true)
    (hcode : (Cond.code y bytes maxL ret).before args s = true) (hy : y.cls ≠ "java/lang/invoke/MethodHandle" ∧ y.cls ≠ "java/lang/invoke/VarHandle")
    {W9 : Nat} {Pre : Pt → Array Value → Prop} {Post : Pt → Array Value → Option Value → Pt → Prop} {PostX : Pt → Array Value → Addr → Pt → Prop} (hK : vx_Back l R p e below s args y 3 W9 Pre Post PostX)
    {g : JFrame} (hg : g.method = m) (hsize : g.locals.size = c.maxLocals) {argsL rest : List Value} (hlen : ∀ sig, parseMethodDescriptor y.desc = some sig → argsL.length = sig.parameters.length)
    (hstack : g.stack = argsL.reverse ++ rest) (hW : 2 * g.monitorRoom + (rest.map fun v => v.category).sum ≤ W9) (hdg : decode c.code g.pc = .ok (.invokestatic index, 3))
    (hpre : ∀ vm₁, s.WarmedH vm₁ → Pre ⟨T.setVm vm₁, locs, cells, slots⟩ argsL.toArray) :
    (∃ (v : Option Value) (vm₁ : Vm) (B : Pt), s.WarmedH vm₁ ∧ Stand p l e R s m args below meth c B.U B.locs B.cells B.slots ∧ Post ⟨T.setVm vm₁, locs, cells, slots⟩ argsL.toArray v B ∧
      ∀ target, Steps p.tables e below (B.U.setTop { g with pc := g.pc + 3, stack := v.toList ++ rest }) target → Steps p.tables e below (T.setTop g) target) ∨
    (∃ (q : Addr) (vm₁ : Vm) (B : Pt), s.WarmedH vm₁ ∧ Stand p l e R s m args below meth c B.U B.locs B.cells B.slots ∧ PostX ⟨T.setVm vm₁, locs, cells, slots⟩ argsL.toArray q B ∧
      Steps p.tables e below (T.setTop g) ((B.U.setTop { g with stack := rest }).pushFrame (.throwing q))) := by
  obtain ⟨mk, hnamed⟩ := Cond.code_named hcode
  obtain ⟨methM, cM, hmethM, -, -, -, -, -, -, hsigM⟩ := Cond.code_spec hnamed hcode
  have hstatic : methM.isStatic = true := Cond.static_spec hnamed hmethM hstat
  obtain ⟨kP, hkP, -⟩ := className_of_methodNamed hnamed
  have hinitP : kP.init = .initialized := Cond.initialized_spec (findClass_of_methodNamed hnamed) hkP hinit
  obtain ⟨vm₁, X₁, hstep₁⟩ := X.invokestatic hexec hown hlink hnamed hmethM hstatic hkP hinitP hy (g := g) hg (argsL := argsL) (rest := rest) (hlen _ hsigM) hstack hdg
  rcases hK m meth c ⟨T.setVm vm₁, locs, cells, slots⟩ { g with stack := rest } (.invokestatic index) mk argsL.toArray X₁ hg hsize hdg hW (X₁.named hnamed) (hpre vm₁ X₁.warmed) with ⟨v, B, X', hpost, hsteps⟩ | ⟨q, B, X', hpost, hsteps⟩
  · exact Or.inl ⟨v, vm₁, B, X₁.warmed, X', hpost, fun target h => hstep₁ _ fun acts => by rw [doInvoke_state]; exact hsteps.trans h⟩
  · exact Or.inr ⟨q, vm₁, B, X₁.warmed, X', hpost, hstep₁ _ fun acts => by rw [doInvoke_state]; exact hsteps⟩
end Calls
theorem vx_cls {s : State} {T : State} {vm₁ : Vm} {E : String} {k : ClassId} (hW : s.WarmedH vm₁) (h : (T.setVm vm₁).vm.findClass E = some k) : s.vm.findClass E = some k := by
  have h1 : vm₁.findClass E = some k := h
  rw [hW.alike.findClass] at h1
  exact h1
/-- the method's frame g, with q thrown over it -/
def vx_W (p : Program) (l : Launch) (e : Env) (R : Room) (s : State) (m : MethodId) (args : Array Value) (below : List Frame) (meth : Method) (c : Code) (H : Heap) (locs : List Loc) (cells slots : Nat) (Q : State → Prop) (g : JFrame) (q : Addr) : Prop :=
  ∀ T : State, T.heap = H → Stand p l e R s m args below meth c T locs cells slots → ∃ t, Steps p.tables e below ((T.setTop g).pushFrame (.throwing q)) t ∧ Q t
def vx_Run (p : Program) (l : Launch) (e : Env) (R : Room) (s : State) (m : MethodId) (args : Array Value) (below : List Frame) (meth : Method) (c : Code) (H : Heap) (locs : List Loc) (cells slots mc ms : Nat) (g : JFrame) (rest : List Value) (Qa : State → Outcome → State → Prop) (XC : String → State → State → Prop) (free : Addr → Prop) : Prop :=
  ∀ T : State, T.heap = H → Stand p l e R s m args below meth c T locs cells slots →
    (∃ (v : Option Value) (st₀ t T' : State) (L : List Loc), st₀.heap = H ∧ Stand p l e R s m args below meth c T' (locs ++ L) (cells + mc) (slots + ms) ∧ (∀ q ∈ L, free q.base) ∧ T'.heap = t.heap ∧ T'.vm = t.vm ∧ Qa st₀ (.returned v) t ∧
      Goes p e below T g T' { g with pc := g.pc + 3, stack := v.toList ++ rest }) ∨
    (∃ (q : Addr) (st₀ t T' : State) (L : List Loc) (E : String) (ce : Cell), st₀.heap = H ∧ Stand p l e R s m args below meth c T' (locs ++ L) (cells + mc) (slots + ms) ∧ (∀ z ∈ L, free z.base) ∧ T'.heap = t.heap ∧ T'.vm = t.vm ∧ XC E st₀ t ∧ t.heap[q]? = some ce ∧ ce.vm = .none ∧ s.vm.findClass E = some ce.cls ∧
      Steps p.tables e below (T.setTop g) ((T'.setTop { g with stack := rest }).pushFrame (.throwing q)))
def vx_X {S : Type} (px : S → Prop) (B : String → S → State → Prop) (A : Nat → Prop) : String → State → State → Prop := fun E st t => ∃ u : S, px u ∧ B E u t ∧ va_F A st t
section Runs
variable {p : Program} {l : Launch} {e : Env} {R : Room} {s : State} {m : MethodId} {args : Array Value} {below : List Frame} {meth : Method} {c : Code} {H : Heap} {locs : List Loc} {cells slots : Nat}
variable {y : MethodName} {bytes cc : ByteArray} {maxL nL mc ms n index : Nat} {ret : Option FieldType} {ws : List Cond} {rm : Room} {Pc : Array Value → State → Prop} {Qc : Array Value → State → Outcome → State → Prop} {XC : String → State → State → Prop} {free : Addr → Prop} {Ts : List Cond} {own C : String} {b : Addr} {As rest : List Value} {g : JFrame}
theorem vx_callBack (cb : CallB R s args own index y bytes maxL ret ws rm mc ms n) (hM : vx_Met l y ws rm Pc Qc XC mc ms free) (hbl : FrameBlind Pc) : vx_Back l R p e below s args y 3 8 (PreOf R mc ms Pc) (PostOf Qc mc ms free) (vx_Post XC mc ms free) := by
  obtain ⟨hrc, hrs, hfr, hlo, hws, hcw, -, hini, -⟩ := cb
  exact vx_back (bytes := bytes) (maxL := maxL) (ret := ret) hM hbl hrc hrs hfr hlo hws hcw (fun a' U hW => word_at hW (Or.inl (by first | rfl | simp [Cond.onTables, Cond.keeps, Cond.steady])) hini)
theorem vx_runV (S : CallFix p m c cc nL s args Ts own) (hM : vx_Met l y ws rm Pc Qc XC mc ms free) (cw : CallW R s args own C index y bytes maxL ret ws rm mc ms n) (hp : PreV s H C b Pc As)
    (hg : g.method = m) (hn : As.length = n) (hsize : g.locals.size = nL) (hstack : g.stack = As.reverse ++ .ref b :: rest) (hW : 2 * g.monitorRoom + (rest.map fun v => v.category).sum ≤ 8) (hdg : decode cc g.pc = .ok (.invokevirtual index, 3)) (hf : cells + mc ≤ R.cells ∧ slots + ms ≤ R.slots) :
    vx_Run p l e R s m args below meth c H locs cells slots mc ms g rest (Qc (Value.ref b :: As).toArray) XC free := by
  have hK : vx_Back l R p e below s args y 3 8 (PreOf R mc ms Pc) (PostOf Qc mc ms free) (vx_Post XC mc ms free) := vx_callBack cw.1 hM hp.1
  obtain ⟨⟨-, -, -, -, -, -, hcode, -, hy, hlen, hl⟩, hin, hse⟩ := cw
  obtain ⟨hx, hb, hml, ho, -⟩ := S
  obtain ⟨-, ⟨cellB, hcB, hoB, hclB⟩, hPc⟩ := hp
  intro T hT X
  rcases vx_callV X hx (C := C) (bytes := bytes) (maxL := maxL) (ret := ret) ho hl hin hse hcode hy hK (by rw [hT]; exact hcB) hoB hclB hg (hsize.trans hml.symm) (argsL := As) (rest := rest) (fun sig h => hn.trans (hlen sig h)) hstack hW (by rw [hb]; exact hdg)
    (fun vm₁ hW₁ => ⟨hf.1, hf.2, hPc (T.setVm vm₁) hT hW₁⟩) with ⟨v, vm₁, ⟨U', l2, c2, s2⟩, hW₁, X', ⟨g', mk, t, L, e1, e2, hq, h1, hL, h2, h3⟩, st⟩ | ⟨q, vm₁, ⟨U', l2, c2, s2⟩, hW₁, X', ⟨g', mk, t, L, E, ce, e1, e2, hq, hce, hcv, hcl, h1, hL, h2, h3⟩, st⟩
  · dsimp only [Pt.U, Pt.locs, Pt.cells, Pt.slots] at X' e1 e2 h1 h2 h3 st
    subst h1; subst h2; subst h3
    exact Or.inl ⟨v, (T.setVm vm₁).calling g' mk (Value.ref b :: As).toArray, t, U', L, hT, X', hL, e1, e2, hq, st⟩
  · dsimp only [Pt.U, Pt.locs, Pt.cells, Pt.slots] at X' e1 e2 h1 h2 h3 st hcl
    subst h1; subst h2; subst h3
    exact Or.inr ⟨q, (T.setVm vm₁).calling g' mk (Value.ref b :: As).toArray, t, U', L, E, ce, hT, X', hL, e1, e2, hq, hce, hcv, vx_cls hW₁ hcl, st⟩
theorem vx_runS (S : CallFix p m c cc nL s args Ts own) (hM : vx_Met l y ws rm Pc Qc XC mc ms free) (cw : CallB R s args own index y bytes maxL ret ws rm mc ms n ∧ (Cond.static y).before args s = true) (hp : PreS s H Pc As)
    (hg : g.method = m) (hn : As.length = n) (hsize : g.locals.size = nL) (hstack : g.stack = As.reverse ++ rest) (hW : 2 * g.monitorRoom + (rest.map fun v => v.category).sum ≤ 8) (hdg : decode cc g.pc = .ok (.invokestatic index, 3)) (hf : cells + mc ≤ R.cells ∧ slots + ms ≤ R.slots) :
    vx_Run p l e R s m args below meth c H locs cells slots mc ms g rest (Qc As.toArray) XC free := by
  have hK : vx_Back l R p e below s args y 3 8 (PreOf R mc ms Pc) (PostOf Qc mc ms free) (vx_Post XC mc ms free) := vx_callBack cw.1 hM hp.1
  obtain ⟨⟨-, -, -, -, -, -, hcode, hini, hy, hlen, hl⟩, hstt⟩ := cw
  obtain ⟨hx, hb, hml, ho, -⟩ := S
  intro T hT X
  rcases vx_callS X hx (bytes := bytes) (maxL := maxL) (ret := ret) ho hl hstt hini hcode hy hK hg (hsize.trans hml.symm) (argsL := As) (rest := rest) (fun sig h => hn.trans (hlen sig h)) hstack hW (by rw [hb]; exact hdg)
    (fun vm₁ hW₁ => ⟨hf.1, hf.2, hp.2 (T.setVm vm₁) hT hW₁⟩) with ⟨v, vm₁, ⟨U', l2, c2, s2⟩, hW₁, X', ⟨g', mk, t, L, e1, e2, hq, h1, hL, h2, h3⟩, st⟩ | ⟨q, vm₁, ⟨U', l2, c2, s2⟩, hW₁, X', ⟨g', mk, t, L, E, ce, e1, e2, hq, hce, hcv, hcl, h1, hL, h2, h3⟩, st⟩
  · dsimp only [Pt.U, Pt.locs, Pt.cells, Pt.slots] at X' e1 e2 h1 h2 h3 st
    subst h1; subst h2; subst h3
    exact Or.inl ⟨v, (T.setVm vm₁).calling g' mk As.toArray, t, U', L, hT, X', hL, e1, e2, hq, st⟩
  · dsimp only [Pt.U, Pt.locs, Pt.cells, Pt.slots] at X' e1 e2 h1 h2 h3 st hcl
    subst h1; subst h2; subst h3
    exact Or.inr ⟨q, (T.setVm vm₁).calling g' mk As.toArray, t, U', L, E, ce, hT, X', hL, e1, e2, hq, hce, hcv, vx_cls hW₁ hcl, st⟩
end Runs
section Rows
variable {p : Program} {l : Launch} {e : Env} {R : Room} {s : State} {m : MethodId} {args : Array Value} {below : List Frame} {meth : Method} {c : Code} {H : Heap} {locs : List Loc} {cells slots : Nat} {Q : State → Prop}
variable {mc ms : Nat} {free : Addr → Prop} {A0 A1 : Nat → Prop} {H0 : Heap} {a : Array Value} {pc : Nat} {ls : Array Slot} {st0 rest : List Value}
theorem vx_keep {st₀ t T' : State} {L : List Loc} (h0 : st₀.heap = H) (e1 : T'.heap = t.heap) (hS : va_S A0 H0 H locs) (hA : ∀ q, q < H.size → A1 q → A0 q) (hf : ∀ q, free q → A0 q) (hL : ∀ q ∈ L, free q.base) (hF : va_F A1 st₀ t) :
    H.size ≤ T'.heap.size ∧ (∀ q : Nat, q < H.size → ¬ A1 q → T'.heap[q]? = H[q]?) ∧ va_S A0 H0 T'.heap (locs ++ L) := by
  obtain ⟨hz, hk⟩ := hF
  rw [h0] at hz hk
  exact ⟨by rw [e1]; exact hz, fun q h1 h2 => by rw [e1]; exact hk q h1 h2,
    ⟨Nat.le_trans hS.1 (by rw [e1]; exact hz), fun q h1 h2 => by rw [e1, hk q (Nat.lt_of_lt_of_le h1 hS.1) (fun z => h2 (hA q (Nat.lt_of_lt_of_le h1 hS.1) z))]; exact hS.2.1 q h1 h2, fun q hq => by
      rcases List.mem_append.mp hq with h | h
      · exact hS.2.2 q h
      · exact hf _ (hL q h)⟩⟩
theorem vx_calli {S SX : Type} {post : Int32 → S → Prop} {px : SX → Prop} {B : S → State → Prop} {BX : String → SX → State → Prop} {AX : Nat → Prop} (hr : vx_Run p l e R s m args below meth c H locs cells slots mc ms (F0 m pc ls st0) rest (va_Qi post B A1 a) (vx_X px BX AX) free) (hS : va_S A0 H0 H locs) (hA : ∀ q, q < H.size → A1 q → A0 q) (hf : ∀ q, free q → A0 q) (hAX : ∀ q, q < H.size → AX q → A0 q)
    (kx : ∀ (E : String) (ce : Cell) (q9 : Addr) (u : SX) (t : State) (H1 : Heap) (locs1 : List Loc), t.heap = H1 → s.vm.Alike t.vm → px u → BX E u t → H.size ≤ H1.size → (∀ q : Nat, q < H.size → ¬ AX q → H1[q]? = H[q]?) → va_S A0 H0 H1 locs1 → H1[q9]? = some ce → ce.vm = .none → s.vm.findClass E = some ce.cls → vx_W p l e R s m args below meth c H1 locs1 (cells + mc) (slots + ms) Q (F0 m pc ls rest) q9)
    (kk : ∀ (r : Int32) (u : S) (t : State) (H1 : Heap) (locs1 : List Loc), t.heap = H1 → s.vm.Alike t.vm → post r u → B u t → H.size ≤ H1.size → (∀ q : Nat, q < H.size → ¬ A1 q → H1[q]? = H[q]?) → va_S A0 H0 H1 locs1 → W p l e R s m args below meth c H1 locs1 (cells + mc) (slots + ms) Q (F0 m (pc + 3) ls (.int r :: rest))) : W p l e R s m args below meth c H locs cells slots Q (F0 m pc ls st0) := by
  intro T hT X
  rcases hr T hT X with ⟨v, st₀, t, T', L, h0, X', hL, e1, e2, ⟨⟨r, u, hv, hp, hb⟩, hF⟩, st⟩ | ⟨q, st₀, t, T', L, E, ce, h0, X', hL, e1, e2, ⟨u, hp, hb, hF⟩, hce, hcv, hcl, st⟩
  · cases hv
    obtain ⟨k1, k2, k3⟩ := vx_keep h0 e1 hS hA hf hL hF
    obtain ⟨t2, a1, b1⟩ := kk r u t T'.heap (locs ++ L) e1.symm (by rw [← e2]; exact X'.warmed.alike) hp hb k1 k2 k3 T' rfl X'
    exact ⟨t2, st t2 a1, b1⟩
  · obtain ⟨k1, k2, k3⟩ := vx_keep h0 e1 hS hAX hf hL hF
    obtain ⟨t2, a1, b1⟩ := kx E ce q u t T'.heap (locs ++ L) e1.symm (by rw [← e2]; exact X'.warmed.alike) hp hb k1 k2 k3 (by rw [e1]; exact hce) hcv hcl T' rfl X'
    exact ⟨t2, st.trans a1, b1⟩
theorem vx_calll {S SX : Type} {post : Int64 → S → Prop} {px : SX → Prop} {B : S → State → Prop} {BX : String → SX → State → Prop} {AX : Nat → Prop} (hr : vx_Run p l e R s m args below meth c H locs cells slots mc ms (F0 m pc ls st0) rest (va_Ql post B A1 a) (vx_X px BX AX) free) (hS : va_S A0 H0 H locs) (hA : ∀ q, q < H.size → A1 q → A0 q) (hf : ∀ q, free q → A0 q) (hAX : ∀ q, q < H.size → AX q → A0 q)
    (kx : ∀ (E : String) (ce : Cell) (q9 : Addr) (u : SX) (t : State) (H1 : Heap) (locs1 : List Loc), t.heap = H1 → s.vm.Alike t.vm → px u → BX E u t → H.size ≤ H1.size → (∀ q : Nat, q < H.size → ¬ AX q → H1[q]? = H[q]?) → va_S A0 H0 H1 locs1 → H1[q9]? = some ce → ce.vm = .none → s.vm.findClass E = some ce.cls → vx_W p l e R s m args below meth c H1 locs1 (cells + mc) (slots + ms) Q (F0 m pc ls rest) q9)
    (kk : ∀ (r : Int64) (u : S) (t : State) (H1 : Heap) (locs1 : List Loc), t.heap = H1 → s.vm.Alike t.vm → post r u → B u t → H.size ≤ H1.size → (∀ q : Nat, q < H.size → ¬ A1 q → H1[q]? = H[q]?) → va_S A0 H0 H1 locs1 → W p l e R s m args below meth c H1 locs1 (cells + mc) (slots + ms) Q (F0 m (pc + 3) ls (.long r :: rest))) : W p l e R s m args below meth c H locs cells slots Q (F0 m pc ls st0) := by
  intro T hT X
  rcases hr T hT X with ⟨v, st₀, t, T', L, h0, X', hL, e1, e2, ⟨⟨r, u, hv, hp, hb⟩, hF⟩, st⟩ | ⟨q, st₀, t, T', L, E, ce, h0, X', hL, e1, e2, ⟨u, hp, hb, hF⟩, hce, hcv, hcl, st⟩
  · cases hv
    obtain ⟨k1, k2, k3⟩ := vx_keep h0 e1 hS hA hf hL hF
    obtain ⟨t2, a1, b1⟩ := kk r u t T'.heap (locs ++ L) e1.symm (by rw [← e2]; exact X'.warmed.alike) hp hb k1 k2 k3 T' rfl X'
    exact ⟨t2, st t2 a1, b1⟩
  · obtain ⟨k1, k2, k3⟩ := vx_keep h0 e1 hS hAX hf hL hF
    obtain ⟨t2, a1, b1⟩ := kx E ce q u t T'.heap (locs ++ L) e1.symm (by rw [← e2]; exact X'.warmed.alike) hp hb k1 k2 k3 (by rw [e1]; exact hce) hcv hcl T' rfl X'
    exact ⟨t2, st.trans a1, b1⟩
theorem vx_callf {S SX : Type} {post : UInt32 → S → Prop} {px : SX → Prop} {B : S → State → Prop} {BX : String → SX → State → Prop} {AX : Nat → Prop} (hr : vx_Run p l e R s m args below meth c H locs cells slots mc ms (F0 m pc ls st0) rest (va_Qf post B A1 a) (vx_X px BX AX) free) (hS : va_S A0 H0 H locs) (hA : ∀ q, q < H.size → A1 q → A0 q) (hf : ∀ q, free q → A0 q) (hAX : ∀ q, q < H.size → AX q → A0 q)
    (kx : ∀ (E : String) (ce : Cell) (q9 : Addr) (u : SX) (t : State) (H1 : Heap) (locs1 : List Loc), t.heap = H1 → s.vm.Alike t.vm → px u → BX E u t → H.size ≤ H1.size → (∀ q : Nat, q < H.size → ¬ AX q → H1[q]? = H[q]?) → va_S A0 H0 H1 locs1 → H1[q9]? = some ce → ce.vm = .none → s.vm.findClass E = some ce.cls → vx_W p l e R s m args below meth c H1 locs1 (cells + mc) (slots + ms) Q (F0 m pc ls rest) q9)
    (kk : ∀ (r : UInt32) (u : S) (t : State) (H1 : Heap) (locs1 : List Loc), t.heap = H1 → s.vm.Alike t.vm → post r u → B u t → H.size ≤ H1.size → (∀ q : Nat, q < H.size → ¬ A1 q → H1[q]? = H[q]?) → va_S A0 H0 H1 locs1 → W p l e R s m args below meth c H1 locs1 (cells + mc) (slots + ms) Q (F0 m (pc + 3) ls (.float r :: rest))) : W p l e R s m args below meth c H locs cells slots Q (F0 m pc ls st0) := by
  intro T hT X
  rcases hr T hT X with ⟨v, st₀, t, T', L, h0, X', hL, e1, e2, ⟨⟨r, u, hv, hp, hb⟩, hF⟩, st⟩ | ⟨q, st₀, t, T', L, E, ce, h0, X', hL, e1, e2, ⟨u, hp, hb, hF⟩, hce, hcv, hcl, st⟩
  · cases hv
    obtain ⟨k1, k2, k3⟩ := vx_keep h0 e1 hS hA hf hL hF
    obtain ⟨t2, a1, b1⟩ := kk r u t T'.heap (locs ++ L) e1.symm (by rw [← e2]; exact X'.warmed.alike) hp hb k1 k2 k3 T' rfl X'
    exact ⟨t2, st t2 a1, b1⟩
  · obtain ⟨k1, k2, k3⟩ := vx_keep h0 e1 hS hAX hf hL hF
    obtain ⟨t2, a1, b1⟩ := kx E ce q u t T'.heap (locs ++ L) e1.symm (by rw [← e2]; exact X'.warmed.alike) hp hb k1 k2 k3 (by rw [e1]; exact hce) hcv hcl T' rfl X'
    exact ⟨t2, st.trans a1, b1⟩
theorem vx_calld {S SX : Type} {post : UInt64 → S → Prop} {px : SX → Prop} {B : S → State → Prop} {BX : String → SX → State → Prop} {AX : Nat → Prop} (hr : vx_Run p l e R s m args below meth c H locs cells slots mc ms (F0 m pc ls st0) rest (va_Qd post B A1 a) (vx_X px BX AX) free) (hS : va_S A0 H0 H locs) (hA : ∀ q, q < H.size → A1 q → A0 q) (hf : ∀ q, free q → A0 q) (hAX : ∀ q, q < H.size → AX q → A0 q)
    (kx : ∀ (E : String) (ce : Cell) (q9 : Addr) (u : SX) (t : State) (H1 : Heap) (locs1 : List Loc), t.heap = H1 → s.vm.Alike t.vm → px u → BX E u t → H.size ≤ H1.size → (∀ q : Nat, q < H.size → ¬ AX q → H1[q]? = H[q]?) → va_S A0 H0 H1 locs1 → H1[q9]? = some ce → ce.vm = .none → s.vm.findClass E = some ce.cls → vx_W p l e R s m args below meth c H1 locs1 (cells + mc) (slots + ms) Q (F0 m pc ls rest) q9)
    (kk : ∀ (r : UInt64) (u : S) (t : State) (H1 : Heap) (locs1 : List Loc), t.heap = H1 → s.vm.Alike t.vm → post r u → B u t → H.size ≤ H1.size → (∀ q : Nat, q < H.size → ¬ A1 q → H1[q]? = H[q]?) → va_S A0 H0 H1 locs1 → W p l e R s m args below meth c H1 locs1 (cells + mc) (slots + ms) Q (F0 m (pc + 3) ls (.double r :: rest))) : W p l e R s m args below meth c H locs cells slots Q (F0 m pc ls st0) := by
  intro T hT X
  rcases hr T hT X with ⟨v, st₀, t, T', L, h0, X', hL, e1, e2, ⟨⟨r, u, hv, hp, hb⟩, hF⟩, st⟩ | ⟨q, st₀, t, T', L, E, ce, h0, X', hL, e1, e2, ⟨u, hp, hb, hF⟩, hce, hcv, hcl, st⟩
  · cases hv
    obtain ⟨k1, k2, k3⟩ := vx_keep h0 e1 hS hA hf hL hF
    obtain ⟨t2, a1, b1⟩ := kk r u t T'.heap (locs ++ L) e1.symm (by rw [← e2]; exact X'.warmed.alike) hp hb k1 k2 k3 T' rfl X'
    exact ⟨t2, st t2 a1, b1⟩
  · obtain ⟨k1, k2, k3⟩ := vx_keep h0 e1 hS hAX hf hL hF
    obtain ⟨t2, a1, b1⟩ := kx E ce q u t T'.heap (locs ++ L) e1.symm (by rw [← e2]; exact X'.warmed.alike) hp hb k1 k2 k3 (by rw [e1]; exact hce) hcv hcl T' rfl X'
    exact ⟨t2, st.trans a1, b1⟩
theorem vx_callv {S SX : Type} {post : S → Prop} {px : SX → Prop} {B : S → State → Prop} {BX : String → SX → State → Prop} {AX : Nat → Prop} (hr : vx_Run p l e R s m args below meth c H locs cells slots mc ms (F0 m pc ls st0) rest (va_Qv post B A1 a) (vx_X px BX AX) free) (hS : va_S A0 H0 H locs) (hA : ∀ q, q < H.size → A1 q → A0 q) (hf : ∀ q, free q → A0 q) (hAX : ∀ q, q < H.size → AX q → A0 q)
    (kx : ∀ (E : String) (ce : Cell) (q9 : Addr) (u : SX) (t : State) (H1 : Heap) (locs1 : List Loc), t.heap = H1 → s.vm.Alike t.vm → px u → BX E u t → H.size ≤ H1.size → (∀ q : Nat, q < H.size → ¬ AX q → H1[q]? = H[q]?) → va_S A0 H0 H1 locs1 → H1[q9]? = some ce → ce.vm = .none → s.vm.findClass E = some ce.cls → vx_W p l e R s m args below meth c H1 locs1 (cells + mc) (slots + ms) Q (F0 m pc ls rest) q9)
    (kk : ∀ (u : S) (t : State) (H1 : Heap) (locs1 : List Loc), t.heap = H1 → s.vm.Alike t.vm → post u → B u t → H.size ≤ H1.size → (∀ q : Nat, q < H.size → ¬ A1 q → H1[q]? = H[q]?) → va_S A0 H0 H1 locs1 → W p l e R s m args below meth c H1 locs1 (cells + mc) (slots + ms) Q (F0 m (pc + 3) ls (rest))) : W p l e R s m args below meth c H locs cells slots Q (F0 m pc ls st0) := by
  intro T hT X
  rcases hr T hT X with ⟨v, st₀, t, T', L, h0, X', hL, e1, e2, ⟨⟨u, hv, hp, hb⟩, hF⟩, st⟩ | ⟨q, st₀, t, T', L, E, ce, h0, X', hL, e1, e2, ⟨u, hp, hb, hF⟩, hce, hcv, hcl, st⟩
  · cases hv
    obtain ⟨k1, k2, k3⟩ := vx_keep h0 e1 hS hA hf hL hF
    obtain ⟨t2, a1, b1⟩ := kk u t T'.heap (locs ++ L) e1.symm (by rw [← e2]; exact X'.warmed.alike) hp hb k1 k2 k3 T' rfl X'
    exact ⟨t2, st t2 a1, b1⟩
  · obtain ⟨k1, k2, k3⟩ := vx_keep h0 e1 hS hAX hf hL hF
    obtain ⟨t2, a1, b1⟩ := kx E ce q u t T'.heap (locs ++ L) e1.symm (by rw [← e2]; exact X'.warmed.alike) hp hb k1 k2 k3 (by rw [e1]; exact hce) hcv hcl T' rfl X'
    exact ⟨t2, st.trans a1, b1⟩
/-- caught by the row x of this method's table; the rows ahead don't take it -/
theorem vx_catch {own name : String} {E : String} {ce : Cell} {q : Addr} (hown : s.vm.findClass own = some m.cls) (pre : List ExceptionTableEntry) (x : ExceptionTableEntry) (suf : List ExceptionTableEntry) (hsplit : c.exceptionTable.toList = pre ++ x :: suf)
    (hpass : ∀ z ∈ pre, covers z pc = false ∨ (z.catchType ≠ 0 ∧ ∃ nm : String, (Cond.classLink own z.catchType nm).before args s = true ∧ va_Nc E nm s)) (hx : covers x pc = true) (h0 : x.catchType ≠ 0)
    (hlink : (Cond.classLink own x.catchType name).before args s = true) (hcast : (Cond.castable E name).before args s = true) (hcell : H[q]? = some ce) (hv : ce.vm = .none) (hcl : s.vm.findClass E = some ce.cls)
    (kk : W p l e R s m args below meth c H locs cells slots Q (F0 m x.handlerPc ls [.ref q])) : vx_W p l e R s m args below meth c H locs cells slots Q (F0 m pc ls rest) q := by
  intro T hT X
  have hpl : e.platform.magicAccessors = ({} : Platform).magicAccessors := by rw [X.admits.platform]
  obtain ⟨c3, c4, hc3, hc4, hasg⟩ := Cond.castable_spec hcast
  cases Option.some.inj (hc3.symm.trans hcl)
  obtain ⟨c5, hc5, hcl5⟩ := Cond.classLink_spec hown hlink e.platform hpl
  cases Option.some.inj (hc4.symm.trans hc5)
  obtain ⟨vm', X', st⟩ := X.thenCaughtThrough q (g := F0 m pc ls rest) rfl (Steps.refl _) (by rw [hT]; exact hcell) (by rw [hv]; rfl) (by obtain ⟨k9, h9, -⟩ := Vm.findClass_spec hcl; exact ⟨k9, h9⟩) pre x suf hsplit
    (fun z hz => by
      rcases hpass z hz with h | ⟨hz0, nm, hl1, hn1⟩
      · exact Or.inl h
      · obtain ⟨c6, hc6, hcl6⟩ := Cond.classLink_spec hown hl1 e.platform hpl
        obtain ⟨a8, b8, h1, h2, h3⟩ := hn1
        cases Option.some.inj (h1.symm.trans hcl)
        cases Option.some.inj (h2.symm.trans hc6)
        exact Or.inr ⟨hz0, _, hcl6, h3⟩) hx (Or.inr ⟨h0, c4, hcl5, hasg⟩)
  obtain ⟨t, a1, b1⟩ := kk (T.setVm vm') hT X'
  exact ⟨t, st.trans a1, b1⟩
end Rows
section Ends
variable {p : Program} {l : Launch} {e : Env} {R : Room} {s : State} {m : MethodId} {args : Array Value} {below : List Frame} {meth : Method} {c : Code} {H : Heap} {locs : List Loc} {cells slots : Nat} {Q : State → Prop}
variable {mc ms : Nat} {free : Addr → Prop} {A0 A1 : Nat → Prop} {H0 : Heap} {a : Array Value} {ls : Array Slot} {st0 rest : List Value}
variable {Qc : Array Value → State → Outcome → State → Prop} {XC : String → State → State → Prop}
/-- what a body that may throw owes at its end -/
def vx_MQ (below : List Frame) (Qc : Array Value → State → Outcome → State → Prop) (XC : String → State → State → Prop) (a : Array Value) (s : State) (mc ms : Nat) (free : Addr → Prop) : State → Prop := fun t =>
  ∃ o, t.status = .running ∧ Ended t below o ∧ vx_Q Qc XC mc ms free a s o t
theorem vx_ret {g : JFrame} {mc ms : Nat} (k : W p l e R s m args below meth c H locs cells slots (MQ below Qc args s mc ms free) g) : W p l e R s m args below meth c H locs cells slots (vx_MQ below Qc XC args s mc ms free) g := by
  intro T hT X
  obtain ⟨t, a1, o, b1, b2, b3, b4⟩ := k T hT X
  exact ⟨t, a1, o, b1, b2, Or.inl ⟨b3, b4⟩⟩
/-- not caught here: it goes on to the caller -/
theorem vx_widen {g : JFrame} {q : Addr} {k n : Nat} (h1 : cells ≤ k) (h2 : slots ≤ n) (kk : vx_W p l e R s m args below meth c H locs k n Q g q) : vx_W p l e R s m args below meth c H locs cells slots Q g q := fun T hT X => kk T hT (stand_widen X h1 h2)
theorem vx_out {pc : Nat} {E : String} {ce : Cell} {q : Addr} {mc ms : Nat} (hout : ∀ x ∈ c.exceptionTable.toList, covers x pc = false) (hlocks : meth.locks = false) (hcell : H[q]? = some ce) (hv : ce.vm = .none) (hcl : s.vm.findClass E = some ce.cls)
    (hx : ∀ t : State, t.heap = H → s.vm.Alike t.vm → XC E s t) (hf : ∀ z ∈ locs, free z.base) (hc : cells ≤ mc) (hs : slots ≤ ms) :
    vx_W p l e R s m args below meth c H locs cells slots (vx_MQ below Qc XC args s mc ms free) (F0 m pc ls rest) q := by
  intro T hT X
  obtain ⟨st1, hrun, hend, hW, hsm⟩ := X.leaveThrown q (g := F0 m pc ls rest) rfl rfl rfl hout hlocks
  have hcell9 : (T.setFrames (.throwing q :: below)).heap[q]? = some ce := by
    show T.heap[q]? = some ce
    rw [hT]; exact hcell
  exact ⟨_, st1, .threw q, hrun, hend, Or.inr ⟨q, rfl, E, ce, locs, hx _ hT hW.alike, hcell9, hv, hcl, hW, hsm.mono hc hs, hf⟩⟩
theorem vx_frame {U : State} {k n : Nat} (h : s.sameButNew ({ U with vm := s.vm } : State) locs k n) : s.heap.size ≤ U.heap.size ∧ ∀ q : Nat, q < s.heap.size → (∀ z ∈ locs, z.base ≠ q) → U.heap[q]? = s.heap[q]? := by
  obtain ⟨-, h2, -, -, -, h6⟩ := h
  refine ⟨h2, fun q hq hz => ?_⟩
  obtain ⟨c9, e1, e2, e3, e4⟩ := h6 q _ (Array.getElem?_eq_getElem hq)
  have hs : c9.slots = (s.heap[q]).slots := Array.ext_getElem? fun i => e4 i fun hm => hz _ hm rfl
  have h9 : c9 = s.heap[q] := by
    rw [hs] at e2
    exact e2
  have e5 : U.heap[q]? = some c9 := e1
  rw [e5, h9, Array.getElem?_eq_getElem hq]
/-- the words of a throw but the four that speak of the heap -/
def vx_no (w : Cond) : Bool := decide (w ≠ .isRef (.static Bundle.tN "UNASSIGNED_STACK" Bundle.steD)) && decide (w ≠ .isRef (.static Bundle.tN "SUPPRESSED_SENTINEL" Bundle.listD)) && decide (w ≠ .laysStatic Bundle.tN "UNASSIGNED_STACK" Bundle.steD) && decide (w ≠ .laysStatic Bundle.tN "SUPPRESSED_SENTINEL" Bundle.listD)
def vx_at0 (own : String) (ic : Nat) (X : String) (names : List String) : List Cond := (Bundle.ownAtoms0 own ic X names).filter vx_no
def vx_atS (own : String) (ic : Nat) (X : String) (names : List String) : List Cond := (Bundle.ownAtoms own ic X names).filter vx_no
/-- a word that the tables alone decide, or a good one -/
def vx_ot (w : Cond) : Bool := w.onTables || goodWord w
theorem vx_ot_at {args a' : Array Value} {s U : State} {w : Cond} (hW : s.WarmedH U.vm) (hvm : s.vm = U.vm) (hg : vx_ot w = true) (h : w.before args s = true) : w.before a' U = true := by
  simp only [vx_ot, Bool.or_eq_true] at hg
  rcases hg with hg | hg
  · exact va_tabs hg hvm h
  · exact word_at hW (good_of_word hg) h
/-- a list's words: the good ones out of the method's own list, the others by premises of their own -/
theorem vx_hat {args : Array Value} {s : State} {L B : List Cond} (h1 : ∀ w ∈ L.filter goodWord, w.before args s = true) (h2 : ∀ w ∈ L.filter (fun w => !goodWord w), w ∈ B) (h3 : ∀ w ∈ B, w.before args s = true) : ∀ w ∈ L, w.before args s = true := by
  intro w hw
  by_cases g : goodWord w = true
  · exact h1 w (List.mem_filter.mpr ⟨hw, g⟩)
  · refine h3 w (h2 w (List.mem_filter.mpr ⟨hw, ?_⟩))
    show (!goodWord w) = true
    cases hgw : goodWord w
    · rfl
    · exact absurd hgw g
theorem vx_c {args : Array Value} {s : State} {w : Cond} {B : List Cond} (h : w.before args s = true) (t : ∀ w ∈ B, w.before args s = true) : ∀ w' ∈ w :: B, w'.before args s = true := fun w' h' => (List.mem_cons.mp h').elim (fun e => by rw [e]; exact h) (t w')
theorem vx_n {args : Array Value} {s : State} : ∀ w ∈ ([] : List Cond), w.before args s = true := fun _ h => nomatch h
theorem vx_own {args : Array Value} {s : State} {L : List Cond} (h1 : ∀ w ∈ L.filter vx_no, w.before args s = true)
    (hU : (Cond.isRef (.static Bundle.tN "UNASSIGNED_STACK" Bundle.steD)).before args s = true) (hN : (Cond.isRef (.static Bundle.tN "SUPPRESSED_SENTINEL" Bundle.listD)).before args s = true)
    (lU : (Cond.laysStatic Bundle.tN "UNASSIGNED_STACK" Bundle.steD).before args s = true) (lN : (Cond.laysStatic Bundle.tN "SUPPRESSED_SENTINEL" Bundle.listD).before args s = true) : ∀ w ∈ L, w.before args s = true := by
  intro w hw
  by_cases e1 : w = .isRef (.static Bundle.tN "UNASSIGNED_STACK" Bundle.steD)
  · rw [e1]; exact hU
  · by_cases e2 : w = .isRef (.static Bundle.tN "SUPPRESSED_SENTINEL" Bundle.listD)
    · rw [e2]; exact hN
    · by_cases e3 : w = .laysStatic Bundle.tN "UNASSIGNED_STACK" Bundle.steD
      · rw [e3]; exact lU
      · by_cases e4 : w = .laysStatic Bundle.tN "SUPPRESSED_SENTINEL" Bundle.listD
        · rw [e4]; exact lN
        · exact h1 w (List.mem_filter.mpr ⟨hw, by unfold vx_no; rw [decide_eq_true e1, decide_eq_true e2, decide_eq_true e3, decide_eq_true e4]; rfl⟩)
/-- where a static field lies, its class's statics cell in H -/
def vx_L (C n d : String) (A : Nat → Prop) (U : State) (H : Heap) : Prop := ∃ (c : ClassId) (k : Class) (i : Nat) (f : Field) (a : Nat) (cell : Cell), U.vm.findClass C = some c ∧ U.fieldFound? C n d = some (c, k, i, f) ∧ f.isStatic = true ∧ k.statics = some a ∧ H[a]? = some cell ∧ cell.vm.isStatics = true ∧ cell.cls = c ∧ f.slot < cell.slots.size ∧ k.staticTypes[f.slot]? = some f.type ∧ ¬ A a
theorem vx_L.moved {C n d : String} {A : Nat → Prop} {u U : State} {H : Heap} (hvm : u.vm.Alike U.vm) (h : vx_L C n d A u H) : vx_L C n d A U H := by
  obtain ⟨c, k, i, f, a, cell, h1, h2, h3, h4, h5, h6, h7, h8, h9, h10⟩ := h
  obtain ⟨k', hi', he⟩ := State.fieldFound?_setVm hvm h2
  exact ⟨c, k', i, f, a, cell, by rw [hvm.findClass]; exact h1, hi', h3, by rw [he]; exact h4, h5, h6, h7, h8, by rw [he]; exact h9, h10⟩
theorem vx_L.kept {C n d : String} {A : Nat → Prop} {U : State} {H H1 : Heap} (h : vx_L C n d A U H) (hq : ∀ a : Nat, a < H.size → ¬ A a → H1[a]? = H[a]?) : vx_L C n d A U H1 := by
  obtain ⟨c, k, i, f, a, cell, h1, h2, h3, h4, h5, h6, h7, h8, h9, h10⟩ := h
  exact ⟨c, k, i, f, a, cell, h1, h2, h3, h4, by rw [hq a (Array.getElem?_eq_some_iff.mp h5).1 h10]; exact h5, h6, h7, h8, h9, h10⟩
theorem vx_L.narrow {C n d : String} {A B : Nat → Prop} {U : State} {H : Heap} (h : vx_L C n d A U H) (hAB : ∀ q, B q → A q) : vx_L C n d B U H := by
  obtain ⟨c, k, i, f, a, cell, h1, h2, h3, h4, h5, h6, h7, h8, h9, h10⟩ := h
  exact ⟨c, k, i, f, a, cell, h1, h2, h3, h4, h5, h6, h7, h8, h9, fun z => h10 (hAB _ z)⟩
theorem vx_L.word {C n d : String} {A : Nat → Prop} {s : State} {args : Array Value} (h : vx_L C n d A s s.heap) : (Cond.laysStatic C n d).before args s = true := by
  obtain ⟨c, k, i, f, a, cell, h1, h2, h3, h4, h5, h6, h7, h8, h9, -⟩ := h
  show (Cond.laysStatic C n d).holds args s none s [] = true
  exact Cond.laysStatic_of h1 h2 h3 h4 h5 h6 h7 h8 h9
/-- .. and what it holds: null or some reference -/
def vx_Zq (C n d : String) (A : Nat → Prop) (U : State) (H : Heap) : Prop := va_Zq C n d A U H ∧ vx_L C n d A U H
theorem vx_Zq.moved {C n d : String} {A : Nat → Prop} {u U : State} {H : Heap} (hvm : u.vm.Alike U.vm) (h : vx_Zq C n d A u H) : vx_Zq C n d A U H := ⟨va_Zq.moved hvm h.1, vx_L.moved hvm h.2⟩
theorem vx_Zq.kept {C n d : String} {A : Nat → Prop} {U : State} {H H1 : Heap} (h : vx_Zq C n d A U H) (hq : ∀ a : Nat, a < H.size → ¬ A a → H1[a]? = H[a]?) : vx_Zq C n d A U H1 := ⟨va_Zq.kept h.1 hq, vx_L.kept h.2 hq⟩
theorem vx_Zq.narrow {C n d : String} {A B : Nat → Prop} {U : State} {H : Heap} (h : vx_Zq C n d A U H) (hAB : ∀ q, B q → A q) : vx_Zq C n d B U H := ⟨va_Zq.narrow h.1 hAB, vx_L.narrow h.2 hAB⟩
theorem vx_Zqof {args : Array Value} {s : State} {C n d : String} {A : Nat → Prop} (hl : (Cond.laysStatic C n d).before args s = true) (hini : (Cond.initialized C).before args s = true) (h : (Cond.isRef (.static C n d)).before args s = true) (hA : ∀ a : Nat, a < s.heap.size → ¬ A a) : vx_Zq C n d A s s.heap := by
  refine ⟨va_Zqof hl hini h hA, ?_⟩
  obtain ⟨c, k, i, f, a, cell, h1, h2, h3, h4, h5, h6, h7, h8, h9⟩ := Cond.laysStatic_spec hl
  exact ⟨c, k, i, f, a, cell, h1, h2, h3, h4, h5, h6, h7, h8, h9, hA a (Array.getElem?_eq_some_iff.mp h5).1⟩
theorem vx_isRef {C n d : String} {v : Value} {A : Nat → Prop} {s : State} {args : Array Value} (h : va_Z C n d v A s s.heap) (hv : v.isRef = true) : (Cond.isRef (.static C n d)).before args s = true := by
  obtain ⟨cf, kf, fi, f, a, cell, h1, h2, h3, h4, h5, h6, h7, -⟩ := h
  have he : (Term.static C n d).eval args s none [] s = some v := by
    simp [Term.eval, State.fieldNamed?, h1, h2, h4, h5, h6, h7]
  simp only [Cond.before, Cond.holds, Cond.value, he]
  cases v <;> simp_all [Value.isRef]
theorem vx_isRefq {C n d : String} {A : Nat → Prop} {s : State} {args : Array Value} (h : va_Zq C n d A s s.heap) : (Cond.isRef (.static C n d)).before args s = true := by
  rcases h with h | ⟨t, h⟩
  · exact vx_isRef h rfl
  · exact vx_isRef h rfl
/-- the same frame, seen from here: as if the method were called anew in this heap -/
theorem vx_rebase {T : State} (X : Stand p l e R s m args below meth c T locs cells slots) {R' : Room} (hf : R'.frames ≤ R.frames) (hl : R'.locals ≤ R.locals) (hc : cells + R'.cells ≤ R.cells) (hs : slots + R'.slots ≤ R.slots) :
    Stand p l e R' ((T.setVm s.vm).setFrames (.invoking m args :: below)) m args below meth c T [] 0 0 := by
  have htop : (T.setVm s.vm).topJava?.isSome := X.here.top
  have hF : ((T.setVm s.vm).setFrames (.invoking m args :: below)).frames = .invoking m args :: below := State.frames_setFrames _ (State.cur_lt_of_top htop)
  obtain ⟨g₀, hg0⟩ := Option.isSome_iff_exists.mp htop
  obtain ⟨r, hr⟩ := State.topJava?_eq_some.mp hg0
  have hl9 : e.platform.stackLimits (T.setVm s.vm).me = e.platform.stackLimits s.me := X.limits
  have hb9 : (T.setVm s.vm).me.stackBytes = s.me.stackBytes := X.bytes
  refine ⟨X.admits, X.cas, X.clock, hF, ?_, X.hears, X.method, X.code, X.here, X.tail, X.warmed, ?_, ?_, ?_⟩
  · have h := X.room
    have hU : ((T.setVm s.vm).setFrames (.invoking m args :: below)).localsInUse = s.localsInUse := by
      rw [State.localsInUse_invoking hF (meth := meth) (c := c) X.method X.code, State.localsInUse_invoking X.frames X.method X.code]
    simp only [State.hasRoom, Bool.and_eq_true, decide_eq_true_eq] at h ⊢
    obtain ⟨⟨⟨⟨h1, h2, h3, h4, h5, h6⟩, h7⟩, h8⟩, h9⟩ := h
    rw [X.frames, List.length_cons] at h2 h3
    have q1 := X.heapSize
    have q2 := X.used
    simp only [hF, hU, List.length_cons, State.stackLimits_setFrames, State.stackBytes_setFrames, hl9, hb9]
    refine ⟨⟨⟨⟨by omega, by omega, by omega, by omega, by omega, h6⟩, ?_⟩, ?_⟩, X.book⟩
    · show T.heap.size + R'.cells ≤ e.platform.maxCells
      omega
    · show T.slotsUsed + R'.slots ≤ e.platform.maxSlots
      omega
  · rw [State.stackLimits_setFrames]; rfl
  · rw [State.stackBytes_setFrames]; rfl
  · refine ⟨?_, Nat.le_refl _, Nat.le_refl _, ?_, ?_, fun a c9 h9 => ⟨c9, h9, rfl, rfl, fun _ _ => rfl⟩⟩
    · obtain ⟨t, ht, -⟩ := State.frames_cons hr
      show T.setVm s.vm = { ((T.setVm s.vm).setFrames (.invoking m args :: below)).setFrames (T.setVm s.vm).frames with heap := T.heap, slotsUsed := T.slotsUsed }
      rw [State.setFrames_setFrames, State.setFrames_self ht]
      rfl
    · show T.slotsUsed = T.slotsUsed + ((T.heap.toList.drop T.heap.size).map (·.slots.size)).sum
      rw [List.drop_eq_nil_of_le (Nat.le_of_eq Array.length_toList)]
      rfl
    · show ((T.heap.toList.drop T.heap.size).map (·.slots.size)).sum ≤ 0
      rw [List.drop_eq_nil_of_le (Nat.le_of_eq Array.length_toList)]
      exact Nat.le_refl _
/-- 'throw new E()': new; dup; invokespecial; athrow -/
theorem vx_throw0 {cc : ByteArray} {pc : Nat} (hexec : p.tables.exec = Jvm.exec) (hb : c.code = cc) (hl : l.stackTraces = false) {own cls : String} {names : List String} {ik ic mc ms : Nat} {A : Nat → Prop}
    (hown : s.vm.findClass own = some m.cls) (hcls : Bundle.fit cls = true) (hnames : ∀ n ∈ names, Bundle.fit n = true)
    (hk : (Cond.classLink own ik cls).before args s = true) (hini : (Cond.initialized cls).before args s = true) (hat : ∀ w ∈ vx_at0 own ic cls names, w.before args s = true)
    (hgood : ∀ w ∈ Cond.classLink own ik cls :: Cond.initialized cls :: vx_at0 own ic cls names, vx_ot w = true)
    (hU : vx_Zq Bundle.tN "UNASSIGNED_STACK" Bundle.steD A s s.heap) (hN : vx_Zq Bundle.tN "SUPPRESSED_SENTINEL" Bundle.listD A s s.heap) (hS : va_S A s.heap H locs) (hsize : ls.size = c.maxLocals)
    (d0 : decode cc pc = .ok (.new ik, 3)) (d3 : decode cc (pc + 3) = .ok (.dup, 1)) (d4 : decode cc (pc + 4) = .ok (.invokespecial ic, 3)) (d7 : decode cc (pc + 7) = .ok (.athrow, 1))
    (hout : ∀ x ∈ c.exceptionTable.toList, covers x (pc + 7) = false)
    (hRframes : names.length + 3 < R.frames) (hRlocals : (rest.map fun v => v.category).sum + (13 * (names.length + 1) + 42) ≤ R.locals) (hRcells : cells + 1 ≤ R.cells) (hRslots : slots + 6 ≤ R.slots) (hlocks : meth.locks = false)
    (hx : ∀ t : State, s.vm.Alike t.vm → H.size ≤ t.heap.size → (∀ q : Nat, q < H.size → t.heap[q]? = H[q]?) → XC cls s t)
    (hf : ∀ z ∈ locs, free z.base) (hc : cells + 1 ≤ mc) (hs : slots + 6 ≤ ms) :
    W p l e R s m args below meth c H locs cells slots (vx_MQ below Qc XC args s mc ms free) (F0 m pc ls rest) := by
  intro T hT X
  have htr : e.platform.stackTraces = false := (show e.platform.stackTraces = l.stackTraces by rw [X.admits.platform]).trans hl
  have Y := vx_rebase X (R' := { frames := R.frames, locals := R.locals, cells := 1, slots := 6 }) (Nat.le_refl _) (Nat.le_refl _) hRcells hRslots
  obtain ⟨s', hA⟩ : ∃ z, z = (T.setVm s.vm).setFrames (.invoking m args :: below) := ⟨_, rfl⟩
  rw [← hA] at Y
  have hvm : s'.vm = s.vm := by rw [hA]; rfl
  have hhp : s'.heap = H := by rw [hA]; exact hT
  have hW0 : s.WarmedH s'.vm := by rw [hvm]; exact State.WarmedH.refl s
  have hat' : ∀ w ∈ vx_at0 own ic cls names, w.before args s' = true := fun w hw => vx_ot_at hW0 hvm.symm (hgood w (List.mem_cons_of_mem _ (List.mem_cons_of_mem _ hw))) (hat w hw)
  have hk' : (Cond.classLink own ik cls).before args s' = true := vx_ot_at hW0 hvm.symm (hgood _ List.mem_cons_self) hk
  have hini' : (Cond.initialized cls).before args s' = true := vx_ot_at hW0 hvm.symm (hgood _ (List.mem_cons_of_mem _ List.mem_cons_self)) hini
  have hU' : vx_Zq Bundle.tN "UNASSIGNED_STACK" Bundle.steD A s' s'.heap := by rw [hhp]; exact vx_Zq.moved hW0.alike (hU.kept hS.2.1)
  have hN' : vx_Zq Bundle.tN "SUPPRESSED_SENTINEL" Bundle.listD A s' s'.heap := by rw [hhp]; exact vx_Zq.moved hW0.alike (hN.kept hS.2.1)
  have h : ∀ w ∈ Bundle.ownAtoms0 own ic cls names, w.before args s' = true := vx_own hat' (vx_isRefq hU'.1) (vx_isRefq hN'.1) hU'.2.word hN'.2.word
  have hown' : s'.vm.findClass own = some m.cls := by rw [hvm]; exact hown
  have hins : (Cond.instantiable cls 6).before args s' = true := h _ (by simp [Bundle.ownAtoms0])
  obtain ⟨vm₁, cX, kX, hfX, hkX, -, -, X₁, st1⟩ := Y.newCold hexec (own := own) (C := cls) (index := ik) (n := 6) hown' hk' hins hini'
    (g := F0 m pc ls rest) rfl (by rw [hb]; exact d0) (Nat.le_refl _) (Nat.le_refl _)
  generalize hT1 : (T.setVm vm₁).pushCell { cls := cX, slots := kX.instanceTypes.map defaultValue, vm := .none } = T1 at X₁ st1
  have hcat : (Value.ref T.heap.size).category = 1 := rfl
  have hcellA : T1.heap[T.heap.size]? = some (freshCell cX kX) := by rw [← hT1]; exact State.heap_pushCell_size _ _
  have d3' : decode c.code (pc + 3) = .ok (.dup, 1) := by rw [hb]; exact d3
  obtain ⟨U, hsteps, hrun, hend, hW, hsame, ce, hce, hO⟩ := X₁.ctorThrow0 hexec htr (own := own) (cls := cls) (names := names) (ic := ic) hown' hcls hnames h (fun x hx => nomatch hx) hfX hkX hcellA (by rw [hhp, hT]; exact Nat.le_refl _)
    (g := { method := m, pc := pc + 4, locals := ls, stack := .ref T.heap.size :: .ref T.heap.size :: rest, locked := none }) rfl hsize rfl rfl (rest := rest) rfl
    (by rw [hb]; exact d4) (by rw [hb]; exact d7) hout hRframes (by simp only [List.map_cons, List.sum_cons, hcat]; omega) hlocks
  obtain ⟨f1, f2⟩ := vx_frame hsame
  rw [hhp] at f1 f2
  have hWs : s.WarmedH U.vm := State.WarmedH.trans hW0 hW
  have hcl : s.vm.findClass cls = some ce.cls := by
    have h9 := hO.cls
    rw [hvm] at h9
    exact h9
  have hall : s.sameButNew ({ U with vm := s.vm } : State) locs mc ms := by
    subst hA
    obtain ⟨e1, e2⟩ := hsame
    rw [State.setFrames_setFrames] at e1
    have h2 : (T.setVm s.vm).sameButNew ({ U with vm := s.vm } : State) [] (0 + 1) (0 + 6) := ⟨e1, e2⟩
    have h3 := X.same.trans h2
    rw [List.append_nil] at h3
    exact h3.mono hc hs
  refine ⟨U, ?_, .threw T.heap.size, hrun, hend, Or.inr ⟨T.heap.size, rfl, cls, ce, locs, hx U hWs.alike f1 (fun q hq => f2 q hq (fun z hz => nomatch hz)), hce, hO.vm, hcl, hWs, hall, hf⟩⟩
  refine st1 _ ?_
  show Steps p.tables e below (T1.setTop { method := m, pc := pc + 3, locals := ls, stack := .ref T.heap.size :: rest, locked := none }) _
  jvm_step X₁.here [X₁.here.top, hexec, d3', Value.category]
  exact hsteps
/-- 'throw new E("text")': new; dup; ldc; invokespecial; athrow -/
theorem vx_throwS {cc : ByteArray} {pc : Nat} (hexec : p.tables.exec = Jvm.exec) (hb : c.code = cc) (hl : l.stackTraces = false) {own cls text : String} {names : List String} {ik is ic mc ms sa : Nat} {A : Nat → Prop}
    (hown : s.vm.findClass own = some m.cls) (hcls : Bundle.fit cls = true) (hnames : ∀ n ∈ names, Bundle.fit n = true)
    (hk : (Cond.classLink own ik cls).before args s = true) (hini : (Cond.initialized cls).before args s = true) (hstr : vk_R own is text sa s) (hat : ∀ w ∈ vx_atS own ic cls names, w.before args s = true)
    (hgood : ∀ w ∈ Cond.classLink own ik cls :: Cond.initialized cls :: vx_atS own ic cls names, vx_ot w = true)
    (hU : vx_Zq Bundle.tN "UNASSIGNED_STACK" Bundle.steD A s s.heap) (hN : vx_Zq Bundle.tN "SUPPRESSED_SENTINEL" Bundle.listD A s s.heap) (hS : va_S A s.heap H locs) (hsize : ls.size = c.maxLocals)
    (d0 : decode cc pc = .ok (.new ik, 3)) (d3 : decode cc (pc + 3) = .ok (.dup, 1)) (d4 : decode cc (pc + 4) = .ok (.ldc is, 2)) (d6 : decode cc (pc + 6) = .ok (.invokespecial ic, 3)) (d9 : decode cc (pc + 9) = .ok (.athrow, 1))
    (hout : ∀ x ∈ c.exceptionTable.toList, covers x (pc + 9) = false)
    (hRframes : names.length + 3 < R.frames) (hRlocals : (rest.map fun v => v.category).sum + (13 * (names.length + 1) + 43) ≤ R.locals) (hRcells : cells + 1 ≤ R.cells) (hRslots : slots + 6 ≤ R.slots) (hlocks : meth.locks = false)
    (hx : ∀ t : State, s.vm.Alike t.vm → H.size ≤ t.heap.size → (∀ q : Nat, q < H.size → t.heap[q]? = H[q]?) → XC cls s t)
    (hf : ∀ z ∈ locs, free z.base) (hc : cells + 1 ≤ mc) (hs : slots + 6 ≤ ms) :
    W p l e R s m args below meth c H locs cells slots (vx_MQ below Qc XC args s mc ms free) (F0 m pc ls rest) := by
  intro T hT X
  have htr : e.platform.stackTraces = false := (show e.platform.stackTraces = l.stackTraces by rw [X.admits.platform]).trans hl
  have Y := vx_rebase X (R' := { frames := R.frames, locals := R.locals, cells := 1, slots := 6 }) (Nat.le_refl _) (Nat.le_refl _) hRcells hRslots
  obtain ⟨s', hA⟩ : ∃ z, z = (T.setVm s.vm).setFrames (.invoking m args :: below) := ⟨_, rfl⟩
  rw [← hA] at Y
  have hvm : s'.vm = s.vm := by rw [hA]; rfl
  have hhp : s'.heap = H := by rw [hA]; exact hT
  have hW0 : s.WarmedH s'.vm := by rw [hvm]; exact State.WarmedH.refl s
  have hat' : ∀ w ∈ vx_atS own ic cls names, w.before args s' = true := fun w hw => vx_ot_at hW0 hvm.symm (hgood w (List.mem_cons_of_mem _ (List.mem_cons_of_mem _ hw))) (hat w hw)
  have hk' : (Cond.classLink own ik cls).before args s' = true := vx_ot_at hW0 hvm.symm (hgood _ List.mem_cons_self) hk
  have hini' : (Cond.initialized cls).before args s' = true := vx_ot_at hW0 hvm.symm (hgood _ (List.mem_cons_of_mem _ List.mem_cons_self)) hini
  have hU' : vx_Zq Bundle.tN "UNASSIGNED_STACK" Bundle.steD A s' s'.heap := by rw [hhp]; exact vx_Zq.moved hW0.alike (hU.kept hS.2.1)
  have hN' : vx_Zq Bundle.tN "SUPPRESSED_SENTINEL" Bundle.listD A s' s'.heap := by rw [hhp]; exact vx_Zq.moved hW0.alike (hN.kept hS.2.1)
  have h : ∀ w ∈ Bundle.ownAtoms own ic cls names, w.before args s' = true := vx_own hat' (vx_isRefq hU'.1) (vx_isRefq hN'.1) hU'.2.word hN'.2.word
  have hown' : s'.vm.findClass own = some m.cls := by rw [hvm]; exact hown
  have hins : (Cond.instantiable cls 6).before args s' = true := h _ (by simp [Bundle.ownAtoms])
  obtain ⟨vm₁, cX, kX, hfX, hkX, -, -, X₁, st1⟩ := Y.newCold hexec (own := own) (C := cls) (index := ik) (n := 6) hown' hk' hins hini'
    (g := F0 m pc ls rest) rfl (by rw [hb]; exact d0) (Nat.le_refl _) (Nat.le_refl _)
  generalize hT1 : (T.setVm vm₁).pushCell { cls := cX, slots := kX.instanceTypes.map defaultValue, vm := .none } = T1 at X₁ st1
  have hcat : (Value.ref T.heap.size).category = 1 := rfl
  have hcellA : T1.heap[T.heap.size]? = some (freshCell cX kX) := by rw [← hT1]; exact State.heap_pushCell_size _ _
  have d3' : decode c.code (pc + 3) = .ok (.dup, 1) := by rw [hb]; exact d3
  have d4' : decode c.code (pc + 4) = .ok (.ldc is, 2) := by rw [hb]; exact d4
  have hstr' : vk_R own is text sa s' := vk_R.warm hW0 hstr
  obtain ⟨U, hsteps, hrun, hend, hW, hsame, ce, hce, hO⟩ := X₁.ctorThrowS hexec htr (own := own) (cls := cls) (names := names) (ic := ic) hown' hcls hnames h (fun x hx => nomatch hx) hfX hkX hcellA (by rw [hhp, hT]; exact Nat.le_refl _) (msg := .ref sa) rfl
    (g := { method := m, pc := pc + 6, locals := ls, stack := .ref sa :: .ref T.heap.size :: .ref T.heap.size :: rest, locked := none }) rfl hsize rfl rfl (rest := rest) rfl
    (by rw [hb]; exact d6) (by rw [hb]; exact d9) hout hRframes (by simp only [List.map_cons, List.sum_cons, hcat]; omega) hlocks
  obtain ⟨f1, f2⟩ := vx_frame hsame
  rw [hhp] at f1 f2
  have hWs : s.WarmedH U.vm := State.WarmedH.trans hW0 hW
  have hcl : s.vm.findClass cls = some ce.cls := by
    have h9 := hO.cls
    rw [hvm] at h9
    exact h9
  have hall : s.sameButNew ({ U with vm := s.vm } : State) locs mc ms := by
    subst hA
    obtain ⟨e1, e2⟩ := hsame
    rw [State.setFrames_setFrames] at e1
    have h2 : (T.setVm s.vm).sameButNew ({ U with vm := s.vm } : State) [] (0 + 1) (0 + 6) := ⟨e1, e2⟩
    have h3 := X.same.trans h2
    rw [List.append_nil] at h3
    exact h3.mono hc hs
  refine ⟨U, ?_, .threw T.heap.size, hrun, hend, Or.inr ⟨T.heap.size, rfl, cls, ce, locs, hx U hWs.alike f1 (fun q hq => f2 q hq (fun z hz => nomatch hz)), hce, hO.vm, hcl, hWs, hall, hf⟩⟩
  refine st1 _ ?_
  show Steps p.tables e below (T1.setTop { method := m, pc := pc + 3, locals := ls, stack := .ref T.heap.size :: rest, locked := none }) _
  jvm_step X₁.here [X₁.here.top, hexec, d3', Value.category]
  exact X₁.ldcString hexec (own := own) (text := text) (index := is) (a := sa) hown' hstr'.1 hstr'.2
    (g := { method := m, pc := pc + 4, locals := ls, stack := .ref T.heap.size :: .ref T.heap.size :: rest, locked := none }) rfl d4' _ hsteps
/-- 'throw new E("text")', the text by a wide index -/
theorem vx_throwSW {cc : ByteArray} {pc : Nat} (hexec : p.tables.exec = Jvm.exec) (hb : c.code = cc) (hl : l.stackTraces = false) {own cls text : String} {names : List String} {ik is ic mc ms sa : Nat} {A : Nat → Prop}
    (hown : s.vm.findClass own = some m.cls) (hcls : Bundle.fit cls = true) (hnames : ∀ n ∈ names, Bundle.fit n = true)
    (hk : (Cond.classLink own ik cls).before args s = true) (hini : (Cond.initialized cls).before args s = true) (hstr : vk_R own is text sa s) (hat : ∀ w ∈ vx_atS own ic cls names, w.before args s = true)
    (hgood : ∀ w ∈ Cond.classLink own ik cls :: Cond.initialized cls :: vx_atS own ic cls names, vx_ot w = true)
    (hU : vx_Zq Bundle.tN "UNASSIGNED_STACK" Bundle.steD A s s.heap) (hN : vx_Zq Bundle.tN "SUPPRESSED_SENTINEL" Bundle.listD A s s.heap) (hS : va_S A s.heap H locs) (hsize : ls.size = c.maxLocals)
    (d0 : decode cc pc = .ok (.new ik, 3)) (d3 : decode cc (pc + 3) = .ok (.dup, 1)) (d4 : decode cc (pc + 4) = .ok (.ldc_w is, 3)) (d7 : decode cc (pc + 7) = .ok (.invokespecial ic, 3)) (d10 : decode cc (pc + 10) = .ok (.athrow, 1))
    (hout : ∀ x ∈ c.exceptionTable.toList, covers x (pc + 10) = false)
    (hRframes : names.length + 3 < R.frames) (hRlocals : (rest.map fun v => v.category).sum + (13 * (names.length + 1) + 43) ≤ R.locals) (hRcells : cells + 1 ≤ R.cells) (hRslots : slots + 6 ≤ R.slots) (hlocks : meth.locks = false)
    (hx : ∀ t : State, s.vm.Alike t.vm → H.size ≤ t.heap.size → (∀ q : Nat, q < H.size → t.heap[q]? = H[q]?) → XC cls s t)
    (hf : ∀ z ∈ locs, free z.base) (hc : cells + 1 ≤ mc) (hs : slots + 6 ≤ ms) :
    W p l e R s m args below meth c H locs cells slots (vx_MQ below Qc XC args s mc ms free) (F0 m pc ls rest) := by
  intro T hT X
  have htr : e.platform.stackTraces = false := (show e.platform.stackTraces = l.stackTraces by rw [X.admits.platform]).trans hl
  have Y := vx_rebase X (R' := { frames := R.frames, locals := R.locals, cells := 1, slots := 6 }) (Nat.le_refl _) (Nat.le_refl _) hRcells hRslots
  obtain ⟨s', hA⟩ : ∃ z, z = (T.setVm s.vm).setFrames (.invoking m args :: below) := ⟨_, rfl⟩
  rw [← hA] at Y
  have hvm : s'.vm = s.vm := by rw [hA]; rfl
  have hhp : s'.heap = H := by rw [hA]; exact hT
  have hW0 : s.WarmedH s'.vm := by rw [hvm]; exact State.WarmedH.refl s
  have hat' : ∀ w ∈ vx_atS own ic cls names, w.before args s' = true := fun w hw => vx_ot_at hW0 hvm.symm (hgood w (List.mem_cons_of_mem _ (List.mem_cons_of_mem _ hw))) (hat w hw)
  have hk' : (Cond.classLink own ik cls).before args s' = true := vx_ot_at hW0 hvm.symm (hgood _ List.mem_cons_self) hk
  have hini' : (Cond.initialized cls).before args s' = true := vx_ot_at hW0 hvm.symm (hgood _ (List.mem_cons_of_mem _ List.mem_cons_self)) hini
  have hU' : vx_Zq Bundle.tN "UNASSIGNED_STACK" Bundle.steD A s' s'.heap := by rw [hhp]; exact vx_Zq.moved hW0.alike (hU.kept hS.2.1)
  have hN' : vx_Zq Bundle.tN "SUPPRESSED_SENTINEL" Bundle.listD A s' s'.heap := by rw [hhp]; exact vx_Zq.moved hW0.alike (hN.kept hS.2.1)
  have h : ∀ w ∈ Bundle.ownAtoms own ic cls names, w.before args s' = true := vx_own hat' (vx_isRefq hU'.1) (vx_isRefq hN'.1) hU'.2.word hN'.2.word
  have hown' : s'.vm.findClass own = some m.cls := by rw [hvm]; exact hown
  have hins : (Cond.instantiable cls 6).before args s' = true := h _ (by simp [Bundle.ownAtoms])
  obtain ⟨vm₁, cX, kX, hfX, hkX, -, -, X₁, st1⟩ := Y.newCold hexec (own := own) (C := cls) (index := ik) (n := 6) hown' hk' hins hini'
    (g := F0 m pc ls rest) rfl (by rw [hb]; exact d0) (Nat.le_refl _) (Nat.le_refl _)
  generalize hT1 : (T.setVm vm₁).pushCell { cls := cX, slots := kX.instanceTypes.map defaultValue, vm := .none } = T1 at X₁ st1
  have hcat : (Value.ref T.heap.size).category = 1 := rfl
  have hcellA : T1.heap[T.heap.size]? = some (freshCell cX kX) := by rw [← hT1]; exact State.heap_pushCell_size _ _
  have d3' : decode c.code (pc + 3) = .ok (.dup, 1) := by rw [hb]; exact d3
  have d4' : decode c.code (pc + 4) = .ok (.ldc_w is, 3) := by rw [hb]; exact d4
  have hstr' : vk_R own is text sa s' := vk_R.warm hW0 hstr
  obtain ⟨U, hsteps, hrun, hend, hW, hsame, ce, hce, hO⟩ := X₁.ctorThrowS hexec htr (own := own) (cls := cls) (names := names) (ic := ic) hown' hcls hnames h (fun x hx => nomatch hx) hfX hkX hcellA (by rw [hhp, hT]; exact Nat.le_refl _) (msg := .ref sa) rfl
    (g := { method := m, pc := pc + 7, locals := ls, stack := .ref sa :: .ref T.heap.size :: .ref T.heap.size :: rest, locked := none }) rfl hsize rfl rfl (rest := rest) rfl
    (by rw [hb]; exact d7) (by rw [hb]; exact d10) hout hRframes (by simp only [List.map_cons, List.sum_cons, hcat]; omega) hlocks
  obtain ⟨f1, f2⟩ := vx_frame hsame
  rw [hhp] at f1 f2
  have hWs : s.WarmedH U.vm := State.WarmedH.trans hW0 hW
  have hcl : s.vm.findClass cls = some ce.cls := by
    have h9 := hO.cls
    rw [hvm] at h9
    exact h9
  have hall : s.sameButNew ({ U with vm := s.vm } : State) locs mc ms := by
    subst hA
    obtain ⟨e1, e2⟩ := hsame
    rw [State.setFrames_setFrames] at e1
    have h2 : (T.setVm s.vm).sameButNew ({ U with vm := s.vm } : State) [] (0 + 1) (0 + 6) := ⟨e1, e2⟩
    have h3 := X.same.trans h2
    rw [List.append_nil] at h3
    exact h3.mono hc hs
  refine ⟨U, ?_, .threw T.heap.size, hrun, hend, Or.inr ⟨T.heap.size, rfl, cls, ce, locs, hx U hWs.alike f1 (fun q hq => f2 q hq (fun z hz => nomatch hz)), hce, hO.vm, hcl, hWs, hall, hf⟩⟩
  refine st1 _ ?_
  show Steps p.tables e below (T1.setTop { method := m, pc := pc + 3, locals := ls, stack := .ref T.heap.size :: rest, locked := none }) _
  jvm_step X₁.here [X₁.here.top, hexec, d3', Value.category]
  exact X₁.ldcStringW hexec (own := own) (text := text) (index := is) (a := sa) hown' hstr'.1 hstr'.2
    (g := { method := m, pc := pc + 4, locals := ls, stack := .ref T.heap.size :: .ref T.heap.size :: rest, locked := none }) rfl d4' _ hsteps
end Ends
section Bodies
variable {l : Launch}
theorem vx_ofW {y : MethodName} {ws ws' : List Cond} {rm : Room} {Pc : Array Value → State → Prop} {Qc : Array Value → State → Outcome → State → Prop} {XC : String → State → State → Prop} {mc ms : Nat} {free : Addr → Prop} {cc : ByteArray} {maxL : Nat} {ret : Option FieldType}
    (hy : plainName y.cls = true) (hw : ws = Cond.code y cc maxL ret :: ws')
    (body : ∀ p e s m args below meth c s₁, BodyLoose p l y (headSpec ws rm) cc maxL ret e s m args below meth c s₁ → c.maxLocals = maxL → (∀ x ∈ c.exceptionTable.toList, False) → Pc args s →
      W p l e (headSpec ws rm).room s m args below meth c s.heap [] 0 0 (vx_MQ below Qc XC args s mc ms free) (entryFrame m args maxL)) : vx_Met l y ws rm Pc Qc XC mc ms free := by
  refine MetFree.of_bodyS (code := cc) (maxLocals := maxL) (ret := ret) hy ?_ ?_
  · intro args s m h hn
    obtain ⟨meth, c, h1, h2, h3, h4, h5, h6, -, -⟩ := Cond.code_spec hn (atoms_spec (ws := ws) h _ (by rw [hw]; exact List.mem_cons_self))
    exact ⟨meth, c, h1, h2, h3, h4, h5, h6⟩
  · intro p e s m args below meth c s₁ B hml hP _
    have hh0 : s₁.heap = s.heap := by rw [B.state]; rfl
    have ht : ∀ x ∈ c.exceptionTable.toList, False := by
      obtain ⟨meth9, c9, h1, h2, -, -, -, -, h7, -⟩ := Cond.code_spec B.named (atoms_spec (ws := ws) B.pre _ (by rw [hw]; exact List.mem_cons_self))
      cases Option.some.inj (h1.symm.trans B.method)
      cases Option.some.inj (h2.symm.trans (Stand.of_body B).code)
      intro x hx
      rw [Array.isEmpty_iff.mp h7] at hx
      cases hx
    obtain ⟨t, a1, o, b1, b2, b3⟩ := body p e s m args below meth c s₁ B hml ht hP s₁ hh0 (Stand.of_body B)
    exact ⟨t, o, a1, b1, b2, b3⟩
/-- the table of a body with handlers -/
theorem vx_table {p : Program} {x y : MethodName} {S : Spec} {cc bytes : ByteArray} {maxL maxL' : Nat} {ret ret' : Option FieldType} {e : Env} {s s₁ : State} {m : MethodId} {args : Array Value} {below : List Frame} {meth : Method} {c : Code} {hh : List (Nat × Nat × Nat × Nat)}
    (B : BodyLoose p l y S cc maxL ret e s m args below meth c s₁) (h : (Cond.codeWith y bytes maxL' ret' hh).before args s = true) : c.exceptionTable.toList = tableOf hh := by
  obtain ⟨m9, meth9, c9, hn9, h1, h2, -, -, h6, -⟩ := Cond.codeWith_spec h
  cases Option.some.inj (hn9.symm.trans B.named)
  cases Option.some.inj (h1.symm.trans B.method)
  cases Option.some.inj (h2.symm.trans (Stand.of_body B).code)
  rw [← h6, table_eq]
end Bodies
end VXA
/-! ===== END ===== -/
/-! ===== BEGIN a static call of a method with an exception table ===== -/
section VXS
variable {p : Program} {l : Launch} {e : Env} {R : Room} {s : State} {m : MethodId} {args : Array Value} {below : List Frame} {meth : Method} {c : Code} {T : State} {H : Heap} {locs : List Loc} {cells slots : Nat}
abbrev vx_CSW (R : Room) (s : State) (args : Array Value) (own : String) (index : Nat) (y : MethodName) (bytes : ByteArray) (maxL : Nat) (ret : Option FieldType) (hh : List (Nat × Nat × Nat × Nat)) (ws : List Cond) (rm : Room) (mc ms n : Nat) : Prop :=
  (rm.cells = mc ∧ rm.slots = ms ∧ rm.frames + 1 ≤ R.frames ∧ 8 + (maxL + 11) + rm.locals ≤ R.locals ∧ (∀ w ∈ ws, ∀ (a' : Array Value) (U : State), s.WarmedH U.vm → w.before a' U = true) ∧ Cond.codeWith y bytes maxL ret hh ∈ ws) ∧
  (Cond.codeWith y bytes maxL ret hh).before args s = true ∧ (Cond.initialized y.cls).before args s = true ∧ (y.cls ≠ "java/lang/invoke/MethodHandle" ∧ y.cls ≠ "java/lang/invoke/VarHandle") ∧
  (∀ sig, parseMethodDescriptor y.desc = some sig → n = sig.parameters.length) ∧ (Cond.methodLink own index y).before args s = true ∧ (Cond.static y).before args s = true
theorem vx_cwSW {own : String} {index maxL mc ms : Nat} {y : MethodName} {bytes : ByteArray} {ret : Option FieldType} {hh : List (Nat × Nat × Nat × Nat)} {Ts ws ws' : List Cond} {rm : Room} (n : Nat) (ht : ∀ w ∈ Ts, w.before args s = true) (hT : GoodIn Ts (va_wsS own index y ws)) (hw : ws = Cond.codeWith y bytes maxL ret hh :: ws') (hrc : rm.cells = mc) (hrs : rm.slots = ms)
    (hd : y.cls ≠ "java/lang/invoke/MethodHandle" ∧ y.cls ≠ "java/lang/invoke/VarHandle" ∧ (parseMethodDescriptor y.desc).map (fun d => d.parameters.length) = some n) (hR : rm.frames + 1 ≤ R.frames ∧ 8 + (maxL + 11) + rm.locals ≤ R.locals) :
    vx_CSW R s args own index y bytes maxL ret hh ws rm mc ms n := by
  have ok : ∀ w ∈ va_wsS own index y ws, w.before args s = true := fun w h => ht w (hT w h).1
  have hG : GoodIn Ts ws := fun w h => hT w (by unfold va_wsS; exact List.mem_append_right _ h)
  have hc : Cond.codeWith y bytes maxL ret hh ∈ ws := by rw [hw]; exact List.mem_cons_self
  refine ⟨⟨hrc, hrs, hR.1, hR.2, pay_in ht hG, hc⟩, ht _ (hG _ hc).1, ok _ (by simp [va_wsS]), ⟨hd.1, hd.2.1⟩, fun sig h => ?_, ok _ (by simp [va_wsS]), ok _ (by simp [va_wsS])⟩
  have h2 := hd.2.2
  rw [h] at h2
  exact (Option.some.inj h2).symm
theorem vx_callSW (X : Stand p l e R s m args below meth c T locs cells slots) (hexec : p.tables.exec = Jvm.exec) {own : String} {index : Nat} {y : MethodName} {bytes : ByteArray} {maxL : Nat} {ret : Option FieldType} {hh : List (Nat × Nat × Nat × Nat)}
    (hown : s.vm.findClass own = some m.cls) (hlink : (Cond.methodLink own index y).before args s = true) (hstat : (Cond.static y).before args s = true) (hinit : (Cond.initialized y.cls).before args s = true)
    (hcode : (Cond.codeWith y bytes maxL ret hh).before args s = true) (hy : y.cls ≠ "java/lang/invoke/MethodHandle" ∧ y.cls ≠ "java/lang/invoke/VarHandle")
    {W9 : Nat} {Pre : Pt → Array Value → Prop} {Post : Pt → Array Value → Option Value → Pt → Prop} (hK : Back l R p e below s args y 3 W9 Pre Post)
    {g : JFrame} (hg : g.method = m) (hsize : g.locals.size = c.maxLocals) {argsL rest : List Value} (hlen : ∀ sig, parseMethodDescriptor y.desc = some sig → argsL.length = sig.parameters.length)
    (hstack : g.stack = argsL.reverse ++ rest) (hW : 2 * g.monitorRoom + (rest.map fun v => v.category).sum ≤ W9) (hdg : decode c.code g.pc = .ok (.invokestatic index, 3))
    (hpre : ∀ vm₁, s.WarmedH vm₁ → Pre ⟨T.setVm vm₁, locs, cells, slots⟩ argsL.toArray) :
    ∃ (v : Option Value) (vm₁ : Vm) (B : Pt), s.WarmedH vm₁ ∧ Stand p l e R s m args below meth c B.U B.locs B.cells B.slots ∧ Post ⟨T.setVm vm₁, locs, cells, slots⟩ argsL.toArray v B ∧
      ∀ target, Steps p.tables e below (B.U.setTop { g with pc := g.pc + 3, stack := v.toList ++ rest }) target → Steps p.tables e below (T.setTop g) target := by
  obtain ⟨mk, methM, cM, hnamed, hmethM, -, -, -, -, -, -, hsigM⟩ := Cond.codeWith_spec hcode
  have hstatic : methM.isStatic = true := Cond.static_spec hnamed hmethM hstat
  obtain ⟨kP, hkP, -⟩ := className_of_methodNamed hnamed
  have hinitP : kP.init = .initialized := Cond.initialized_spec (findClass_of_methodNamed hnamed) hkP hinit
  obtain ⟨vm₁, X₁, hstep₁⟩ := X.invokestatic hexec hown hlink hnamed hmethM hstatic hkP hinitP hy (g := g) hg (argsL := argsL) (rest := rest) (hlen _ hsigM) hstack hdg
  obtain ⟨v, B, X', hpost, hsteps⟩ := hK m meth c ⟨T.setVm vm₁, locs, cells, slots⟩ { g with stack := rest } (.invokestatic index) mk argsL.toArray X₁ hg hsize hdg hW (X₁.named hnamed) (hpre vm₁ X₁.warmed)
  exact ⟨v, vm₁, B, X₁.warmed, X', hpost, fun target h => hstep₁ _ fun acts => by rw [doInvoke_state]; exact hsteps.trans h⟩
theorem vx_runSW {y : MethodName} {bytes cc : ByteArray} {maxL nL mc ms n index : Nat} {ret : Option FieldType} {hh : List (Nat × Nat × Nat × Nat)} {ws : List Cond} {rm : Room} {Pc : Array Value → State → Prop} {Qc : Array Value → State → Outcome → State → Prop} {free : Addr → Prop} {Ts : List Cond} {own : String} {As rest : List Value} {g : JFrame}
    (S : CallFix p m c cc nL s args Ts own) (hM : Met l y ws rm Pc Qc mc ms free) (cw : vx_CSW R s args own index y bytes maxL ret hh ws rm mc ms n) (hp : PreS s H Pc As)
    (hg : g.method = m) (hn : As.length = n) (hsize : g.locals.size = nL) (hstack : g.stack = As.reverse ++ rest) (hW : 2 * g.monitorRoom + (rest.map fun v => v.category).sum ≤ 8) (hdg : decode cc g.pc = .ok (.invokestatic index, 3)) (hf : cells + mc ≤ R.cells ∧ slots + ms ≤ R.slots) :
    va_Run p l e R s m args below meth c H locs cells slots mc ms g rest (Qc As.toArray) (free) := by
  obtain ⟨⟨hrc, hrs, hfr, hlo, hws, hcw⟩, hcode, hini, hy, hlen, hl, hstt⟩ := cw
  have hK : Back l R p e below s args y 3 8 (PreOf R mc ms Pc) (PostOf Qc mc ms free) := va_backW (hh := hh) (bytes := bytes) (maxL := maxL) (ret := ret) hM hp.1 hrc hrs hfr hlo hws hcw (fun a' U hW => word_at hW (Or.inl (by first | rfl | simp [Cond.onTables, Cond.keeps, Cond.steady])) hini)
  obtain ⟨hx, hb, hml, ho, -⟩ := S
  intro T hT X
  obtain ⟨v, vm₁, ⟨U', l2, c2, s2⟩, hW₁, X', ⟨g', mk, t, L, e1, e2, hq, h1, hL, h2, h3⟩, st⟩ := vx_callSW X hx (hh := hh) (bytes := bytes) (maxL := maxL) (ret := ret) ho hl hstt hini hcode hy hK hg (hsize.trans hml.symm) (argsL := As) (rest := rest) (fun sig h => hn.trans (hlen sig h)) hstack hW (by rw [hb]; exact hdg)
    (fun vm₁ hW₁ => ⟨hf.1, hf.2, hp.2 (T.setVm vm₁) hT hW₁⟩)
  dsimp only [Pt.U, Pt.locs, Pt.cells, Pt.slots] at X' e1 e2 h1 h2 h3 st
  subst h1; subst h2; subst h3
  exact ⟨v, (T.setVm vm₁).calling g' mk As.toArray, t, U', L, hT, X', hL, e1, e2, hq, st⟩
/-- not caught here, past rows that name other classes: it goes on to the caller -/
theorem vx_outP {p : Program} {l : Launch} {e : Env} {R : Room} {s : State} {m : MethodId} {args : Array Value} {below : List Frame} {meth : Method} {c : Code} {H : Heap} {locs : List Loc} {cells slots : Nat} {free : Addr → Prop} {ls : Array Slot} {rest : List Value} {Qc : Array Value → State → Outcome → State → Prop} {XC : String → State → State → Prop}
    {pc : Nat} {own E : String} {ce : Cell} {q : Addr} {mc ms : Nat} (hown : s.vm.findClass own = some m.cls) (hlocks : meth.locks = false)
    (hpass : ∀ z ∈ c.exceptionTable.toList, covers z pc = false ∨ (z.catchType ≠ 0 ∧ ∃ nm : String, (Cond.classLink own z.catchType nm).before args s = true ∧ va_Nc E nm s)) (hcell : H[q]? = some ce) (hv : ce.vm = .none) (hcl : s.vm.findClass E = some ce.cls)
    (hx : ∀ t : State, t.heap = H → s.vm.Alike t.vm → XC E s t) (hf : ∀ z ∈ locs, free z.base) (hc : cells ≤ mc) (hs : slots ≤ ms) :
    vx_W p l e R s m args below meth c H locs cells slots (vx_MQ below Qc XC args s mc ms free) (F0 m pc ls rest) q := by
  intro T hT X
  have hpl : e.platform.magicAccessors = ({} : Platform).magicAccessors := by rw [X.admits.platform]
  obtain ⟨vm', hW', X', st⟩ := X.outThrough hlocks q (g := F0 m pc ls rest) rfl rfl rfl (cell := ce) (by rw [hT]; exact hcell) (by rw [hv]; rfl)
    (by obtain ⟨k9, h9, -⟩ := Vm.findClass_spec hcl; exact ⟨k9, h9⟩) (fun z hz => by
      rcases hpass z hz with h | ⟨hz0, nm, hl1, hn1⟩
      · exact Or.inl h
      · obtain ⟨c6, hc6, hcl6⟩ := Cond.classLink_spec hown hl1 e.platform hpl
        obtain ⟨a8, b8, h1, h2, h3⟩ := hn1
        cases Option.some.inj (h1.symm.trans hcl)
        cases Option.some.inj (h2.symm.trans hc6)
        exact Or.inr ⟨hz0, _, hcl6, h3⟩)
  obtain ⟨g₀, hfr⟩ := X'.frames_eq
  have hcell9 : ((T.setVm vm').setFrames (.throwing q :: below)).heap[q]? = some ce := by
    show T.heap[q]? = some ce
    rw [hT]; exact hcell
  have hend : Ended ((T.setVm vm').setFrames (.throwing q :: below)) below (.threw q) := State.frames_setFrames _ (State.cur_lt_of_frames hfr)
  refine ⟨(T.setVm vm').setFrames (.throwing q :: below), ?_, .threw q, X'.here.running, hend, Or.inr ⟨q, rfl, E, ce, locs, hx _ hT (X'.ends _).1.alike, hcell9, hv, hcl, (X'.ends _).1, (X'.ends _).2.mono hc hs, hf⟩⟩
  rw [X.pushThrowing_eq]
  exact st
/-- a thing of a world lies in the heap -/
theorem vx_lt {D : va_G} {cl : List vw_C} {ws : va_W} {H1 : Heap} (h : va_P D cl ws H1) {k : Nat} {q : Nat × va_E} (hk : ws[k]? = some q) : q.1 < H1.size := (h k q hk).lt
end VXS
/-! ===== END ===== -/
/-! ===== BEGIN methods with a table of their own: called by a name, returning or throwing ===== -/
section VXH
/-! vx_backW, vx_callVX, vx_callSX, vx_callVW, vx_runVW, vx_runVX, vx_runSX, vx_ofWH follow the same proofs as their sisters above (Free/Laws.lean, Shelf42/LK1.lean); vx_outP calls Shelf42/NT130.lean (outThrough). -/
section
variable {l : Launch} {R : Room} {p : Program} {e : Env} {below : List Frame} {s : State} {sargs : Array Value} {y : MethodName} {len W9 : Nat}
theorem vx_backW {ws : List Cond} {rm : Room} {Pc : Array Value → State → Prop} {Qc : Array Value → State → Outcome → State → Prop} {XC : String → State → State → Prop} {mc ms : Nat} {free : Addr → Prop} {bytes : ByteArray} {maxL : Nat} {ret : Option FieldType} {hh : List (Nat × Nat × Nat × Nat)}
    (hM : vx_Met l y ws rm Pc Qc XC mc ms free) (hblind : FrameBlind Pc) (hrc : rm.cells = mc) (hrs : rm.slots = ms)
    (hframes : rm.frames + 1 ≤ R.frames) (hlocals : W9 + (maxL + 11) + rm.locals ≤ R.locals)
    (hws : ∀ w ∈ ws, ∀ a' U, s.WarmedH U.vm → w.before a' U = true) (hcode : Cond.codeWith y bytes maxL ret hh ∈ ws) (hinit : ∀ a' U, s.WarmedH U.vm → (Cond.initialized y.cls).before a' U = true) :
    vx_Back l R p e below s sargs y len W9 (PreOf R mc ms Pc) (PostOf Qc mc ms free) (vx_Post XC mc ms free) := by
  intro m meth c A g ig mk a X hg hsize hdg hW hn hp
  have h1 : (headSpec ws rm).pre.before a A.U = true := atoms_intro fun w hw => hws w hw _ _ X.warmed
  have h2 : (Cond.codeWith y bytes maxL ret hh).before a A.U = true := hws _ hcode _ _ X.warmed
  have h3 : (Cond.initialized y.cls).before a A.U = true := hinit _ _ X.warmed
  have h4 : A.cells + (headSpec ws rm).room.cells ≤ R.cells := by rw [show (headSpec ws rm).room.cells = mc from hrc]; exact hp.1
  have h5 : A.slots + (headSpec ws rm).room.slots ≤ R.slots := by rw [show (headSpec ws rm).room.slots = ms from hrs]; exact hp.2.1
  have hPc : Pc a (A.U.calling g mk a) := hblind _ _ _ _ hp.2.2
  obtain ⟨U, Ls, c0, s0⟩ := A
  dsimp only [Pt.U, Pt.locs, Pt.cells, Pt.slots] at h1 h2 h3 h4 h5 X hn hPc ⊢
  obtain ⟨m9, methY, cY, hn9, hmY, hcY, -, hlY, -⟩ := Cond.codeWith_spec h2
  cases Option.some.inj (hn9.symm.trans hn)
  obtain ⟨kY, hkY, -⟩ := className_of_methodNamed hn
  have hinitY : kY.init = .initialized := Cond.initialized_spec (findClass_of_methodNamed hn) hkY h3
  have h : At U g.method c below := by rw [hg]; exact X.here
  have hlocals9 : W9 + (maxL + 11) + (headSpec ws rm).room.locals ≤ R.locals := hlocals
  have happ : (headSpec ws rm).appliesLoose y e.platform (U.calling g mk a) = true :=
    Spec.appliesLoose_calling (g := g) h hdg hn hkY hinitY
      (X.room_calling (g := g) (R' := (headSpec ws rm).room) hsize hmY hcY hframes (by rw [hlY]; omega) h4 h5) h1
  obtain ⟨mid, hmid⟩ := h.above
  have hfr : (U.setTop g).frames = (.java g :: mid) ++ below := by rw [State.frames_setTop' g h.top, hmid]; rfl
  obtain ⟨o, s₂, hsteps, -, hend, hq⟩ := Steps.callFree hM p X.admits X.cas X.clock (acts := []) hfr happ hPc trivial
  have hq' : vx_Q Qc XC mc ms free a (U.calling g mk a) o s₂ := hq
  rw [State.frames_setTop' g h.top] at hend
  obtain ⟨g₀, hg0⟩ := Option.isSome_iff_exists.mp h.top
  obtain ⟨r, hr⟩ := State.topJava?_eq_some.mp hg0
  have hr' : (({ U with heap := s₂.heap, slotsUsed := s₂.slotsUsed } : State).setVm s₂.vm).frames = .java g₀ :: r := hr
  rcases hq' with ⟨hqc, L, hfe, hL⟩ | ⟨q, rfl, E, ce, L, hx, hce, hcv, hcl, hW₂, hsm, hL⟩
  · obtain ⟨⟨v, rfl⟩, hW₂, e2, q2, q3, q4, q5, q6⟩ := id hfe
    have e3 : s₂ = ({ (U.calling g mk a).setFrames s₂.frames with heap := s₂.heap, slotsUsed := s₂.slotsUsed } : State).setVm s₂.vm := by
      have : s₂ = ({ s₂ with vm := (U.calling g mk a).vm } : State).setVm s₂.vm := rfl
      rw [e2] at this
      exact this
    obtain ⟨c₂, i₂, len₂, hc₂, hd₂, hf₂⟩ := hend
    have hW' : U.WarmedH s₂.vm := hW₂
    have hcc : c₂ = c := by
      have h1 : s₂.code? g.method = U.code? g.method := by
        rw [State.code?_eq, State.code?_eq, hW'.alike.method?]
      exact Option.some.inj (hc₂.symm.trans (h1.trans h.code))
    subst hcc
    have hlen : len₂ = len := by rw [hdg] at hd₂; cases hd₂; rfl
    subst hlen
    have hs₂ : s₂ = (({ U with heap := s₂.heap, slotsUsed := s₂.slotsUsed } : State).setVm s₂.vm).setTop { g with pc := g.pc + len₂, stack := v.toList ++ g.stack } := by
      refine e3.trans ?_
      rw [hf₂, State.calling_eq h.top, State.setFrames_setFrames, State.setTop_of_frames _ hr', hr]
      rfl
    have hsame : U.sameButNew ({ U with heap := s₂.heap, slotsUsed := s₂.slotsUsed } : State) L mc ms := by
      refine ⟨?_, q2, q3, q4, q5, q6⟩
      obtain ⟨t, ht, -⟩ := State.frames_cons hr
      show ({ U with heap := s₂.heap, slotsUsed := s₂.slotsUsed } : State) = { U.setFrames U.frames with heap := s₂.heap, slotsUsed := s₂.slotsUsed }
      rw [State.setFrames_self ht]
    subst hg
    refine Or.inl ⟨v, ⟨(({ U with heap := s₂.heap, slotsUsed := s₂.slotsUsed } : State).setVm s₂.vm), Ls ++ L, c0 + mc, s0 + ms⟩,
      ⟨X.admits, X.cas, X.clock, X.frames, X.room, X.hears, X.method, X.code, (X.here.setHeapUsed s₂.heap s₂.slotsUsed).setVm hW'.alike, X.tail, State.WarmedH.trans X.warmed hW', X.limits, X.bytes, X.same.trans (hsame.setVm s.vm)⟩,
      ⟨g, mk, s₂, L, rfl, rfl, hqc, rfl, hL, rfl, rfl⟩, ?_⟩
    show Steps p.tables e below _ ((({ U with heap := s₂.heap, slotsUsed := s₂.slotsUsed } : State).setVm s₂.vm).setTop { g with pc := g.pc + len₂, stack := v.toList ++ g.stack })
    rw [← hs₂]
    exact hsteps
  · obtain ⟨e2, q2, q3, q4, q5, q6⟩ := id hsm
    have e3 : s₂ = ({ (U.calling g mk a).setFrames s₂.frames with heap := s₂.heap, slotsUsed := s₂.slotsUsed } : State).setVm s₂.vm := by
      have : s₂ = ({ s₂ with vm := (U.calling g mk a).vm } : State).setVm s₂.vm := rfl
      rw [e2] at this
      exact this
    have hf₂ : s₂.frames = .throwing q :: .java g :: U.frames.tail := hend
    have hW' : U.WarmedH s₂.vm := hW₂
    have hs₂ : s₂ = ((({ U with heap := s₂.heap, slotsUsed := s₂.slotsUsed } : State).setVm s₂.vm).setTop g).pushFrame (.throwing q) := by
      refine e3.trans ?_
      rw [hf₂, State.calling_eq h.top, State.setFrames_setFrames, State.pushFrame, State.frames_setTop _ hr', State.setTop_of_frames _ hr', State.setFrames_setFrames, hr]
      rfl
    have hsame : U.sameButNew ({ U with heap := s₂.heap, slotsUsed := s₂.slotsUsed } : State) L mc ms := by
      refine ⟨?_, q2, q3, q4, q5, q6⟩
      obtain ⟨t, ht, -⟩ := State.frames_cons hr
      show ({ U with heap := s₂.heap, slotsUsed := s₂.slotsUsed } : State) = { U.setFrames U.frames with heap := s₂.heap, slotsUsed := s₂.slotsUsed }
      rw [State.setFrames_self ht]
    subst hg
    refine Or.inr ⟨q, ⟨(({ U with heap := s₂.heap, slotsUsed := s₂.slotsUsed } : State).setVm s₂.vm), Ls ++ L, c0 + mc, s0 + ms⟩,
      ⟨X.admits, X.cas, X.clock, X.frames, X.room, X.hears, X.method, X.code, (X.here.setHeapUsed s₂.heap s₂.slotsUsed).setVm hW'.alike, X.tail, State.WarmedH.trans X.warmed hW', X.limits, X.bytes, X.same.trans (hsame.setVm s.vm)⟩,
      ⟨g, mk, s₂, L, E, ce, rfl, rfl, hx, hce, hcv, hcl, rfl, hL, rfl, rfl⟩, ?_⟩
    show Steps p.tables e below _ (((({ U with heap := s₂.heap, slotsUsed := s₂.slotsUsed } : State).setVm s₂.vm).setTop g).pushFrame (.throwing q))
    rw [← hs₂]
    exact hsteps
end
variable {p : Program} {l : Launch} {e : Env} {R : Room} {s : State} {m : MethodId} {args : Array Value} {below : List Frame} {meth : Method} {c : Code} {T : State} {H : Heap} {locs : List Loc} {cells slots : Nat}
theorem vx_callVX (X : Stand p l e R s m args below meth c T locs cells slots) (hexec : p.tables.exec = Jvm.exec) {own C : String} {index : Nat} {y : MethodName} {bytes : ByteArray} {maxL : Nat} {ret : Option FieldType} {hh : List (Nat × Nat × Nat × Nat)}
    (hown : s.vm.findClass own = some m.cls) (hlink : (Cond.methodLink own index y).before args s = true) (hinst : (Cond.instanceMethod y).before args s = true) (hsel : (Cond.selects C y y).before args s = true)
    (hcode : (Cond.codeWith y bytes maxL ret hh).before args s = true) (hy : y.cls ≠ "java/lang/invoke/MethodHandle" ∧ y.cls ≠ "java/lang/invoke/VarHandle")
    {W9 : Nat} {Pre : Pt → Array Value → Prop} {Post : Pt → Array Value → Option Value → Pt → Prop} {PostX : Pt → Array Value → Addr → Pt → Prop} (hK : vx_Back l R p e below s args y 3 W9 Pre Post PostX)
    {b : Addr} {cellB : Cell} (hcell : T.heap[b]? = some cellB) (hobj : cellB.vm.isStatics = false) (hcls : s.vm.findClass C = some cellB.cls)
    {g : JFrame} (hg : g.method = m) (hsize : g.locals.size = c.maxLocals) {argsL rest : List Value} (hlen : ∀ sig, parseMethodDescriptor y.desc = some sig → argsL.length = sig.parameters.length)
    (hstack : g.stack = argsL.reverse ++ .ref b :: rest) (hW : 2 * g.monitorRoom + (rest.map fun v => v.category).sum ≤ W9) (hdg : decode c.code g.pc = .ok (.invokevirtual index, 3))
    (hpre : ∀ vm₁, s.WarmedH vm₁ → Pre ⟨T.setVm vm₁, locs, cells, slots⟩ (Value.ref b :: argsL).toArray) :
    (∃ (v : Option Value) (vm₁ : Vm) (B : Pt), s.WarmedH vm₁ ∧ Stand p l e R s m args below meth c B.U B.locs B.cells B.slots ∧ Post ⟨T.setVm vm₁, locs, cells, slots⟩ (Value.ref b :: argsL).toArray v B ∧
      ∀ target, Steps p.tables e below (B.U.setTop { g with pc := g.pc + 3, stack := v.toList ++ rest }) target → Steps p.tables e below (T.setTop g) target) ∨
    (∃ (q : Addr) (vm₁ : Vm) (B : Pt), s.WarmedH vm₁ ∧ Stand p l e R s m args below meth c B.U B.locs B.cells B.slots ∧ PostX ⟨T.setVm vm₁, locs, cells, slots⟩ (Value.ref b :: argsL).toArray q B ∧
      Steps p.tables e below (T.setTop g) ((B.U.setTop { g with stack := rest }).pushFrame (.throwing q))) := by
  obtain ⟨mk, methM, hnamed, hmethM, hstM, habM⟩ := Cond.instanceMethod_spec hinst
  obtain ⟨m8, methM', cM, hn8, hmethM', -, -, -, -, -, -, hsigM⟩ := Cond.codeWith_spec hcode
  cases Option.some.inj (hn8.symm.trans hnamed)
  cases hmethM.symm.trans hmethM'
  obtain ⟨c2, r2, m2, q1, q2, q3, q4, kP, hkP, hkPi⟩ := Cond.selects_spec hsel
  cases hcls.symm.trans q1
  cases (State.methodFound?_of_named hnamed hy).symm.trans q2
  cases hnamed.symm.trans q3
  have hselP : selectMethod e.platform s.vm cellB.cls mk = .method mk := by rw [Launch.admits_selectMethod X.admits]; exact q4
  obtain ⟨vm₁, X₁, hstep₁⟩ := X.invokevirtual hexec hown hlink hnamed hmethM hstM hkP hkPi hy (a := b) (cell := cellB) hcell
    (fun z h => by rw [h] at hobj; cases hobj) hselP hmethM habM hkP hkPi (g := g) hg (argsL := argsL) (rest := rest) (hlen _ hsigM) hstack hdg
  rcases hK m meth c ⟨T.setVm vm₁, locs, cells, slots⟩ { g with stack := rest } (.invokevirtual index) mk (Value.ref b :: argsL).toArray X₁ hg hsize hdg hW (X₁.named hnamed) (hpre vm₁ X₁.warmed) with ⟨v, B, X', hpost, hsteps⟩ | ⟨q, B, X', hpost, hsteps⟩
  · exact Or.inl ⟨v, vm₁, B, X₁.warmed, X', hpost, fun target h => hstep₁ _ fun acts => by rw [doInvoke_state]; exact hsteps.trans h⟩
  · exact Or.inr ⟨q, vm₁, B, X₁.warmed, X', hpost, hstep₁ _ fun acts => by rw [doInvoke_state]; exact hsteps⟩
theorem vx_callSX (X : Stand p l e R s m args below meth c T locs cells slots) (hexec : p.tables.exec = Jvm.exec) {own : String} {index : Nat} {y : MethodName} {bytes : ByteArray} {maxL : Nat} {ret : Option FieldType} {hh : List (Nat × Nat × Nat × Nat)}
    (hown : s.vm.findClass own = some m.cls) (hlink : (Cond.methodLink own index y).before args s = true) (hstat : (Cond.static y).before args s = true) (hinit : (Cond.initialized y.cls).before args s = true)
    (hcode : (Cond.codeWith y bytes maxL ret hh).before args s = true) (hy : y.cls ≠ "java/lang/invoke/MethodHandle" ∧ y.cls ≠ "java/lang/invoke/VarHandle")
    {W9 : Nat} {Pre : Pt → Array Value → Prop} {Post : Pt → Array Value → Option Value → Pt → Prop} {PostX : Pt → Array Value → Addr → Pt → Prop} (hK : vx_Back l R p e below s args y 3 W9 Pre Post PostX)
    {g : JFrame} (hg : g.method = m) (hsize : g.locals.size = c.maxLocals) {argsL rest : List Value} (hlen : ∀ sig, parseMethodDescriptor y.desc = some sig → argsL.length = sig.parameters.length)
    (hstack : g.stack = argsL.reverse ++ rest) (hW : 2 * g.monitorRoom + (rest.map fun v => v.category).sum ≤ W9) (hdg : decode c.code g.pc = .ok (.invokestatic index, 3))
    (hpre : ∀ vm₁, s.WarmedH vm₁ → Pre ⟨T.setVm vm₁, locs, cells, slots⟩ argsL.toArray) :
    (∃ (v : Option Value) (vm₁ : Vm) (B : Pt), s.WarmedH vm₁ ∧ Stand p l e R s m args below meth c B.U B.locs B.cells B.slots ∧ Post ⟨T.setVm vm₁, locs, cells, slots⟩ argsL.toArray v B ∧
      ∀ target, Steps p.tables e below (B.U.setTop { g with pc := g.pc + 3, stack := v.toList ++ rest }) target → Steps p.tables e below (T.setTop g) target) ∨
    (∃ (q : Addr) (vm₁ : Vm) (B : Pt), s.WarmedH vm₁ ∧ Stand p l e R s m args below meth c B.U B.locs B.cells B.slots ∧ PostX ⟨T.setVm vm₁, locs, cells, slots⟩ argsL.toArray q B ∧
      Steps p.tables e below (T.setTop g) ((B.U.setTop { g with stack := rest }).pushFrame (.throwing q))) := by
  obtain ⟨mk, methM, cM, hnamed, hmethM, -, -, -, -, -, -, hsigM⟩ := Cond.codeWith_spec hcode
  have hstatic : methM.isStatic = true := Cond.static_spec hnamed hmethM hstat
  obtain ⟨kP, hkP, -⟩ := className_of_methodNamed hnamed
  have hinitP : kP.init = .initialized := Cond.initialized_spec (findClass_of_methodNamed hnamed) hkP hinit
  obtain ⟨vm₁, X₁, hstep₁⟩ := X.invokestatic hexec hown hlink hnamed hmethM hstatic hkP hinitP hy (g := g) hg (argsL := argsL) (rest := rest) (hlen _ hsigM) hstack hdg
  rcases hK m meth c ⟨T.setVm vm₁, locs, cells, slots⟩ { g with stack := rest } (.invokestatic index) mk argsL.toArray X₁ hg hsize hdg hW (X₁.named hnamed) (hpre vm₁ X₁.warmed) with ⟨v, B, X', hpost, hsteps⟩ | ⟨q, B, X', hpost, hsteps⟩
  · exact Or.inl ⟨v, vm₁, B, X₁.warmed, X', hpost, fun target h => hstep₁ _ fun acts => by rw [doInvoke_state]; exact hsteps.trans h⟩
  · exact Or.inr ⟨q, vm₁, B, X₁.warmed, X', hpost, hstep₁ _ fun acts => by rw [doInvoke_state]; exact hsteps⟩
theorem vx_callVW (X : Stand p l e R s m args below meth c T locs cells slots) (hexec : p.tables.exec = Jvm.exec) {own C : String} {index : Nat} {y : MethodName} {bytes : ByteArray} {maxL : Nat} {ret : Option FieldType} {hh : List (Nat × Nat × Nat × Nat)}
    (hown : s.vm.findClass own = some m.cls) (hlink : (Cond.methodLink own index y).before args s = true) (hinst : (Cond.instanceMethod y).before args s = true) (hsel : (Cond.selects C y y).before args s = true)
    (hcode : (Cond.codeWith y bytes maxL ret hh).before args s = true) (hy : y.cls ≠ "java/lang/invoke/MethodHandle" ∧ y.cls ≠ "java/lang/invoke/VarHandle")
    {W9 : Nat} {Pre : Pt → Array Value → Prop} {Post : Pt → Array Value → Option Value → Pt → Prop} (hK : Back l R p e below s args y 3 W9 Pre Post)
    {b : Addr} {cellB : Cell} (hcell : T.heap[b]? = some cellB) (hobj : cellB.vm.isStatics = false) (hcls : s.vm.findClass C = some cellB.cls)
    {g : JFrame} (hg : g.method = m) (hsize : g.locals.size = c.maxLocals) {argsL rest : List Value} (hlen : ∀ sig, parseMethodDescriptor y.desc = some sig → argsL.length = sig.parameters.length)
    (hstack : g.stack = argsL.reverse ++ .ref b :: rest) (hW : 2 * g.monitorRoom + (rest.map fun v => v.category).sum ≤ W9) (hdg : decode c.code g.pc = .ok (.invokevirtual index, 3))
    (hpre : ∀ vm₁, s.WarmedH vm₁ → Pre ⟨T.setVm vm₁, locs, cells, slots⟩ (Value.ref b :: argsL).toArray) :
    ∃ (v : Option Value) (vm₁ : Vm) (B : Pt), s.WarmedH vm₁ ∧ Stand p l e R s m args below meth c B.U B.locs B.cells B.slots ∧ Post ⟨T.setVm vm₁, locs, cells, slots⟩ (Value.ref b :: argsL).toArray v B ∧
      ∀ target, Steps p.tables e below (B.U.setTop { g with pc := g.pc + 3, stack := v.toList ++ rest }) target → Steps p.tables e below (T.setTop g) target := by
  obtain ⟨mk, methM, hnamed, hmethM, hstM, habM⟩ := Cond.instanceMethod_spec hinst
  obtain ⟨m8, methM', cM, hn8, hmethM', -, -, -, -, -, -, hsigM⟩ := Cond.codeWith_spec hcode
  cases Option.some.inj (hn8.symm.trans hnamed)
  cases hmethM.symm.trans hmethM'
  obtain ⟨c2, r2, m2, q1, q2, q3, q4, kP, hkP, hkPi⟩ := Cond.selects_spec hsel
  cases hcls.symm.trans q1
  cases (State.methodFound?_of_named hnamed hy).symm.trans q2
  cases hnamed.symm.trans q3
  have hselP : selectMethod e.platform s.vm cellB.cls mk = .method mk := by rw [Launch.admits_selectMethod X.admits]; exact q4
  obtain ⟨vm₁, X₁, hstep₁⟩ := X.invokevirtual hexec hown hlink hnamed hmethM hstM hkP hkPi hy (a := b) (cell := cellB) hcell
    (fun z h => by rw [h] at hobj; cases hobj) hselP hmethM habM hkP hkPi (g := g) hg (argsL := argsL) (rest := rest) (hlen _ hsigM) hstack hdg
  obtain ⟨v, B, X', hpost, hsteps⟩ := hK m meth c ⟨T.setVm vm₁, locs, cells, slots⟩ { g with stack := rest } (.invokevirtual index) mk (Value.ref b :: argsL).toArray X₁ hg hsize hdg hW (X₁.named hnamed) (hpre vm₁ X₁.warmed)
  exact ⟨v, vm₁, B, X₁.warmed, X', hpost, fun target h => hstep₁ _ fun acts => by rw [doInvoke_state]; exact hsteps.trans h⟩
abbrev vx_CVW (R : Room) (s : State) (args : Array Value) (own C : String) (index : Nat) (y : MethodName) (bytes : ByteArray) (maxL : Nat) (ret : Option FieldType) (hh : List (Nat × Nat × Nat × Nat)) (ws : List Cond) (rm : Room) (mc ms n : Nat) : Prop :=
  (rm.cells = mc ∧ rm.slots = ms ∧ rm.frames + 1 ≤ R.frames ∧ 8 + (maxL + 11) + rm.locals ≤ R.locals ∧ (∀ w ∈ ws, ∀ (a' : Array Value) (U : State), s.WarmedH U.vm → w.before a' U = true) ∧ Cond.codeWith y bytes maxL ret hh ∈ ws) ∧
  (Cond.codeWith y bytes maxL ret hh).before args s = true ∧ (Cond.initialized y.cls).before args s = true ∧ (y.cls ≠ "java/lang/invoke/MethodHandle" ∧ y.cls ≠ "java/lang/invoke/VarHandle") ∧
  (∀ sig, parseMethodDescriptor y.desc = some sig → n = sig.parameters.length) ∧ (Cond.methodLink own index y).before args s = true ∧ (Cond.instanceMethod y).before args s = true ∧ (Cond.selects C y y).before args s = true
theorem vx_cwVW {own C : String} {index maxL mc ms : Nat} {y : MethodName} {bytes : ByteArray} {ret : Option FieldType} {hh : List (Nat × Nat × Nat × Nat)} {Ts ws ws' : List Cond} {rm : Room} (n : Nat) (ht : ∀ w ∈ Ts, w.before args s = true) (hT : GoodIn Ts (wsV own index C y ws)) (hw : ws = Cond.codeWith y bytes maxL ret hh :: ws') (hrc : rm.cells = mc) (hrs : rm.slots = ms)
    (hd : y.cls = C ∧ y.cls ≠ "java/lang/invoke/MethodHandle" ∧ y.cls ≠ "java/lang/invoke/VarHandle" ∧ (parseMethodDescriptor y.desc).map (fun d => d.parameters.length) = some n) (hR : rm.frames + 1 ≤ R.frames ∧ 8 + (maxL + 11) + rm.locals ≤ R.locals) :
    vx_CVW R s args own C index y bytes maxL ret hh ws rm mc ms n := by
  obtain ⟨hC, hd⟩ := hd
  subst hC
  have ok : ∀ w ∈ wsV own index y.cls y ws, w.before args s = true := fun w h => ht w (hT w h).1
  have hG : GoodIn Ts ws := fun w h => hT w (by unfold wsV; exact List.mem_append_right _ h)
  have hc : Cond.codeWith y bytes maxL ret hh ∈ ws := by rw [hw]; exact List.mem_cons_self
  refine ⟨⟨hrc, hrs, hR.1, hR.2, pay_in ht hG, hc⟩, ht _ (hG _ hc).1, ok _ (by simp [wsV]), ⟨hd.1, hd.2.1⟩, fun sig h => ?_, ok _ (by simp [wsV]), ok _ (by simp [wsV]), ok _ (by simp [wsV])⟩
  have h2 := hd.2.2
  rw [h] at h2
  exact (Option.some.inj h2).symm
theorem vx_runVW {y : MethodName} {bytes cc : ByteArray} {maxL nL mc ms n index : Nat} {ret : Option FieldType} {hh : List (Nat × Nat × Nat × Nat)} {ws : List Cond} {rm : Room} {Pc : Array Value → State → Prop} {Qc : Array Value → State → Outcome → State → Prop} {free : Addr → Prop} {Ts : List Cond} {own C : String} {b : Addr} {As rest : List Value} {g : JFrame}
    (S : CallFix p m c cc nL s args Ts own) (hM : Met l y ws rm Pc Qc mc ms free) (cw : vx_CVW R s args own C index y bytes maxL ret hh ws rm mc ms n) (hp : PreV s H C b Pc As)
    (hg : g.method = m) (hn : As.length = n) (hsize : g.locals.size = nL) (hstack : g.stack = As.reverse ++ .ref b :: rest) (hW : 2 * g.monitorRoom + (rest.map fun v => v.category).sum ≤ 8) (hdg : decode cc g.pc = .ok (.invokevirtual index, 3)) (hf : cells + mc ≤ R.cells ∧ slots + ms ≤ R.slots) :
    va_Run p l e R s m args below meth c H locs cells slots mc ms g rest (Qc (Value.ref b :: As).toArray) free := by
  obtain ⟨⟨hrc, hrs, hfr, hlo, hws, hcw⟩, hcode, hini, hy, hlen, hl, hin, hse⟩ := cw
  have hK : Back l R p e below s args y 3 8 (PreOf R mc ms Pc) (PostOf Qc mc ms free) := va_backW (hh := hh) (bytes := bytes) (maxL := maxL) (ret := ret) hM hp.1 hrc hrs hfr hlo hws hcw (fun a' U hW => word_at hW (Or.inl (by first | rfl | simp [Cond.onTables, Cond.keeps, Cond.steady])) hini)
  obtain ⟨hx, hb, hml, ho, -⟩ := S
  obtain ⟨-, ⟨cellB, hcB, hoB, hclB⟩, hPc⟩ := hp
  intro T hT X
  obtain ⟨v, vm₁, ⟨U', l2, c2, s2⟩, hW₁, X', ⟨g', mk, t, L, e1, e2, hq, h1, hL, h2, h3⟩, st⟩ := vx_callVW X hx (C := C) (hh := hh) (bytes := bytes) (maxL := maxL) (ret := ret) ho hl hin hse hcode hy hK (by rw [hT]; exact hcB) hoB hclB hg (hsize.trans hml.symm) (argsL := As) (rest := rest) (fun sig h => hn.trans (hlen sig h)) hstack hW (by rw [hb]; exact hdg)
    (fun vm₁ hW₁ => ⟨hf.1, hf.2, hPc (T.setVm vm₁) hT hW₁⟩)
  dsimp only [Pt.U, Pt.locs, Pt.cells, Pt.slots] at X' e1 e2 h1 h2 h3 st
  subst h1; subst h2; subst h3
  exact ⟨v, (T.setVm vm₁).calling g' mk (Value.ref b :: As).toArray, t, U', L, hT, X', hL, e1, e2, hq, st⟩
section
variable {y : MethodName} {bytes cc : ByteArray} {maxL nL mc ms n index : Nat} {ret : Option FieldType} {ws : List Cond} {rm : Room} {Pc : Array Value → State → Prop} {Qc : Array Value → State → Outcome → State → Prop} {XC : String → State → State → Prop} {free : Addr → Prop} {Ts : List Cond} {own C : String} {b : Addr} {As rest : List Value} {g : JFrame}
theorem vx_runVX {hh : List (Nat × Nat × Nat × Nat)} (S : CallFix p m c cc nL s args Ts own) (hM : vx_Met l y ws rm Pc Qc XC mc ms free) (cw : vx_CVW R s args own C index y bytes maxL ret hh ws rm mc ms n) (hp : PreV s H C b Pc As)
    (hg : g.method = m) (hn : As.length = n) (hsize : g.locals.size = nL) (hstack : g.stack = As.reverse ++ .ref b :: rest) (hW : 2 * g.monitorRoom + (rest.map fun v => v.category).sum ≤ 8) (hdg : decode cc g.pc = .ok (.invokevirtual index, 3)) (hf : cells + mc ≤ R.cells ∧ slots + ms ≤ R.slots) :
    vx_Run p l e R s m args below meth c H locs cells slots mc ms g rest (Qc (Value.ref b :: As).toArray) XC free := by
  obtain ⟨⟨hrc, hrs, hfr, hlo, hws, hcw⟩, hcode, hini, hy, hlen, hl, hin, hse⟩ := cw
  have hK : vx_Back l R p e below s args y 3 8 (PreOf R mc ms Pc) (PostOf Qc mc ms free) (vx_Post XC mc ms free) := vx_backW (hh := hh) (bytes := bytes) (maxL := maxL) (ret := ret) hM hp.1 hrc hrs hfr hlo hws hcw (fun a' U hW => word_at hW (Or.inl (by first | rfl | simp [Cond.onTables, Cond.keeps, Cond.steady])) hini)
  obtain ⟨hx, hb, hml, ho, -⟩ := S
  obtain ⟨-, ⟨cellB, hcB, hoB, hclB⟩, hPc⟩ := hp
  intro T hT X
  rcases vx_callVX X hx (C := C) (hh := hh) (bytes := bytes) (maxL := maxL) (ret := ret) ho hl hin hse hcode hy hK (by rw [hT]; exact hcB) hoB hclB hg (hsize.trans hml.symm) (argsL := As) (rest := rest) (fun sig h => hn.trans (hlen sig h)) hstack hW (by rw [hb]; exact hdg)
    (fun vm₁ hW₁ => ⟨hf.1, hf.2, hPc (T.setVm vm₁) hT hW₁⟩) with ⟨v, vm₁, ⟨U', l2, c2, s2⟩, hW₁, X', ⟨g', mk, t, L, e1, e2, hq, h1, hL, h2, h3⟩, st⟩ | ⟨q, vm₁, ⟨U', l2, c2, s2⟩, hW₁, X', ⟨g', mk, t, L, E, ce, e1, e2, hq, hce, hcv, hcl, h1, hL, h2, h3⟩, st⟩
  · dsimp only [Pt.U, Pt.locs, Pt.cells, Pt.slots] at X' e1 e2 h1 h2 h3 st
    subst h1; subst h2; subst h3
    exact Or.inl ⟨v, (T.setVm vm₁).calling g' mk (Value.ref b :: As).toArray, t, U', L, hT, X', hL, e1, e2, hq, st⟩
  · dsimp only [Pt.U, Pt.locs, Pt.cells, Pt.slots] at X' e1 e2 h1 h2 h3 st hcl
    subst h1; subst h2; subst h3
    exact Or.inr ⟨q, (T.setVm vm₁).calling g' mk (Value.ref b :: As).toArray, t, U', L, E, ce, hT, X', hL, e1, e2, hq, hce, hcv, vx_cls hW₁ hcl, st⟩
theorem vx_runSX {hh : List (Nat × Nat × Nat × Nat)} (S : CallFix p m c cc nL s args Ts own) (hM : vx_Met l y ws rm Pc Qc XC mc ms free) (cw : vx_CSW R s args own index y bytes maxL ret hh ws rm mc ms n) (hp : PreS s H Pc As)
    (hg : g.method = m) (hn : As.length = n) (hsize : g.locals.size = nL) (hstack : g.stack = As.reverse ++ rest) (hW : 2 * g.monitorRoom + (rest.map fun v => v.category).sum ≤ 8) (hdg : decode cc g.pc = .ok (.invokestatic index, 3)) (hf : cells + mc ≤ R.cells ∧ slots + ms ≤ R.slots) :
    vx_Run p l e R s m args below meth c H locs cells slots mc ms g rest (Qc As.toArray) XC free := by
  obtain ⟨⟨hrc, hrs, hfr, hlo, hws, hcw⟩, hcode, hini, hy, hlen, hl, hstt⟩ := cw
  have hK : vx_Back l R p e below s args y 3 8 (PreOf R mc ms Pc) (PostOf Qc mc ms free) (vx_Post XC mc ms free) := vx_backW (hh := hh) (bytes := bytes) (maxL := maxL) (ret := ret) hM hp.1 hrc hrs hfr hlo hws hcw (fun a' U hW => word_at hW (Or.inl (by first | rfl | simp [Cond.onTables, Cond.keeps, Cond.steady])) hini)
  obtain ⟨hx, hb, hml, ho, -⟩ := S
  intro T hT X
  rcases vx_callSX X hx (hh := hh) (bytes := bytes) (maxL := maxL) (ret := ret) ho hl hstt hini hcode hy hK hg (hsize.trans hml.symm) (argsL := As) (rest := rest) (fun sig h => hn.trans (hlen sig h)) hstack hW (by rw [hb]; exact hdg)
    (fun vm₁ hW₁ => ⟨hf.1, hf.2, hp.2 (T.setVm vm₁) hT hW₁⟩) with ⟨v, vm₁, ⟨U', l2, c2, s2⟩, hW₁, X', ⟨g', mk, t, L, e1, e2, hq, h1, hL, h2, h3⟩, st⟩ | ⟨q, vm₁, ⟨U', l2, c2, s2⟩, hW₁, X', ⟨g', mk, t, L, E, ce, e1, e2, hq, hce, hcv, hcl, h1, hL, h2, h3⟩, st⟩
  · dsimp only [Pt.U, Pt.locs, Pt.cells, Pt.slots] at X' e1 e2 h1 h2 h3 st
    subst h1; subst h2; subst h3
    exact Or.inl ⟨v, (T.setVm vm₁).calling g' mk As.toArray, t, U', L, hT, X', hL, e1, e2, hq, st⟩
  · dsimp only [Pt.U, Pt.locs, Pt.cells, Pt.slots] at X' e1 e2 h1 h2 h3 st hcl
    subst h1; subst h2; subst h3
    exact Or.inr ⟨q, (T.setVm vm₁).calling g' mk As.toArray, t, U', L, E, ce, hT, X', hL, e1, e2, hq, hce, hcv, vx_cls hW₁ hcl, st⟩
end
end VXH
theorem vx_ofWH {l : Launch} {y : MethodName} {ws ws' : List Cond} {rm : Room} {Pc : Array Value → State → Prop} {Qc : Array Value → State → Outcome → State → Prop} {XC : String → State → State → Prop} {mc ms : Nat} {free : Addr → Prop} {cc : ByteArray} {maxL : Nat} {ret : Option FieldType} {hh : List (Nat × Nat × Nat × Nat)}
    (hy : plainName y.cls = true) (hw : ws = Cond.codeWith y cc maxL ret hh :: ws')
    (body : ∀ p e s m args below meth c s₁, BodyLoose p l y (headSpec ws rm) cc maxL ret e s m args below meth c s₁ → c.maxLocals = maxL → Pc args s →
      W p l e (headSpec ws rm).room s m args below meth c s.heap [] 0 0 (vx_MQ below Qc XC args s mc ms free) (entryFrame m args maxL)) : vx_Met l y ws rm Pc Qc XC mc ms free := by
  refine MetFree.of_bodyS (code := cc) (maxLocals := maxL) (ret := ret) hy ?_ ?_
  · intro args s m h hn
    obtain ⟨m9, meth, c, hn9, h1, h2, h3, h4, -, h5, h6, -⟩ := Cond.codeWith_spec (atoms_spec (ws := ws) h _ (by rw [hw]; exact List.mem_cons_self))
    cases hn.symm.trans hn9
    exact ⟨meth, c, h1, h2, h3, h4, h5, h6⟩
  · intro p e s m args below meth c s₁ B hml hP _
    have hh0 : s₁.heap = s.heap := by rw [B.state]; rfl
    obtain ⟨t, a1, o, b1, b2, b3⟩ := body p e s m args below meth c s₁ B hml hP s₁ hh0 (Stand.of_body B)
    exact ⟨t, o, a1, b1, b2, b3⟩
/-! ===== END ===== -/
end
section
/-! names, by program: classes, their fields, the common list of words, each method's code and name -/
theorem wd_mem {w : Cond} (h : w ∈ tables_1) (g : goodWord w = true) : w ∈ lw_tbl.filter goodWord := List.mem_filter.mpr ⟨List.mem_append_right _ h, g⟩
/-- the words that every method gets -/
def CW : List Cond := lw_tbl.filter goodWord
theorem cw_good {w : Cond} (h : w ∈ CW) : goodWord w = true := (List.mem_filter.mp h).2
theorem cw_in {w : Cond} (i : Nat) (h : tables_1[i]? = some w) (g : goodWord w = true) : w ∈ CW := wd_mem (List.mem_of_getElem? h) g
theorem cw_sel {w : Cond} (i : Nat) (h : (k2_sels lw_privs)[i]? = some w) (g : goodWord w = true) : w ∈ CW := List.mem_filter.mpr ⟨List.mem_append_left _ (List.mem_of_getElem? h), g⟩
theorem g_V {cm cy : Cond} {own C : String} {i : Nat} {y : MethodName} (h1 : Cond.methodLink own i y ∈ CW) (h2 : Cond.instanceMethod y ∈ CW) (h3 : Cond.selects C y y ∈ CW) (h4 : Cond.initialized C ∈ CW) (h5 : cy ∈ CW) : GoodIn CW (wsV own i C y (cy :: CW)) := by
  intro w hw
  have h : w ∈ CW := by
    simp only [wsV, List.mem_append, List.mem_cons, List.not_mem_nil, or_false] at hw
    rcases hw with (rfl | rfl | rfl | rfl) | rfl | h
    · exact h1
    · exact h2
    · exact h3
    · exact h4
    · exact h5
    · exact h
  exact ⟨h, good_of_word (cw_good h)⟩
theorem g_S {cy : Cond} {own : String} {i : Nat} {y : MethodName} (h1 : Cond.methodLink own i y ∈ CW) (h2 : Cond.static y ∈ CW) (h3 : Cond.initialized y.cls ∈ CW) (h5 : cy ∈ CW) : GoodIn CW (va_wsS own i y (cy :: CW)) := by
  intro w hw
  have h : w ∈ CW := by
    simp only [va_wsS, List.mem_append, List.mem_cons, List.not_mem_nil, or_false] at hw
    rcases hw with (rfl | rfl | rfl) | rfl | h
    · exact h1
    · exact h2
    · exact h3
    · exact h5
    · exact h
  exact ⟨h, good_of_word (cw_good h)⟩
theorem g_I {cy : Cond} (h5 : cy ∈ CW) : GoodIn CW (cy :: CW) := by
  intro w hw
  have h : w ∈ CW := by
    rcases List.mem_cons.mp hw with rfl | h
    · exact h5
    · exact h
  exact ⟨h, good_of_word (cw_good h)⟩
def RX : String := "LadderScan"
def TX : u_T := fun k => match k with
  | 0 => ("LadderScan", "memory", "LLadderScan$Memory;", true)
  | 1 => ("LadderScan", "blocks", "[LLadderScan$Block;", true)
  | 2 => ("LadderScan", "written", "LLadderScan$Ladder;", true)
  | 3 => ("LadderScan", "program", "LLadderScan$Ladder;", true)
  | 4 => ("LadderScan", "blocksMade", "I", false)
  | 5 => ("LadderScan", "fullScans", "I", false)
  | 6 => ("LadderScan", "failedScans", "I", false)
  | _ => ("LadderScan", "stopped", "Z", false)
def tyX : Nat → FieldType := fun k => match k with
  | 0 => .object "LadderScan$Memory"
  | 1 => .array (.object "LadderScan$Block")
  | 2 => .object "LadderScan$Ladder"
  | 3 => .object "LadderScan$Ladder"
  | 4 => .int
  | 5 => .int
  | 6 => .int
  | _ => .boolean
theorem nmX : ∀ a, a < 8 → ∀ b, b < 8 → a ≠ b → (TX a).2.1 ≠ (TX b).2.1 := by decide +kernel
theorem tyX_ok : ∀ k, k < 8 → parseFieldDescriptor (TX k).2.2.1 = some (tyX k) := by decide +kernel
theorem inX : ∀ w ∈ u_ws RX TX 8, w ∈ CW := by
  have h : ∀ w ∈ u_ws RX TX 8, w ∈ tables_1 ∧ goodWord w = true := by decide +kernel
  exact fun w hw => wd_mem (h w hw).1 (h w hw).2
def RMe : String := "LadderScan$Memory"
def TMe : u_T := fun k => match k with
  | 0 => ("LadderScan$Memory", "bits", "[I", true)
  | 1 => ("LadderScan$Memory", "forces", "[I", true)
  | 2 => ("LadderScan$Memory", "inputWires", "[I", true)
  | 3 => ("LadderScan$Memory", "outputWires", "[I", true)
  | _ => ("LadderScan$Memory", "registers", "[I", true)
def tyMe : Nat → FieldType := fun k => match k with
  | 0 => .array .int
  | 1 => .array .int
  | 2 => .array .int
  | 3 => .array .int
  | _ => .array .int
theorem nmMe : ∀ a, a < 5 → ∀ b, b < 5 → a ≠ b → (TMe a).2.1 ≠ (TMe b).2.1 := by decide +kernel
theorem tyMe_ok : ∀ k, k < 5 → parseFieldDescriptor (TMe k).2.2.1 = some (tyMe k) := by decide +kernel
theorem inMe : ∀ w ∈ u_ws RMe TMe 5, w ∈ CW := by
  have h : ∀ w ∈ u_ws RMe TMe 5, w ∈ tables_1 ∧ goodWord w = true := by decide +kernel
  exact fun w hw => wd_mem (h w hw).1 (h w hw).2
def RBl : String := "LadderScan$Block"
def TBl : u_T := fun k => match k with
  | 0 => ("LadderScan$Block", "kind", "I", false)
  | 1 => ("LadderScan$Block", "p", "I", false)
  | 2 => ("LadderScan$Block", "q", "I", false)
  | 3 => ("LadderScan$Block", "factor", "I", false)
  | 4 => ("LadderScan$Block", "offset", "I", false)
  | 5 => ("LadderScan$Block", "output", "I", false)
  | 6 => ("LadderScan$Block", "counted", "I", false)
  | _ => ("LadderScan$Block", "lastInput", "I", false)
def tyBl : Nat → FieldType := fun k => match k with
  | 0 => .int
  | 1 => .int
  | 2 => .int
  | 3 => .int
  | 4 => .int
  | 5 => .int
  | 6 => .int
  | _ => .int
theorem nmBl : ∀ a, a < 8 → ∀ b, b < 8 → a ≠ b → (TBl a).2.1 ≠ (TBl b).2.1 := by decide +kernel
theorem tyBl_ok : ∀ k, k < 8 → parseFieldDescriptor (TBl k).2.2.1 = some (tyBl k) := by decide +kernel
theorem inBl : ∀ w ∈ u_ws RBl TBl 8, w ∈ CW := by
  have h : ∀ w ∈ u_ws RBl TBl 8, w ∈ tables_1 ∧ goodWord w = true := by decide +kernel
  exact fun w hw => wd_mem (h w hw).1 (h w hw).2
def RLa : String := "LadderScan$Ladder"
def TLa : u_T := fun k => match k with
  | 0 => ("LadderScan$Ladder", "ops", "[I", true)
  | 1 => ("LadderScan$Ladder", "operands", "[I", true)
  | 2 => ("LadderScan$Ladder", "lengths", "[I", true)
  | _ => ("LadderScan$Ladder", "depths", "[I", true)
def tyLa : Nat → FieldType := fun k => match k with
  | 0 => .array .int
  | 1 => .array .int
  | 2 => .array .int
  | _ => .array .int
theorem nmLa : ∀ a, a < 4 → ∀ b, b < 4 → a ≠ b → (TLa a).2.1 ≠ (TLa b).2.1 := by decide +kernel
theorem tyLa_ok : ∀ k, k < 4 → parseFieldDescriptor (TLa k).2.2.1 = some (tyLa k) := by decide +kernel
theorem inLa : ∀ w ∈ u_ws RLa TLa 4, w ∈ CW := by
  have h : ∀ w ∈ u_ws RLa TLa 4, w ∈ tables_1 ∧ goodWord w = true := by decide +kernel
  exact fun w hw => wd_mem (h w hw).1 (h w hw).2
def RMo : String := "LadderScanModel"
def TMo : u_T := fun k => match k with
  | 0 => ("LadderScanModel", "thrown", "I", false)
  | 1 => ("LadderScanModel", "raw", "[I", true)
  | 2 => ("LadderScanModel", "forced", "[I", true)
  | 3 => ("LadderScanModel", "wires", "[I", true)
  | 4 => ("LadderScanModel", "outs", "[I", true)
  | 5 => ("LadderScanModel", "registers", "[J", true)
  | 6 => ("LadderScanModel", "kind", "[I", true)
  | 7 => ("LadderScanModel", "bp", "[I", true)
  | 8 => ("LadderScanModel", "bq", "[I", true)
  | 9 => ("LadderScanModel", "factor", "[J", true)
  | 10 => ("LadderScanModel", "offset", "[J", true)
  | 11 => ("LadderScanModel", "output", "[I", true)
  | 12 => ("LadderScanModel", "count", "[I", true)
  | 13 => ("LadderScanModel", "was", "[I", true)
  | 14 => ("LadderScanModel", "blocks", "I", false)
  | 15 => ("LadderScanModel", "op", "[I", true)
  | 16 => ("LadderScanModel", "arg", "[I", true)
  | 17 => ("LadderScanModel", "size", "[I", true)
  | 18 => ("LadderScanModel", "height", "[I", true)
  | 19 => ("LadderScanModel", "runOp", "[I", true)
  | 20 => ("LadderScanModel", "runArg", "[I", true)
  | 21 => ("LadderScanModel", "runSize", "[I", true)
  | 22 => ("LadderScanModel", "stack", "[I", true)
  | 23 => ("LadderScanModel", "top", "I", false)
  | 24 => ("LadderScanModel", "scans", "I", false)
  | 25 => ("LadderScanModel", "failed", "I", false)
  | 26 => ("LadderScanModel", "stopped", "Z", false)
  | 27 => ("LadderScanModel", "begun", "I", false)
  | _ => ("LadderScanModel", "trouble", "I", false)
def tyMo : Nat → FieldType := fun k => match k with
  | 0 => .int
  | 1 => .array .int
  | 2 => .array .int
  | 3 => .array .int
  | 4 => .array .int
  | 5 => .array .long
  | 6 => .array .int
  | 7 => .array .int
  | 8 => .array .int
  | 9 => .array .long
  | 10 => .array .long
  | 11 => .array .int
  | 12 => .array .int
  | 13 => .array .int
  | 14 => .int
  | 15 => .array .int
  | 16 => .array .int
  | 17 => .array .int
  | 18 => .array .int
  | 19 => .array .int
  | 20 => .array .int
  | 21 => .array .int
  | 22 => .array .int
  | 23 => .int
  | 24 => .int
  | 25 => .int
  | 26 => .boolean
  | 27 => .int
  | _ => .int
theorem nmMo : ∀ a, a < 29 → ∀ b, b < 29 → a ≠ b → (TMo a).2.1 ≠ (TMo b).2.1 := by decide +kernel
theorem tyMo_ok : ∀ k, k < 29 → parseFieldDescriptor (TMo k).2.2.1 = some (tyMo k) := by decide +kernel
theorem inMo : ∀ w ∈ u_ws RMo TMo 29, w ∈ CW := by
  have h : ∀ w ∈ u_ws RMo TMo 29, w ∈ tables_1 ∧ goodWord w = true := by decide +kernel
  exact fun w hw => wd_mem (h w hw).1 (h w hw).2
def RLw : String := "LadderScanLaw"
def RMa : String := "java/lang/Math"
abbrev vwCl : List vw_C := [(RX, TX, 8), (RMe, TMe, 5), (RBl, TBl, 8), (RLa, TLa, 4), (RMo, TMo, 29)]
abbrev bX_init : ByteArray := prog_1_method_1_code
def yX_init : MethodName := ⟨RX, "<init>", "()V"⟩
def kX_init : Cond := .code yX_init bX_init 2 none
set_option maxRecDepth 20000 in
theorem qX_init : kX_init ∈ CW := cw_in 20 rfl rfl
abbrev bX_bit : ByteArray := prog_1_method_13_code
def yX_bit : MethodName := ⟨RX, "bit", "(I)I"⟩
def kX_bit : Cond := .code yX_bit bX_bit 2 (some .int)
set_option maxRecDepth 20000 in
theorem qX_bit : kX_bit ∈ CW := cw_in 522 rfl rfl
abbrev bX_block : ByteArray := prog_1_method_2_code
def yX_block : MethodName := ⟨RX, "block", "(III)I"⟩
def kX_block : Cond := .code yX_block bX_block 4 (some .int)
set_option maxRecDepth 20000 in
theorem qX_block : kX_block ∈ CW := cw_in 183 rfl rfl
abbrev bX_count : ByteArray := prog_1_method_17_code
def yX_count : MethodName := ⟨RX, "count", "(I)I"⟩
def kX_count : Cond := .code yX_count bX_count 2 (some .int)
set_option maxRecDepth 20000 in
theorem qX_count : kX_count ∈ CW := cw_in 550 rfl rfl
abbrev bX_download : ByteArray := prog_1_method_6_code
def yX_download : MethodName := ⟨RX, "download", "()I"⟩
def kX_download : Cond := .code yX_download bX_download 1 (some .int)
set_option maxRecDepth 20000 in
theorem qX_download : kX_download ∈ CW := cw_in 139 rfl rfl
abbrev bX_eighthsAtMost : ByteArray := prog_1_method_27_code
def yX_eighthsAtMost : MethodName := ⟨RX, "eighthsAtMost", "(D)I"⟩
def kX_eighthsAtMost : Cond := .code yX_eighthsAtMost bX_eighthsAtMost 5 (some .int)
set_option maxRecDepth 20000 in
theorem qX_eighthsAtMost : kX_eighthsAtMost ∈ CW := cw_in 333 rfl rfl
abbrev bX_erase : ByteArray := prog_1_method_5_code
def yX_erase : MethodName := ⟨RX, "erase", "(I)I"⟩
def kX_erase : Cond := .code yX_erase bX_erase 2 (some .int)
set_option maxRecDepth 20000 in
theorem qX_erase : kX_erase ∈ CW := cw_in 382 rfl rfl
abbrev bX_fail : ByteArray := prog_1_method_12_code
def yX_fail : MethodName := ⟨RX, "fail", "()I"⟩
def kX_fail : Cond := .code yX_fail bX_fail 2 (some .int)
set_option maxRecDepth 20000 in
theorem qX_fail : kX_fail ∈ CW := cw_in 158 rfl rfl
abbrev bX_force : ByteArray := prog_1_method_9_code
def yX_force : MethodName := ⟨RX, "force", "(II)I"⟩
def kX_force : Cond := .code yX_force bX_force 4 (some .int)
set_option maxRecDepth 20000 in
theorem qX_force : kX_force ∈ CW := cw_in 407 rfl rfl
abbrev bX_isBit : ByteArray := prog_1_method_19_code
def yX_isBit : MethodName := ⟨RX, "isBit", "(I)Z"⟩
def kX_isBit : Cond := .code yX_isBit bX_isBit 1 (some .boolean)
set_option maxRecDepth 20000 in
theorem qX_isBit : kX_isBit ∈ CW := cw_in 192 rfl rfl
abbrev bX_isBlock : ByteArray := prog_1_method_23_code
def yX_isBlock : MethodName := ⟨RX, "isBlock", "(III)Z"⟩
def kX_isBlock : Cond := .code yX_isBlock bX_isBlock 3 (some .boolean)
set_option maxRecDepth 20000 in
theorem qX_isBlock : kX_isBlock ∈ CW := cw_in 186 rfl rfl
abbrev bX_isInRange : ByteArray := prog_1_method_25_code
def yX_isInRange : MethodName := ⟨RX, "isInRange", "(D)Z"⟩
def kX_isInRange : Cond := .code yX_isInRange bX_isInRange 2 (some .boolean)
set_option maxRecDepth 20000 in
theorem qX_isInRange : kX_isInRange ∈ CW := cw_in 328 rfl rfl
abbrev bX_isMade : ByteArray := prog_1_method_22_code
def yX_isMade : MethodName := ⟨RX, "isMade", "(I)Z"⟩
def kX_isMade : Cond := .code yX_isMade bX_isMade 2 (some .boolean)
set_option maxRecDepth 20000 in
theorem qX_isMade : kX_isMade ∈ CW := cw_in 292 rfl rfl
abbrev bX_isRegister : ByteArray := prog_1_method_20_code
def yX_isRegister : MethodName := ⟨RX, "isRegister", "(I)Z"⟩
def kX_isRegister : Cond := .code yX_isRegister bX_isRegister 1 (some .boolean)
set_option maxRecDepth 20000 in
theorem qX_isRegister : kX_isRegister ∈ CW := cw_in 195 rfl rfl
abbrev bX_isRung : ByteArray := prog_1_method_21_code
def yX_isRung : MethodName := ⟨RX, "isRung", "(I)Z"⟩
def kX_isRung : Cond := .code yX_isRung bX_isRung 1 (some .boolean)
set_option maxRecDepth 20000 in
theorem qX_isRung : kX_isRung ∈ CW := cw_in 347 rfl rfl
abbrev bX_isStep : ByteArray := prog_1_method_24_code
def yX_isStep : MethodName := ⟨RX, "isStep", "(II)Z"⟩
def kX_isStep : Cond := .code yX_isStep bX_isStep 3 (some .boolean)
set_option maxRecDepth 20000 in
theorem qX_isStep : kX_isStep ∈ CW := cw_in 351 rfl rfl
abbrev bX_isWholeEighths : ByteArray := prog_1_method_26_code
def yX_isWholeEighths : MethodName := ⟨RX, "isWholeEighths", "(D)Z"⟩
def kX_isWholeEighths : Cond := .code yX_isWholeEighths bX_isWholeEighths 2 (some .boolean)
set_option maxRecDepth 20000 in
theorem qX_isWholeEighths : kX_isWholeEighths ∈ CW := cw_in 325 rfl rfl
abbrev bX_isWithin : ByteArray := prog_1_method_18_code
def yX_isWithin : MethodName := ⟨RX, "isWithin", "(III)Z"⟩
def kX_isWithin : Cond := .code yX_isWithin bX_isWithin 3 (some .boolean)
set_option maxRecDepth 20000 in
theorem qX_isWithin : kX_isWithin ∈ CW := cw_in 189 rfl rfl
abbrev bX_numberOf : ByteArray := prog_1_method_28_code
def yX_numberOf : MethodName := ⟨RX, "numberOf", "(I)D"⟩
def kX_numberOf : Cond := .code yX_numberOf bX_numberOf 1 (some .double)
set_option maxRecDepth 20000 in
theorem qX_numberOf : kX_numberOf ∈ CW := cw_in 337 rfl rfl
abbrev bX_out : ByteArray := prog_1_method_14_code
def yX_out : MethodName := ⟨RX, "out", "(I)I"⟩
def kX_out : Cond := .code yX_out bX_out 2 (some .int)
set_option maxRecDepth 20000 in
theorem qX_out : kX_out ∈ CW := cw_in 529 rfl rfl
abbrev bX_put : ByteArray := prog_1_method_8_code
def yX_put : MethodName := ⟨RX, "put", "(ID)D"⟩
def kX_put : Cond := .code yX_put bX_put 6 (some .double)
set_option maxRecDepth 20000 in
theorem qX_put : kX_put ∈ CW := cw_in 400 rfl rfl
abbrev bX_register : ByteArray := prog_1_method_15_code
def yX_register : MethodName := ⟨RX, "register", "(I)D"⟩
def kX_register : Cond := .code yX_register bX_register 2 (some .double)
set_option maxRecDepth 20000 in
theorem qX_register : kX_register ∈ CW := cw_in 536 rfl rfl
abbrev bX_restart : ByteArray := prog_1_method_11_code
def yX_restart : MethodName := ⟨RX, "restart", "()I"⟩
def kX_restart : Cond := .code yX_restart bX_restart 2 (some .int)
set_option maxRecDepth 20000 in
theorem qX_restart : kX_restart ∈ CW := cw_in 154 rfl rfl
abbrev bX_runProgram : ByteArray := prog_1_method_30_code
def yX_runProgram : MethodName := ⟨RX, "runProgram", "()I"⟩
def kX_runProgram : Cond := .code yX_runProgram bX_runProgram 3 (some .int)
set_option maxRecDepth 20000 in
theorem qX_runProgram : kX_runProgram ∈ CW := cw_in 427 rfl rfl
abbrev bX_runRung : ByteArray := prog_1_method_31_code
def yX_runRung : MethodName := ⟨RX, "runRung", "(I)I"⟩
def kX_runRung : Cond := .code yX_runRung bX_runRung 8 (some .int)
set_option maxRecDepth 20000 in
theorem qX_runRung : kX_runRung ∈ CW := cw_in 431 rfl rfl
abbrev bX_scan : ByteArray := prog_1_method_10_code
def yX_scan : MethodName := ⟨RX, "scan", "(I)I"⟩
def kX_scan : Cond := .code yX_scan bX_scan 5 (some .int)
set_option maxRecDepth 20000 in
theorem qX_scan : kX_scan ∈ CW := cw_in 415 rfl rfl
abbrev bX_scanOnce : ByteArray := prog_1_method_29_code
def yX_scanOnce : MethodName := ⟨RX, "scanOnce", "()I"⟩
def kX_scanOnce : Cond := .code yX_scanOnce bX_scanOnce 2 (some .int)
set_option maxRecDepth 20000 in
theorem qX_scanOnce : kX_scanOnce ∈ CW := cw_in 419 rfl rfl
abbrev bX_stackAfter : ByteArray := prog_1_method_32_code
def yX_stackAfter : MethodName := ⟨RX, "stackAfter", "(III)I"⟩
def kX_stackAfter : Cond := .code yX_stackAfter bX_stackAfter 4 (some .int)
set_option maxRecDepth 20000 in
theorem qX_stackAfter : kX_stackAfter ∈ CW := cw_in 486 rfl rfl
abbrev bX_state : ByteArray := prog_1_method_16_code
def yX_state : MethodName := ⟨RX, "state", "(II)I"⟩
def kX_state : Cond := .code yX_state bX_state 3 (some .int)
set_option maxRecDepth 20000 in
theorem qX_state : kX_state ∈ CW := cw_in 543 rfl rfl
abbrev bX_step : ByteArray := prog_1_method_4_code
def yX_step : MethodName := ⟨RX, "step", "(III)I"⟩
def kX_step : Cond := .code yX_step bX_step 4 (some .int)
set_option maxRecDepth 20000 in
theorem qX_step : kX_step ∈ CW := cw_in 344 rfl rfl
abbrev bX_tune : ByteArray := prog_1_method_3_code
def yX_tune : MethodName := ⟨RX, "tune", "(IDD)D"⟩
def kX_tune : Cond := .code yX_tune bX_tune 9 (some .double)
set_option maxRecDepth 20000 in
theorem qX_tune : kX_tune ∈ CW := cw_in 288 rfl rfl
abbrev bX_wire : ByteArray := prog_1_method_7_code
def yX_wire : MethodName := ⟨RX, "wire", "(II)I"⟩
def kX_wire : Cond := .code yX_wire bX_wire 4 (some .int)
set_option maxRecDepth 20000 in
theorem qX_wire : kX_wire ∈ CW := cw_in 393 rfl rfl
abbrev bX_withPushed : ByteArray := prog_1_method_33_code
def yX_withPushed : MethodName := ⟨RX, "withPushed", "(II)I"⟩
def kX_withPushed : Cond := .code yX_withPushed bX_withPushed 2 (some .int)
set_option maxRecDepth 20000 in
theorem qX_withPushed : kX_withPushed ∈ CW := cw_in 490 rfl rfl
abbrev bX_withTop : ByteArray := prog_1_method_34_code
def yX_withTop : MethodName := ⟨RX, "withTop", "(II)I"⟩
def kX_withTop : Cond := .code yX_withTop bX_withTop 2 (some .int)
set_option maxRecDepth 20000 in
theorem qX_withTop : kX_withTop ∈ CW := cw_in 478 rfl rfl
abbrev bBl_init : ByteArray := prog_2_method_1_code
def yBl_init : MethodName := ⟨RBl, "<init>", "()V"⟩
def kBl_init : Cond := .code yBl_init bBl_init 1 none
set_option maxRecDepth 20000 in
theorem qBl_init : kBl_init ∈ CW := cw_in 79 rfl rfl
abbrev bBl_become : ByteArray := prog_2_method_2_code
def yBl_become : MethodName := ⟨RBl, "become", "(III)V"⟩
def kBl_become : Cond := .code yBl_become bBl_become 4 none
set_option maxRecDepth 20000 in
theorem qBl_become : kBl_become ∈ CW := cw_in 279 rfl rfl
abbrev bBl_countWith : ByteArray := prog_2_method_6_code
def yBl_countWith : MethodName := ⟨RBl, "countWith", "(II)I"⟩
def kBl_countWith : Cond := .code yBl_countWith bBl_countWith 3 (some .int)
set_option maxRecDepth 20000 in
theorem qBl_countWith : kBl_countWith ∈ CW := cw_in 453 rfl rfl
abbrev bBl_failsWith : ByteArray := prog_2_method_4_code
def yBl_failsWith : MethodName := ⟨RBl, "failsWith", "(I)Z"⟩
def kBl_failsWith : Cond := .code yBl_failsWith bBl_failsWith 2 (some .boolean)
set_option maxRecDepth 20000 in
theorem qBl_failsWith : kBl_failsWith ∈ CW := cw_in 435 rfl rfl
abbrev bBl_losePower : ByteArray := prog_2_method_3_code
def yBl_losePower : MethodName := ⟨RBl, "losePower", "()V"⟩
def kBl_losePower : Cond := .code yBl_losePower bBl_losePower 1 none
set_option maxRecDepth 20000 in
theorem qBl_losePower : kBl_losePower ∈ CW := cw_in 170 rfl rfl
abbrev bBl_reckon : ByteArray := prog_2_method_7_code
def yBl_reckon : MethodName := ⟨RBl, "reckon", "(J)J"⟩
def kBl_reckon : Cond := .code yBl_reckon bBl_reckon 3 (some .long)
set_option maxRecDepth 20000 in
theorem qBl_reckon : kBl_reckon ∈ CW := cw_in 457 rfl rfl
abbrev bBl_work : ByteArray := prog_2_method_5_code
def yBl_work : MethodName := ⟨RBl, "work", "(ILLadderScan$Memory;)I"⟩
def kBl_work : Cond := .code yBl_work bBl_work 3 (some .int)
set_option maxRecDepth 20000 in
theorem qBl_work : kBl_work ∈ CW := cw_in 439 rfl rfl
abbrev bLa_init : ByteArray := prog_3_method_1_code
def yLa_init : MethodName := ⟨RLa, "<init>", "()V"⟩
def kLa_init : Cond := .code yLa_init bLa_init 1 none
set_option maxRecDepth 20000 in
theorem qLa_init : kLa_init ∈ CW := cw_in 58 rfl rfl
abbrev bLa_add : ByteArray := prog_3_method_4_code
def yLa_add : MethodName := ⟨RLa, "add", "(III)I"⟩
def kLa_add : Cond := .code yLa_add bLa_add 5 (some .int)
set_option maxRecDepth 20000 in
theorem qLa_add : kLa_add ∈ CW := cw_in 375 rfl rfl
abbrev bLa_copyFrom : ByteArray := prog_3_method_6_code
def yLa_copyFrom : MethodName := ⟨RLa, "copyFrom", "(LLadderScan$Ladder;)V"⟩
def kLa_copyFrom : Cond := .code yLa_copyFrom bLa_copyFrom 2 none
set_option maxRecDepth 20000 in
theorem qLa_copyFrom : kLa_copyFrom ∈ CW := cw_in 143 rfl rfl
abbrev bLa_empty : ByteArray := prog_3_method_5_code
def yLa_empty : MethodName := ⟨RLa, "empty", "(I)I"⟩
def kLa_empty : Cond := .code yLa_empty bLa_empty 3 (some .int)
set_option maxRecDepth 20000 in
theorem qLa_empty : kLa_empty ∈ CW := cw_in 386 rfl rfl
abbrev bLa_growth : ByteArray := prog_3_method_11_code
def yLa_growth : MethodName := ⟨RLa, "growth", "(I)I"⟩
def kLa_growth : Cond := .code yLa_growth bLa_growth 1 (some .int)
set_option maxRecDepth 20000 in
theorem qLa_growth : kLa_growth ∈ CW := cw_in 367 rfl rfl
abbrev bLa_isFull : ByteArray := prog_3_method_2_code
def yLa_isFull : MethodName := ⟨RLa, "isFull", "(I)Z"⟩
def kLa_isFull : Cond := .code yLa_isFull bLa_isFull 2 (some .boolean)
set_option maxRecDepth 20000 in
theorem qLa_isFull : kLa_isFull ∈ CW := cw_in 371 rfl rfl
abbrev bLa_joins : ByteArray := prog_3_method_9_code
def yLa_joins : MethodName := ⟨RLa, "joins", "(I)Z"⟩
def kLa_joins : Cond := .code yLa_joins bLa_joins 1 (some .boolean)
set_option maxRecDepth 20000 in
theorem qLa_joins : kLa_joins ∈ CW := cw_in 364 rfl rfl
abbrev bLa_needed : ByteArray := prog_3_method_10_code
def yLa_needed : MethodName := ⟨RLa, "needed", "(I)I"⟩
def kLa_needed : Cond := .code yLa_needed bLa_needed 1 (some .int)
set_option maxRecDepth 20000 in
theorem qLa_needed : kLa_needed ∈ CW := cw_in 358 rfl rfl
abbrev bLa_pushes : ByteArray := prog_3_method_8_code
def yLa_pushes : MethodName := ⟨RLa, "pushes", "(I)Z"⟩
def kLa_pushes : Cond := .code yLa_pushes bLa_pushes 1 (some .boolean)
set_option maxRecDepth 20000 in
theorem qLa_pushes : kLa_pushes ∈ CW := cw_in 361 rfl rfl
abbrev bLa_size : ByteArray := prog_3_method_7_code
def yLa_size : MethodName := ⟨RLa, "size", "()I"⟩
def kLa_size : Cond := .code yLa_size bLa_size 3 (some .int)
set_option maxRecDepth 20000 in
theorem qLa_size : kLa_size ∈ CW := cw_in 150 rfl rfl
abbrev bLa_stackAllows : ByteArray := prog_3_method_3_code
def yLa_stackAllows : MethodName := ⟨RLa, "stackAllows", "(II)Z"⟩
def kLa_stackAllows : Cond := .code yLa_stackAllows bLa_stackAllows 3 (some .boolean)
set_option maxRecDepth 20000 in
theorem qLa_stackAllows : kLa_stackAllows ∈ CW := cw_in 355 rfl rfl
abbrev bMe_init : ByteArray := prog_4_method_1_code
def yMe_init : MethodName := ⟨RMe, "<init>", "()V"⟩
def kMe_init : Cond := .code yMe_init bMe_init 2 none
set_option maxRecDepth 20000 in
theorem qMe_init : kMe_init ∈ CW := cw_in 28 rfl rfl
abbrev bMe_assign : ByteArray := prog_4_method_3_code
def yMe_assign : MethodName := ⟨RMe, "assign", "(III)V"⟩
def kMe_assign : Cond := .code yMe_assign bMe_assign 4 none
set_option maxRecDepth 20000 in
theorem qMe_assign : kMe_assign ∈ CW := cw_in 482 rfl rfl
abbrev bMe_clearOutputWires : ByteArray := prog_4_method_8_code
def yMe_clearOutputWires : MethodName := ⟨RMe, "clearOutputWires", "()V"⟩
def kMe_clearOutputWires : Cond := .code yMe_clearOutputWires bMe_clearOutputWires 2 none
set_option maxRecDepth 20000 in
theorem qMe_clearOutputWires : kMe_clearOutputWires ∈ CW := cw_in 166 rfl rfl
abbrev bMe_forcedBits : ByteArray := prog_4_method_11_code
def yMe_forcedBits : MethodName := ⟨RMe, "forcedBits", "()I"⟩
def kMe_forcedBits : Cond := .code yMe_forcedBits bMe_forcedBits 3 (some .int)
set_option maxRecDepth 20000 in
theorem qMe_forcedBits : kMe_forcedBits ∈ CW := cw_in 554 rfl rfl
abbrev bMe_isAbove : ByteArray := prog_4_method_4_code
def yMe_isAbove : MethodName := ⟨RMe, "isAbove", "(II)Z"⟩
def kMe_isAbove : Cond := .code yMe_isAbove bMe_isAbove 3 (some .boolean)
set_option maxRecDepth 20000 in
theorem qMe_isAbove : kMe_isAbove ∈ CW := cw_in 494 rfl rfl
abbrev bMe_keptOnes : ByteArray := prog_4_method_10_code
def yMe_keptOnes : MethodName := ⟨RMe, "keptOnes", "()I"⟩
def kMe_keptOnes : Cond := .code yMe_keptOnes bMe_keptOnes 3 (some .int)
set_option maxRecDepth 20000 in
theorem qMe_keptOnes : kMe_keptOnes ∈ CW := cw_in 174 rfl rfl
abbrev bMe_losePower : ByteArray := prog_4_method_9_code
def yMe_losePower : MethodName := ⟨RMe, "losePower", "()V"⟩
def kMe_losePower : Cond := .code yMe_losePower bMe_losePower 2 none
set_option maxRecDepth 20000 in
theorem qMe_losePower : kMe_losePower ∈ CW := cw_in 162 rfl rfl
abbrev bMe_read : ByteArray := prog_4_method_2_code
def yMe_read : MethodName := ⟨RMe, "read", "(I)I"⟩
def kMe_read : Cond := .code yMe_read bMe_read 2 (some .int)
set_option maxRecDepth 20000 in
theorem qMe_read : kMe_read ∈ CW := cw_in 449 rfl rfl
abbrev bMe_sendOutputs : ByteArray := prog_4_method_7_code
def yMe_sendOutputs : MethodName := ⟨RMe, "sendOutputs", "()V"⟩
def kMe_sendOutputs : Cond := .code yMe_sendOutputs bMe_sendOutputs 2 none
set_option maxRecDepth 20000 in
theorem qMe_sendOutputs : kMe_sendOutputs ∈ CW := cw_in 499 rfl rfl
abbrev bMe_store : ByteArray := prog_4_method_5_code
def yMe_store : MethodName := ⟨RMe, "store", "(IJ)V"⟩
def kMe_store : Cond := .code yMe_store bMe_store 4 none
set_option maxRecDepth 20000 in
theorem qMe_store : kMe_store ∈ CW := cw_in 471 rfl rfl
abbrev bMe_takeInputs : ByteArray := prog_4_method_6_code
def yMe_takeInputs : MethodName := ⟨RMe, "takeInputs", "()V"⟩
def kMe_takeInputs : Cond := .code yMe_takeInputs bMe_takeInputs 2 none
set_option maxRecDepth 20000 in
theorem qMe_takeInputs : kMe_takeInputs ∈ CW := cw_in 423 rfl rfl
abbrev bLw_bit : ByteArray := method_11_code
def yLw_bit : MethodName := ⟨RLw, "bit", "(LLadderScan;I[J)I"⟩
def kLw_bit : Cond := .codeWith yLw_bit bLw_bit 4 (some .int) [(0, 9, 12, 13)]
set_option maxRecDepth 20000 in
theorem qLw_bit : kLw_bit ∈ CW := cw_in 518 rfl rfl
abbrev bLw_block : ByteArray := method_3_code
def yLw_block : MethodName := ⟨RLw, "block", "(LLadderScan;III[J)I"⟩
def kLw_block : Cond := .codeWith yLw_block bLw_block 6 (some .int) [(0, 12, 15, 13), (0, 12, 19, 15)]
set_option maxRecDepth 20000 in
theorem qLw_block : kLw_block ∈ CW := cw_in 177 rfl rfl
abbrev bLw_count : ByteArray := method_15_code
def yLw_count : MethodName := ⟨RLw, "count", "(LLadderScan;I[J)I"⟩
def kLw_count : Cond := .codeWith yLw_count bLw_count 4 (some .int) [(0, 9, 12, 13)]
set_option maxRecDepth 20000 in
theorem qLw_count : kLw_count ∈ CW := cw_in 546 rfl rfl
abbrev bLw_erase : ByteArray := method_6_code
def yLw_erase : MethodName := ⟨RLw, "erase", "(LLadderScan;I[J)I"⟩
def kLw_erase : Cond := .codeWith yLw_erase bLw_erase 4 (some .int) [(0, 9, 12, 13)]
set_option maxRecDepth 20000 in
theorem qLw_erase : kLw_erase ∈ CW := cw_in 378 rfl rfl
abbrev bLw_force : ByteArray := method_9_code
def yLw_force : MethodName := ⟨RLw, "force", "(LLadderScan;II[J)I"⟩
def kLw_force : Cond := .codeWith yLw_force bLw_force 5 (some .int) [(0, 10, 13, 13)]
set_option maxRecDepth 20000 in
theorem qLw_force : kLw_force ∈ CW := cw_in 403 rfl rfl
abbrev bLw_out : ByteArray := method_12_code
def yLw_out : MethodName := ⟨RLw, "out", "(LLadderScan;I[J)I"⟩
def kLw_out : Cond := .codeWith yLw_out bLw_out 4 (some .int) [(0, 9, 12, 13)]
set_option maxRecDepth 20000 in
theorem qLw_out : kLw_out ∈ CW := cw_in 525 rfl rfl
abbrev bLw_put : ByteArray := method_8_code
def yLw_put : MethodName := ⟨RLw, "put", "(LLadderScan;ID[D)I"⟩
def kLw_put : Cond := .codeWith yLw_put bLw_put 6 (some .int) [(0, 10, 13, 13)]
set_option maxRecDepth 20000 in
theorem qLw_put : kLw_put ∈ CW := cw_in 396 rfl rfl
abbrev bLw_register : ByteArray := method_13_code
def yLw_register : MethodName := ⟨RLw, "register", "(LLadderScan;I[D)I"⟩
def kLw_register : Cond := .codeWith yLw_register bLw_register 4 (some .int) [(0, 8, 11, 13)]
set_option maxRecDepth 20000 in
theorem qLw_register : kLw_register ∈ CW := cw_in 532 rfl rfl
abbrev bLw_scan : ByteArray := method_10_code
def yLw_scan : MethodName := ⟨RLw, "scan", "(LLadderScan;I[J)I"⟩
def kLw_scan : Cond := .codeWith yLw_scan bLw_scan 4 (some .int) [(0, 9, 12, 13), (0, 9, 15, 15), (0, 9, 18, 46)]
set_option maxRecDepth 20000 in
theorem qLw_scan : kLw_scan ∈ CW := cw_in 410 rfl rfl
abbrev bLw_state : ByteArray := method_14_code
def yLw_state : MethodName := ⟨RLw, "state", "(LLadderScan;II[J)I"⟩
def kLw_state : Cond := .codeWith yLw_state bLw_state 5 (some .int) [(0, 10, 13, 21), (0, 10, 17, 13)]
set_option maxRecDepth 20000 in
theorem qLw_state : kLw_state ∈ CW := cw_in 539 rfl rfl
abbrev bLw_step : ByteArray := method_5_code
def yLw_step : MethodName := ⟨RLw, "step", "(LLadderScan;III[J)I"⟩
def kLw_step : Cond := .codeWith yLw_step bLw_step 6 (some .int) [(0, 12, 15, 13), (0, 12, 19, 23), (0, 12, 23, 15)]
set_option maxRecDepth 20000 in
theorem qLw_step : kLw_step ∈ CW := cw_in 340 rfl rfl
abbrev bLw_tune : ByteArray := method_4_code
def yLw_tune : MethodName := ⟨RLw, "tune", "(LLadderScan;IDD[D)I"⟩
def kLw_tune : Cond := .codeWith yLw_tune bLw_tune 8 (some .int) [(0, 12, 15, 21), (0, 12, 19, 23), (0, 12, 23, 13)]
set_option maxRecDepth 20000 in
theorem qLw_tune : kLw_tune ∈ CW := cw_in 282 rfl rfl
abbrev bLw_wire : ByteArray := method_7_code
def yLw_wire : MethodName := ⟨RLw, "wire", "(LLadderScan;II[J)I"⟩
def kLw_wire : Cond := .codeWith yLw_wire bLw_wire 5 (some .int) [(0, 10, 13, 13)]
set_option maxRecDepth 20000 in
theorem qLw_wire : kLw_wire ∈ CW := cw_in 389 rfl rfl
abbrev bMo_init : ByteArray := prog_6_method_1_code
def yMo_init : MethodName := ⟨RMo, "<init>", "()V"⟩
def kMo_init : Cond := .code yMo_init bMo_init 2 none
set_option maxRecDepth 20000 in
theorem qMo_init : kMo_init ∈ CW := cw_in 559 rfl rfl
abbrev bMo_bit : ByteArray := prog_6_method_31_code
def yMo_bit : MethodName := ⟨RMo, "bit", "(I)I"⟩
def kMo_bit : Cond := .code yMo_bit bMo_bit 2 (some .int)
set_option maxRecDepth 20000 in
theorem qMo_bit : kMo_bit ∈ CW := cw_in 768 rfl rfl
abbrev bMo_block : ByteArray := prog_6_method_10_code
def yMo_block : MethodName := ⟨RMo, "block", "(III)I"⟩
def kMo_block : Cond := .code yMo_block bMo_block 4 (some .int)
set_option maxRecDepth 20000 in
theorem qMo_block : kMo_block ∈ CW := cw_in 657 rfl rfl
abbrev bMo_calculate : ByteArray := prog_6_method_22_code
def yMo_calculate : MethodName := ⟨RMo, "calculate", "(I)V"⟩
def kMo_calculate : Cond := .code yMo_calculate bMo_calculate 4 none
set_option maxRecDepth 20000 in
theorem qMo_calculate : kMo_calculate ∈ CW := cw_in 747 rfl rfl
abbrev bMo_count : ByteArray := prog_6_method_35_code
def yMo_count : MethodName := ⟨RMo, "count", "(I)I"⟩
def kMo_count : Cond := .code yMo_count bMo_count 4 (some .int)
set_option maxRecDepth 20000 in
theorem qMo_count : kMo_count ∈ CW := cw_in 784 rfl rfl
abbrev bMo_down : ByteArray := prog_6_method_8_code
def yMo_down : MethodName := ⟨RMo, "down", "(JJ)J"⟩
def kMo_down : Cond := .code yMo_down bMo_down 4 (some .long)
set_option maxRecDepth 20000 in
theorem qMo_down : kMo_down ∈ CW := cw_in 751 rfl rfl
abbrev bMo_download : ByteArray := prog_6_method_17_code
def yMo_download : MethodName := ⟨RMo, "download", "()I"⟩
def kMo_download : Cond := .code yMo_download bMo_download 3 (some .int)
set_option maxRecDepth 20000 in
theorem qMo_download : kMo_download ∈ CW := cw_in 703 rfl rfl
abbrev bMo_eighths : ByteArray := prog_6_method_6_code
def yMo_eighths : MethodName := ⟨RMo, "eighths", "(D)J"⟩
def kMo_eighths : Cond := .code yMo_eighths bMo_eighths 4 (some .long)
set_option maxRecDepth 20000 in
theorem qMo_eighths : kMo_eighths ∈ CW := cw_in 680 rfl rfl
abbrev bMo_erase : ByteArray := prog_6_method_16_code
def yMo_erase : MethodName := ⟨RMo, "erase", "(I)I"⟩
def kMo_erase : Cond := .code yMo_erase bMo_erase 3 (some .int)
set_option maxRecDepth 20000 in
theorem qMo_erase : kMo_erase ∈ CW := cw_in 699 rfl rfl
abbrev bMo_fail : ByteArray := prog_6_method_30_code
def yMo_fail : MethodName := ⟨RMo, "fail", "()I"⟩
def kMo_fail : Cond := .code yMo_fail bMo_fail 3 (some .int)
set_option maxRecDepth 20000 in
theorem qMo_fail : kMo_fail ∈ CW := cw_in 764 rfl rfl
abbrev bMo_fit : ByteArray := prog_6_method_9_code
def yMo_fit : MethodName := ⟨RMo, "fit", "(J)J"⟩
def kMo_fit : Cond := .code yMo_fit bMo_fit 2 (some .long)
set_option maxRecDepth 20000 in
theorem qMo_fit : kMo_fit ∈ CW := cw_in 754 rfl rfl
abbrev bMo_fits : ByteArray := prog_6_method_12_code
def yMo_fits : MethodName := ⟨RMo, "fits", "(II)Z"⟩
def kMo_fits : Cond := .code yMo_fits bMo_fits 3 (some .boolean)
set_option maxRecDepth 20000 in
theorem qMo_fits : kMo_fits ∈ CW := cw_in 689 rfl rfl
abbrev bMo_force : ByteArray := prog_6_method_20_code
def yMo_force : MethodName := ⟨RMo, "force", "(II)I"⟩
def kMo_force : Cond := .code yMo_force bMo_force 4 (some .int)
set_option maxRecDepth 20000 in
theorem qMo_force : kMo_force ∈ CW := cw_in 715 rfl rfl
abbrev bMo_in : ByteArray := prog_6_method_4_code
def yMo_in : MethodName := ⟨RMo, "in", "(III)Z"⟩
def kMo_in : Cond := .code yMo_in bMo_in 3 (some .boolean)
set_option maxRecDepth 20000 in
theorem qMo_in : kMo_in ∈ CW := cw_in 660 rfl rfl
abbrev bMo_joins : ByteArray := prog_6_method_14_code
def yMo_joins : MethodName := ⟨RMo, "joins", "(I)Z"⟩
def kMo_joins : Cond := .code yMo_joins bMo_joins 1 (some .boolean)
set_option maxRecDepth 20000 in
theorem qMo_joins : kMo_joins ∈ CW := cw_in 695 rfl rfl
abbrev bMo_number : ByteArray := prog_6_method_5_code
def yMo_number : MethodName := ⟨RMo, "number", "(D)Z"⟩
def kMo_number : Cond := .code yMo_number bMo_number 2 (some .boolean)
set_option maxRecDepth 20000 in
theorem qMo_number : kMo_number ∈ CW := cw_in 671 rfl rfl
abbrev bMo_out : ByteArray := prog_6_method_32_code
def yMo_out : MethodName := ⟨RMo, "out", "(I)I"⟩
def kMo_out : Cond := .code yMo_out bMo_out 2 (some .int)
set_option maxRecDepth 20000 in
theorem qMo_out : kMo_out ∈ CW := cw_in 772 rfl rfl
abbrev bMo_perform : ByteArray := prog_6_method_25_code
def yMo_perform : MethodName := ⟨RMo, "perform", "(II)V"⟩
def kMo_perform : Cond := .code yMo_perform bMo_perform 4 none
set_option maxRecDepth 20000 in
theorem qMo_perform : kMo_perform ∈ CW := cw_in 731 rfl rfl
abbrev bMo_push : ByteArray := prog_6_method_24_code
def yMo_push : MethodName := ⟨RMo, "push", "(I)V"⟩
def kMo_push : Cond := .code yMo_push bMo_push 2 none
set_option maxRecDepth 20000 in
theorem qMo_push : kMo_push ∈ CW := cw_in 739 rfl rfl
abbrev bMo_pushes : ByteArray := prog_6_method_13_code
def yMo_pushes : MethodName := ⟨RMo, "pushes", "(I)Z"⟩
def kMo_pushes : Cond := .code yMo_pushes bMo_pushes 1 (some .boolean)
set_option maxRecDepth 20000 in
theorem qMo_pushes : kMo_pushes ∈ CW := cw_in 692 rfl rfl
abbrev bMo_put : ByteArray := prog_6_method_19_code
def yMo_put : MethodName := ⟨RMo, "put", "(ID)D"⟩
def kMo_put : Cond := .code yMo_put bMo_put 6 (some .double)
set_option maxRecDepth 20000 in
theorem qMo_put : kMo_put ∈ CW := cw_in 711 rfl rfl
abbrev bMo_raise : ByteArray := prog_6_method_3_code
def yMo_raise : MethodName := ⟨RMo, "raise", "(I)I"⟩
def kMo_raise : Cond := .code yMo_raise bMo_raise 2 (some .int)
set_option maxRecDepth 20000 in
theorem qMo_raise : kMo_raise ∈ CW := cw_in 664 rfl rfl
abbrev bMo_read : ByteArray := prog_6_method_21_code
def yMo_read : MethodName := ⟨RMo, "read", "(I)I"⟩
def kMo_read : Cond := .code yMo_read bMo_read 2 (some .int)
set_option maxRecDepth 20000 in
theorem qMo_read : kMo_read ∈ CW := cw_in 735 rfl rfl
abbrev bMo_register : ByteArray := prog_6_method_33_code
def yMo_register : MethodName := ⟨RMo, "register", "(I)D"⟩
def kMo_register : Cond := .code yMo_register bMo_register 2 (some .double)
set_option maxRecDepth 20000 in
theorem qMo_register : kMo_register ∈ CW := cw_in 776 rfl rfl
abbrev bMo_restart : ByteArray := prog_6_method_29_code
def yMo_restart : MethodName := ⟨RMo, "restart", "()I"⟩
def kMo_restart : Cond := .code yMo_restart bMo_restart 2 (some .int)
set_option maxRecDepth 20000 in
theorem qMo_restart : kMo_restart ∈ CW := cw_in 760 rfl rfl
abbrev bMo_rung : ByteArray := prog_6_method_26_code
def yMo_rung : MethodName := ⟨RMo, "rung", "(I)I"⟩
def kMo_rung : Cond := .code yMo_rung bMo_rung 3 (some .int)
set_option maxRecDepth 20000 in
theorem qMo_rung : kMo_rung ∈ CW := cw_in 727 rfl rfl
abbrev bMo_scan : ByteArray := prog_6_method_28_code
def yMo_scan : MethodName := ⟨RMo, "scan", "(I)I"⟩
def kMo_scan : Cond := .code yMo_scan bMo_scan 3 (some .int)
set_option maxRecDepth 20000 in
theorem qMo_scan : kMo_scan ∈ CW := cw_in 719 rfl rfl
abbrev bMo_scanOnce : ByteArray := prog_6_method_27_code
def yMo_scanOnce : MethodName := ⟨RMo, "scanOnce", "()V"⟩
def kMo_scanOnce : Cond := .code yMo_scanOnce bMo_scanOnce 4 none
set_option maxRecDepth 20000 in
theorem qMo_scanOnce : kMo_scanOnce ∈ CW := cw_in 723 rfl rfl
abbrev bMo_state : ByteArray := prog_6_method_34_code
def yMo_state : MethodName := ⟨RMo, "state", "(II)I"⟩
def kMo_state : Cond := .code yMo_state bMo_state 3 (some .int)
set_option maxRecDepth 20000 in
theorem qMo_state : kMo_state ∈ CW := cw_in 780 rfl rfl
abbrev bMo_step : ByteArray := prog_6_method_15_code
def yMo_step : MethodName := ⟨RMo, "step", "(III)I"⟩
def kMo_step : Cond := .code yMo_step bMo_step 5 (some .int)
set_option maxRecDepth 20000 in
theorem qMo_step : kMo_step ∈ CW := cw_in 685 rfl rfl
abbrev bMo_thrown : ByteArray := prog_6_method_2_code
def yMo_thrown : MethodName := ⟨RMo, "thrown", "()I"⟩
def kMo_thrown : Cond := .code yMo_thrown bMo_thrown 1 (some .int)
set_option maxRecDepth 20000 in
theorem qMo_thrown : kMo_thrown ∈ CW := cw_in 653 rfl rfl
abbrev bMo_tune : ByteArray := prog_6_method_11_code
def yMo_tune : MethodName := ⟨RMo, "tune", "(IDD)D"⟩
def kMo_tune : Cond := .code yMo_tune bMo_tune 8 (some .double)
set_option maxRecDepth 20000 in
theorem qMo_tune : kMo_tune ∈ CW := cw_in 668 rfl rfl
abbrev bMo_whole : ByteArray := prog_6_method_7_code
def yMo_whole : MethodName := ⟨RMo, "whole", "(D)Z"⟩
def kMo_whole : Cond := .code yMo_whole bMo_whole 2 (some .boolean)
set_option maxRecDepth 20000 in
theorem qMo_whole : kMo_whole ∈ CW := cw_in 676 rfl rfl
abbrev bMo_wire : ByteArray := prog_6_method_18_code
def yMo_wire : MethodName := ⟨RMo, "wire", "(II)I"⟩
def kMo_wire : Cond := .code yMo_wire bMo_wire 4 (some .int)
set_option maxRecDepth 20000 in
theorem qMo_wire : kMo_wire ∈ CW := cw_in 707 rfl rfl
abbrev bMo_work : ByteArray := prog_6_method_23_code
def yMo_work : MethodName := ⟨RMo, "work", "(II)V"⟩
def kMo_work : Cond := .code yMo_work bMo_work 4 none
set_option maxRecDepth 20000 in
theorem qMo_work : kMo_work ∈ CW := cw_in 743 rfl rfl
abbrev bMa_floorDiv : ByteArray := prog_11_method_49_code
def yMa_floorDiv : MethodName := ⟨RMa, "floorDiv", "(JJ)J"⟩
def kMa_floorDiv : Cond := .code yMa_floorDiv bMa_floorDiv 6 (some .long)
set_option maxRecDepth 20000 in
theorem qMa_floorDiv : kMa_floorDiv ∈ CW := cw_in 461 rfl rfl
end
section
/-! single words of the common list -/
set_option maxRecDepth 20000 in
theorem w0 : (.initialized "LadderScanLaw" : Cond) ∈ CW := cw_in 0 rfl rfl
set_option maxRecDepth 20000 in
theorem w1 : (.initialized "LadderScan" : Cond) ∈ CW := cw_in 1 rfl rfl
set_option maxRecDepth 20000 in
theorem w2 : (.initialized "LadderScan$Memory" : Cond) ∈ CW := cw_in 2 rfl rfl
set_option maxRecDepth 20000 in
theorem w3 : (.initialized "LadderScan$Ladder" : Cond) ∈ CW := cw_in 3 rfl rfl
set_option maxRecDepth 20000 in
theorem w4 : (.initialized "LadderScan$Block" : Cond) ∈ CW := cw_in 4 rfl rfl
set_option maxRecDepth 20000 in
theorem w5 : (.initialized "LadderScanModel" : Cond) ∈ CW := cw_in 5 rfl rfl
set_option maxRecDepth 20000 in
theorem w6 : (.initialized "java/lang/Throwable" : Cond) ∈ CW := cw_in 6 rfl rfl
set_option maxRecDepth 20000 in
theorem w7 : (.initialized "java/lang/Exception" : Cond) ∈ CW := cw_in 7 rfl rfl
set_option maxRecDepth 20000 in
theorem w8 : (.initialized "java/lang/RuntimeException" : Cond) ∈ CW := cw_in 8 rfl rfl
set_option maxRecDepth 20000 in
theorem w9 : (.initialized "java/lang/IllegalArgumentException" : Cond) ∈ CW := cw_in 9 rfl rfl
set_option maxRecDepth 20000 in
theorem w10 : (.initialized "java/lang/IllegalStateException" : Cond) ∈ CW := cw_in 10 rfl rfl
set_option maxRecDepth 20000 in
theorem w11 : (.initialized "java/util/NoSuchElementException" : Cond) ∈ CW := cw_in 11 rfl rfl
set_option maxRecDepth 20000 in
theorem w12 : (.initialized "java/lang/UnsupportedOperationException" : Cond) ∈ CW := cw_in 12 rfl rfl
set_option maxRecDepth 20000 in
theorem w13 : (.initialized "java/lang/System" : Cond) ∈ CW := cw_in 13 rfl rfl
set_option maxRecDepth 20000 in
theorem w14 : (.initialized "java/lang/Math" : Cond) ∈ CW := cw_in 14 rfl rfl
set_option maxRecDepth 20000 in
theorem w15 : (.initialized "java/lang/ArithmeticException" : Cond) ∈ CW := cw_in 15 rfl rfl
set_option maxRecDepth 20000 in
theorem w16 : (.classLink "LadderScanLaw" 8 "LadderScan" : Cond) ∈ CW := cw_in 16 rfl rfl
set_option maxRecDepth 20000 in
theorem w17 : (.instantiable "LadderScan" 8 : Cond) ∈ CW := cw_in 17 rfl rfl
set_option maxRecDepth 20000 in
theorem w18 : (.methodLink "LadderScanLaw" 64 ⟨"LadderScan", "<init>", "()V"⟩ : Cond) ∈ CW := cw_in 18 rfl rfl
set_option maxRecDepth 20000 in
theorem w19 : (.instanceMethod ⟨"LadderScan", "<init>", "()V"⟩ : Cond) ∈ CW := cw_in 19 rfl rfl
set_option maxRecDepth 20000 in
theorem w21 : (.methodLink "LadderScan" 3 ⟨"java/lang/Object", "<init>", "()V"⟩ : Cond) ∈ CW := cw_in 21 rfl rfl
set_option maxRecDepth 20000 in
theorem w22 : (.instanceMethod ⟨"java/lang/Object", "<init>", "()V"⟩ : Cond) ∈ CW := cw_in 22 rfl rfl
set_option maxRecDepth 20000 in
theorem w23 : (.code ⟨"java/lang/Object", "<init>", "()V"⟩ object_method_1_code 1 none : Cond) ∈ CW := cw_in 23 rfl rfl
set_option maxRecDepth 20000 in
theorem w24 : (.classLink "LadderScan" 9 "LadderScan$Memory" : Cond) ∈ CW := cw_in 24 rfl rfl
set_option maxRecDepth 20000 in
theorem w25 : (.instantiable "LadderScan$Memory" 5 : Cond) ∈ CW := cw_in 25 rfl rfl
set_option maxRecDepth 20000 in
theorem w26 : (.methodLink "LadderScan" 11 ⟨"LadderScan$Memory", "<init>", "()V"⟩ : Cond) ∈ CW := cw_in 26 rfl rfl
set_option maxRecDepth 20000 in
theorem w27 : (.instanceMethod ⟨"LadderScan$Memory", "<init>", "()V"⟩ : Cond) ∈ CW := cw_in 27 rfl rfl
set_option maxRecDepth 20000 in
theorem w29 : (.methodLink "LadderScan$Memory" 3 ⟨"java/lang/Object", "<init>", "()V"⟩ : Cond) ∈ CW := cw_in 29 rfl rfl
set_option maxRecDepth 20000 in
theorem w30 : (.fieldLink "LadderScan$Memory" 9 "LadderScan$Memory" "bits" "[I" : Cond) ∈ CW := cw_in 30 rfl rfl
set_option maxRecDepth 20000 in
theorem w31 : (.fieldLink "LadderScan$Memory" 15 "LadderScan$Memory" "forces" "[I" : Cond) ∈ CW := cw_in 31 rfl rfl
set_option maxRecDepth 20000 in
theorem w32 : (.fieldLink "LadderScan" 140 "LadderScan$Memory" "forces" "[I" : Cond) ∈ CW := cw_in 32 rfl rfl
set_option maxRecDepth 20000 in
theorem w33 : (.fieldLink "LadderScan$Memory" 18 "LadderScan$Memory" "inputWires" "[I" : Cond) ∈ CW := cw_in 33 rfl rfl
set_option maxRecDepth 20000 in
theorem w34 : (.fieldLink "LadderScan" 124 "LadderScan$Memory" "inputWires" "[I" : Cond) ∈ CW := cw_in 34 rfl rfl
set_option maxRecDepth 20000 in
theorem w35 : (.fieldLink "LadderScan$Memory" 21 "LadderScan$Memory" "outputWires" "[I" : Cond) ∈ CW := cw_in 35 rfl rfl
set_option maxRecDepth 20000 in
theorem w36 : (.fieldLink "LadderScan" 159 "LadderScan$Memory" "outputWires" "[I" : Cond) ∈ CW := cw_in 36 rfl rfl
set_option maxRecDepth 20000 in
theorem w37 : (.fieldLink "LadderScan$Memory" 24 "LadderScan$Memory" "registers" "[I" : Cond) ∈ CW := cw_in 37 rfl rfl
set_option maxRecDepth 20000 in
theorem w38 : (.fieldLink "LadderScan$Block" 54 "LadderScan$Memory" "registers" "[I" : Cond) ∈ CW := cw_in 38 rfl rfl
set_option maxRecDepth 20000 in
theorem w39 : (.fieldLink "LadderScan" 134 "LadderScan$Memory" "registers" "[I" : Cond) ∈ CW := cw_in 39 rfl rfl
set_option maxRecDepth 20000 in
theorem w51 : (.arrayClass .int : Cond) ∈ CW := cw_in 51 rfl rfl
set_option maxRecDepth 20000 in
theorem w52 : (.classLink "LadderScan" 16 "LadderScan$Block" : Cond) ∈ CW := cw_in 52 rfl rfl
set_option maxRecDepth 20000 in
theorem w54 : (.classLink "LadderScan" 22 "LadderScan$Ladder" : Cond) ∈ CW := cw_in 54 rfl rfl
set_option maxRecDepth 20000 in
theorem w55 : (.instantiable "LadderScan$Ladder" 4 : Cond) ∈ CW := cw_in 55 rfl rfl
set_option maxRecDepth 20000 in
theorem w57 : (.instanceMethod ⟨"LadderScan$Ladder", "<init>", "()V"⟩ : Cond) ∈ CW := cw_in 57 rfl rfl
set_option maxRecDepth 20000 in
theorem w59 : (.methodLink "LadderScan$Ladder" 3 ⟨"java/lang/Object", "<init>", "()V"⟩ : Cond) ∈ CW := cw_in 59 rfl rfl
set_option maxRecDepth 20000 in
theorem w60 : (.fieldLink "LadderScan$Ladder" 9 "LadderScan$Ladder" "ops" "[I" : Cond) ∈ CW := cw_in 60 rfl rfl
set_option maxRecDepth 20000 in
theorem w61 : (.fieldLink "LadderScan" 195 "LadderScan$Ladder" "ops" "[I" : Cond) ∈ CW := cw_in 61 rfl rfl
set_option maxRecDepth 20000 in
theorem w62 : (.fieldLink "LadderScan$Ladder" 15 "LadderScan$Ladder" "operands" "[I" : Cond) ∈ CW := cw_in 62 rfl rfl
set_option maxRecDepth 20000 in
theorem w63 : (.fieldLink "LadderScan" 198 "LadderScan$Ladder" "operands" "[I" : Cond) ∈ CW := cw_in 63 rfl rfl
set_option maxRecDepth 20000 in
theorem w64 : (.fieldLink "LadderScan$Ladder" 18 "LadderScan$Ladder" "lengths" "[I" : Cond) ∈ CW := cw_in 64 rfl rfl
set_option maxRecDepth 20000 in
theorem w65 : (.fieldLink "LadderScan" 192 "LadderScan$Ladder" "lengths" "[I" : Cond) ∈ CW := cw_in 65 rfl rfl
set_option maxRecDepth 20000 in
theorem w66 : (.fieldLink "LadderScan$Ladder" 21 "LadderScan$Ladder" "depths" "[I" : Cond) ∈ CW := cw_in 66 rfl rfl
set_option maxRecDepth 20000 in
theorem w76 : (.instantiable "LadderScan$Block" 8 : Cond) ∈ CW := cw_in 76 rfl rfl
set_option maxRecDepth 20000 in
theorem w78 : (.instanceMethod ⟨"LadderScan$Block", "<init>", "()V"⟩ : Cond) ∈ CW := cw_in 78 rfl rfl
set_option maxRecDepth 20000 in
theorem w80 : (.methodLink "LadderScan$Block" 3 ⟨"java/lang/Object", "<init>", "()V"⟩ : Cond) ∈ CW := cw_in 80 rfl rfl
set_option maxRecDepth 20000 in
theorem w81 : (.fieldLink "LadderScan$Block" 9 "LadderScan$Block" "kind" "I" : Cond) ∈ CW := cw_in 81 rfl rfl
set_option maxRecDepth 20000 in
theorem w82 : (.fieldLink "LadderScan" 68 "LadderScan$Block" "kind" "I" : Cond) ∈ CW := cw_in 82 rfl rfl
set_option maxRecDepth 20000 in
theorem w83 : (.fieldLink "LadderScan$Block" 15 "LadderScan$Block" "p" "I" : Cond) ∈ CW := cw_in 83 rfl rfl
set_option maxRecDepth 20000 in
theorem w84 : (.fieldLink "LadderScan$Block" 18 "LadderScan$Block" "q" "I" : Cond) ∈ CW := cw_in 84 rfl rfl
set_option maxRecDepth 20000 in
theorem w85 : (.fieldLink "LadderScan$Block" 21 "LadderScan$Block" "factor" "I" : Cond) ∈ CW := cw_in 85 rfl rfl
set_option maxRecDepth 20000 in
theorem w86 : (.fieldLink "LadderScan" 78 "LadderScan$Block" "factor" "I" : Cond) ∈ CW := cw_in 86 rfl rfl
set_option maxRecDepth 20000 in
theorem w87 : (.fieldLink "LadderScan$Block" 24 "LadderScan$Block" "offset" "I" : Cond) ∈ CW := cw_in 87 rfl rfl
set_option maxRecDepth 20000 in
theorem w88 : (.fieldLink "LadderScan" 89 "LadderScan$Block" "offset" "I" : Cond) ∈ CW := cw_in 88 rfl rfl
set_option maxRecDepth 20000 in
theorem w89 : (.fieldLink "LadderScan$Block" 27 "LadderScan$Block" "output" "I" : Cond) ∈ CW := cw_in 89 rfl rfl
set_option maxRecDepth 20000 in
theorem w90 : (.fieldLink "LadderScan" 162 "LadderScan$Block" "output" "I" : Cond) ∈ CW := cw_in 90 rfl rfl
set_option maxRecDepth 20000 in
theorem w91 : (.fieldLink "LadderScan$Block" 30 "LadderScan$Block" "counted" "I" : Cond) ∈ CW := cw_in 91 rfl rfl
set_option maxRecDepth 20000 in
theorem w92 : (.fieldLink "LadderScan" 165 "LadderScan$Block" "counted" "I" : Cond) ∈ CW := cw_in 92 rfl rfl
set_option maxRecDepth 20000 in
theorem w93 : (.fieldLink "LadderScan$Block" 33 "LadderScan$Block" "lastInput" "I" : Cond) ∈ CW := cw_in 93 rfl rfl
set_option maxRecDepth 20000 in
theorem w111 : (.fieldLink "LadderScan" 12 "LadderScan" "memory" "LLadderScan$Memory;" : Cond) ∈ CW := cw_in 111 rfl rfl
set_option maxRecDepth 20000 in
theorem w112 : (.fieldLink "LadderScan" 18 "LadderScan" "blocks" "[LLadderScan$Block;" : Cond) ∈ CW := cw_in 112 rfl rfl
set_option maxRecDepth 20000 in
theorem w113 : (.fieldLink "LadderScan" 25 "LadderScan" "written" "LLadderScan$Ladder;" : Cond) ∈ CW := cw_in 113 rfl rfl
set_option maxRecDepth 20000 in
theorem w114 : (.fieldLink "LadderScan" 29 "LadderScan" "program" "LLadderScan$Ladder;" : Cond) ∈ CW := cw_in 114 rfl rfl
set_option maxRecDepth 20000 in
theorem w115 : (.fieldLink "LadderScan" 32 "LadderScan" "blocksMade" "I" : Cond) ∈ CW := cw_in 115 rfl rfl
set_option maxRecDepth 20000 in
theorem w116 : (.fieldLink "LadderScan" 36 "LadderScan" "fullScans" "I" : Cond) ∈ CW := cw_in 116 rfl rfl
set_option maxRecDepth 20000 in
theorem w117 : (.fieldLink "LadderScan" 39 "LadderScan" "failedScans" "I" : Cond) ∈ CW := cw_in 117 rfl rfl
set_option maxRecDepth 20000 in
theorem w118 : (.fieldLink "LadderScan" 42 "LadderScan" "stopped" "Z" : Cond) ∈ CW := cw_in 118 rfl rfl
set_option maxRecDepth 20000 in
theorem w136 : (.methodLink "LadderScanLaw" 91 ⟨"LadderScan", "download", "()I"⟩ : Cond) ∈ CW := cw_in 136 rfl rfl
set_option maxRecDepth 20000 in
theorem w137 : (.instanceMethod ⟨"LadderScan", "download", "()I"⟩ : Cond) ∈ CW := cw_in 137 rfl rfl
set_option maxRecDepth 20000 in
theorem w138 : (.selects "LadderScan" ⟨"LadderScan", "download", "()I"⟩ ⟨"LadderScan", "download", "()I"⟩ : Cond) ∈ CW := cw_in 138 rfl rfl
set_option maxRecDepth 20000 in
theorem w140 : (.methodLink "LadderScan" 113 ⟨"LadderScan$Ladder", "copyFrom", "(LLadderScan$Ladder;)V"⟩ : Cond) ∈ CW := cw_in 140 rfl rfl
set_option maxRecDepth 20000 in
theorem w141 : (.instanceMethod ⟨"LadderScan$Ladder", "copyFrom", "(LLadderScan$Ladder;)V"⟩ : Cond) ∈ CW := cw_in 141 rfl rfl
set_option maxRecDepth 20000 in
theorem w142 : (.selects "LadderScan$Ladder" ⟨"LadderScan$Ladder", "copyFrom", "(LLadderScan$Ladder;)V"⟩ ⟨"LadderScan$Ladder", "copyFrom", "(LLadderScan$Ladder;)V"⟩ : Cond) ∈ CW := cw_in 142 rfl rfl
set_option maxRecDepth 20000 in
theorem w144 : (.methodLink "LadderScan$Ladder" 31 ⟨"java/lang/System", "arraycopy", "(Ljava/lang/Object;ILjava/lang/Object;II)V"⟩ : Cond) ∈ CW := cw_in 144 rfl rfl
set_option maxRecDepth 20000 in
theorem w145 : (.static ⟨"java/lang/System", "arraycopy", "(Ljava/lang/Object;ILjava/lang/Object;II)V"⟩ : Cond) ∈ CW := cw_in 145 rfl rfl
set_option maxRecDepth 20000 in
theorem w146 : (.native ⟨"java/lang/System", "arraycopy", "(Ljava/lang/Object;ILjava/lang/Object;II)V"⟩ : Cond) ∈ CW := cw_in 146 rfl rfl
set_option maxRecDepth 20000 in
theorem w147 : (.methodLink "LadderScan" 117 ⟨"LadderScan$Ladder", "size", "()I"⟩ : Cond) ∈ CW := cw_in 147 rfl rfl
set_option maxRecDepth 20000 in
theorem w148 : (.instanceMethod ⟨"LadderScan$Ladder", "size", "()I"⟩ : Cond) ∈ CW := cw_in 148 rfl rfl
set_option maxRecDepth 20000 in
theorem w149 : (.selects "LadderScan$Ladder" ⟨"LadderScan$Ladder", "size", "()I"⟩ ⟨"LadderScan$Ladder", "size", "()I"⟩ : Cond) ∈ CW := cw_in 149 rfl rfl
set_option maxRecDepth 20000 in
theorem w151 : (.methodLink "LadderScanLaw" 109 ⟨"LadderScan", "restart", "()I"⟩ : Cond) ∈ CW := cw_in 151 rfl rfl
set_option maxRecDepth 20000 in
theorem w152 : (.instanceMethod ⟨"LadderScan", "restart", "()I"⟩ : Cond) ∈ CW := cw_in 152 rfl rfl
set_option maxRecDepth 20000 in
theorem w153 : (.selects "LadderScan" ⟨"LadderScan", "restart", "()I"⟩ ⟨"LadderScan", "restart", "()I"⟩ : Cond) ∈ CW := cw_in 153 rfl rfl
set_option maxRecDepth 20000 in
theorem w155 : (.methodLink "LadderScanLaw" 113 ⟨"LadderScan", "fail", "()I"⟩ : Cond) ∈ CW := cw_in 155 rfl rfl
set_option maxRecDepth 20000 in
theorem w156 : (.instanceMethod ⟨"LadderScan", "fail", "()I"⟩ : Cond) ∈ CW := cw_in 156 rfl rfl
set_option maxRecDepth 20000 in
theorem w157 : (.selects "LadderScan" ⟨"LadderScan", "fail", "()I"⟩ ⟨"LadderScan", "fail", "()I"⟩ : Cond) ∈ CW := cw_in 157 rfl rfl
set_option maxRecDepth 20000 in
theorem w159 : (.methodLink "LadderScan" 149 ⟨"LadderScan$Memory", "losePower", "()V"⟩ : Cond) ∈ CW := cw_in 159 rfl rfl
set_option maxRecDepth 20000 in
theorem w160 : (.instanceMethod ⟨"LadderScan$Memory", "losePower", "()V"⟩ : Cond) ∈ CW := cw_in 160 rfl rfl
set_option maxRecDepth 20000 in
theorem w161 : (.selects "LadderScan$Memory" ⟨"LadderScan$Memory", "losePower", "()V"⟩ ⟨"LadderScan$Memory", "losePower", "()V"⟩ : Cond) ∈ CW := cw_in 161 rfl rfl
set_option maxRecDepth 20000 in
theorem w163 : (.methodLink "LadderScan$Memory" 44 ⟨"LadderScan$Memory", "clearOutputWires", "()V"⟩ : Cond) ∈ CW := cw_in 163 rfl rfl
set_option maxRecDepth 20000 in
theorem w164 : (.instanceMethod ⟨"LadderScan$Memory", "clearOutputWires", "()V"⟩ : Cond) ∈ CW := cw_in 164 rfl rfl
set_option maxRecDepth 20000 in
theorem w165 : (.selects "LadderScan$Memory" ⟨"LadderScan$Memory", "clearOutputWires", "()V"⟩ ⟨"LadderScan$Memory", "clearOutputWires", "()V"⟩ : Cond) ∈ CW := cw_in 165 rfl rfl
set_option maxRecDepth 20000 in
theorem w167 : (.methodLink "LadderScan" 152 ⟨"LadderScan$Block", "losePower", "()V"⟩ : Cond) ∈ CW := cw_in 167 rfl rfl
set_option maxRecDepth 20000 in
theorem w168 : (.instanceMethod ⟨"LadderScan$Block", "losePower", "()V"⟩ : Cond) ∈ CW := cw_in 168 rfl rfl
set_option maxRecDepth 20000 in
theorem w169 : (.selects "LadderScan$Block" ⟨"LadderScan$Block", "losePower", "()V"⟩ ⟨"LadderScan$Block", "losePower", "()V"⟩ : Cond) ∈ CW := cw_in 169 rfl rfl
set_option maxRecDepth 20000 in
theorem w171 : (.methodLink "LadderScan" 153 ⟨"LadderScan$Memory", "keptOnes", "()I"⟩ : Cond) ∈ CW := cw_in 171 rfl rfl
set_option maxRecDepth 20000 in
theorem w172 : (.instanceMethod ⟨"LadderScan$Memory", "keptOnes", "()I"⟩ : Cond) ∈ CW := cw_in 172 rfl rfl
set_option maxRecDepth 20000 in
theorem w173 : (.selects "LadderScan$Memory" ⟨"LadderScan$Memory", "keptOnes", "()I"⟩ ⟨"LadderScan$Memory", "keptOnes", "()I"⟩ : Cond) ∈ CW := cw_in 173 rfl rfl
set_option maxRecDepth 20000 in
theorem w175 : (.methodLink "LadderScanLaw" 68 ⟨"LadderScanLaw", "block", "(LLadderScan;III[J)I"⟩ : Cond) ∈ CW := cw_in 175 rfl rfl
set_option maxRecDepth 20000 in
theorem w176 : (.static ⟨"LadderScanLaw", "block", "(LLadderScan;III[J)I"⟩ : Cond) ∈ CW := cw_in 176 rfl rfl
set_option maxRecDepth 20000 in
theorem w178 : (.classLink "LadderScanLaw" 13 "java/lang/IllegalArgumentException" : Cond) ∈ CW := cw_in 178 rfl rfl
set_option maxRecDepth 20000 in
theorem w179 : (.classLink "LadderScanLaw" 15 "java/lang/IllegalStateException" : Cond) ∈ CW := cw_in 179 rfl rfl
set_option maxRecDepth 20000 in
theorem w180 : (.methodLink "LadderScanLaw" 7 ⟨"LadderScan", "block", "(III)I"⟩ : Cond) ∈ CW := cw_in 180 rfl rfl
set_option maxRecDepth 20000 in
theorem w181 : (.instanceMethod ⟨"LadderScan", "block", "(III)I"⟩ : Cond) ∈ CW := cw_in 181 rfl rfl
set_option maxRecDepth 20000 in
theorem w182 : (.selects "LadderScan" ⟨"LadderScan", "block", "(III)I"⟩ ⟨"LadderScan", "block", "(III)I"⟩ : Cond) ∈ CW := cw_in 182 rfl rfl
set_option maxRecDepth 20000 in
theorem w184 : (.methodLink "LadderScan" 47 ⟨"LadderScan", "isBlock", "(III)Z"⟩ : Cond) ∈ CW := cw_in 184 rfl rfl
set_option maxRecDepth 20000 in
theorem w185 : (.static ⟨"LadderScan", "isBlock", "(III)Z"⟩ : Cond) ∈ CW := cw_in 185 rfl rfl
set_option maxRecDepth 20000 in
theorem w187 : (.methodLink "LadderScan" 121 ⟨"LadderScan", "isWithin", "(III)Z"⟩ : Cond) ∈ CW := cw_in 187 rfl rfl
set_option maxRecDepth 20000 in
theorem w188 : (.static ⟨"LadderScan", "isWithin", "(III)Z"⟩ : Cond) ∈ CW := cw_in 188 rfl rfl
set_option maxRecDepth 20000 in
theorem w190 : (.methodLink "LadderScan" 137 ⟨"LadderScan", "isBit", "(I)Z"⟩ : Cond) ∈ CW := cw_in 190 rfl rfl
set_option maxRecDepth 20000 in
theorem w191 : (.static ⟨"LadderScan", "isBit", "(I)Z"⟩ : Cond) ∈ CW := cw_in 191 rfl rfl
set_option maxRecDepth 20000 in
theorem w193 : (.methodLink "LadderScan" 128 ⟨"LadderScan", "isRegister", "(I)Z"⟩ : Cond) ∈ CW := cw_in 193 rfl rfl
set_option maxRecDepth 20000 in
theorem w194 : (.static ⟨"LadderScan", "isRegister", "(I)Z"⟩ : Cond) ∈ CW := cw_in 194 rfl rfl
set_option maxRecDepth 20000 in
theorem w196 : (.classLink "LadderScan" 51 "java/lang/IllegalArgumentException" : Cond) ∈ CW := cw_in 196 rfl rfl
set_option maxRecDepth 20000 in
theorem w197 : (.instantiable "java/lang/IllegalArgumentException" 6 : Cond) ∈ CW := cw_in 197 rfl rfl
set_option maxRecDepth 20000 in
theorem w205 : (.selects "java/lang/IllegalArgumentException" ⟨"java/lang/Throwable", "fillInStackTrace", "(I)Ljava/lang/Throwable;"⟩ ⟨"java/lang/Throwable", "fillInStackTrace", "(I)Ljava/lang/Throwable;"⟩ : Cond) ∈ CW := cw_in 205 rfl rfl
set_option maxRecDepth 20000 in
theorem w206 : (.selects "java/lang/IllegalArgumentException" ⟨"java/lang/Throwable", "fillInStackTrace", "()Ljava/lang/Throwable;"⟩ ⟨"java/lang/Throwable", "fillInStackTrace", "()Ljava/lang/Throwable;"⟩ : Cond) ∈ CW := cw_in 206 rfl rfl
set_option maxRecDepth 20000 in
theorem w217 : (.fieldLink "java/lang/Throwable" 198 "java/lang/Throwable" "backtrace" "Ljava/lang/Object;" : Cond) ∈ CW := cw_in 217 rfl rfl
set_option maxRecDepth 20000 in
theorem w219 : (.instanceMethod ⟨"java/lang/Throwable", "<init>", "()V"⟩ : Cond) ∈ CW := cw_in 219 rfl rfl
set_option maxRecDepth 20000 in
theorem w221 : (.methodLink "java/lang/Throwable" 1 ⟨"java/lang/Object", "<init>", "()V"⟩ : Cond) ∈ CW := cw_in 221 rfl rfl
set_option maxRecDepth 20000 in
theorem w222 : (.fieldLink "java/lang/Throwable" 13 "java/lang/Throwable" "UNASSIGNED_STACK" "[Ljava/lang/StackTraceElement;" : Cond) ∈ CW := cw_in 222 rfl rfl
set_option maxRecDepth 20000 in
theorem w224 : (.fieldLink "java/lang/Throwable" 20 "java/lang/Throwable" "SUPPRESSED_SENTINEL" "Ljava/util/List;" : Cond) ∈ CW := cw_in 224 rfl rfl
set_option maxRecDepth 20000 in
theorem w226 : (.methodLink "java/lang/Throwable" 27 ⟨"java/lang/Throwable", "fillInStackTrace", "()Ljava/lang/Throwable;"⟩ : Cond) ∈ CW := cw_in 226 rfl rfl
set_option maxRecDepth 20000 in
theorem w227 : (.instanceMethod ⟨"java/lang/Throwable", "fillInStackTrace", "()Ljava/lang/Throwable;"⟩ : Cond) ∈ CW := cw_in 227 rfl rfl
set_option maxRecDepth 20000 in
theorem w229 : (.selects "java/lang/ArithmeticException" ⟨"java/lang/Throwable", "fillInStackTrace", "()Ljava/lang/Throwable;"⟩ ⟨"java/lang/Throwable", "fillInStackTrace", "()Ljava/lang/Throwable;"⟩ : Cond) ∈ CW := cw_in 229 rfl rfl
set_option maxRecDepth 20000 in
theorem w230 : (.selects "java/lang/IllegalStateException" ⟨"java/lang/Throwable", "fillInStackTrace", "()Ljava/lang/Throwable;"⟩ ⟨"java/lang/Throwable", "fillInStackTrace", "()Ljava/lang/Throwable;"⟩ : Cond) ∈ CW := cw_in 230 rfl rfl
set_option maxRecDepth 20000 in
theorem w231 : (.selects "java/lang/UnsupportedOperationException" ⟨"java/lang/Throwable", "fillInStackTrace", "()Ljava/lang/Throwable;"⟩ ⟨"java/lang/Throwable", "fillInStackTrace", "()Ljava/lang/Throwable;"⟩ : Cond) ∈ CW := cw_in 231 rfl rfl
set_option maxRecDepth 20000 in
theorem w232 : (.selects "java/util/NoSuchElementException" ⟨"java/lang/Throwable", "fillInStackTrace", "()Ljava/lang/Throwable;"⟩ ⟨"java/lang/Throwable", "fillInStackTrace", "()Ljava/lang/Throwable;"⟩ : Cond) ∈ CW := cw_in 232 rfl rfl
set_option maxRecDepth 20000 in
theorem w234 : (.methodLink "java/lang/Throwable" 202 ⟨"java/lang/Throwable", "fillInStackTrace", "(I)Ljava/lang/Throwable;"⟩ : Cond) ∈ CW := cw_in 234 rfl rfl
set_option maxRecDepth 20000 in
theorem w236 : (.instanceMethod ⟨"java/lang/Throwable", "fillInStackTrace", "(I)Ljava/lang/Throwable;"⟩ : Cond) ∈ CW := cw_in 236 rfl rfl
set_option maxRecDepth 20000 in
theorem w237 : (.instantiable "java/lang/Throwable" 6 : Cond) ∈ CW := cw_in 237 rfl rfl
set_option maxRecDepth 20000 in
theorem w238 : (.native ⟨"java/lang/Throwable", "fillInStackTrace", "(I)Ljava/lang/Throwable;"⟩ : Cond) ∈ CW := cw_in 238 rfl rfl
set_option maxRecDepth 20000 in
theorem w239 : (.methodLink "LadderScan" 53 ⟨"java/lang/IllegalArgumentException", "<init>", "()V"⟩ : Cond) ∈ CW := cw_in 239 rfl rfl
set_option maxRecDepth 20000 in
theorem w240 : (.instanceMethod ⟨"java/lang/IllegalArgumentException", "<init>", "()V"⟩ : Cond) ∈ CW := cw_in 240 rfl rfl
set_option maxRecDepth 20000 in
theorem w242 : (.methodLink "java/lang/IllegalArgumentException" 1 ⟨"java/lang/RuntimeException", "<init>", "()V"⟩ : Cond) ∈ CW := cw_in 242 rfl rfl
set_option maxRecDepth 20000 in
theorem w243 : (.instanceMethod ⟨"java/lang/RuntimeException", "<init>", "()V"⟩ : Cond) ∈ CW := cw_in 243 rfl rfl
set_option maxRecDepth 20000 in
theorem w245 : (.methodLink "java/lang/RuntimeException" 1 ⟨"java/lang/Exception", "<init>", "()V"⟩ : Cond) ∈ CW := cw_in 245 rfl rfl
set_option maxRecDepth 20000 in
theorem w246 : (.instanceMethod ⟨"java/lang/Exception", "<init>", "()V"⟩ : Cond) ∈ CW := cw_in 246 rfl rfl
set_option maxRecDepth 20000 in
theorem w248 : (.methodLink "java/lang/Exception" 1 ⟨"java/lang/Throwable", "<init>", "()V"⟩ : Cond) ∈ CW := cw_in 248 rfl rfl
set_option maxRecDepth 20000 in
theorem w249 : (.fieldLink "java/lang/Throwable" 198 "java/lang/Throwable" "backtrace" "Ljava/lang/Object;" : Cond) ∈ CW := cw_in 249 rfl rfl
set_option maxRecDepth 20000 in
theorem w250 : (.fieldLink "java/lang/Throwable" 7 "java/lang/Throwable" "cause" "Ljava/lang/Throwable;" : Cond) ∈ CW := cw_in 250 rfl rfl
set_option maxRecDepth 20000 in
theorem w251 : (.fieldLink "java/lang/Throwable" 17 "java/lang/Throwable" "stackTrace" "[Ljava/lang/StackTraceElement;" : Cond) ∈ CW := cw_in 251 rfl rfl
set_option maxRecDepth 20000 in
theorem w252 : (.fieldLink "java/lang/Throwable" 24 "java/lang/Throwable" "suppressedExceptions" "Ljava/util/List;" : Cond) ∈ CW := cw_in 252 rfl rfl
set_option maxRecDepth 20000 in
theorem w261 : (.classLink "LadderScan" 54 "java/lang/IllegalStateException" : Cond) ∈ CW := cw_in 261 rfl rfl
set_option maxRecDepth 20000 in
theorem w262 : (.instantiable "java/lang/IllegalStateException" 6 : Cond) ∈ CW := cw_in 262 rfl rfl
set_option maxRecDepth 20000 in
theorem w264 : (.selects "java/lang/IllegalStateException" ⟨"java/lang/Throwable", "fillInStackTrace", "(I)Ljava/lang/Throwable;"⟩ ⟨"java/lang/Throwable", "fillInStackTrace", "(I)Ljava/lang/Throwable;"⟩ : Cond) ∈ CW := cw_in 264 rfl rfl
set_option maxRecDepth 20000 in
theorem w270 : (.methodLink "LadderScan" 56 ⟨"java/lang/IllegalStateException", "<init>", "()V"⟩ : Cond) ∈ CW := cw_in 270 rfl rfl
set_option maxRecDepth 20000 in
theorem w271 : (.instanceMethod ⟨"java/lang/IllegalStateException", "<init>", "()V"⟩ : Cond) ∈ CW := cw_in 271 rfl rfl
set_option maxRecDepth 20000 in
theorem w273 : (.methodLink "java/lang/IllegalStateException" 1 ⟨"java/lang/RuntimeException", "<init>", "()V"⟩ : Cond) ∈ CW := cw_in 273 rfl rfl
set_option maxRecDepth 20000 in
theorem w276 : (.methodLink "LadderScan" 57 ⟨"LadderScan$Block", "become", "(III)V"⟩ : Cond) ∈ CW := cw_in 276 rfl rfl
set_option maxRecDepth 20000 in
theorem w277 : (.instanceMethod ⟨"LadderScan$Block", "become", "(III)V"⟩ : Cond) ∈ CW := cw_in 277 rfl rfl
set_option maxRecDepth 20000 in
theorem w278 : (.selects "LadderScan$Block" ⟨"LadderScan$Block", "become", "(III)V"⟩ ⟨"LadderScan$Block", "become", "(III)V"⟩ : Cond) ∈ CW := cw_in 278 rfl rfl
set_option maxRecDepth 20000 in
theorem w280 : (.methodLink "LadderScanLaw" 80 ⟨"LadderScanLaw", "tune", "(LLadderScan;IDD[D)I"⟩ : Cond) ∈ CW := cw_in 280 rfl rfl
set_option maxRecDepth 20000 in
theorem w281 : (.static ⟨"LadderScanLaw", "tune", "(LLadderScan;IDD[D)I"⟩ : Cond) ∈ CW := cw_in 281 rfl rfl
set_option maxRecDepth 20000 in
theorem w283 : (.classLink "LadderScanLaw" 21 "java/util/NoSuchElementException" : Cond) ∈ CW := cw_in 283 rfl rfl
set_option maxRecDepth 20000 in
theorem w284 : (.classLink "LadderScanLaw" 23 "java/lang/UnsupportedOperationException" : Cond) ∈ CW := cw_in 284 rfl rfl
set_option maxRecDepth 20000 in
theorem w285 : (.methodLink "LadderScanLaw" 17 ⟨"LadderScan", "tune", "(IDD)D"⟩ : Cond) ∈ CW := cw_in 285 rfl rfl
set_option maxRecDepth 20000 in
theorem w286 : (.instanceMethod ⟨"LadderScan", "tune", "(IDD)D"⟩ : Cond) ∈ CW := cw_in 286 rfl rfl
set_option maxRecDepth 20000 in
theorem w287 : (.selects "LadderScan" ⟨"LadderScan", "tune", "(IDD)D"⟩ ⟨"LadderScan", "tune", "(IDD)D"⟩ : Cond) ∈ CW := cw_in 287 rfl rfl
set_option maxRecDepth 20000 in
theorem w289 : (.methodLink "LadderScan" 61 ⟨"LadderScan", "isMade", "(I)Z"⟩ : Cond) ∈ CW := cw_in 289 rfl rfl
set_option maxRecDepth 20000 in
theorem w291 : (.instanceMethod ⟨"LadderScan", "isMade", "(I)Z"⟩ : Cond) ∈ CW := cw_in 291 rfl rfl
set_option maxRecDepth 20000 in
theorem w293 : (.classLink "LadderScan" 65 "java/util/NoSuchElementException" : Cond) ∈ CW := cw_in 293 rfl rfl
set_option maxRecDepth 20000 in
theorem w294 : (.instantiable "java/util/NoSuchElementException" 6 : Cond) ∈ CW := cw_in 294 rfl rfl
set_option maxRecDepth 20000 in
theorem w296 : (.selects "java/util/NoSuchElementException" ⟨"java/lang/Throwable", "fillInStackTrace", "(I)Ljava/lang/Throwable;"⟩ ⟨"java/lang/Throwable", "fillInStackTrace", "(I)Ljava/lang/Throwable;"⟩ : Cond) ∈ CW := cw_in 296 rfl rfl
set_option maxRecDepth 20000 in
theorem w302 : (.methodLink "LadderScan" 67 ⟨"java/util/NoSuchElementException", "<init>", "()V"⟩ : Cond) ∈ CW := cw_in 302 rfl rfl
set_option maxRecDepth 20000 in
theorem w303 : (.instanceMethod ⟨"java/util/NoSuchElementException", "<init>", "()V"⟩ : Cond) ∈ CW := cw_in 303 rfl rfl
set_option maxRecDepth 20000 in
theorem w305 : (.methodLink "java/util/NoSuchElementException" 1 ⟨"java/lang/RuntimeException", "<init>", "()V"⟩ : Cond) ∈ CW := cw_in 305 rfl rfl
set_option maxRecDepth 20000 in
theorem w308 : (.classLink "LadderScan" 71 "java/lang/UnsupportedOperationException" : Cond) ∈ CW := cw_in 308 rfl rfl
set_option maxRecDepth 20000 in
theorem w309 : (.instantiable "java/lang/UnsupportedOperationException" 6 : Cond) ∈ CW := cw_in 309 rfl rfl
set_option maxRecDepth 20000 in
theorem w311 : (.selects "java/lang/UnsupportedOperationException" ⟨"java/lang/Throwable", "fillInStackTrace", "(I)Ljava/lang/Throwable;"⟩ ⟨"java/lang/Throwable", "fillInStackTrace", "(I)Ljava/lang/Throwable;"⟩ : Cond) ∈ CW := cw_in 311 rfl rfl
set_option maxRecDepth 20000 in
theorem w317 : (.methodLink "LadderScan" 73 ⟨"java/lang/UnsupportedOperationException", "<init>", "()V"⟩ : Cond) ∈ CW := cw_in 317 rfl rfl
set_option maxRecDepth 20000 in
theorem w318 : (.instanceMethod ⟨"java/lang/UnsupportedOperationException", "<init>", "()V"⟩ : Cond) ∈ CW := cw_in 318 rfl rfl
set_option maxRecDepth 20000 in
theorem w320 : (.methodLink "java/lang/UnsupportedOperationException" 1 ⟨"java/lang/RuntimeException", "<init>", "()V"⟩ : Cond) ∈ CW := cw_in 320 rfl rfl
set_option maxRecDepth 20000 in
theorem w323 : (.methodLink "LadderScan" 74 ⟨"LadderScan", "isWholeEighths", "(D)Z"⟩ : Cond) ∈ CW := cw_in 323 rfl rfl
set_option maxRecDepth 20000 in
theorem w324 : (.static ⟨"LadderScan", "isWholeEighths", "(D)Z"⟩ : Cond) ∈ CW := cw_in 324 rfl rfl
set_option maxRecDepth 20000 in
theorem w326 : (.methodLink "LadderScan" 131 ⟨"LadderScan", "isInRange", "(D)Z"⟩ : Cond) ∈ CW := cw_in 326 rfl rfl
set_option maxRecDepth 20000 in
theorem w327 : (.static ⟨"LadderScan", "isInRange", "(D)Z"⟩ : Cond) ∈ CW := cw_in 327 rfl rfl
set_option maxRecDepth 20000 in
theorem w329 : (.constantDouble "LadderScan" 171 13889101250810609664 : Cond) ∈ CW := cw_in 329 rfl rfl
set_option maxRecDepth 20000 in
theorem w330 : (.constantDouble "LadderScan" 173 4665729213955833856 : Cond) ∈ CW := cw_in 330 rfl rfl
set_option maxRecDepth 20000 in
theorem w331 : (.methodLink "LadderScan" 85 ⟨"LadderScan", "eighthsAtMost", "(D)I"⟩ : Cond) ∈ CW := cw_in 331 rfl rfl
set_option maxRecDepth 20000 in
theorem w332 : (.static ⟨"LadderScan", "eighthsAtMost", "(D)I"⟩ : Cond) ∈ CW := cw_in 332 rfl rfl
set_option maxRecDepth 20000 in
theorem w334 : (.constantDouble "LadderScan" 175 4620693217682128896 : Cond) ∈ CW := cw_in 334 rfl rfl
set_option maxRecDepth 20000 in
theorem w335 : (.methodLink "LadderScan" 81 ⟨"LadderScan", "numberOf", "(I)D"⟩ : Cond) ∈ CW := cw_in 335 rfl rfl
set_option maxRecDepth 20000 in
theorem w336 : (.static ⟨"LadderScan", "numberOf", "(I)D"⟩ : Cond) ∈ CW := cw_in 336 rfl rfl
set_option maxRecDepth 20000 in
theorem w338 : (.methodLink "LadderScanLaw" 84 ⟨"LadderScanLaw", "step", "(LLadderScan;III[J)I"⟩ : Cond) ∈ CW := cw_in 338 rfl rfl
set_option maxRecDepth 20000 in
theorem w339 : (.static ⟨"LadderScanLaw", "step", "(LLadderScan;III[J)I"⟩ : Cond) ∈ CW := cw_in 339 rfl rfl
set_option maxRecDepth 20000 in
theorem w341 : (.methodLink "LadderScanLaw" 25 ⟨"LadderScan", "step", "(III)I"⟩ : Cond) ∈ CW := cw_in 341 rfl rfl
set_option maxRecDepth 20000 in
theorem w342 : (.instanceMethod ⟨"LadderScan", "step", "(III)I"⟩ : Cond) ∈ CW := cw_in 342 rfl rfl
set_option maxRecDepth 20000 in
theorem w343 : (.selects "LadderScan" ⟨"LadderScan", "step", "(III)I"⟩ ⟨"LadderScan", "step", "(III)I"⟩ : Cond) ∈ CW := cw_in 343 rfl rfl
set_option maxRecDepth 20000 in
theorem w345 : (.methodLink "LadderScan" 92 ⟨"LadderScan", "isRung", "(I)Z"⟩ : Cond) ∈ CW := cw_in 345 rfl rfl
set_option maxRecDepth 20000 in
theorem w346 : (.static ⟨"LadderScan", "isRung", "(I)Z"⟩ : Cond) ∈ CW := cw_in 346 rfl rfl
set_option maxRecDepth 20000 in
theorem w348 : (.methodLink "LadderScan" 95 ⟨"LadderScan", "isStep", "(II)Z"⟩ : Cond) ∈ CW := cw_in 348 rfl rfl
set_option maxRecDepth 20000 in
theorem w350 : (.instanceMethod ⟨"LadderScan", "isStep", "(II)Z"⟩ : Cond) ∈ CW := cw_in 350 rfl rfl
set_option maxRecDepth 20000 in
theorem w352 : (.methodLink "LadderScan" 99 ⟨"LadderScan$Ladder", "stackAllows", "(II)Z"⟩ : Cond) ∈ CW := cw_in 352 rfl rfl
set_option maxRecDepth 20000 in
theorem w353 : (.instanceMethod ⟨"LadderScan$Ladder", "stackAllows", "(II)Z"⟩ : Cond) ∈ CW := cw_in 353 rfl rfl
set_option maxRecDepth 20000 in
theorem w354 : (.selects "LadderScan$Ladder" ⟨"LadderScan$Ladder", "stackAllows", "(II)Z"⟩ ⟨"LadderScan$Ladder", "stackAllows", "(II)Z"⟩ : Cond) ∈ CW := cw_in 354 rfl rfl
set_option maxRecDepth 20000 in
theorem w356 : (.methodLink "LadderScan$Ladder" 24 ⟨"LadderScan$Ladder", "needed", "(I)I"⟩ : Cond) ∈ CW := cw_in 356 rfl rfl
set_option maxRecDepth 20000 in
theorem w357 : (.static ⟨"LadderScan$Ladder", "needed", "(I)I"⟩ : Cond) ∈ CW := cw_in 357 rfl rfl
set_option maxRecDepth 20000 in
theorem w359 : (.methodLink "LadderScan$Ladder" 37 ⟨"LadderScan$Ladder", "pushes", "(I)Z"⟩ : Cond) ∈ CW := cw_in 359 rfl rfl
set_option maxRecDepth 20000 in
theorem w360 : (.static ⟨"LadderScan$Ladder", "pushes", "(I)Z"⟩ : Cond) ∈ CW := cw_in 360 rfl rfl
set_option maxRecDepth 20000 in
theorem w362 : (.methodLink "LadderScan$Ladder" 41 ⟨"LadderScan$Ladder", "joins", "(I)Z"⟩ : Cond) ∈ CW := cw_in 362 rfl rfl
set_option maxRecDepth 20000 in
theorem w363 : (.static ⟨"LadderScan$Ladder", "joins", "(I)Z"⟩ : Cond) ∈ CW := cw_in 363 rfl rfl
set_option maxRecDepth 20000 in
theorem w365 : (.methodLink "LadderScan$Ladder" 28 ⟨"LadderScan$Ladder", "growth", "(I)I"⟩ : Cond) ∈ CW := cw_in 365 rfl rfl
set_option maxRecDepth 20000 in
theorem w366 : (.static ⟨"LadderScan$Ladder", "growth", "(I)I"⟩ : Cond) ∈ CW := cw_in 366 rfl rfl
set_option maxRecDepth 20000 in
theorem w368 : (.methodLink "LadderScan" 102 ⟨"LadderScan$Ladder", "isFull", "(I)Z"⟩ : Cond) ∈ CW := cw_in 368 rfl rfl
set_option maxRecDepth 20000 in
theorem w369 : (.instanceMethod ⟨"LadderScan$Ladder", "isFull", "(I)Z"⟩ : Cond) ∈ CW := cw_in 369 rfl rfl
set_option maxRecDepth 20000 in
theorem w370 : (.selects "LadderScan$Ladder" ⟨"LadderScan$Ladder", "isFull", "(I)Z"⟩ ⟨"LadderScan$Ladder", "isFull", "(I)Z"⟩ : Cond) ∈ CW := cw_in 370 rfl rfl
set_option maxRecDepth 20000 in
theorem w372 : (.methodLink "LadderScan" 105 ⟨"LadderScan$Ladder", "add", "(III)I"⟩ : Cond) ∈ CW := cw_in 372 rfl rfl
set_option maxRecDepth 20000 in
theorem w373 : (.instanceMethod ⟨"LadderScan$Ladder", "add", "(III)I"⟩ : Cond) ∈ CW := cw_in 373 rfl rfl
set_option maxRecDepth 20000 in
theorem w374 : (.selects "LadderScan$Ladder" ⟨"LadderScan$Ladder", "add", "(III)I"⟩ ⟨"LadderScan$Ladder", "add", "(III)I"⟩ : Cond) ∈ CW := cw_in 374 rfl rfl
set_option maxRecDepth 20000 in
theorem w376 : (.methodLink "LadderScanLaw" 87 ⟨"LadderScanLaw", "erase", "(LLadderScan;I[J)I"⟩ : Cond) ∈ CW := cw_in 376 rfl rfl
set_option maxRecDepth 20000 in
theorem w377 : (.static ⟨"LadderScanLaw", "erase", "(LLadderScan;I[J)I"⟩ : Cond) ∈ CW := cw_in 377 rfl rfl
set_option maxRecDepth 20000 in
theorem w379 : (.methodLink "LadderScanLaw" 28 ⟨"LadderScan", "erase", "(I)I"⟩ : Cond) ∈ CW := cw_in 379 rfl rfl
set_option maxRecDepth 20000 in
theorem w380 : (.instanceMethod ⟨"LadderScan", "erase", "(I)I"⟩ : Cond) ∈ CW := cw_in 380 rfl rfl
set_option maxRecDepth 20000 in
theorem w381 : (.selects "LadderScan" ⟨"LadderScan", "erase", "(I)I"⟩ ⟨"LadderScan", "erase", "(I)I"⟩ : Cond) ∈ CW := cw_in 381 rfl rfl
set_option maxRecDepth 20000 in
theorem w383 : (.methodLink "LadderScan" 109 ⟨"LadderScan$Ladder", "empty", "(I)I"⟩ : Cond) ∈ CW := cw_in 383 rfl rfl
set_option maxRecDepth 20000 in
theorem w384 : (.instanceMethod ⟨"LadderScan$Ladder", "empty", "(I)I"⟩ : Cond) ∈ CW := cw_in 384 rfl rfl
set_option maxRecDepth 20000 in
theorem w385 : (.selects "LadderScan$Ladder" ⟨"LadderScan$Ladder", "empty", "(I)I"⟩ ⟨"LadderScan$Ladder", "empty", "(I)I"⟩ : Cond) ∈ CW := cw_in 385 rfl rfl
set_option maxRecDepth 20000 in
theorem w387 : (.methodLink "LadderScanLaw" 95 ⟨"LadderScanLaw", "wire", "(LLadderScan;II[J)I"⟩ : Cond) ∈ CW := cw_in 387 rfl rfl
set_option maxRecDepth 20000 in
theorem w388 : (.static ⟨"LadderScanLaw", "wire", "(LLadderScan;II[J)I"⟩ : Cond) ∈ CW := cw_in 388 rfl rfl
set_option maxRecDepth 20000 in
theorem w390 : (.methodLink "LadderScanLaw" 32 ⟨"LadderScan", "wire", "(II)I"⟩ : Cond) ∈ CW := cw_in 390 rfl rfl
set_option maxRecDepth 20000 in
theorem w391 : (.instanceMethod ⟨"LadderScan", "wire", "(II)I"⟩ : Cond) ∈ CW := cw_in 391 rfl rfl
set_option maxRecDepth 20000 in
theorem w392 : (.selects "LadderScan" ⟨"LadderScan", "wire", "(II)I"⟩ ⟨"LadderScan", "wire", "(II)I"⟩ : Cond) ∈ CW := cw_in 392 rfl rfl
set_option maxRecDepth 20000 in
theorem w394 : (.methodLink "LadderScanLaw" 99 ⟨"LadderScanLaw", "put", "(LLadderScan;ID[D)I"⟩ : Cond) ∈ CW := cw_in 394 rfl rfl
set_option maxRecDepth 20000 in
theorem w395 : (.static ⟨"LadderScanLaw", "put", "(LLadderScan;ID[D)I"⟩ : Cond) ∈ CW := cw_in 395 rfl rfl
set_option maxRecDepth 20000 in
theorem w397 : (.methodLink "LadderScanLaw" 36 ⟨"LadderScan", "put", "(ID)D"⟩ : Cond) ∈ CW := cw_in 397 rfl rfl
set_option maxRecDepth 20000 in
theorem w398 : (.instanceMethod ⟨"LadderScan", "put", "(ID)D"⟩ : Cond) ∈ CW := cw_in 398 rfl rfl
set_option maxRecDepth 20000 in
theorem w399 : (.selects "LadderScan" ⟨"LadderScan", "put", "(ID)D"⟩ ⟨"LadderScan", "put", "(ID)D"⟩ : Cond) ∈ CW := cw_in 399 rfl rfl
set_option maxRecDepth 20000 in
theorem w401 : (.methodLink "LadderScanLaw" 103 ⟨"LadderScanLaw", "force", "(LLadderScan;II[J)I"⟩ : Cond) ∈ CW := cw_in 401 rfl rfl
set_option maxRecDepth 20000 in
theorem w402 : (.static ⟨"LadderScanLaw", "force", "(LLadderScan;II[J)I"⟩ : Cond) ∈ CW := cw_in 402 rfl rfl
set_option maxRecDepth 20000 in
theorem w404 : (.methodLink "LadderScanLaw" 40 ⟨"LadderScan", "force", "(II)I"⟩ : Cond) ∈ CW := cw_in 404 rfl rfl
set_option maxRecDepth 20000 in
theorem w405 : (.instanceMethod ⟨"LadderScan", "force", "(II)I"⟩ : Cond) ∈ CW := cw_in 405 rfl rfl
set_option maxRecDepth 20000 in
theorem w406 : (.selects "LadderScan" ⟨"LadderScan", "force", "(II)I"⟩ ⟨"LadderScan", "force", "(II)I"⟩ : Cond) ∈ CW := cw_in 406 rfl rfl
set_option maxRecDepth 20000 in
theorem w408 : (.methodLink "LadderScanLaw" 106 ⟨"LadderScanLaw", "scan", "(LLadderScan;I[J)I"⟩ : Cond) ∈ CW := cw_in 408 rfl rfl
set_option maxRecDepth 20000 in
theorem w409 : (.static ⟨"LadderScanLaw", "scan", "(LLadderScan;I[J)I"⟩ : Cond) ∈ CW := cw_in 409 rfl rfl
set_option maxRecDepth 20000 in
theorem w411 : (.classLink "LadderScanLaw" 46 "java/lang/ArithmeticException" : Cond) ∈ CW := cw_in 411 rfl rfl
set_option maxRecDepth 20000 in
theorem w412 : (.methodLink "LadderScanLaw" 43 ⟨"LadderScan", "scan", "(I)I"⟩ : Cond) ∈ CW := cw_in 412 rfl rfl
set_option maxRecDepth 20000 in
theorem w413 : (.instanceMethod ⟨"LadderScan", "scan", "(I)I"⟩ : Cond) ∈ CW := cw_in 413 rfl rfl
set_option maxRecDepth 20000 in
theorem w414 : (.selects "LadderScan" ⟨"LadderScan", "scan", "(I)I"⟩ ⟨"LadderScan", "scan", "(I)I"⟩ : Cond) ∈ CW := cw_in 414 rfl rfl
set_option maxRecDepth 20000 in
theorem w416 : (.methodLink "LadderScan" 143 ⟨"LadderScan", "scanOnce", "()I"⟩ : Cond) ∈ CW := cw_in 416 rfl rfl
set_option maxRecDepth 20000 in
theorem w418 : (.instanceMethod ⟨"LadderScan", "scanOnce", "()I"⟩ : Cond) ∈ CW := cw_in 418 rfl rfl
set_option maxRecDepth 20000 in
theorem w420 : (.methodLink "LadderScan" 177 ⟨"LadderScan$Memory", "takeInputs", "()V"⟩ : Cond) ∈ CW := cw_in 420 rfl rfl
set_option maxRecDepth 20000 in
theorem w421 : (.instanceMethod ⟨"LadderScan$Memory", "takeInputs", "()V"⟩ : Cond) ∈ CW := cw_in 421 rfl rfl
set_option maxRecDepth 20000 in
theorem w422 : (.selects "LadderScan$Memory" ⟨"LadderScan$Memory", "takeInputs", "()V"⟩ ⟨"LadderScan$Memory", "takeInputs", "()V"⟩ : Cond) ∈ CW := cw_in 422 rfl rfl
set_option maxRecDepth 20000 in
theorem w424 : (.methodLink "LadderScan" 180 ⟨"LadderScan", "runProgram", "()I"⟩ : Cond) ∈ CW := cw_in 424 rfl rfl
set_option maxRecDepth 20000 in
theorem w426 : (.instanceMethod ⟨"LadderScan", "runProgram", "()I"⟩ : Cond) ∈ CW := cw_in 426 rfl rfl
set_option maxRecDepth 20000 in
theorem w428 : (.methodLink "LadderScan" 189 ⟨"LadderScan", "runRung", "(I)I"⟩ : Cond) ∈ CW := cw_in 428 rfl rfl
set_option maxRecDepth 20000 in
theorem w430 : (.instanceMethod ⟨"LadderScan", "runRung", "(I)I"⟩ : Cond) ∈ CW := cw_in 430 rfl rfl
set_option maxRecDepth 20000 in
theorem w432 : (.methodLink "LadderScan" 201 ⟨"LadderScan$Block", "failsWith", "(I)Z"⟩ : Cond) ∈ CW := cw_in 432 rfl rfl
set_option maxRecDepth 20000 in
theorem w433 : (.instanceMethod ⟨"LadderScan$Block", "failsWith", "(I)Z"⟩ : Cond) ∈ CW := cw_in 433 rfl rfl
set_option maxRecDepth 20000 in
theorem w434 : (.selects "LadderScan$Block" ⟨"LadderScan$Block", "failsWith", "(I)Z"⟩ ⟨"LadderScan$Block", "failsWith", "(I)Z"⟩ : Cond) ∈ CW := cw_in 434 rfl rfl
set_option maxRecDepth 20000 in
theorem w436 : (.methodLink "LadderScan" 204 ⟨"LadderScan$Block", "work", "(ILLadderScan$Memory;)I"⟩ : Cond) ∈ CW := cw_in 436 rfl rfl
set_option maxRecDepth 20000 in
theorem w437 : (.instanceMethod ⟨"LadderScan$Block", "work", "(ILLadderScan$Memory;)I"⟩ : Cond) ∈ CW := cw_in 437 rfl rfl
set_option maxRecDepth 20000 in
theorem w438 : (.selects "LadderScan$Block" ⟨"LadderScan$Block", "work", "(ILLadderScan$Memory;)I"⟩ ⟨"LadderScan$Block", "work", "(ILLadderScan$Memory;)I"⟩ : Cond) ∈ CW := cw_in 438 rfl rfl
set_option maxRecDepth 20000 in
theorem w440 : (.methodLink "LadderScan$Block" 36 ⟨"java/lang/Math", "min", "(II)I"⟩ : Cond) ∈ CW := cw_in 440 rfl rfl
set_option maxRecDepth 20000 in
theorem w441 : (.static ⟨"java/lang/Math", "min", "(II)I"⟩ : Cond) ∈ CW := cw_in 441 rfl rfl
set_option maxRecDepth 20000 in
theorem w442 : (.code ⟨"java/lang/Math", "min", "(II)I"⟩ prog_11_method_69_code 2 (some .int) : Cond) ∈ CW := cw_in 442 rfl rfl
set_option maxRecDepth 20000 in
theorem w443 : (.methodLink "LadderScan$Block" 42 ⟨"java/lang/Math", "max", "(II)I"⟩ : Cond) ∈ CW := cw_in 443 rfl rfl
set_option maxRecDepth 20000 in
theorem w444 : (.static ⟨"java/lang/Math", "max", "(II)I"⟩ : Cond) ∈ CW := cw_in 444 rfl rfl
set_option maxRecDepth 20000 in
theorem w445 : (.code ⟨"java/lang/Math", "max", "(II)I"⟩ prog_11_method_65_code 2 (some .int) : Cond) ∈ CW := cw_in 445 rfl rfl
set_option maxRecDepth 20000 in
theorem w446 : (.methodLink "LadderScan$Block" 45 ⟨"LadderScan$Memory", "read", "(I)I"⟩ : Cond) ∈ CW := cw_in 446 rfl rfl
set_option maxRecDepth 20000 in
theorem w447 : (.instanceMethod ⟨"LadderScan$Memory", "read", "(I)I"⟩ : Cond) ∈ CW := cw_in 447 rfl rfl
set_option maxRecDepth 20000 in
theorem w448 : (.selects "LadderScan$Memory" ⟨"LadderScan$Memory", "read", "(I)I"⟩ ⟨"LadderScan$Memory", "read", "(I)I"⟩ : Cond) ∈ CW := cw_in 448 rfl rfl
set_option maxRecDepth 20000 in
theorem w450 : (.methodLink "LadderScan$Block" 51 ⟨"LadderScan$Block", "countWith", "(II)I"⟩ : Cond) ∈ CW := cw_in 450 rfl rfl
set_option maxRecDepth 20000 in
theorem w452 : (.instanceMethod ⟨"LadderScan$Block", "countWith", "(II)I"⟩ : Cond) ∈ CW := cw_in 452 rfl rfl
set_option maxRecDepth 20000 in
theorem w454 : (.methodLink "LadderScan$Block" 58 ⟨"LadderScan$Block", "reckon", "(J)J"⟩ : Cond) ∈ CW := cw_in 454 rfl rfl
set_option maxRecDepth 20000 in
theorem w456 : (.instanceMethod ⟨"LadderScan$Block", "reckon", "(J)J"⟩ : Cond) ∈ CW := cw_in 456 rfl rfl
set_option maxRecDepth 20000 in
theorem w458 : (.constantLong "LadderScan$Block" 66 8 : Cond) ∈ CW := cw_in 458 rfl rfl
set_option maxRecDepth 20000 in
theorem w459 : (.methodLink "LadderScan$Block" 68 ⟨"java/lang/Math", "floorDiv", "(JJ)J"⟩ : Cond) ∈ CW := cw_in 459 rfl rfl
set_option maxRecDepth 20000 in
theorem w460 : (.static ⟨"java/lang/Math", "floorDiv", "(JJ)J"⟩ : Cond) ∈ CW := cw_in 460 rfl rfl
set_option maxRecDepth 20000 in
theorem w461 : (.code ⟨"java/lang/Math", "floorDiv", "(JJ)J"⟩ prog_11_method_49_code 6 (some .long) : Cond) ∈ CW := cw_in 461 rfl rfl
set_option maxRecDepth 20000 in
theorem w462 : (.methodLink "LadderScan$Block" 72 ⟨"java/lang/Math", "min", "(JJ)J"⟩ : Cond) ∈ CW := cw_in 462 rfl rfl
set_option maxRecDepth 20000 in
theorem w463 : (.static ⟨"java/lang/Math", "min", "(JJ)J"⟩ : Cond) ∈ CW := cw_in 463 rfl rfl
set_option maxRecDepth 20000 in
theorem w464 : (.code ⟨"java/lang/Math", "min", "(JJ)J"⟩ prog_11_method_70_code 4 (some .long) : Cond) ∈ CW := cw_in 464 rfl rfl
set_option maxRecDepth 20000 in
theorem w465 : (.methodLink "LadderScan$Block" 74 ⟨"java/lang/Math", "max", "(JJ)J"⟩ : Cond) ∈ CW := cw_in 465 rfl rfl
set_option maxRecDepth 20000 in
theorem w466 : (.static ⟨"java/lang/Math", "max", "(JJ)J"⟩ : Cond) ∈ CW := cw_in 466 rfl rfl
set_option maxRecDepth 20000 in
theorem w467 : (.code ⟨"java/lang/Math", "max", "(JJ)J"⟩ prog_11_method_66_code 4 (some .long) : Cond) ∈ CW := cw_in 467 rfl rfl
set_option maxRecDepth 20000 in
theorem w468 : (.methodLink "LadderScan$Block" 62 ⟨"LadderScan$Memory", "store", "(IJ)V"⟩ : Cond) ∈ CW := cw_in 468 rfl rfl
set_option maxRecDepth 20000 in
theorem w469 : (.instanceMethod ⟨"LadderScan$Memory", "store", "(IJ)V"⟩ : Cond) ∈ CW := cw_in 469 rfl rfl
set_option maxRecDepth 20000 in
theorem w470 : (.selects "LadderScan$Memory" ⟨"LadderScan$Memory", "store", "(IJ)V"⟩ ⟨"LadderScan$Memory", "store", "(IJ)V"⟩ : Cond) ∈ CW := cw_in 470 rfl rfl
set_option maxRecDepth 20000 in
theorem w472 : (.constantLong "LadderScan$Memory" 27 (-65536) : Cond) ∈ CW := cw_in 472 rfl rfl
set_option maxRecDepth 20000 in
theorem w473 : (.constantLong "LadderScan$Memory" 29 65536 : Cond) ∈ CW := cw_in 473 rfl rfl
set_option maxRecDepth 20000 in
theorem w474 : (.methodLink "LadderScan$Memory" 31 ⟨"java/lang/Math", "min", "(JJ)J"⟩ : Cond) ∈ CW := cw_in 474 rfl rfl
set_option maxRecDepth 20000 in
theorem w475 : (.methodLink "LadderScan$Memory" 37 ⟨"java/lang/Math", "max", "(JJ)J"⟩ : Cond) ∈ CW := cw_in 475 rfl rfl
set_option maxRecDepth 20000 in
theorem w476 : (.methodLink "LadderScan" 208 ⟨"LadderScan", "withTop", "(II)I"⟩ : Cond) ∈ CW := cw_in 476 rfl rfl
set_option maxRecDepth 20000 in
theorem w477 : (.static ⟨"LadderScan", "withTop", "(II)I"⟩ : Cond) ∈ CW := cw_in 477 rfl rfl
set_option maxRecDepth 20000 in
theorem w479 : (.methodLink "LadderScan" 212 ⟨"LadderScan$Memory", "assign", "(III)V"⟩ : Cond) ∈ CW := cw_in 479 rfl rfl
set_option maxRecDepth 20000 in
theorem w480 : (.instanceMethod ⟨"LadderScan$Memory", "assign", "(III)V"⟩ : Cond) ∈ CW := cw_in 480 rfl rfl
set_option maxRecDepth 20000 in
theorem w481 : (.selects "LadderScan$Memory" ⟨"LadderScan$Memory", "assign", "(III)V"⟩ ⟨"LadderScan$Memory", "assign", "(III)V"⟩ : Cond) ∈ CW := cw_in 481 rfl rfl
set_option maxRecDepth 20000 in
theorem w483 : (.methodLink "LadderScan" 215 ⟨"LadderScan", "stackAfter", "(III)I"⟩ : Cond) ∈ CW := cw_in 483 rfl rfl
set_option maxRecDepth 20000 in
theorem w485 : (.instanceMethod ⟨"LadderScan", "stackAfter", "(III)I"⟩ : Cond) ∈ CW := cw_in 485 rfl rfl
set_option maxRecDepth 20000 in
theorem w487 : (.methodLink "LadderScan" 156 ⟨"LadderScan$Memory", "read", "(I)I"⟩ : Cond) ∈ CW := cw_in 487 rfl rfl
set_option maxRecDepth 20000 in
theorem w488 : (.methodLink "LadderScan" 218 ⟨"LadderScan", "withPushed", "(II)I"⟩ : Cond) ∈ CW := cw_in 488 rfl rfl
set_option maxRecDepth 20000 in
theorem w489 : (.static ⟨"LadderScan", "withPushed", "(II)I"⟩ : Cond) ∈ CW := cw_in 489 rfl rfl
set_option maxRecDepth 20000 in
theorem w491 : (.methodLink "LadderScan" 221 ⟨"LadderScan$Memory", "isAbove", "(II)Z"⟩ : Cond) ∈ CW := cw_in 491 rfl rfl
set_option maxRecDepth 20000 in
theorem w492 : (.instanceMethod ⟨"LadderScan$Memory", "isAbove", "(II)Z"⟩ : Cond) ∈ CW := cw_in 492 rfl rfl
set_option maxRecDepth 20000 in
theorem w493 : (.selects "LadderScan$Memory" ⟨"LadderScan$Memory", "isAbove", "(II)Z"⟩ ⟨"LadderScan$Memory", "isAbove", "(II)Z"⟩ : Cond) ∈ CW := cw_in 493 rfl rfl
set_option maxRecDepth 20000 in
theorem w495 : (.methodLink "LadderScan" 183 ⟨"LadderScan$Memory", "clearOutputWires", "()V"⟩ : Cond) ∈ CW := cw_in 495 rfl rfl
set_option maxRecDepth 20000 in
theorem w496 : (.methodLink "LadderScan" 186 ⟨"LadderScan$Memory", "sendOutputs", "()V"⟩ : Cond) ∈ CW := cw_in 496 rfl rfl
set_option maxRecDepth 20000 in
theorem w497 : (.instanceMethod ⟨"LadderScan$Memory", "sendOutputs", "()V"⟩ : Cond) ∈ CW := cw_in 497 rfl rfl
set_option maxRecDepth 20000 in
theorem w498 : (.selects "LadderScan$Memory" ⟨"LadderScan$Memory", "sendOutputs", "()V"⟩ ⟨"LadderScan$Memory", "sendOutputs", "()V"⟩ : Cond) ∈ CW := cw_in 498 rfl rfl
set_option maxRecDepth 20000 in
theorem w500 : (.methodLink "LadderScan$Memory" 40 ⟨"LadderScan$Memory", "read", "(I)I"⟩ : Cond) ∈ CW := cw_in 500 rfl rfl
set_option maxRecDepth 20000 in
theorem w501 : (.classLink "LadderScan" 146 "java/lang/ArithmeticException" : Cond) ∈ CW := cw_in 501 rfl rfl
set_option maxRecDepth 20000 in
theorem w502 : (.instantiable "java/lang/ArithmeticException" 6 : Cond) ∈ CW := cw_in 502 rfl rfl
set_option maxRecDepth 20000 in
theorem w504 : (.selects "java/lang/ArithmeticException" ⟨"java/lang/Throwable", "fillInStackTrace", "(I)Ljava/lang/Throwable;"⟩ ⟨"java/lang/Throwable", "fillInStackTrace", "(I)Ljava/lang/Throwable;"⟩ : Cond) ∈ CW := cw_in 504 rfl rfl
set_option maxRecDepth 20000 in
theorem w510 : (.methodLink "LadderScan" 148 ⟨"java/lang/ArithmeticException", "<init>", "()V"⟩ : Cond) ∈ CW := cw_in 510 rfl rfl
set_option maxRecDepth 20000 in
theorem w511 : (.instanceMethod ⟨"java/lang/ArithmeticException", "<init>", "()V"⟩ : Cond) ∈ CW := cw_in 511 rfl rfl
set_option maxRecDepth 20000 in
theorem w513 : (.methodLink "java/lang/ArithmeticException" 1 ⟨"java/lang/RuntimeException", "<init>", "()V"⟩ : Cond) ∈ CW := cw_in 513 rfl rfl
set_option maxRecDepth 20000 in
theorem w516 : (.methodLink "LadderScanLaw" 117 ⟨"LadderScanLaw", "bit", "(LLadderScan;I[J)I"⟩ : Cond) ∈ CW := cw_in 516 rfl rfl
set_option maxRecDepth 20000 in
theorem w517 : (.static ⟨"LadderScanLaw", "bit", "(LLadderScan;I[J)I"⟩ : Cond) ∈ CW := cw_in 517 rfl rfl
set_option maxRecDepth 20000 in
theorem w519 : (.methodLink "LadderScanLaw" 48 ⟨"LadderScan", "bit", "(I)I"⟩ : Cond) ∈ CW := cw_in 519 rfl rfl
set_option maxRecDepth 20000 in
theorem w520 : (.instanceMethod ⟨"LadderScan", "bit", "(I)I"⟩ : Cond) ∈ CW := cw_in 520 rfl rfl
set_option maxRecDepth 20000 in
theorem w521 : (.selects "LadderScan" ⟨"LadderScan", "bit", "(I)I"⟩ ⟨"LadderScan", "bit", "(I)I"⟩ : Cond) ∈ CW := cw_in 521 rfl rfl
set_option maxRecDepth 20000 in
theorem w523 : (.methodLink "LadderScanLaw" 120 ⟨"LadderScanLaw", "out", "(LLadderScan;I[J)I"⟩ : Cond) ∈ CW := cw_in 523 rfl rfl
set_option maxRecDepth 20000 in
theorem w524 : (.static ⟨"LadderScanLaw", "out", "(LLadderScan;I[J)I"⟩ : Cond) ∈ CW := cw_in 524 rfl rfl
set_option maxRecDepth 20000 in
theorem w526 : (.methodLink "LadderScanLaw" 51 ⟨"LadderScan", "out", "(I)I"⟩ : Cond) ∈ CW := cw_in 526 rfl rfl
set_option maxRecDepth 20000 in
theorem w527 : (.instanceMethod ⟨"LadderScan", "out", "(I)I"⟩ : Cond) ∈ CW := cw_in 527 rfl rfl
set_option maxRecDepth 20000 in
theorem w528 : (.selects "LadderScan" ⟨"LadderScan", "out", "(I)I"⟩ ⟨"LadderScan", "out", "(I)I"⟩ : Cond) ∈ CW := cw_in 528 rfl rfl
set_option maxRecDepth 20000 in
theorem w530 : (.methodLink "LadderScanLaw" 123 ⟨"LadderScanLaw", "register", "(LLadderScan;I[D)I"⟩ : Cond) ∈ CW := cw_in 530 rfl rfl
set_option maxRecDepth 20000 in
theorem w531 : (.static ⟨"LadderScanLaw", "register", "(LLadderScan;I[D)I"⟩ : Cond) ∈ CW := cw_in 531 rfl rfl
set_option maxRecDepth 20000 in
theorem w533 : (.methodLink "LadderScanLaw" 54 ⟨"LadderScan", "register", "(I)D"⟩ : Cond) ∈ CW := cw_in 533 rfl rfl
set_option maxRecDepth 20000 in
theorem w534 : (.instanceMethod ⟨"LadderScan", "register", "(I)D"⟩ : Cond) ∈ CW := cw_in 534 rfl rfl
set_option maxRecDepth 20000 in
theorem w535 : (.selects "LadderScan" ⟨"LadderScan", "register", "(I)D"⟩ ⟨"LadderScan", "register", "(I)D"⟩ : Cond) ∈ CW := cw_in 535 rfl rfl
set_option maxRecDepth 20000 in
theorem w537 : (.methodLink "LadderScanLaw" 127 ⟨"LadderScanLaw", "state", "(LLadderScan;II[J)I"⟩ : Cond) ∈ CW := cw_in 537 rfl rfl
set_option maxRecDepth 20000 in
theorem w538 : (.static ⟨"LadderScanLaw", "state", "(LLadderScan;II[J)I"⟩ : Cond) ∈ CW := cw_in 538 rfl rfl
set_option maxRecDepth 20000 in
theorem w540 : (.methodLink "LadderScanLaw" 58 ⟨"LadderScan", "state", "(II)I"⟩ : Cond) ∈ CW := cw_in 540 rfl rfl
set_option maxRecDepth 20000 in
theorem w541 : (.instanceMethod ⟨"LadderScan", "state", "(II)I"⟩ : Cond) ∈ CW := cw_in 541 rfl rfl
set_option maxRecDepth 20000 in
theorem w542 : (.selects "LadderScan" ⟨"LadderScan", "state", "(II)I"⟩ ⟨"LadderScan", "state", "(II)I"⟩ : Cond) ∈ CW := cw_in 542 rfl rfl
set_option maxRecDepth 20000 in
theorem w544 : (.methodLink "LadderScanLaw" 130 ⟨"LadderScanLaw", "count", "(LLadderScan;I[J)I"⟩ : Cond) ∈ CW := cw_in 544 rfl rfl
set_option maxRecDepth 20000 in
theorem w545 : (.static ⟨"LadderScanLaw", "count", "(LLadderScan;I[J)I"⟩ : Cond) ∈ CW := cw_in 545 rfl rfl
set_option maxRecDepth 20000 in
theorem w547 : (.methodLink "LadderScanLaw" 61 ⟨"LadderScan", "count", "(I)I"⟩ : Cond) ∈ CW := cw_in 547 rfl rfl
set_option maxRecDepth 20000 in
theorem w548 : (.instanceMethod ⟨"LadderScan", "count", "(I)I"⟩ : Cond) ∈ CW := cw_in 548 rfl rfl
set_option maxRecDepth 20000 in
theorem w549 : (.selects "LadderScan" ⟨"LadderScan", "count", "(I)I"⟩ ⟨"LadderScan", "count", "(I)I"⟩ : Cond) ∈ CW := cw_in 549 rfl rfl
set_option maxRecDepth 20000 in
theorem w551 : (.methodLink "LadderScan" 168 ⟨"LadderScan$Memory", "forcedBits", "()I"⟩ : Cond) ∈ CW := cw_in 551 rfl rfl
set_option maxRecDepth 20000 in
theorem w552 : (.instanceMethod ⟨"LadderScan$Memory", "forcedBits", "()I"⟩ : Cond) ∈ CW := cw_in 552 rfl rfl
set_option maxRecDepth 20000 in
theorem w553 : (.selects "LadderScan$Memory" ⟨"LadderScan$Memory", "forcedBits", "()I"⟩ ⟨"LadderScan$Memory", "forcedBits", "()I"⟩ : Cond) ∈ CW := cw_in 553 rfl rfl
set_option maxRecDepth 20000 in
theorem w555 : (.classLink "LadderScanLaw" 65 "LadderScanModel" : Cond) ∈ CW := cw_in 555 rfl rfl
set_option maxRecDepth 20000 in
theorem w556 : (.instantiable "LadderScanModel" 29 : Cond) ∈ CW := cw_in 556 rfl rfl
set_option maxRecDepth 20000 in
theorem w557 : (.methodLink "LadderScanLaw" 67 ⟨"LadderScanModel", "<init>", "()V"⟩ : Cond) ∈ CW := cw_in 557 rfl rfl
set_option maxRecDepth 20000 in
theorem w558 : (.instanceMethod ⟨"LadderScanModel", "<init>", "()V"⟩ : Cond) ∈ CW := cw_in 558 rfl rfl
set_option maxRecDepth 20000 in
theorem w560 : (.methodLink "LadderScanModel" 1 ⟨"java/lang/Object", "<init>", "()V"⟩ : Cond) ∈ CW := cw_in 560 rfl rfl
set_option maxRecDepth 20000 in
theorem w561 : (.fieldLink "LadderScanModel" 74 "LadderScanModel" "thrown" "I" : Cond) ∈ CW := cw_in 561 rfl rfl
set_option maxRecDepth 20000 in
theorem w562 : (.fieldLink "LadderScanModel" 7 "LadderScanModel" "raw" "[I" : Cond) ∈ CW := cw_in 562 rfl rfl
set_option maxRecDepth 20000 in
theorem w563 : (.fieldLink "LadderScanModel" 13 "LadderScanModel" "forced" "[I" : Cond) ∈ CW := cw_in 563 rfl rfl
set_option maxRecDepth 20000 in
theorem w564 : (.fieldLink "LadderScanModel" 16 "LadderScanModel" "wires" "[I" : Cond) ∈ CW := cw_in 564 rfl rfl
set_option maxRecDepth 20000 in
theorem w565 : (.fieldLink "LadderScanModel" 19 "LadderScanModel" "outs" "[I" : Cond) ∈ CW := cw_in 565 rfl rfl
set_option maxRecDepth 20000 in
theorem w566 : (.fieldLink "LadderScanModel" 22 "LadderScanModel" "registers" "[J" : Cond) ∈ CW := cw_in 566 rfl rfl
set_option maxRecDepth 20000 in
theorem w567 : (.fieldLink "LadderScanModel" 26 "LadderScanModel" "kind" "[I" : Cond) ∈ CW := cw_in 567 rfl rfl
set_option maxRecDepth 20000 in
theorem w568 : (.fieldLink "LadderScanModel" 29 "LadderScanModel" "bp" "[I" : Cond) ∈ CW := cw_in 568 rfl rfl
set_option maxRecDepth 20000 in
theorem w569 : (.fieldLink "LadderScanModel" 32 "LadderScanModel" "bq" "[I" : Cond) ∈ CW := cw_in 569 rfl rfl
set_option maxRecDepth 20000 in
theorem w570 : (.fieldLink "LadderScanModel" 35 "LadderScanModel" "factor" "[J" : Cond) ∈ CW := cw_in 570 rfl rfl
set_option maxRecDepth 20000 in
theorem w571 : (.fieldLink "LadderScanModel" 38 "LadderScanModel" "offset" "[J" : Cond) ∈ CW := cw_in 571 rfl rfl
set_option maxRecDepth 20000 in
theorem w572 : (.fieldLink "LadderScanModel" 41 "LadderScanModel" "output" "[I" : Cond) ∈ CW := cw_in 572 rfl rfl
set_option maxRecDepth 20000 in
theorem w573 : (.fieldLink "LadderScanModel" 44 "LadderScanModel" "count" "[I" : Cond) ∈ CW := cw_in 573 rfl rfl
set_option maxRecDepth 20000 in
theorem w574 : (.fieldLink "LadderScanModel" 47 "LadderScanModel" "was" "[I" : Cond) ∈ CW := cw_in 574 rfl rfl
set_option maxRecDepth 20000 in
theorem w575 : (.fieldLink "LadderScanModel" 96 "LadderScanModel" "blocks" "I" : Cond) ∈ CW := cw_in 575 rfl rfl
set_option maxRecDepth 20000 in
theorem w576 : (.fieldLink "LadderScanModel" 50 "LadderScanModel" "op" "[I" : Cond) ∈ CW := cw_in 576 rfl rfl
set_option maxRecDepth 20000 in
theorem w577 : (.fieldLink "LadderScanModel" 53 "LadderScanModel" "arg" "[I" : Cond) ∈ CW := cw_in 577 rfl rfl
set_option maxRecDepth 20000 in
theorem w578 : (.fieldLink "LadderScanModel" 56 "LadderScanModel" "size" "[I" : Cond) ∈ CW := cw_in 578 rfl rfl
set_option maxRecDepth 20000 in
theorem w579 : (.fieldLink "LadderScanModel" 59 "LadderScanModel" "height" "[I" : Cond) ∈ CW := cw_in 579 rfl rfl
set_option maxRecDepth 20000 in
theorem w580 : (.fieldLink "LadderScanModel" 62 "LadderScanModel" "runOp" "[I" : Cond) ∈ CW := cw_in 580 rfl rfl
set_option maxRecDepth 20000 in
theorem w581 : (.fieldLink "LadderScanModel" 65 "LadderScanModel" "runArg" "[I" : Cond) ∈ CW := cw_in 581 rfl rfl
set_option maxRecDepth 20000 in
theorem w582 : (.fieldLink "LadderScanModel" 68 "LadderScanModel" "runSize" "[I" : Cond) ∈ CW := cw_in 582 rfl rfl
set_option maxRecDepth 20000 in
theorem w583 : (.fieldLink "LadderScanModel" 71 "LadderScanModel" "stack" "[I" : Cond) ∈ CW := cw_in 583 rfl rfl
set_option maxRecDepth 20000 in
theorem w584 : (.fieldLink "LadderScanModel" 143 "LadderScanModel" "top" "I" : Cond) ∈ CW := cw_in 584 rfl rfl
set_option maxRecDepth 20000 in
theorem w585 : (.fieldLink "LadderScanModel" 162 "LadderScanModel" "scans" "I" : Cond) ∈ CW := cw_in 585 rfl rfl
set_option maxRecDepth 20000 in
theorem w586 : (.fieldLink "LadderScanModel" 165 "LadderScanModel" "failed" "I" : Cond) ∈ CW := cw_in 586 rfl rfl
set_option maxRecDepth 20000 in
theorem w587 : (.fieldLink "LadderScanModel" 168 "LadderScanModel" "stopped" "Z" : Cond) ∈ CW := cw_in 587 rfl rfl
set_option maxRecDepth 20000 in
theorem w588 : (.fieldLink "LadderScanModel" 159 "LadderScanModel" "begun" "I" : Cond) ∈ CW := cw_in 588 rfl rfl
set_option maxRecDepth 20000 in
theorem w589 : (.fieldLink "LadderScanModel" 133 "LadderScanModel" "trouble" "I" : Cond) ∈ CW := cw_in 589 rfl rfl
set_option maxRecDepth 20000 in
theorem w649 : (.arrayClass .long : Cond) ∈ CW := cw_in 649 rfl rfl
set_option maxRecDepth 20000 in
theorem w650 : (.methodLink "LadderScanLaw" 74 ⟨"LadderScanModel", "thrown", "()I"⟩ : Cond) ∈ CW := cw_in 650 rfl rfl
set_option maxRecDepth 20000 in
theorem w651 : (.instanceMethod ⟨"LadderScanModel", "thrown", "()I"⟩ : Cond) ∈ CW := cw_in 651 rfl rfl
set_option maxRecDepth 20000 in
theorem w652 : (.selects "LadderScanModel" ⟨"LadderScanModel", "thrown", "()I"⟩ ⟨"LadderScanModel", "thrown", "()I"⟩ : Cond) ∈ CW := cw_in 652 rfl rfl
set_option maxRecDepth 20000 in
theorem w654 : (.methodLink "LadderScanLaw" 73 ⟨"LadderScanModel", "block", "(III)I"⟩ : Cond) ∈ CW := cw_in 654 rfl rfl
set_option maxRecDepth 20000 in
theorem w655 : (.instanceMethod ⟨"LadderScanModel", "block", "(III)I"⟩ : Cond) ∈ CW := cw_in 655 rfl rfl
set_option maxRecDepth 20000 in
theorem w656 : (.selects "LadderScanModel" ⟨"LadderScanModel", "block", "(III)I"⟩ ⟨"LadderScanModel", "block", "(III)I"⟩ : Cond) ∈ CW := cw_in 656 rfl rfl
set_option maxRecDepth 20000 in
theorem w658 : (.methodLink "LadderScanModel" 88 ⟨"LadderScanModel", "in", "(III)Z"⟩ : Cond) ∈ CW := cw_in 658 rfl rfl
set_option maxRecDepth 20000 in
theorem w659 : (.static ⟨"LadderScanModel", "in", "(III)Z"⟩ : Cond) ∈ CW := cw_in 659 rfl rfl
set_option maxRecDepth 20000 in
theorem w661 : (.methodLink "LadderScanModel" 92 ⟨"LadderScanModel", "raise", "(I)I"⟩ : Cond) ∈ CW := cw_in 661 rfl rfl
set_option maxRecDepth 20000 in
theorem w663 : (.instanceMethod ⟨"LadderScanModel", "raise", "(I)I"⟩ : Cond) ∈ CW := cw_in 663 rfl rfl
set_option maxRecDepth 20000 in
theorem w665 : (.methodLink "LadderScanLaw" 83 ⟨"LadderScanModel", "tune", "(IDD)D"⟩ : Cond) ∈ CW := cw_in 665 rfl rfl
set_option maxRecDepth 20000 in
theorem w666 : (.instanceMethod ⟨"LadderScanModel", "tune", "(IDD)D"⟩ : Cond) ∈ CW := cw_in 666 rfl rfl
set_option maxRecDepth 20000 in
theorem w667 : (.selects "LadderScanModel" ⟨"LadderScanModel", "tune", "(IDD)D"⟩ ⟨"LadderScanModel", "tune", "(IDD)D"⟩ : Cond) ∈ CW := cw_in 667 rfl rfl
set_option maxRecDepth 20000 in
theorem w669 : (.methodLink "LadderScanModel" 99 ⟨"LadderScanModel", "number", "(D)Z"⟩ : Cond) ∈ CW := cw_in 669 rfl rfl
set_option maxRecDepth 20000 in
theorem w670 : (.static ⟨"LadderScanModel", "number", "(D)Z"⟩ : Cond) ∈ CW := cw_in 670 rfl rfl
set_option maxRecDepth 20000 in
theorem w672 : (.constantDouble "LadderScanModel" 78 13889101250810609664 : Cond) ∈ CW := cw_in 672 rfl rfl
set_option maxRecDepth 20000 in
theorem w673 : (.constantDouble "LadderScanModel" 80 4665729213955833856 : Cond) ∈ CW := cw_in 673 rfl rfl
set_option maxRecDepth 20000 in
theorem w674 : (.methodLink "LadderScanModel" 103 ⟨"LadderScanModel", "whole", "(D)Z"⟩ : Cond) ∈ CW := cw_in 674 rfl rfl
set_option maxRecDepth 20000 in
theorem w675 : (.static ⟨"LadderScanModel", "whole", "(D)Z"⟩ : Cond) ∈ CW := cw_in 675 rfl rfl
set_option maxRecDepth 20000 in
theorem w677 : (.constantDouble "LadderScanModel" 82 4620693217682128896 : Cond) ∈ CW := cw_in 677 rfl rfl
set_option maxRecDepth 20000 in
theorem w678 : (.methodLink "LadderScanModel" 106 ⟨"LadderScanModel", "eighths", "(D)J"⟩ : Cond) ∈ CW := cw_in 678 rfl rfl
set_option maxRecDepth 20000 in
theorem w679 : (.static ⟨"LadderScanModel", "eighths", "(D)J"⟩ : Cond) ∈ CW := cw_in 679 rfl rfl
set_option maxRecDepth 20000 in
theorem w681 : (.constantDouble "LadderScanModel" 110 4593671619917905920 : Cond) ∈ CW := cw_in 681 rfl rfl
set_option maxRecDepth 20000 in
theorem w682 : (.methodLink "LadderScanLaw" 86 ⟨"LadderScanModel", "step", "(III)I"⟩ : Cond) ∈ CW := cw_in 682 rfl rfl
set_option maxRecDepth 20000 in
theorem w683 : (.instanceMethod ⟨"LadderScanModel", "step", "(III)I"⟩ : Cond) ∈ CW := cw_in 683 rfl rfl
set_option maxRecDepth 20000 in
theorem w684 : (.selects "LadderScanModel" ⟨"LadderScanModel", "step", "(III)I"⟩ ⟨"LadderScanModel", "step", "(III)I"⟩ : Cond) ∈ CW := cw_in 684 rfl rfl
set_option maxRecDepth 20000 in
theorem w686 : (.methodLink "LadderScanModel" 112 ⟨"LadderScanModel", "fits", "(II)Z"⟩ : Cond) ∈ CW := cw_in 686 rfl rfl
set_option maxRecDepth 20000 in
theorem w688 : (.instanceMethod ⟨"LadderScanModel", "fits", "(II)Z"⟩ : Cond) ∈ CW := cw_in 688 rfl rfl
set_option maxRecDepth 20000 in
theorem w690 : (.methodLink "LadderScanModel" 116 ⟨"LadderScanModel", "pushes", "(I)Z"⟩ : Cond) ∈ CW := cw_in 690 rfl rfl
set_option maxRecDepth 20000 in
theorem w691 : (.static ⟨"LadderScanModel", "pushes", "(I)Z"⟩ : Cond) ∈ CW := cw_in 691 rfl rfl
set_option maxRecDepth 20000 in
theorem w693 : (.methodLink "LadderScanModel" 120 ⟨"LadderScanModel", "joins", "(I)Z"⟩ : Cond) ∈ CW := cw_in 693 rfl rfl
set_option maxRecDepth 20000 in
theorem w694 : (.static ⟨"LadderScanModel", "joins", "(I)Z"⟩ : Cond) ∈ CW := cw_in 694 rfl rfl
set_option maxRecDepth 20000 in
theorem w696 : (.methodLink "LadderScanLaw" 90 ⟨"LadderScanModel", "erase", "(I)I"⟩ : Cond) ∈ CW := cw_in 696 rfl rfl
set_option maxRecDepth 20000 in
theorem w697 : (.instanceMethod ⟨"LadderScanModel", "erase", "(I)I"⟩ : Cond) ∈ CW := cw_in 697 rfl rfl
set_option maxRecDepth 20000 in
theorem w698 : (.selects "LadderScanModel" ⟨"LadderScanModel", "erase", "(I)I"⟩ ⟨"LadderScanModel", "erase", "(I)I"⟩ : Cond) ∈ CW := cw_in 698 rfl rfl
set_option maxRecDepth 20000 in
theorem w700 : (.methodLink "LadderScanLaw" 94 ⟨"LadderScanModel", "download", "()I"⟩ : Cond) ∈ CW := cw_in 700 rfl rfl
set_option maxRecDepth 20000 in
theorem w701 : (.instanceMethod ⟨"LadderScanModel", "download", "()I"⟩ : Cond) ∈ CW := cw_in 701 rfl rfl
set_option maxRecDepth 20000 in
theorem w702 : (.selects "LadderScanModel" ⟨"LadderScanModel", "download", "()I"⟩ ⟨"LadderScanModel", "download", "()I"⟩ : Cond) ∈ CW := cw_in 702 rfl rfl
set_option maxRecDepth 20000 in
theorem w704 : (.methodLink "LadderScanLaw" 98 ⟨"LadderScanModel", "wire", "(II)I"⟩ : Cond) ∈ CW := cw_in 704 rfl rfl
set_option maxRecDepth 20000 in
theorem w705 : (.instanceMethod ⟨"LadderScanModel", "wire", "(II)I"⟩ : Cond) ∈ CW := cw_in 705 rfl rfl
set_option maxRecDepth 20000 in
theorem w706 : (.selects "LadderScanModel" ⟨"LadderScanModel", "wire", "(II)I"⟩ ⟨"LadderScanModel", "wire", "(II)I"⟩ : Cond) ∈ CW := cw_in 706 rfl rfl
set_option maxRecDepth 20000 in
theorem w708 : (.methodLink "LadderScanLaw" 102 ⟨"LadderScanModel", "put", "(ID)D"⟩ : Cond) ∈ CW := cw_in 708 rfl rfl
set_option maxRecDepth 20000 in
theorem w709 : (.instanceMethod ⟨"LadderScanModel", "put", "(ID)D"⟩ : Cond) ∈ CW := cw_in 709 rfl rfl
set_option maxRecDepth 20000 in
theorem w710 : (.selects "LadderScanModel" ⟨"LadderScanModel", "put", "(ID)D"⟩ ⟨"LadderScanModel", "put", "(ID)D"⟩ : Cond) ∈ CW := cw_in 710 rfl rfl
set_option maxRecDepth 20000 in
theorem w712 : (.methodLink "LadderScanLaw" 105 ⟨"LadderScanModel", "force", "(II)I"⟩ : Cond) ∈ CW := cw_in 712 rfl rfl
set_option maxRecDepth 20000 in
theorem w713 : (.instanceMethod ⟨"LadderScanModel", "force", "(II)I"⟩ : Cond) ∈ CW := cw_in 713 rfl rfl
set_option maxRecDepth 20000 in
theorem w714 : (.selects "LadderScanModel" ⟨"LadderScanModel", "force", "(II)I"⟩ ⟨"LadderScanModel", "force", "(II)I"⟩ : Cond) ∈ CW := cw_in 714 rfl rfl
set_option maxRecDepth 20000 in
theorem w716 : (.methodLink "LadderScanLaw" 108 ⟨"LadderScanModel", "scan", "(I)I"⟩ : Cond) ∈ CW := cw_in 716 rfl rfl
set_option maxRecDepth 20000 in
theorem w717 : (.instanceMethod ⟨"LadderScanModel", "scan", "(I)I"⟩ : Cond) ∈ CW := cw_in 717 rfl rfl
set_option maxRecDepth 20000 in
theorem w718 : (.selects "LadderScanModel" ⟨"LadderScanModel", "scan", "(I)I"⟩ ⟨"LadderScanModel", "scan", "(I)I"⟩ : Cond) ∈ CW := cw_in 718 rfl rfl
set_option maxRecDepth 20000 in
theorem w720 : (.methodLink "LadderScanModel" 172 ⟨"LadderScanModel", "scanOnce", "()V"⟩ : Cond) ∈ CW := cw_in 720 rfl rfl
set_option maxRecDepth 20000 in
theorem w722 : (.instanceMethod ⟨"LadderScanModel", "scanOnce", "()V"⟩ : Cond) ∈ CW := cw_in 722 rfl rfl
set_option maxRecDepth 20000 in
theorem w724 : (.methodLink "LadderScanModel" 156 ⟨"LadderScanModel", "rung", "(I)I"⟩ : Cond) ∈ CW := cw_in 724 rfl rfl
set_option maxRecDepth 20000 in
theorem w726 : (.instanceMethod ⟨"LadderScanModel", "rung", "(I)I"⟩ : Cond) ∈ CW := cw_in 726 rfl rfl
set_option maxRecDepth 20000 in
theorem w728 : (.methodLink "LadderScanModel" 153 ⟨"LadderScanModel", "perform", "(II)V"⟩ : Cond) ∈ CW := cw_in 728 rfl rfl
set_option maxRecDepth 20000 in
theorem w730 : (.instanceMethod ⟨"LadderScanModel", "perform", "(II)V"⟩ : Cond) ∈ CW := cw_in 730 rfl rfl
set_option maxRecDepth 20000 in
theorem w732 : (.methodLink "LadderScanModel" 136 ⟨"LadderScanModel", "read", "(I)I"⟩ : Cond) ∈ CW := cw_in 732 rfl rfl
set_option maxRecDepth 20000 in
theorem w734 : (.instanceMethod ⟨"LadderScanModel", "read", "(I)I"⟩ : Cond) ∈ CW := cw_in 734 rfl rfl
set_option maxRecDepth 20000 in
theorem w736 : (.methodLink "LadderScanModel" 146 ⟨"LadderScanModel", "push", "(I)V"⟩ : Cond) ∈ CW := cw_in 736 rfl rfl
set_option maxRecDepth 20000 in
theorem w738 : (.instanceMethod ⟨"LadderScanModel", "push", "(I)V"⟩ : Cond) ∈ CW := cw_in 738 rfl rfl
set_option maxRecDepth 20000 in
theorem w740 : (.methodLink "LadderScanModel" 149 ⟨"LadderScanModel", "work", "(II)V"⟩ : Cond) ∈ CW := cw_in 740 rfl rfl
set_option maxRecDepth 20000 in
theorem w742 : (.instanceMethod ⟨"LadderScanModel", "work", "(II)V"⟩ : Cond) ∈ CW := cw_in 742 rfl rfl
set_option maxRecDepth 20000 in
theorem w744 : (.methodLink "LadderScanModel" 139 ⟨"LadderScanModel", "calculate", "(I)V"⟩ : Cond) ∈ CW := cw_in 744 rfl rfl
set_option maxRecDepth 20000 in
theorem w746 : (.instanceMethod ⟨"LadderScanModel", "calculate", "(I)V"⟩ : Cond) ∈ CW := cw_in 746 rfl rfl
set_option maxRecDepth 20000 in
theorem w748 : (.constantLong "LadderScanModel" 123 8 : Cond) ∈ CW := cw_in 748 rfl rfl
set_option maxRecDepth 20000 in
theorem w749 : (.methodLink "LadderScanModel" 125 ⟨"LadderScanModel", "down", "(JJ)J"⟩ : Cond) ∈ CW := cw_in 749 rfl rfl
set_option maxRecDepth 20000 in
theorem w750 : (.static ⟨"LadderScanModel", "down", "(JJ)J"⟩ : Cond) ∈ CW := cw_in 750 rfl rfl
set_option maxRecDepth 20000 in
theorem w752 : (.methodLink "LadderScanModel" 129 ⟨"LadderScanModel", "fit", "(J)J"⟩ : Cond) ∈ CW := cw_in 752 rfl rfl
set_option maxRecDepth 20000 in
theorem w753 : (.static ⟨"LadderScanModel", "fit", "(J)J"⟩ : Cond) ∈ CW := cw_in 753 rfl rfl
set_option maxRecDepth 20000 in
theorem w755 : (.constantLong "LadderScanModel" 84 (-65536) : Cond) ∈ CW := cw_in 755 rfl rfl
set_option maxRecDepth 20000 in
theorem w756 : (.constantLong "LadderScanModel" 86 65536 : Cond) ∈ CW := cw_in 756 rfl rfl
set_option maxRecDepth 20000 in
theorem w757 : (.methodLink "LadderScanLaw" 112 ⟨"LadderScanModel", "restart", "()I"⟩ : Cond) ∈ CW := cw_in 757 rfl rfl
set_option maxRecDepth 20000 in
theorem w758 : (.instanceMethod ⟨"LadderScanModel", "restart", "()I"⟩ : Cond) ∈ CW := cw_in 758 rfl rfl
set_option maxRecDepth 20000 in
theorem w759 : (.selects "LadderScanModel" ⟨"LadderScanModel", "restart", "()I"⟩ ⟨"LadderScanModel", "restart", "()I"⟩ : Cond) ∈ CW := cw_in 759 rfl rfl
set_option maxRecDepth 20000 in
theorem w761 : (.methodLink "LadderScanLaw" 116 ⟨"LadderScanModel", "fail", "()I"⟩ : Cond) ∈ CW := cw_in 761 rfl rfl
set_option maxRecDepth 20000 in
theorem w762 : (.instanceMethod ⟨"LadderScanModel", "fail", "()I"⟩ : Cond) ∈ CW := cw_in 762 rfl rfl
set_option maxRecDepth 20000 in
theorem w763 : (.selects "LadderScanModel" ⟨"LadderScanModel", "fail", "()I"⟩ ⟨"LadderScanModel", "fail", "()I"⟩ : Cond) ∈ CW := cw_in 763 rfl rfl
set_option maxRecDepth 20000 in
theorem w765 : (.methodLink "LadderScanLaw" 119 ⟨"LadderScanModel", "bit", "(I)I"⟩ : Cond) ∈ CW := cw_in 765 rfl rfl
set_option maxRecDepth 20000 in
theorem w766 : (.instanceMethod ⟨"LadderScanModel", "bit", "(I)I"⟩ : Cond) ∈ CW := cw_in 766 rfl rfl
set_option maxRecDepth 20000 in
theorem w767 : (.selects "LadderScanModel" ⟨"LadderScanModel", "bit", "(I)I"⟩ ⟨"LadderScanModel", "bit", "(I)I"⟩ : Cond) ∈ CW := cw_in 767 rfl rfl
set_option maxRecDepth 20000 in
theorem w769 : (.methodLink "LadderScanLaw" 122 ⟨"LadderScanModel", "out", "(I)I"⟩ : Cond) ∈ CW := cw_in 769 rfl rfl
set_option maxRecDepth 20000 in
theorem w770 : (.instanceMethod ⟨"LadderScanModel", "out", "(I)I"⟩ : Cond) ∈ CW := cw_in 770 rfl rfl
set_option maxRecDepth 20000 in
theorem w771 : (.selects "LadderScanModel" ⟨"LadderScanModel", "out", "(I)I"⟩ ⟨"LadderScanModel", "out", "(I)I"⟩ : Cond) ∈ CW := cw_in 771 rfl rfl
set_option maxRecDepth 20000 in
theorem w773 : (.methodLink "LadderScanLaw" 126 ⟨"LadderScanModel", "register", "(I)D"⟩ : Cond) ∈ CW := cw_in 773 rfl rfl
set_option maxRecDepth 20000 in
theorem w774 : (.instanceMethod ⟨"LadderScanModel", "register", "(I)D"⟩ : Cond) ∈ CW := cw_in 774 rfl rfl
set_option maxRecDepth 20000 in
theorem w775 : (.selects "LadderScanModel" ⟨"LadderScanModel", "register", "(I)D"⟩ ⟨"LadderScanModel", "register", "(I)D"⟩ : Cond) ∈ CW := cw_in 775 rfl rfl
set_option maxRecDepth 20000 in
theorem w777 : (.methodLink "LadderScanLaw" 129 ⟨"LadderScanModel", "state", "(II)I"⟩ : Cond) ∈ CW := cw_in 777 rfl rfl
set_option maxRecDepth 20000 in
theorem w778 : (.instanceMethod ⟨"LadderScanModel", "state", "(II)I"⟩ : Cond) ∈ CW := cw_in 778 rfl rfl
set_option maxRecDepth 20000 in
theorem w779 : (.selects "LadderScanModel" ⟨"LadderScanModel", "state", "(II)I"⟩ ⟨"LadderScanModel", "state", "(II)I"⟩ : Cond) ∈ CW := cw_in 779 rfl rfl
set_option maxRecDepth 20000 in
theorem w781 : (.methodLink "LadderScanLaw" 132 ⟨"LadderScanModel", "count", "(I)I"⟩ : Cond) ∈ CW := cw_in 781 rfl rfl
set_option maxRecDepth 20000 in
theorem w782 : (.instanceMethod ⟨"LadderScanModel", "count", "(I)I"⟩ : Cond) ∈ CW := cw_in 782 rfl rfl
set_option maxRecDepth 20000 in
theorem w783 : (.selects "LadderScanModel" ⟨"LadderScanModel", "count", "(I)I"⟩ ⟨"LadderScanModel", "count", "(I)I"⟩ : Cond) ∈ CW := cw_in 783 rfl rfl
set_option maxRecDepth 20000 in
theorem w785 : (.constantDouble "LadderScanLaw" 78 4593671619917905920 : Cond) ∈ CW := cw_in 785 rfl rfl
set_option maxRecDepth 20000 in
theorem w786 : (.arrayClass .double : Cond) ∈ CW := cw_in 786 rfl rfl
theorem s0 : (Cond.selects "java/lang/Throwable" ⟨"java/lang/Throwable", "fillInStackTrace", "(I)Ljava/lang/Throwable;"⟩ ⟨"java/lang/Throwable", "fillInStackTrace", "(I)Ljava/lang/Throwable;"⟩) ∈ CW := cw_sel 0 rfl rfl
theorem s1 : (Cond.selects "LadderScan" ⟨"LadderScan", "isMade", "(I)Z"⟩ ⟨"LadderScan", "isMade", "(I)Z"⟩) ∈ CW := cw_sel 1 rfl rfl
theorem s2 : (Cond.selects "LadderScan" ⟨"LadderScan", "isStep", "(II)Z"⟩ ⟨"LadderScan", "isStep", "(II)Z"⟩) ∈ CW := cw_sel 2 rfl rfl
theorem s3 : (Cond.selects "LadderScan" ⟨"LadderScan", "scanOnce", "()I"⟩ ⟨"LadderScan", "scanOnce", "()I"⟩) ∈ CW := cw_sel 3 rfl rfl
theorem s4 : (Cond.selects "LadderScan" ⟨"LadderScan", "runProgram", "()I"⟩ ⟨"LadderScan", "runProgram", "()I"⟩) ∈ CW := cw_sel 4 rfl rfl
theorem s5 : (Cond.selects "LadderScan" ⟨"LadderScan", "runRung", "(I)I"⟩ ⟨"LadderScan", "runRung", "(I)I"⟩) ∈ CW := cw_sel 5 rfl rfl
theorem s6 : (Cond.selects "LadderScan$Block" ⟨"LadderScan$Block", "countWith", "(II)I"⟩ ⟨"LadderScan$Block", "countWith", "(II)I"⟩) ∈ CW := cw_sel 6 rfl rfl
theorem s7 : (Cond.selects "LadderScan$Block" ⟨"LadderScan$Block", "reckon", "(J)J"⟩ ⟨"LadderScan$Block", "reckon", "(J)J"⟩) ∈ CW := cw_sel 7 rfl rfl
theorem s8 : (Cond.selects "LadderScan" ⟨"LadderScan", "stackAfter", "(III)I"⟩ ⟨"LadderScan", "stackAfter", "(III)I"⟩) ∈ CW := cw_sel 8 rfl rfl
theorem s9 : (Cond.selects "LadderScanModel" ⟨"LadderScanModel", "raise", "(I)I"⟩ ⟨"LadderScanModel", "raise", "(I)I"⟩) ∈ CW := cw_sel 9 rfl rfl
theorem s10 : (Cond.selects "LadderScanModel" ⟨"LadderScanModel", "fits", "(II)Z"⟩ ⟨"LadderScanModel", "fits", "(II)Z"⟩) ∈ CW := cw_sel 10 rfl rfl
theorem s11 : (Cond.selects "LadderScanModel" ⟨"LadderScanModel", "scanOnce", "()V"⟩ ⟨"LadderScanModel", "scanOnce", "()V"⟩) ∈ CW := cw_sel 11 rfl rfl
theorem s12 : (Cond.selects "LadderScanModel" ⟨"LadderScanModel", "rung", "(I)I"⟩ ⟨"LadderScanModel", "rung", "(I)I"⟩) ∈ CW := cw_sel 12 rfl rfl
theorem s13 : (Cond.selects "LadderScanModel" ⟨"LadderScanModel", "perform", "(II)V"⟩ ⟨"LadderScanModel", "perform", "(II)V"⟩) ∈ CW := cw_sel 13 rfl rfl
theorem s14 : (Cond.selects "LadderScanModel" ⟨"LadderScanModel", "read", "(I)I"⟩ ⟨"LadderScanModel", "read", "(I)I"⟩) ∈ CW := cw_sel 14 rfl rfl
theorem s15 : (Cond.selects "LadderScanModel" ⟨"LadderScanModel", "push", "(I)V"⟩ ⟨"LadderScanModel", "push", "(I)V"⟩) ∈ CW := cw_sel 15 rfl rfl
theorem s16 : (Cond.selects "LadderScanModel" ⟨"LadderScanModel", "work", "(II)V"⟩ ⟨"LadderScanModel", "work", "(II)V"⟩) ∈ CW := cw_sel 16 rfl rfl
theorem s17 : (Cond.selects "LadderScanModel" ⟨"LadderScanModel", "calculate", "(I)V"⟩ ⟨"LadderScanModel", "calculate", "(I)V"⟩) ∈ CW := cw_sel 17 rfl rfl
end
section
/-! decode rows of LadderScan$Block -/
theorem dBl_init_0 : decode bBl_init 0 = .ok (.aload_n 0, 1) := by decide +kernel
theorem dBl_init_1 : decode bBl_init 1 = .ok (.invokespecial 3, 3) := by decide +kernel
theorem dBl_init_4 : decode bBl_init 4 = .ok (.aload_n 0, 1) := by decide +kernel
theorem dBl_init_5 : decode bBl_init 5 = .ok (.iconst 0, 1) := by decide +kernel
theorem dBl_init_6 : decode bBl_init 6 = .ok (.putfield 9, 3) := by decide +kernel
theorem dBl_init_9 : decode bBl_init 9 = .ok (.aload_n 0, 1) := by decide +kernel
theorem dBl_init_10 : decode bBl_init 10 = .ok (.iconst 0, 1) := by decide +kernel
theorem dBl_init_11 : decode bBl_init 11 = .ok (.putfield 15, 3) := by decide +kernel
theorem dBl_init_14 : decode bBl_init 14 = .ok (.aload_n 0, 1) := by decide +kernel
theorem dBl_init_15 : decode bBl_init 15 = .ok (.iconst 0, 1) := by decide +kernel
theorem dBl_init_16 : decode bBl_init 16 = .ok (.putfield 18, 3) := by decide +kernel
theorem dBl_init_19 : decode bBl_init 19 = .ok (.aload_n 0, 1) := by decide +kernel
theorem dBl_init_20 : decode bBl_init 20 = .ok (.iconst 0, 1) := by decide +kernel
theorem dBl_init_21 : decode bBl_init 21 = .ok (.putfield 21, 3) := by decide +kernel
theorem dBl_init_24 : decode bBl_init 24 = .ok (.aload_n 0, 1) := by decide +kernel
theorem dBl_init_25 : decode bBl_init 25 = .ok (.iconst 0, 1) := by decide +kernel
theorem dBl_init_26 : decode bBl_init 26 = .ok (.putfield 24, 3) := by decide +kernel
theorem dBl_init_29 : decode bBl_init 29 = .ok (.aload_n 0, 1) := by decide +kernel
theorem dBl_init_30 : decode bBl_init 30 = .ok (.iconst 0, 1) := by decide +kernel
theorem dBl_init_31 : decode bBl_init 31 = .ok (.putfield 27, 3) := by decide +kernel
theorem dBl_init_34 : decode bBl_init 34 = .ok (.aload_n 0, 1) := by decide +kernel
theorem dBl_init_35 : decode bBl_init 35 = .ok (.iconst 0, 1) := by decide +kernel
theorem dBl_init_36 : decode bBl_init 36 = .ok (.putfield 30, 3) := by decide +kernel
theorem dBl_init_39 : decode bBl_init 39 = .ok (.aload_n 0, 1) := by decide +kernel
theorem dBl_init_40 : decode bBl_init 40 = .ok (.iconst 0, 1) := by decide +kernel
theorem dBl_init_41 : decode bBl_init 41 = .ok (.putfield 33, 3) := by decide +kernel
theorem dBl_init_44 : decode bBl_init 44 = .ok (.return_, 1) := by decide +kernel
theorem dBl_become_0 : decode bBl_become 0 = .ok (.aload_n 0, 1) := by decide +kernel
theorem dBl_become_1 : decode bBl_become 1 = .ok (.iload_n 1, 1) := by decide +kernel
theorem dBl_become_2 : decode bBl_become 2 = .ok (.putfield 9, 3) := by decide +kernel
theorem dBl_become_5 : decode bBl_become 5 = .ok (.aload_n 0, 1) := by decide +kernel
theorem dBl_become_6 : decode bBl_become 6 = .ok (.iload_n 2, 1) := by decide +kernel
theorem dBl_become_7 : decode bBl_become 7 = .ok (.putfield 15, 3) := by decide +kernel
theorem dBl_become_10 : decode bBl_become 10 = .ok (.aload_n 0, 1) := by decide +kernel
theorem dBl_become_11 : decode bBl_become 11 = .ok (.iload_n 3, 1) := by decide +kernel
theorem dBl_become_12 : decode bBl_become 12 = .ok (.putfield 18, 3) := by decide +kernel
theorem dBl_become_15 : decode bBl_become 15 = .ok (.return_, 1) := by decide +kernel
theorem dBl_losePower_0 : decode bBl_losePower 0 = .ok (.aload_n 0, 1) := by decide +kernel
theorem dBl_losePower_1 : decode bBl_losePower 1 = .ok (.iconst 0, 1) := by decide +kernel
theorem dBl_losePower_2 : decode bBl_losePower 2 = .ok (.putfield 27, 3) := by decide +kernel
theorem dBl_losePower_5 : decode bBl_losePower 5 = .ok (.aload_n 0, 1) := by decide +kernel
theorem dBl_losePower_6 : decode bBl_losePower 6 = .ok (.iconst 0, 1) := by decide +kernel
theorem dBl_losePower_7 : decode bBl_losePower 7 = .ok (.putfield 30, 3) := by decide +kernel
theorem dBl_losePower_10 : decode bBl_losePower 10 = .ok (.aload_n 0, 1) := by decide +kernel
theorem dBl_losePower_11 : decode bBl_losePower 11 = .ok (.iconst 0, 1) := by decide +kernel
theorem dBl_losePower_12 : decode bBl_losePower 12 = .ok (.putfield 33, 3) := by decide +kernel
theorem dBl_losePower_15 : decode bBl_losePower 15 = .ok (.return_, 1) := by decide +kernel
theorem dBl_failsWith_0 : decode bBl_failsWith 0 = .ok (.aload_n 0, 1) := by decide +kernel
theorem dBl_failsWith_1 : decode bBl_failsWith 1 = .ok (.getfield 9, 3) := by decide +kernel
theorem dBl_failsWith_4 : decode bBl_failsWith 4 = .ok (.bipush 6, 2) := by decide +kernel
theorem dBl_failsWith_6 : decode bBl_failsWith 6 = .ok (.if_icmp .ne 19, 3) := by decide +kernel
theorem dBl_failsWith_9 : decode bBl_failsWith 9 = .ok (.iload_n 1, 1) := by decide +kernel
theorem dBl_failsWith_10 : decode bBl_failsWith 10 = .ok (.iconst 1, 1) := by decide +kernel
theorem dBl_failsWith_11 : decode bBl_failsWith 11 = .ok (.if_icmp .ne 14, 3) := by decide +kernel
theorem dBl_failsWith_14 : decode bBl_failsWith 14 = .ok (.aload_n 0, 1) := by decide +kernel
theorem dBl_failsWith_15 : decode bBl_failsWith 15 = .ok (.getfield 21, 3) := by decide +kernel
theorem dBl_failsWith_18 : decode bBl_failsWith 18 = .ok (.ifCond .ne 7, 3) := by decide +kernel
theorem dBl_failsWith_21 : decode bBl_failsWith 21 = .ok (.iconst 1, 1) := by decide +kernel
theorem dBl_failsWith_22 : decode bBl_failsWith 22 = .ok (.goto 4, 3) := by decide +kernel
theorem dBl_failsWith_25 : decode bBl_failsWith 25 = .ok (.iconst 0, 1) := by decide +kernel
theorem dBl_failsWith_26 : decode bBl_failsWith 26 = .ok (.ireturn, 1) := by decide +kernel
theorem dBl_work_0 : decode bBl_work 0 = .ok (.aload_n 0, 1) := by decide +kernel
theorem dBl_work_1 : decode bBl_work 1 = .ok (.getfield 9, 3) := by decide +kernel
theorem dBl_work_4 : decode bBl_work 4 = .ok (.tableswitch 223 0 4 #[36, 90, 135, 175, 199], 36) := by decide +kernel
theorem dBl_work_40 : decode bBl_work 40 = .ok (.aload_n 0, 1) := by decide +kernel
theorem dBl_work_41 : decode bBl_work 41 = .ok (.iload_n 1, 1) := by decide +kernel
theorem dBl_work_42 : decode bBl_work 42 = .ok (.iconst 1, 1) := by decide +kernel
theorem dBl_work_43 : decode bBl_work 43 = .ok (.if_icmp .ne 19, 3) := by decide +kernel
theorem dBl_work_46 : decode bBl_work 46 = .ok (.aload_n 0, 1) := by decide +kernel
theorem dBl_work_47 : decode bBl_work 47 = .ok (.getfield 30, 3) := by decide +kernel
theorem dBl_work_50 : decode bBl_work 50 = .ok (.iconst 1, 1) := by decide +kernel
theorem dBl_work_51 : decode bBl_work 51 = .ok (.iadd, 1) := by decide +kernel
theorem dBl_work_52 : decode bBl_work 52 = .ok (.aload_n 0, 1) := by decide +kernel
theorem dBl_work_53 : decode bBl_work 53 = .ok (.getfield 15, 3) := by decide +kernel
theorem dBl_work_56 : decode bBl_work 56 = .ok (.invokestatic 36, 3) := by decide +kernel
theorem dBl_work_59 : decode bBl_work 59 = .ok (.goto 4, 3) := by decide +kernel
theorem dBl_work_62 : decode bBl_work 62 = .ok (.iconst 0, 1) := by decide +kernel
theorem dBl_work_63 : decode bBl_work 63 = .ok (.putfield 30, 3) := by decide +kernel
theorem dBl_work_66 : decode bBl_work 66 = .ok (.aload_n 0, 1) := by decide +kernel
theorem dBl_work_67 : decode bBl_work 67 = .ok (.iload_n 1, 1) := by decide +kernel
theorem dBl_work_68 : decode bBl_work 68 = .ok (.iconst 1, 1) := by decide +kernel
theorem dBl_work_69 : decode bBl_work 69 = .ok (.if_icmp .ne 18, 3) := by decide +kernel
theorem dBl_work_72 : decode bBl_work 72 = .ok (.aload_n 0, 1) := by decide +kernel
theorem dBl_work_73 : decode bBl_work 73 = .ok (.getfield 30, 3) := by decide +kernel
theorem dBl_work_76 : decode bBl_work 76 = .ok (.aload_n 0, 1) := by decide +kernel
theorem dBl_work_77 : decode bBl_work 77 = .ok (.getfield 15, 3) := by decide +kernel
theorem dBl_work_80 : decode bBl_work 80 = .ok (.if_icmp .ne 7, 3) := by decide +kernel
theorem dBl_work_83 : decode bBl_work 83 = .ok (.iconst 1, 1) := by decide +kernel
theorem dBl_work_84 : decode bBl_work 84 = .ok (.goto 4, 3) := by decide +kernel
theorem dBl_work_87 : decode bBl_work 87 = .ok (.iconst 0, 1) := by decide +kernel
theorem dBl_work_88 : decode bBl_work 88 = .ok (.putfield 27, 3) := by decide +kernel
theorem dBl_work_91 : decode bBl_work 91 = .ok (.goto 168, 3) := by decide +kernel
theorem dBl_work_94 : decode bBl_work 94 = .ok (.aload_n 0, 1) := by decide +kernel
theorem dBl_work_95 : decode bBl_work 95 = .ok (.iload_n 1, 1) := by decide +kernel
theorem dBl_work_96 : decode bBl_work 96 = .ok (.iconst 1, 1) := by decide +kernel
theorem dBl_work_97 : decode bBl_work 97 = .ok (.if_icmp .ne 10, 3) := by decide +kernel
theorem dBl_work_100 : decode bBl_work 100 = .ok (.aload_n 0, 1) := by decide +kernel
theorem dBl_work_101 : decode bBl_work 101 = .ok (.getfield 15, 3) := by decide +kernel
theorem dBl_work_104 : decode bBl_work 104 = .ok (.goto 13, 3) := by decide +kernel
theorem dBl_work_107 : decode bBl_work 107 = .ok (.aload_n 0, 1) := by decide +kernel
theorem dBl_work_108 : decode bBl_work 108 = .ok (.getfield 30, 3) := by decide +kernel
theorem dBl_work_111 : decode bBl_work 111 = .ok (.iconst 1, 1) := by decide +kernel
theorem dBl_work_112 : decode bBl_work 112 = .ok (.isub, 1) := by decide +kernel
theorem dBl_work_113 : decode bBl_work 113 = .ok (.iconst 0, 1) := by decide +kernel
theorem dBl_work_114 : decode bBl_work 114 = .ok (.invokestatic 42, 3) := by decide +kernel
theorem dBl_work_117 : decode bBl_work 117 = .ok (.putfield 30, 3) := by decide +kernel
theorem dBl_work_120 : decode bBl_work 120 = .ok (.aload_n 0, 1) := by decide +kernel
theorem dBl_work_121 : decode bBl_work 121 = .ok (.aload_n 0, 1) := by decide +kernel
theorem dBl_work_122 : decode bBl_work 122 = .ok (.getfield 30, 3) := by decide +kernel
theorem dBl_work_125 : decode bBl_work 125 = .ok (.ifCond .le 7, 3) := by decide +kernel
theorem dBl_work_128 : decode bBl_work 128 = .ok (.iconst 1, 1) := by decide +kernel
theorem dBl_work_129 : decode bBl_work 129 = .ok (.goto 4, 3) := by decide +kernel
theorem dBl_work_132 : decode bBl_work 132 = .ok (.iconst 0, 1) := by decide +kernel
theorem dBl_work_133 : decode bBl_work 133 = .ok (.putfield 27, 3) := by decide +kernel
theorem dBl_work_136 : decode bBl_work 136 = .ok (.goto 123, 3) := by decide +kernel
theorem dBl_work_139 : decode bBl_work 139 = .ok (.aload_n 0, 1) := by decide +kernel
theorem dBl_work_140 : decode bBl_work 140 = .ok (.aload_n 0, 1) := by decide +kernel
theorem dBl_work_141 : decode bBl_work 141 = .ok (.iload_n 1, 1) := by decide +kernel
theorem dBl_work_142 : decode bBl_work 142 = .ok (.aload_n 2, 1) := by decide +kernel
theorem dBl_work_143 : decode bBl_work 143 = .ok (.aload_n 0, 1) := by decide +kernel
theorem dBl_work_144 : decode bBl_work 144 = .ok (.getfield 18, 3) := by decide +kernel
theorem dBl_work_147 : decode bBl_work 147 = .ok (.invokevirtual 45, 3) := by decide +kernel
theorem dBl_work_150 : decode bBl_work 150 = .ok (.invokevirtual 51, 3) := by decide +kernel
theorem dBl_work_153 : decode bBl_work 153 = .ok (.putfield 30, 3) := by decide +kernel
theorem dBl_work_156 : decode bBl_work 156 = .ok (.aload_n 0, 1) := by decide +kernel
theorem dBl_work_157 : decode bBl_work 157 = .ok (.aload_n 0, 1) := by decide +kernel
theorem dBl_work_158 : decode bBl_work 158 = .ok (.getfield 30, 3) := by decide +kernel
theorem dBl_work_161 : decode bBl_work 161 = .ok (.aload_n 0, 1) := by decide +kernel
theorem dBl_work_162 : decode bBl_work 162 = .ok (.getfield 15, 3) := by decide +kernel
theorem dBl_work_165 : decode bBl_work 165 = .ok (.if_icmp .ne 7, 3) := by decide +kernel
theorem dBl_work_168 : decode bBl_work 168 = .ok (.iconst 1, 1) := by decide +kernel
theorem dBl_work_169 : decode bBl_work 169 = .ok (.goto 4, 3) := by decide +kernel
theorem dBl_work_172 : decode bBl_work 172 = .ok (.iconst 0, 1) := by decide +kernel
theorem dBl_work_173 : decode bBl_work 173 = .ok (.putfield 27, 3) := by decide +kernel
theorem dBl_work_176 : decode bBl_work 176 = .ok (.goto 83, 3) := by decide +kernel
theorem dBl_work_179 : decode bBl_work 179 = .ok (.aload_n 0, 1) := by decide +kernel
theorem dBl_work_180 : decode bBl_work 180 = .ok (.iload_n 1, 1) := by decide +kernel
theorem dBl_work_181 : decode bBl_work 181 = .ok (.iconst 1, 1) := by decide +kernel
theorem dBl_work_182 : decode bBl_work 182 = .ok (.if_icmp .ne 14, 3) := by decide +kernel
theorem dBl_work_185 : decode bBl_work 185 = .ok (.aload_n 0, 1) := by decide +kernel
theorem dBl_work_186 : decode bBl_work 186 = .ok (.getfield 33, 3) := by decide +kernel
theorem dBl_work_189 : decode bBl_work 189 = .ok (.ifCond .ne 7, 3) := by decide +kernel
theorem dBl_work_192 : decode bBl_work 192 = .ok (.iconst 1, 1) := by decide +kernel
theorem dBl_work_193 : decode bBl_work 193 = .ok (.goto 4, 3) := by decide +kernel
theorem dBl_work_196 : decode bBl_work 196 = .ok (.iconst 0, 1) := by decide +kernel
theorem dBl_work_197 : decode bBl_work 197 = .ok (.putfield 27, 3) := by decide +kernel
theorem dBl_work_200 : decode bBl_work 200 = .ok (.goto 59, 3) := by decide +kernel
theorem dBl_work_203 : decode bBl_work 203 = .ok (.aload_n 0, 1) := by decide +kernel
theorem dBl_work_204 : decode bBl_work 204 = .ok (.iload_n 1, 1) := by decide +kernel
theorem dBl_work_205 : decode bBl_work 205 = .ok (.ifCond .ne 15, 3) := by decide +kernel
theorem dBl_work_208 : decode bBl_work 208 = .ok (.aload_n 0, 1) := by decide +kernel
theorem dBl_work_209 : decode bBl_work 209 = .ok (.getfield 33, 3) := by decide +kernel
theorem dBl_work_212 : decode bBl_work 212 = .ok (.iconst 1, 1) := by decide +kernel
theorem dBl_work_213 : decode bBl_work 213 = .ok (.if_icmp .ne 7, 3) := by decide +kernel
theorem dBl_work_216 : decode bBl_work 216 = .ok (.iconst 1, 1) := by decide +kernel
theorem dBl_work_217 : decode bBl_work 217 = .ok (.goto 4, 3) := by decide +kernel
theorem dBl_work_220 : decode bBl_work 220 = .ok (.iconst 0, 1) := by decide +kernel
theorem dBl_work_221 : decode bBl_work 221 = .ok (.putfield 27, 3) := by decide +kernel
theorem dBl_work_224 : decode bBl_work 224 = .ok (.goto 35, 3) := by decide +kernel
theorem dBl_work_227 : decode bBl_work 227 = .ok (.iload_n 1, 1) := by decide +kernel
theorem dBl_work_228 : decode bBl_work 228 = .ok (.iconst 1, 1) := by decide +kernel
theorem dBl_work_229 : decode bBl_work 229 = .ok (.if_icmp .ne 25, 3) := by decide +kernel
theorem dBl_work_232 : decode bBl_work 232 = .ok (.aload_n 2, 1) := by decide +kernel
theorem dBl_work_233 : decode bBl_work 233 = .ok (.aload_n 0, 1) := by decide +kernel
theorem dBl_work_234 : decode bBl_work 234 = .ok (.getfield 18, 3) := by decide +kernel
theorem dBl_work_237 : decode bBl_work 237 = .ok (.aload_n 0, 1) := by decide +kernel
theorem dBl_work_238 : decode bBl_work 238 = .ok (.aload_n 2, 1) := by decide +kernel
theorem dBl_work_239 : decode bBl_work 239 = .ok (.getfield 54, 3) := by decide +kernel
theorem dBl_work_242 : decode bBl_work 242 = .ok (.aload_n 0, 1) := by decide +kernel
theorem dBl_work_243 : decode bBl_work 243 = .ok (.getfield 15, 3) := by decide +kernel
theorem dBl_work_246 : decode bBl_work 246 = .ok (.iaload, 1) := by decide +kernel
theorem dBl_work_247 : decode bBl_work 247 = .ok (.i2l, 1) := by decide +kernel
theorem dBl_work_248 : decode bBl_work 248 = .ok (.invokevirtual 58, 3) := by decide +kernel
theorem dBl_work_251 : decode bBl_work 251 = .ok (.invokevirtual 62, 3) := by decide +kernel
theorem dBl_work_254 : decode bBl_work 254 = .ok (.aload_n 0, 1) := by decide +kernel
theorem dBl_work_255 : decode bBl_work 255 = .ok (.iload_n 1, 1) := by decide +kernel
theorem dBl_work_256 : decode bBl_work 256 = .ok (.putfield 27, 3) := by decide +kernel
theorem dBl_work_259 : decode bBl_work 259 = .ok (.aload_n 0, 1) := by decide +kernel
theorem dBl_work_260 : decode bBl_work 260 = .ok (.iload_n 1, 1) := by decide +kernel
theorem dBl_work_261 : decode bBl_work 261 = .ok (.putfield 33, 3) := by decide +kernel
theorem dBl_work_264 : decode bBl_work 264 = .ok (.aload_n 0, 1) := by decide +kernel
theorem dBl_work_265 : decode bBl_work 265 = .ok (.getfield 27, 3) := by decide +kernel
theorem dBl_work_268 : decode bBl_work 268 = .ok (.ireturn, 1) := by decide +kernel
theorem dBl_countWith_0 : decode bBl_countWith 0 = .ok (.iload_n 2, 1) := by decide +kernel
theorem dBl_countWith_1 : decode bBl_countWith 1 = .ok (.iconst 1, 1) := by decide +kernel
theorem dBl_countWith_2 : decode bBl_countWith 2 = .ok (.if_icmp .ne 5, 3) := by decide +kernel
theorem dBl_countWith_5 : decode bBl_countWith 5 = .ok (.iconst 0, 1) := by decide +kernel
theorem dBl_countWith_6 : decode bBl_countWith 6 = .ok (.ireturn, 1) := by decide +kernel
theorem dBl_countWith_7 : decode bBl_countWith 7 = .ok (.iload_n 1, 1) := by decide +kernel
theorem dBl_countWith_8 : decode bBl_countWith 8 = .ok (.iconst 1, 1) := by decide +kernel
theorem dBl_countWith_9 : decode bBl_countWith 9 = .ok (.if_icmp .ne 26, 3) := by decide +kernel
theorem dBl_countWith_12 : decode bBl_countWith 12 = .ok (.aload_n 0, 1) := by decide +kernel
theorem dBl_countWith_13 : decode bBl_countWith 13 = .ok (.getfield 33, 3) := by decide +kernel
theorem dBl_countWith_16 : decode bBl_countWith 16 = .ok (.ifCond .ne 19, 3) := by decide +kernel
theorem dBl_countWith_19 : decode bBl_countWith 19 = .ok (.aload_n 0, 1) := by decide +kernel
theorem dBl_countWith_20 : decode bBl_countWith 20 = .ok (.getfield 30, 3) := by decide +kernel
theorem dBl_countWith_23 : decode bBl_countWith 23 = .ok (.iconst 1, 1) := by decide +kernel
theorem dBl_countWith_24 : decode bBl_countWith 24 = .ok (.iadd, 1) := by decide +kernel
theorem dBl_countWith_25 : decode bBl_countWith 25 = .ok (.aload_n 0, 1) := by decide +kernel
theorem dBl_countWith_26 : decode bBl_countWith 26 = .ok (.getfield 15, 3) := by decide +kernel
theorem dBl_countWith_29 : decode bBl_countWith 29 = .ok (.invokestatic 36, 3) := by decide +kernel
theorem dBl_countWith_32 : decode bBl_countWith 32 = .ok (.goto 7, 3) := by decide +kernel
theorem dBl_countWith_35 : decode bBl_countWith 35 = .ok (.aload_n 0, 1) := by decide +kernel
theorem dBl_countWith_36 : decode bBl_countWith 36 = .ok (.getfield 30, 3) := by decide +kernel
theorem dBl_countWith_39 : decode bBl_countWith 39 = .ok (.ireturn, 1) := by decide +kernel
theorem dBl_reckon_0 : decode bBl_reckon 0 = .ok (.aload_n 0, 1) := by decide +kernel
theorem dBl_reckon_1 : decode bBl_reckon 1 = .ok (.getfield 9, 3) := by decide +kernel
theorem dBl_reckon_4 : decode bBl_reckon 4 = .ok (.iconst 5, 1) := by decide +kernel
theorem dBl_reckon_5 : decode bBl_reckon 5 = .ok (.if_icmp .ne 23, 3) := by decide +kernel
theorem dBl_reckon_8 : decode bBl_reckon 8 = .ok (.lload_n 1, 1) := by decide +kernel
theorem dBl_reckon_9 : decode bBl_reckon 9 = .ok (.aload_n 0, 1) := by decide +kernel
theorem dBl_reckon_10 : decode bBl_reckon 10 = .ok (.getfield 21, 3) := by decide +kernel
theorem dBl_reckon_13 : decode bBl_reckon 13 = .ok (.i2l, 1) := by decide +kernel
theorem dBl_reckon_14 : decode bBl_reckon 14 = .ok (.lmul, 1) := by decide +kernel
theorem dBl_reckon_15 : decode bBl_reckon 15 = .ok (.ldc2_w 66, 3) := by decide +kernel
theorem dBl_reckon_18 : decode bBl_reckon 18 = .ok (.invokestatic 68, 3) := by decide +kernel
theorem dBl_reckon_21 : decode bBl_reckon 21 = .ok (.aload_n 0, 1) := by decide +kernel
theorem dBl_reckon_22 : decode bBl_reckon 22 = .ok (.getfield 24, 3) := by decide +kernel
theorem dBl_reckon_25 : decode bBl_reckon 25 = .ok (.i2l, 1) := by decide +kernel
theorem dBl_reckon_26 : decode bBl_reckon 26 = .ok (.ladd, 1) := by decide +kernel
theorem dBl_reckon_27 : decode bBl_reckon 27 = .ok (.lreturn, 1) := by decide +kernel
theorem dBl_reckon_28 : decode bBl_reckon 28 = .ok (.aload_n 0, 1) := by decide +kernel
theorem dBl_reckon_29 : decode bBl_reckon 29 = .ok (.getfield 9, 3) := by decide +kernel
theorem dBl_reckon_32 : decode bBl_reckon 32 = .ok (.bipush 7, 2) := by decide +kernel
theorem dBl_reckon_34 : decode bBl_reckon 34 = .ok (.if_icmp .ne 21, 3) := by decide +kernel
theorem dBl_reckon_37 : decode bBl_reckon 37 = .ok (.aload_n 0, 1) := by decide +kernel
theorem dBl_reckon_38 : decode bBl_reckon 38 = .ok (.getfield 24, 3) := by decide +kernel
theorem dBl_reckon_41 : decode bBl_reckon 41 = .ok (.i2l, 1) := by decide +kernel
theorem dBl_reckon_42 : decode bBl_reckon 42 = .ok (.aload_n 0, 1) := by decide +kernel
theorem dBl_reckon_43 : decode bBl_reckon 43 = .ok (.getfield 21, 3) := by decide +kernel
theorem dBl_reckon_46 : decode bBl_reckon 46 = .ok (.i2l, 1) := by decide +kernel
theorem dBl_reckon_47 : decode bBl_reckon 47 = .ok (.lload_n 1, 1) := by decide +kernel
theorem dBl_reckon_48 : decode bBl_reckon 48 = .ok (.invokestatic 72, 3) := by decide +kernel
theorem dBl_reckon_51 : decode bBl_reckon 51 = .ok (.invokestatic 74, 3) := by decide +kernel
theorem dBl_reckon_54 : decode bBl_reckon 54 = .ok (.lreturn, 1) := by decide +kernel
theorem dBl_reckon_55 : decode bBl_reckon 55 = .ok (.aload_n 0, 1) := by decide +kernel
theorem dBl_reckon_56 : decode bBl_reckon 56 = .ok (.getfield 21, 3) := by decide +kernel
theorem dBl_reckon_59 : decode bBl_reckon 59 = .ok (.ifCond .ne 7, 3) := by decide +kernel
theorem dBl_reckon_62 : decode bBl_reckon 62 = .ok (.lconst 0, 1) := by decide +kernel
theorem dBl_reckon_63 : decode bBl_reckon 63 = .ok (.goto 16, 3) := by decide +kernel
theorem dBl_reckon_66 : decode bBl_reckon 66 = .ok (.lload_n 1, 1) := by decide +kernel
theorem dBl_reckon_67 : decode bBl_reckon 67 = .ok (.ldc2_w 66, 3) := by decide +kernel
theorem dBl_reckon_70 : decode bBl_reckon 70 = .ok (.lmul, 1) := by decide +kernel
theorem dBl_reckon_71 : decode bBl_reckon 71 = .ok (.aload_n 0, 1) := by decide +kernel
theorem dBl_reckon_72 : decode bBl_reckon 72 = .ok (.getfield 21, 3) := by decide +kernel
theorem dBl_reckon_75 : decode bBl_reckon 75 = .ok (.i2l, 1) := by decide +kernel
theorem dBl_reckon_76 : decode bBl_reckon 76 = .ok (.invokestatic 68, 3) := by decide +kernel
theorem dBl_reckon_79 : decode bBl_reckon 79 = .ok (.lreturn, 1) := by decide +kernel
end
section
/-! decode rows of LadderScan$Ladder -/
theorem dLa_init_0 : decode bLa_init 0 = .ok (.aload_n 0, 1) := by decide +kernel
theorem dLa_init_1 : decode bLa_init 1 = .ok (.invokespecial 3, 3) := by decide +kernel
theorem dLa_init_4 : decode bLa_init 4 = .ok (.aload_n 0, 1) := by decide +kernel
theorem dLa_init_5 : decode bLa_init 5 = .ok (.bipush 120, 2) := by decide +kernel
theorem dLa_init_7 : decode bLa_init 7 = .ok (.newarray .int, 2) := by decide +kernel
theorem dLa_init_9 : decode bLa_init 9 = .ok (.putfield 9, 3) := by decide +kernel
theorem dLa_init_12 : decode bLa_init 12 = .ok (.aload_n 0, 1) := by decide +kernel
theorem dLa_init_13 : decode bLa_init 13 = .ok (.bipush 120, 2) := by decide +kernel
theorem dLa_init_15 : decode bLa_init 15 = .ok (.newarray .int, 2) := by decide +kernel
theorem dLa_init_17 : decode bLa_init 17 = .ok (.putfield 15, 3) := by decide +kernel
theorem dLa_init_20 : decode bLa_init 20 = .ok (.aload_n 0, 1) := by decide +kernel
theorem dLa_init_21 : decode bLa_init 21 = .ok (.bipush 12, 2) := by decide +kernel
theorem dLa_init_23 : decode bLa_init 23 = .ok (.newarray .int, 2) := by decide +kernel
theorem dLa_init_25 : decode bLa_init 25 = .ok (.putfield 18, 3) := by decide +kernel
theorem dLa_init_28 : decode bLa_init 28 = .ok (.aload_n 0, 1) := by decide +kernel
theorem dLa_init_29 : decode bLa_init 29 = .ok (.bipush 12, 2) := by decide +kernel
theorem dLa_init_31 : decode bLa_init 31 = .ok (.newarray .int, 2) := by decide +kernel
theorem dLa_init_33 : decode bLa_init 33 = .ok (.putfield 21, 3) := by decide +kernel
theorem dLa_init_36 : decode bLa_init 36 = .ok (.return_, 1) := by decide +kernel
theorem dLa_isFull_0 : decode bLa_isFull 0 = .ok (.aload_n 0, 1) := by decide +kernel
theorem dLa_isFull_1 : decode bLa_isFull 1 = .ok (.getfield 18, 3) := by decide +kernel
theorem dLa_isFull_4 : decode bLa_isFull 4 = .ok (.iload_n 1, 1) := by decide +kernel
theorem dLa_isFull_5 : decode bLa_isFull 5 = .ok (.iaload, 1) := by decide +kernel
theorem dLa_isFull_6 : decode bLa_isFull 6 = .ok (.bipush 10, 2) := by decide +kernel
theorem dLa_isFull_8 : decode bLa_isFull 8 = .ok (.if_icmp .lt 7, 3) := by decide +kernel
theorem dLa_isFull_11 : decode bLa_isFull 11 = .ok (.iconst 1, 1) := by decide +kernel
theorem dLa_isFull_12 : decode bLa_isFull 12 = .ok (.goto 4, 3) := by decide +kernel
theorem dLa_isFull_15 : decode bLa_isFull 15 = .ok (.iconst 0, 1) := by decide +kernel
theorem dLa_isFull_16 : decode bLa_isFull 16 = .ok (.ireturn, 1) := by decide +kernel
theorem dLa_stackAllows_0 : decode bLa_stackAllows 0 = .ok (.aload_n 0, 1) := by decide +kernel
theorem dLa_stackAllows_1 : decode bLa_stackAllows 1 = .ok (.getfield 21, 3) := by decide +kernel
theorem dLa_stackAllows_4 : decode bLa_stackAllows 4 = .ok (.iload_n 1, 1) := by decide +kernel
theorem dLa_stackAllows_5 : decode bLa_stackAllows 5 = .ok (.iaload, 1) := by decide +kernel
theorem dLa_stackAllows_6 : decode bLa_stackAllows 6 = .ok (.iload_n 2, 1) := by decide +kernel
theorem dLa_stackAllows_7 : decode bLa_stackAllows 7 = .ok (.invokestatic 24, 3) := by decide +kernel
theorem dLa_stackAllows_10 : decode bLa_stackAllows 10 = .ok (.if_icmp .lt 22, 3) := by decide +kernel
theorem dLa_stackAllows_13 : decode bLa_stackAllows 13 = .ok (.aload_n 0, 1) := by decide +kernel
theorem dLa_stackAllows_14 : decode bLa_stackAllows 14 = .ok (.getfield 21, 3) := by decide +kernel
theorem dLa_stackAllows_17 : decode bLa_stackAllows 17 = .ok (.iload_n 1, 1) := by decide +kernel
theorem dLa_stackAllows_18 : decode bLa_stackAllows 18 = .ok (.iaload, 1) := by decide +kernel
theorem dLa_stackAllows_19 : decode bLa_stackAllows 19 = .ok (.iload_n 2, 1) := by decide +kernel
theorem dLa_stackAllows_20 : decode bLa_stackAllows 20 = .ok (.invokestatic 28, 3) := by decide +kernel
theorem dLa_stackAllows_23 : decode bLa_stackAllows 23 = .ok (.iadd, 1) := by decide +kernel
theorem dLa_stackAllows_24 : decode bLa_stackAllows 24 = .ok (.iconst 4, 1) := by decide +kernel
theorem dLa_stackAllows_25 : decode bLa_stackAllows 25 = .ok (.if_icmp .gt 7, 3) := by decide +kernel
theorem dLa_stackAllows_28 : decode bLa_stackAllows 28 = .ok (.iconst 1, 1) := by decide +kernel
theorem dLa_stackAllows_29 : decode bLa_stackAllows 29 = .ok (.goto 4, 3) := by decide +kernel
theorem dLa_stackAllows_32 : decode bLa_stackAllows 32 = .ok (.iconst 0, 1) := by decide +kernel
theorem dLa_stackAllows_33 : decode bLa_stackAllows 33 = .ok (.ireturn, 1) := by decide +kernel
theorem dLa_add_0 : decode bLa_add 0 = .ok (.iload_n 1, 1) := by decide +kernel
theorem dLa_add_1 : decode bLa_add 1 = .ok (.bipush 10, 2) := by decide +kernel
theorem dLa_add_3 : decode bLa_add 3 = .ok (.imul, 1) := by decide +kernel
theorem dLa_add_4 : decode bLa_add 4 = .ok (.aload_n 0, 1) := by decide +kernel
theorem dLa_add_5 : decode bLa_add 5 = .ok (.getfield 18, 3) := by decide +kernel
theorem dLa_add_8 : decode bLa_add 8 = .ok (.iload_n 1, 1) := by decide +kernel
theorem dLa_add_9 : decode bLa_add 9 = .ok (.iaload, 1) := by decide +kernel
theorem dLa_add_10 : decode bLa_add 10 = .ok (.iadd, 1) := by decide +kernel
theorem dLa_add_11 : decode bLa_add 11 = .ok (.istore 4, 2) := by decide +kernel
theorem dLa_add_13 : decode bLa_add 13 = .ok (.aload_n 0, 1) := by decide +kernel
theorem dLa_add_14 : decode bLa_add 14 = .ok (.getfield 9, 3) := by decide +kernel
theorem dLa_add_17 : decode bLa_add 17 = .ok (.iload 4, 2) := by decide +kernel
theorem dLa_add_19 : decode bLa_add 19 = .ok (.iload_n 2, 1) := by decide +kernel
theorem dLa_add_20 : decode bLa_add 20 = .ok (.iastore, 1) := by decide +kernel
theorem dLa_add_21 : decode bLa_add 21 = .ok (.aload_n 0, 1) := by decide +kernel
theorem dLa_add_22 : decode bLa_add 22 = .ok (.getfield 15, 3) := by decide +kernel
theorem dLa_add_25 : decode bLa_add 25 = .ok (.iload 4, 2) := by decide +kernel
theorem dLa_add_27 : decode bLa_add 27 = .ok (.iload_n 3, 1) := by decide +kernel
theorem dLa_add_28 : decode bLa_add 28 = .ok (.iastore, 1) := by decide +kernel
theorem dLa_add_29 : decode bLa_add 29 = .ok (.aload_n 0, 1) := by decide +kernel
theorem dLa_add_30 : decode bLa_add 30 = .ok (.getfield 18, 3) := by decide +kernel
theorem dLa_add_33 : decode bLa_add 33 = .ok (.iload_n 1, 1) := by decide +kernel
theorem dLa_add_34 : decode bLa_add 34 = .ok (.dup2, 1) := by decide +kernel
theorem dLa_add_35 : decode bLa_add 35 = .ok (.iaload, 1) := by decide +kernel
theorem dLa_add_36 : decode bLa_add 36 = .ok (.iconst 1, 1) := by decide +kernel
theorem dLa_add_37 : decode bLa_add 37 = .ok (.iadd, 1) := by decide +kernel
theorem dLa_add_38 : decode bLa_add 38 = .ok (.iastore, 1) := by decide +kernel
theorem dLa_add_39 : decode bLa_add 39 = .ok (.aload_n 0, 1) := by decide +kernel
theorem dLa_add_40 : decode bLa_add 40 = .ok (.getfield 21, 3) := by decide +kernel
theorem dLa_add_43 : decode bLa_add 43 = .ok (.iload_n 1, 1) := by decide +kernel
theorem dLa_add_44 : decode bLa_add 44 = .ok (.dup2, 1) := by decide +kernel
theorem dLa_add_45 : decode bLa_add 45 = .ok (.iaload, 1) := by decide +kernel
theorem dLa_add_46 : decode bLa_add 46 = .ok (.iload_n 2, 1) := by decide +kernel
theorem dLa_add_47 : decode bLa_add 47 = .ok (.invokestatic 28, 3) := by decide +kernel
theorem dLa_add_50 : decode bLa_add 50 = .ok (.iadd, 1) := by decide +kernel
theorem dLa_add_51 : decode bLa_add 51 = .ok (.iastore, 1) := by decide +kernel
theorem dLa_add_52 : decode bLa_add 52 = .ok (.aload_n 0, 1) := by decide +kernel
theorem dLa_add_53 : decode bLa_add 53 = .ok (.getfield 21, 3) := by decide +kernel
theorem dLa_add_56 : decode bLa_add 56 = .ok (.iload_n 1, 1) := by decide +kernel
theorem dLa_add_57 : decode bLa_add 57 = .ok (.iaload, 1) := by decide +kernel
theorem dLa_add_58 : decode bLa_add 58 = .ok (.ireturn, 1) := by decide +kernel
theorem dLa_empty_0 : decode bLa_empty 0 = .ok (.aload_n 0, 1) := by decide +kernel
theorem dLa_empty_1 : decode bLa_empty 1 = .ok (.getfield 18, 3) := by decide +kernel
theorem dLa_empty_4 : decode bLa_empty 4 = .ok (.iload_n 1, 1) := by decide +kernel
theorem dLa_empty_5 : decode bLa_empty 5 = .ok (.iaload, 1) := by decide +kernel
theorem dLa_empty_6 : decode bLa_empty 6 = .ok (.istore_n 2, 1) := by decide +kernel
theorem dLa_empty_7 : decode bLa_empty 7 = .ok (.aload_n 0, 1) := by decide +kernel
theorem dLa_empty_8 : decode bLa_empty 8 = .ok (.getfield 18, 3) := by decide +kernel
theorem dLa_empty_11 : decode bLa_empty 11 = .ok (.iload_n 1, 1) := by decide +kernel
theorem dLa_empty_12 : decode bLa_empty 12 = .ok (.iconst 0, 1) := by decide +kernel
theorem dLa_empty_13 : decode bLa_empty 13 = .ok (.iastore, 1) := by decide +kernel
theorem dLa_empty_14 : decode bLa_empty 14 = .ok (.aload_n 0, 1) := by decide +kernel
theorem dLa_empty_15 : decode bLa_empty 15 = .ok (.getfield 21, 3) := by decide +kernel
theorem dLa_empty_18 : decode bLa_empty 18 = .ok (.iload_n 1, 1) := by decide +kernel
theorem dLa_empty_19 : decode bLa_empty 19 = .ok (.iconst 0, 1) := by decide +kernel
theorem dLa_empty_20 : decode bLa_empty 20 = .ok (.iastore, 1) := by decide +kernel
theorem dLa_empty_21 : decode bLa_empty 21 = .ok (.iload_n 2, 1) := by decide +kernel
theorem dLa_empty_22 : decode bLa_empty 22 = .ok (.ireturn, 1) := by decide +kernel
theorem dLa_copyFrom_0 : decode bLa_copyFrom 0 = .ok (.aload_n 1, 1) := by decide +kernel
theorem dLa_copyFrom_1 : decode bLa_copyFrom 1 = .ok (.getfield 9, 3) := by decide +kernel
theorem dLa_copyFrom_4 : decode bLa_copyFrom 4 = .ok (.iconst 0, 1) := by decide +kernel
theorem dLa_copyFrom_5 : decode bLa_copyFrom 5 = .ok (.aload_n 0, 1) := by decide +kernel
theorem dLa_copyFrom_6 : decode bLa_copyFrom 6 = .ok (.getfield 9, 3) := by decide +kernel
theorem dLa_copyFrom_9 : decode bLa_copyFrom 9 = .ok (.iconst 0, 1) := by decide +kernel
theorem dLa_copyFrom_10 : decode bLa_copyFrom 10 = .ok (.bipush 120, 2) := by decide +kernel
theorem dLa_copyFrom_12 : decode bLa_copyFrom 12 = .ok (.invokestatic 31, 3) := by decide +kernel
theorem dLa_copyFrom_15 : decode bLa_copyFrom 15 = .ok (.aload_n 1, 1) := by decide +kernel
theorem dLa_copyFrom_16 : decode bLa_copyFrom 16 = .ok (.getfield 15, 3) := by decide +kernel
theorem dLa_copyFrom_19 : decode bLa_copyFrom 19 = .ok (.iconst 0, 1) := by decide +kernel
theorem dLa_copyFrom_20 : decode bLa_copyFrom 20 = .ok (.aload_n 0, 1) := by decide +kernel
theorem dLa_copyFrom_21 : decode bLa_copyFrom 21 = .ok (.getfield 15, 3) := by decide +kernel
theorem dLa_copyFrom_24 : decode bLa_copyFrom 24 = .ok (.iconst 0, 1) := by decide +kernel
theorem dLa_copyFrom_25 : decode bLa_copyFrom 25 = .ok (.bipush 120, 2) := by decide +kernel
theorem dLa_copyFrom_27 : decode bLa_copyFrom 27 = .ok (.invokestatic 31, 3) := by decide +kernel
theorem dLa_copyFrom_30 : decode bLa_copyFrom 30 = .ok (.aload_n 1, 1) := by decide +kernel
theorem dLa_copyFrom_31 : decode bLa_copyFrom 31 = .ok (.getfield 18, 3) := by decide +kernel
theorem dLa_copyFrom_34 : decode bLa_copyFrom 34 = .ok (.iconst 0, 1) := by decide +kernel
theorem dLa_copyFrom_35 : decode bLa_copyFrom 35 = .ok (.aload_n 0, 1) := by decide +kernel
theorem dLa_copyFrom_36 : decode bLa_copyFrom 36 = .ok (.getfield 18, 3) := by decide +kernel
theorem dLa_copyFrom_39 : decode bLa_copyFrom 39 = .ok (.iconst 0, 1) := by decide +kernel
theorem dLa_copyFrom_40 : decode bLa_copyFrom 40 = .ok (.bipush 12, 2) := by decide +kernel
theorem dLa_copyFrom_42 : decode bLa_copyFrom 42 = .ok (.invokestatic 31, 3) := by decide +kernel
theorem dLa_copyFrom_45 : decode bLa_copyFrom 45 = .ok (.return_, 1) := by decide +kernel
theorem dLa_size_0 : decode bLa_size 0 = .ok (.iconst 0, 1) := by decide +kernel
theorem dLa_size_1 : decode bLa_size 1 = .ok (.istore_n 1, 1) := by decide +kernel
theorem dLa_size_2 : decode bLa_size 2 = .ok (.iconst 0, 1) := by decide +kernel
theorem dLa_size_3 : decode bLa_size 3 = .ok (.istore_n 2, 1) := by decide +kernel
theorem dLa_size_4 : decode bLa_size 4 = .ok (.iload_n 2, 1) := by decide +kernel
theorem dLa_size_5 : decode bLa_size 5 = .ok (.bipush 12, 2) := by decide +kernel
theorem dLa_size_7 : decode bLa_size 7 = .ok (.if_icmp .ge 18, 3) := by decide +kernel
theorem dLa_size_10 : decode bLa_size 10 = .ok (.iload_n 1, 1) := by decide +kernel
theorem dLa_size_11 : decode bLa_size 11 = .ok (.aload_n 0, 1) := by decide +kernel
theorem dLa_size_12 : decode bLa_size 12 = .ok (.getfield 18, 3) := by decide +kernel
theorem dLa_size_15 : decode bLa_size 15 = .ok (.iload_n 2, 1) := by decide +kernel
theorem dLa_size_16 : decode bLa_size 16 = .ok (.iaload, 1) := by decide +kernel
theorem dLa_size_17 : decode bLa_size 17 = .ok (.iadd, 1) := by decide +kernel
theorem dLa_size_18 : decode bLa_size 18 = .ok (.istore_n 1, 1) := by decide +kernel
theorem dLa_size_19 : decode bLa_size 19 = .ok (.iinc 2 1, 3) := by decide +kernel
theorem dLa_size_22 : decode bLa_size 22 = .ok (.goto (-18), 3) := by decide +kernel
theorem dLa_size_25 : decode bLa_size 25 = .ok (.iload_n 1, 1) := by decide +kernel
theorem dLa_size_26 : decode bLa_size 26 = .ok (.ireturn, 1) := by decide +kernel
theorem dLa_pushes_0 : decode bLa_pushes 0 = .ok (.iload_n 0, 1) := by decide +kernel
theorem dLa_pushes_1 : decode bLa_pushes 1 = .ok (.ifCond .eq 14, 3) := by decide +kernel
theorem dLa_pushes_4 : decode bLa_pushes 4 = .ok (.iload_n 0, 1) := by decide +kernel
theorem dLa_pushes_5 : decode bLa_pushes 5 = .ok (.iconst 1, 1) := by decide +kernel
theorem dLa_pushes_6 : decode bLa_pushes 6 = .ok (.if_icmp .eq 9, 3) := by decide +kernel
theorem dLa_pushes_9 : decode bLa_pushes 9 = .ok (.iload_n 0, 1) := by decide +kernel
theorem dLa_pushes_10 : decode bLa_pushes 10 = .ok (.bipush 8, 2) := by decide +kernel
theorem dLa_pushes_12 : decode bLa_pushes 12 = .ok (.if_icmp .ne 7, 3) := by decide +kernel
theorem dLa_pushes_15 : decode bLa_pushes 15 = .ok (.iconst 1, 1) := by decide +kernel
theorem dLa_pushes_16 : decode bLa_pushes 16 = .ok (.goto 4, 3) := by decide +kernel
theorem dLa_pushes_19 : decode bLa_pushes 19 = .ok (.iconst 0, 1) := by decide +kernel
theorem dLa_pushes_20 : decode bLa_pushes 20 = .ok (.ireturn, 1) := by decide +kernel
theorem dLa_joins_0 : decode bLa_joins 0 = .ok (.iload_n 0, 1) := by decide +kernel
theorem dLa_joins_1 : decode bLa_joins 1 = .ok (.bipush 6, 2) := by decide +kernel
theorem dLa_joins_3 : decode bLa_joins 3 = .ok (.if_icmp .eq 9, 3) := by decide +kernel
theorem dLa_joins_6 : decode bLa_joins 6 = .ok (.iload_n 0, 1) := by decide +kernel
theorem dLa_joins_7 : decode bLa_joins 7 = .ok (.bipush 7, 2) := by decide +kernel
theorem dLa_joins_9 : decode bLa_joins 9 = .ok (.if_icmp .ne 7, 3) := by decide +kernel
theorem dLa_joins_12 : decode bLa_joins 12 = .ok (.iconst 1, 1) := by decide +kernel
theorem dLa_joins_13 : decode bLa_joins 13 = .ok (.goto 4, 3) := by decide +kernel
theorem dLa_joins_16 : decode bLa_joins 16 = .ok (.iconst 0, 1) := by decide +kernel
theorem dLa_joins_17 : decode bLa_joins 17 = .ok (.ireturn, 1) := by decide +kernel
theorem dLa_needed_0 : decode bLa_needed 0 = .ok (.iload_n 0, 1) := by decide +kernel
theorem dLa_needed_1 : decode bLa_needed 1 = .ok (.invokestatic 37, 3) := by decide +kernel
theorem dLa_needed_4 : decode bLa_needed 4 = .ok (.ifCond .eq 5, 3) := by decide +kernel
theorem dLa_needed_7 : decode bLa_needed 7 = .ok (.iconst 0, 1) := by decide +kernel
theorem dLa_needed_8 : decode bLa_needed 8 = .ok (.ireturn, 1) := by decide +kernel
theorem dLa_needed_9 : decode bLa_needed 9 = .ok (.iload_n 0, 1) := by decide +kernel
theorem dLa_needed_10 : decode bLa_needed 10 = .ok (.invokestatic 41, 3) := by decide +kernel
theorem dLa_needed_13 : decode bLa_needed 13 = .ok (.ifCond .eq 7, 3) := by decide +kernel
theorem dLa_needed_16 : decode bLa_needed 16 = .ok (.iconst 2, 1) := by decide +kernel
theorem dLa_needed_17 : decode bLa_needed 17 = .ok (.goto 4, 3) := by decide +kernel
theorem dLa_needed_20 : decode bLa_needed 20 = .ok (.iconst 1, 1) := by decide +kernel
theorem dLa_needed_21 : decode bLa_needed 21 = .ok (.ireturn, 1) := by decide +kernel
theorem dLa_growth_0 : decode bLa_growth 0 = .ok (.iload_n 0, 1) := by decide +kernel
theorem dLa_growth_1 : decode bLa_growth 1 = .ok (.invokestatic 37, 3) := by decide +kernel
theorem dLa_growth_4 : decode bLa_growth 4 = .ok (.ifCond .eq 5, 3) := by decide +kernel
theorem dLa_growth_7 : decode bLa_growth 7 = .ok (.iconst 1, 1) := by decide +kernel
theorem dLa_growth_8 : decode bLa_growth 8 = .ok (.ireturn, 1) := by decide +kernel
theorem dLa_growth_9 : decode bLa_growth 9 = .ok (.iload_n 0, 1) := by decide +kernel
theorem dLa_growth_10 : decode bLa_growth 10 = .ok (.invokestatic 41, 3) := by decide +kernel
theorem dLa_growth_13 : decode bLa_growth 13 = .ok (.ifCond .eq 7, 3) := by decide +kernel
theorem dLa_growth_16 : decode bLa_growth 16 = .ok (.iconst (-1), 1) := by decide +kernel
theorem dLa_growth_17 : decode bLa_growth 17 = .ok (.goto 4, 3) := by decide +kernel
theorem dLa_growth_20 : decode bLa_growth 20 = .ok (.iconst 0, 1) := by decide +kernel
theorem dLa_growth_21 : decode bLa_growth 21 = .ok (.ireturn, 1) := by decide +kernel
end
section
/-! decode rows of LadderScanLaw -/
theorem dLw_block_0 : decode bLw_block 0 = .ok (.aload 4, 2) := by decide +kernel
theorem dLw_block_2 : decode bLw_block 2 = .ok (.iconst 0, 1) := by decide +kernel
theorem dLw_block_3 : decode bLw_block 3 = .ok (.aload_n 0, 1) := by decide +kernel
theorem dLw_block_4 : decode bLw_block 4 = .ok (.iload_n 1, 1) := by decide +kernel
theorem dLw_block_5 : decode bLw_block 5 = .ok (.iload_n 2, 1) := by decide +kernel
theorem dLw_block_6 : decode bLw_block 6 = .ok (.iload_n 3, 1) := by decide +kernel
theorem dLw_block_7 : decode bLw_block 7 = .ok (.invokevirtual 7, 3) := by decide +kernel
theorem dLw_block_10 : decode bLw_block 10 = .ok (.i2l, 1) := by decide +kernel
theorem dLw_block_11 : decode bLw_block 11 = .ok (.lastore, 1) := by decide +kernel
theorem dLw_block_12 : decode bLw_block 12 = .ok (.goto 11, 3) := by decide +kernel
theorem dLw_block_15 : decode bLw_block 15 = .ok (.astore 5, 2) := by decide +kernel
theorem dLw_block_17 : decode bLw_block 17 = .ok (.iconst 1, 1) := by decide +kernel
theorem dLw_block_18 : decode bLw_block 18 = .ok (.ireturn, 1) := by decide +kernel
theorem dLw_block_19 : decode bLw_block 19 = .ok (.astore 5, 2) := by decide +kernel
theorem dLw_block_21 : decode bLw_block 21 = .ok (.iconst 2, 1) := by decide +kernel
theorem dLw_block_22 : decode bLw_block 22 = .ok (.ireturn, 1) := by decide +kernel
theorem dLw_block_23 : decode bLw_block 23 = .ok (.iconst 0, 1) := by decide +kernel
theorem dLw_block_24 : decode bLw_block 24 = .ok (.ireturn, 1) := by decide +kernel
theorem dLw_tune_0 : decode bLw_tune 0 = .ok (.aload 6, 2) := by decide +kernel
theorem dLw_tune_2 : decode bLw_tune 2 = .ok (.iconst 0, 1) := by decide +kernel
theorem dLw_tune_3 : decode bLw_tune 3 = .ok (.aload_n 0, 1) := by decide +kernel
theorem dLw_tune_4 : decode bLw_tune 4 = .ok (.iload_n 1, 1) := by decide +kernel
theorem dLw_tune_5 : decode bLw_tune 5 = .ok (.dload_n 2, 1) := by decide +kernel
theorem dLw_tune_6 : decode bLw_tune 6 = .ok (.dload 4, 2) := by decide +kernel
theorem dLw_tune_8 : decode bLw_tune 8 = .ok (.invokevirtual 17, 3) := by decide +kernel
theorem dLw_tune_11 : decode bLw_tune 11 = .ok (.dastore, 1) := by decide +kernel
theorem dLw_tune_12 : decode bLw_tune 12 = .ok (.goto 15, 3) := by decide +kernel
theorem dLw_tune_15 : decode bLw_tune 15 = .ok (.astore 7, 2) := by decide +kernel
theorem dLw_tune_17 : decode bLw_tune 17 = .ok (.iconst 1, 1) := by decide +kernel
theorem dLw_tune_18 : decode bLw_tune 18 = .ok (.ireturn, 1) := by decide +kernel
theorem dLw_tune_19 : decode bLw_tune 19 = .ok (.astore 7, 2) := by decide +kernel
theorem dLw_tune_21 : decode bLw_tune 21 = .ok (.iconst 2, 1) := by decide +kernel
theorem dLw_tune_22 : decode bLw_tune 22 = .ok (.ireturn, 1) := by decide +kernel
theorem dLw_tune_23 : decode bLw_tune 23 = .ok (.astore 7, 2) := by decide +kernel
theorem dLw_tune_25 : decode bLw_tune 25 = .ok (.iconst 3, 1) := by decide +kernel
theorem dLw_tune_26 : decode bLw_tune 26 = .ok (.ireturn, 1) := by decide +kernel
theorem dLw_tune_27 : decode bLw_tune 27 = .ok (.iconst 0, 1) := by decide +kernel
theorem dLw_tune_28 : decode bLw_tune 28 = .ok (.ireturn, 1) := by decide +kernel
theorem dLw_step_0 : decode bLw_step 0 = .ok (.aload 4, 2) := by decide +kernel
theorem dLw_step_2 : decode bLw_step 2 = .ok (.iconst 0, 1) := by decide +kernel
theorem dLw_step_3 : decode bLw_step 3 = .ok (.aload_n 0, 1) := by decide +kernel
theorem dLw_step_4 : decode bLw_step 4 = .ok (.iload_n 1, 1) := by decide +kernel
theorem dLw_step_5 : decode bLw_step 5 = .ok (.iload_n 2, 1) := by decide +kernel
theorem dLw_step_6 : decode bLw_step 6 = .ok (.iload_n 3, 1) := by decide +kernel
theorem dLw_step_7 : decode bLw_step 7 = .ok (.invokevirtual 25, 3) := by decide +kernel
theorem dLw_step_10 : decode bLw_step 10 = .ok (.i2l, 1) := by decide +kernel
theorem dLw_step_11 : decode bLw_step 11 = .ok (.lastore, 1) := by decide +kernel
theorem dLw_step_12 : decode bLw_step 12 = .ok (.goto 15, 3) := by decide +kernel
theorem dLw_step_15 : decode bLw_step 15 = .ok (.astore 5, 2) := by decide +kernel
theorem dLw_step_17 : decode bLw_step 17 = .ok (.iconst 1, 1) := by decide +kernel
theorem dLw_step_18 : decode bLw_step 18 = .ok (.ireturn, 1) := by decide +kernel
theorem dLw_step_19 : decode bLw_step 19 = .ok (.astore 5, 2) := by decide +kernel
theorem dLw_step_21 : decode bLw_step 21 = .ok (.iconst 2, 1) := by decide +kernel
theorem dLw_step_22 : decode bLw_step 22 = .ok (.ireturn, 1) := by decide +kernel
theorem dLw_step_23 : decode bLw_step 23 = .ok (.astore 5, 2) := by decide +kernel
theorem dLw_step_25 : decode bLw_step 25 = .ok (.iconst 3, 1) := by decide +kernel
theorem dLw_step_26 : decode bLw_step 26 = .ok (.ireturn, 1) := by decide +kernel
theorem dLw_step_27 : decode bLw_step 27 = .ok (.iconst 0, 1) := by decide +kernel
theorem dLw_step_28 : decode bLw_step 28 = .ok (.ireturn, 1) := by decide +kernel
theorem dLw_erase_0 : decode bLw_erase 0 = .ok (.aload_n 2, 1) := by decide +kernel
theorem dLw_erase_1 : decode bLw_erase 1 = .ok (.iconst 0, 1) := by decide +kernel
theorem dLw_erase_2 : decode bLw_erase 2 = .ok (.aload_n 0, 1) := by decide +kernel
theorem dLw_erase_3 : decode bLw_erase 3 = .ok (.iload_n 1, 1) := by decide +kernel
theorem dLw_erase_4 : decode bLw_erase 4 = .ok (.invokevirtual 28, 3) := by decide +kernel
theorem dLw_erase_7 : decode bLw_erase 7 = .ok (.i2l, 1) := by decide +kernel
theorem dLw_erase_8 : decode bLw_erase 8 = .ok (.lastore, 1) := by decide +kernel
theorem dLw_erase_9 : decode bLw_erase 9 = .ok (.goto 6, 3) := by decide +kernel
theorem dLw_erase_12 : decode bLw_erase 12 = .ok (.astore_n 3, 1) := by decide +kernel
theorem dLw_erase_13 : decode bLw_erase 13 = .ok (.iconst 1, 1) := by decide +kernel
theorem dLw_erase_14 : decode bLw_erase 14 = .ok (.ireturn, 1) := by decide +kernel
theorem dLw_erase_15 : decode bLw_erase 15 = .ok (.iconst 0, 1) := by decide +kernel
theorem dLw_erase_16 : decode bLw_erase 16 = .ok (.ireturn, 1) := by decide +kernel
theorem dLw_wire_0 : decode bLw_wire 0 = .ok (.aload_n 3, 1) := by decide +kernel
theorem dLw_wire_1 : decode bLw_wire 1 = .ok (.iconst 0, 1) := by decide +kernel
theorem dLw_wire_2 : decode bLw_wire 2 = .ok (.aload_n 0, 1) := by decide +kernel
theorem dLw_wire_3 : decode bLw_wire 3 = .ok (.iload_n 1, 1) := by decide +kernel
theorem dLw_wire_4 : decode bLw_wire 4 = .ok (.iload_n 2, 1) := by decide +kernel
theorem dLw_wire_5 : decode bLw_wire 5 = .ok (.invokevirtual 32, 3) := by decide +kernel
theorem dLw_wire_8 : decode bLw_wire 8 = .ok (.i2l, 1) := by decide +kernel
theorem dLw_wire_9 : decode bLw_wire 9 = .ok (.lastore, 1) := by decide +kernel
theorem dLw_wire_10 : decode bLw_wire 10 = .ok (.goto 7, 3) := by decide +kernel
theorem dLw_wire_13 : decode bLw_wire 13 = .ok (.astore 4, 2) := by decide +kernel
theorem dLw_wire_15 : decode bLw_wire 15 = .ok (.iconst 1, 1) := by decide +kernel
theorem dLw_wire_16 : decode bLw_wire 16 = .ok (.ireturn, 1) := by decide +kernel
theorem dLw_wire_17 : decode bLw_wire 17 = .ok (.iconst 0, 1) := by decide +kernel
theorem dLw_wire_18 : decode bLw_wire 18 = .ok (.ireturn, 1) := by decide +kernel
theorem dLw_put_0 : decode bLw_put 0 = .ok (.aload 4, 2) := by decide +kernel
theorem dLw_put_2 : decode bLw_put 2 = .ok (.iconst 0, 1) := by decide +kernel
theorem dLw_put_3 : decode bLw_put 3 = .ok (.aload_n 0, 1) := by decide +kernel
theorem dLw_put_4 : decode bLw_put 4 = .ok (.iload_n 1, 1) := by decide +kernel
theorem dLw_put_5 : decode bLw_put 5 = .ok (.dload_n 2, 1) := by decide +kernel
theorem dLw_put_6 : decode bLw_put 6 = .ok (.invokevirtual 36, 3) := by decide +kernel
theorem dLw_put_9 : decode bLw_put 9 = .ok (.dastore, 1) := by decide +kernel
theorem dLw_put_10 : decode bLw_put 10 = .ok (.goto 7, 3) := by decide +kernel
theorem dLw_put_13 : decode bLw_put 13 = .ok (.astore 5, 2) := by decide +kernel
theorem dLw_put_15 : decode bLw_put 15 = .ok (.iconst 1, 1) := by decide +kernel
theorem dLw_put_16 : decode bLw_put 16 = .ok (.ireturn, 1) := by decide +kernel
theorem dLw_put_17 : decode bLw_put 17 = .ok (.iconst 0, 1) := by decide +kernel
theorem dLw_put_18 : decode bLw_put 18 = .ok (.ireturn, 1) := by decide +kernel
theorem dLw_force_0 : decode bLw_force 0 = .ok (.aload_n 3, 1) := by decide +kernel
theorem dLw_force_1 : decode bLw_force 1 = .ok (.iconst 0, 1) := by decide +kernel
theorem dLw_force_2 : decode bLw_force 2 = .ok (.aload_n 0, 1) := by decide +kernel
theorem dLw_force_3 : decode bLw_force 3 = .ok (.iload_n 1, 1) := by decide +kernel
theorem dLw_force_4 : decode bLw_force 4 = .ok (.iload_n 2, 1) := by decide +kernel
theorem dLw_force_5 : decode bLw_force 5 = .ok (.invokevirtual 40, 3) := by decide +kernel
theorem dLw_force_8 : decode bLw_force 8 = .ok (.i2l, 1) := by decide +kernel
theorem dLw_force_9 : decode bLw_force 9 = .ok (.lastore, 1) := by decide +kernel
theorem dLw_force_10 : decode bLw_force 10 = .ok (.goto 7, 3) := by decide +kernel
theorem dLw_force_13 : decode bLw_force 13 = .ok (.astore 4, 2) := by decide +kernel
theorem dLw_force_15 : decode bLw_force 15 = .ok (.iconst 1, 1) := by decide +kernel
theorem dLw_force_16 : decode bLw_force 16 = .ok (.ireturn, 1) := by decide +kernel
theorem dLw_force_17 : decode bLw_force 17 = .ok (.iconst 0, 1) := by decide +kernel
theorem dLw_force_18 : decode bLw_force 18 = .ok (.ireturn, 1) := by decide +kernel
theorem dLw_scan_0 : decode bLw_scan 0 = .ok (.aload_n 2, 1) := by decide +kernel
theorem dLw_scan_1 : decode bLw_scan 1 = .ok (.iconst 0, 1) := by decide +kernel
theorem dLw_scan_2 : decode bLw_scan 2 = .ok (.aload_n 0, 1) := by decide +kernel
theorem dLw_scan_3 : decode bLw_scan 3 = .ok (.iload_n 1, 1) := by decide +kernel
theorem dLw_scan_4 : decode bLw_scan 4 = .ok (.invokevirtual 43, 3) := by decide +kernel
theorem dLw_scan_7 : decode bLw_scan 7 = .ok (.i2l, 1) := by decide +kernel
theorem dLw_scan_8 : decode bLw_scan 8 = .ok (.lastore, 1) := by decide +kernel
theorem dLw_scan_9 : decode bLw_scan 9 = .ok (.goto 12, 3) := by decide +kernel
theorem dLw_scan_12 : decode bLw_scan 12 = .ok (.astore_n 3, 1) := by decide +kernel
theorem dLw_scan_13 : decode bLw_scan 13 = .ok (.iconst 1, 1) := by decide +kernel
theorem dLw_scan_14 : decode bLw_scan 14 = .ok (.ireturn, 1) := by decide +kernel
theorem dLw_scan_15 : decode bLw_scan 15 = .ok (.astore_n 3, 1) := by decide +kernel
theorem dLw_scan_16 : decode bLw_scan 16 = .ok (.iconst 2, 1) := by decide +kernel
theorem dLw_scan_17 : decode bLw_scan 17 = .ok (.ireturn, 1) := by decide +kernel
theorem dLw_scan_18 : decode bLw_scan 18 = .ok (.astore_n 3, 1) := by decide +kernel
theorem dLw_scan_19 : decode bLw_scan 19 = .ok (.iconst 3, 1) := by decide +kernel
theorem dLw_scan_20 : decode bLw_scan 20 = .ok (.ireturn, 1) := by decide +kernel
theorem dLw_scan_21 : decode bLw_scan 21 = .ok (.iconst 0, 1) := by decide +kernel
theorem dLw_scan_22 : decode bLw_scan 22 = .ok (.ireturn, 1) := by decide +kernel
theorem dLw_bit_0 : decode bLw_bit 0 = .ok (.aload_n 2, 1) := by decide +kernel
theorem dLw_bit_1 : decode bLw_bit 1 = .ok (.iconst 0, 1) := by decide +kernel
theorem dLw_bit_2 : decode bLw_bit 2 = .ok (.aload_n 0, 1) := by decide +kernel
theorem dLw_bit_3 : decode bLw_bit 3 = .ok (.iload_n 1, 1) := by decide +kernel
theorem dLw_bit_4 : decode bLw_bit 4 = .ok (.invokevirtual 48, 3) := by decide +kernel
theorem dLw_bit_7 : decode bLw_bit 7 = .ok (.i2l, 1) := by decide +kernel
theorem dLw_bit_8 : decode bLw_bit 8 = .ok (.lastore, 1) := by decide +kernel
theorem dLw_bit_9 : decode bLw_bit 9 = .ok (.goto 6, 3) := by decide +kernel
theorem dLw_bit_12 : decode bLw_bit 12 = .ok (.astore_n 3, 1) := by decide +kernel
theorem dLw_bit_13 : decode bLw_bit 13 = .ok (.iconst 1, 1) := by decide +kernel
theorem dLw_bit_14 : decode bLw_bit 14 = .ok (.ireturn, 1) := by decide +kernel
theorem dLw_bit_15 : decode bLw_bit 15 = .ok (.iconst 0, 1) := by decide +kernel
theorem dLw_bit_16 : decode bLw_bit 16 = .ok (.ireturn, 1) := by decide +kernel
theorem dLw_out_0 : decode bLw_out 0 = .ok (.aload_n 2, 1) := by decide +kernel
theorem dLw_out_1 : decode bLw_out 1 = .ok (.iconst 0, 1) := by decide +kernel
theorem dLw_out_2 : decode bLw_out 2 = .ok (.aload_n 0, 1) := by decide +kernel
theorem dLw_out_3 : decode bLw_out 3 = .ok (.iload_n 1, 1) := by decide +kernel
theorem dLw_out_4 : decode bLw_out 4 = .ok (.invokevirtual 51, 3) := by decide +kernel
theorem dLw_out_7 : decode bLw_out 7 = .ok (.i2l, 1) := by decide +kernel
theorem dLw_out_8 : decode bLw_out 8 = .ok (.lastore, 1) := by decide +kernel
theorem dLw_out_9 : decode bLw_out 9 = .ok (.goto 6, 3) := by decide +kernel
theorem dLw_out_12 : decode bLw_out 12 = .ok (.astore_n 3, 1) := by decide +kernel
theorem dLw_out_13 : decode bLw_out 13 = .ok (.iconst 1, 1) := by decide +kernel
theorem dLw_out_14 : decode bLw_out 14 = .ok (.ireturn, 1) := by decide +kernel
theorem dLw_out_15 : decode bLw_out 15 = .ok (.iconst 0, 1) := by decide +kernel
theorem dLw_out_16 : decode bLw_out 16 = .ok (.ireturn, 1) := by decide +kernel
theorem dLw_register_0 : decode bLw_register 0 = .ok (.aload_n 2, 1) := by decide +kernel
theorem dLw_register_1 : decode bLw_register 1 = .ok (.iconst 0, 1) := by decide +kernel
theorem dLw_register_2 : decode bLw_register 2 = .ok (.aload_n 0, 1) := by decide +kernel
theorem dLw_register_3 : decode bLw_register 3 = .ok (.iload_n 1, 1) := by decide +kernel
theorem dLw_register_4 : decode bLw_register 4 = .ok (.invokevirtual 54, 3) := by decide +kernel
theorem dLw_register_7 : decode bLw_register 7 = .ok (.dastore, 1) := by decide +kernel
theorem dLw_register_8 : decode bLw_register 8 = .ok (.goto 6, 3) := by decide +kernel
theorem dLw_register_11 : decode bLw_register 11 = .ok (.astore_n 3, 1) := by decide +kernel
theorem dLw_register_12 : decode bLw_register 12 = .ok (.iconst 1, 1) := by decide +kernel
theorem dLw_register_13 : decode bLw_register 13 = .ok (.ireturn, 1) := by decide +kernel
theorem dLw_register_14 : decode bLw_register 14 = .ok (.iconst 0, 1) := by decide +kernel
theorem dLw_register_15 : decode bLw_register 15 = .ok (.ireturn, 1) := by decide +kernel
theorem dLw_state_0 : decode bLw_state 0 = .ok (.aload_n 3, 1) := by decide +kernel
theorem dLw_state_1 : decode bLw_state 1 = .ok (.iconst 0, 1) := by decide +kernel
theorem dLw_state_2 : decode bLw_state 2 = .ok (.aload_n 0, 1) := by decide +kernel
theorem dLw_state_3 : decode bLw_state 3 = .ok (.iload_n 1, 1) := by decide +kernel
theorem dLw_state_4 : decode bLw_state 4 = .ok (.iload_n 2, 1) := by decide +kernel
theorem dLw_state_5 : decode bLw_state 5 = .ok (.invokevirtual 58, 3) := by decide +kernel
theorem dLw_state_8 : decode bLw_state 8 = .ok (.i2l, 1) := by decide +kernel
theorem dLw_state_9 : decode bLw_state 9 = .ok (.lastore, 1) := by decide +kernel
theorem dLw_state_10 : decode bLw_state 10 = .ok (.goto 11, 3) := by decide +kernel
theorem dLw_state_13 : decode bLw_state 13 = .ok (.astore 4, 2) := by decide +kernel
theorem dLw_state_15 : decode bLw_state 15 = .ok (.iconst 1, 1) := by decide +kernel
theorem dLw_state_16 : decode bLw_state 16 = .ok (.ireturn, 1) := by decide +kernel
theorem dLw_state_17 : decode bLw_state 17 = .ok (.astore 4, 2) := by decide +kernel
theorem dLw_state_19 : decode bLw_state 19 = .ok (.iconst 2, 1) := by decide +kernel
theorem dLw_state_20 : decode bLw_state 20 = .ok (.ireturn, 1) := by decide +kernel
theorem dLw_state_21 : decode bLw_state 21 = .ok (.iconst 0, 1) := by decide +kernel
theorem dLw_state_22 : decode bLw_state 22 = .ok (.ireturn, 1) := by decide +kernel
theorem dLw_count_0 : decode bLw_count 0 = .ok (.aload_n 2, 1) := by decide +kernel
theorem dLw_count_1 : decode bLw_count 1 = .ok (.iconst 0, 1) := by decide +kernel
theorem dLw_count_2 : decode bLw_count 2 = .ok (.aload_n 0, 1) := by decide +kernel
theorem dLw_count_3 : decode bLw_count 3 = .ok (.iload_n 1, 1) := by decide +kernel
theorem dLw_count_4 : decode bLw_count 4 = .ok (.invokevirtual 61, 3) := by decide +kernel
theorem dLw_count_7 : decode bLw_count 7 = .ok (.i2l, 1) := by decide +kernel
theorem dLw_count_8 : decode bLw_count 8 = .ok (.lastore, 1) := by decide +kernel
theorem dLw_count_9 : decode bLw_count 9 = .ok (.goto 6, 3) := by decide +kernel
theorem dLw_count_12 : decode bLw_count 12 = .ok (.astore_n 3, 1) := by decide +kernel
theorem dLw_count_13 : decode bLw_count 13 = .ok (.iconst 1, 1) := by decide +kernel
theorem dLw_count_14 : decode bLw_count 14 = .ok (.ireturn, 1) := by decide +kernel
theorem dLw_count_15 : decode bLw_count 15 = .ok (.iconst 0, 1) := by decide +kernel
theorem dLw_count_16 : decode bLw_count 16 = .ok (.ireturn, 1) := by decide +kernel
theorem dLw_law_0 : decode code 0 = .ok (.new 8, 3) := by decide +kernel
theorem dLw_law_3 : decode code 3 = .ok (.dup, 1) := by decide +kernel
theorem dLw_law_4 : decode code 4 = .ok (.invokespecial 64, 3) := by decide +kernel
theorem dLw_law_7 : decode code 7 = .ok (.astore_n 1, 1) := by decide +kernel
theorem dLw_law_8 : decode code 8 = .ok (.new 65, 3) := by decide +kernel
theorem dLw_law_11 : decode code 11 = .ok (.dup, 1) := by decide +kernel
theorem dLw_law_12 : decode code 12 = .ok (.invokespecial 67, 3) := by decide +kernel
theorem dLw_law_15 : decode code 15 = .ok (.astore_n 2, 1) := by decide +kernel
theorem dLw_law_16 : decode code 16 = .ok (.iconst 1, 1) := by decide +kernel
theorem dLw_law_17 : decode code 17 = .ok (.newarray .long, 2) := by decide +kernel
theorem dLw_law_19 : decode code 19 = .ok (.astore_n 3, 1) := by decide +kernel
theorem dLw_law_20 : decode code 20 = .ok (.iconst 1, 1) := by decide +kernel
theorem dLw_law_21 : decode code 21 = .ok (.newarray .double, 2) := by decide +kernel
theorem dLw_law_23 : decode code 23 = .ok (.astore 4, 2) := by decide +kernel
theorem dLw_law_25 : decode code 25 = .ok (.iconst 0, 1) := by decide +kernel
theorem dLw_law_26 : decode code 26 = .ok (.istore 5, 2) := by decide +kernel
theorem dLw_law_28 : decode code 28 = .ok (.iload 5, 2) := by decide +kernel
theorem dLw_law_30 : decode code 30 = .ok (.aload_n 0, 1) := by decide +kernel
theorem dLw_law_31 : decode code 31 = .ok (.arraylength, 1) := by decide +kernel
theorem dLw_law_32 : decode code 32 = .ok (.iconst 4, 1) := by decide +kernel
theorem dLw_law_33 : decode code 33 = .ok (.isub, 1) := by decide +kernel
theorem dLw_law_34 : decode code 34 = .ok (.if_icmp .gt 1076, 3) := by decide +kernel
theorem dLw_law_37 : decode code 37 = .ok (.aload_n 0, 1) := by decide +kernel
theorem dLw_law_38 : decode code 38 = .ok (.iload 5, 2) := by decide +kernel
theorem dLw_law_40 : decode code 40 = .ok (.iaload, 1) := by decide +kernel
theorem dLw_law_41 : decode code 41 = .ok (.bipush 15, 2) := by decide +kernel
theorem dLw_law_43 : decode code 43 = .ok (.iand, 1) := by decide +kernel
theorem dLw_law_44 : decode code 44 = .ok (.tableswitch 1060 0 15 #[80, 160, 281, 361, 417, 430, 498, 597, 665, 721, 734, 747, 803, 859, 936, 1004], 80) := by decide +kernel
theorem dLw_law_124 : decode code 124 = .ok (.aload_n 1, 1) := by decide +kernel
theorem dLw_law_125 : decode code 125 = .ok (.aload_n 0, 1) := by decide +kernel
theorem dLw_law_126 : decode code 126 = .ok (.iload 5, 2) := by decide +kernel
theorem dLw_law_128 : decode code 128 = .ok (.iconst 1, 1) := by decide +kernel
theorem dLw_law_129 : decode code 129 = .ok (.iadd, 1) := by decide +kernel
theorem dLw_law_130 : decode code 130 = .ok (.iaload, 1) := by decide +kernel
theorem dLw_law_131 : decode code 131 = .ok (.aload_n 0, 1) := by decide +kernel
theorem dLw_law_132 : decode code 132 = .ok (.iload 5, 2) := by decide +kernel
theorem dLw_law_134 : decode code 134 = .ok (.iconst 2, 1) := by decide +kernel
theorem dLw_law_135 : decode code 135 = .ok (.iadd, 1) := by decide +kernel
theorem dLw_law_136 : decode code 136 = .ok (.iaload, 1) := by decide +kernel
theorem dLw_law_137 : decode code 137 = .ok (.aload_n 0, 1) := by decide +kernel
theorem dLw_law_138 : decode code 138 = .ok (.iload 5, 2) := by decide +kernel
theorem dLw_law_140 : decode code 140 = .ok (.iconst 3, 1) := by decide +kernel
theorem dLw_law_141 : decode code 141 = .ok (.iadd, 1) := by decide +kernel
theorem dLw_law_142 : decode code 142 = .ok (.iaload, 1) := by decide +kernel
theorem dLw_law_143 : decode code 143 = .ok (.aload_n 3, 1) := by decide +kernel
theorem dLw_law_144 : decode code 144 = .ok (.invokestatic 68, 3) := by decide +kernel
theorem dLw_law_147 : decode code 147 = .ok (.istore 6, 2) := by decide +kernel
theorem dLw_law_149 : decode code 149 = .ok (.aload_n 2, 1) := by decide +kernel
theorem dLw_law_150 : decode code 150 = .ok (.aload_n 0, 1) := by decide +kernel
theorem dLw_law_151 : decode code 151 = .ok (.iload 5, 2) := by decide +kernel
theorem dLw_law_153 : decode code 153 = .ok (.iconst 1, 1) := by decide +kernel
theorem dLw_law_154 : decode code 154 = .ok (.iadd, 1) := by decide +kernel
theorem dLw_law_155 : decode code 155 = .ok (.iaload, 1) := by decide +kernel
theorem dLw_law_156 : decode code 156 = .ok (.aload_n 0, 1) := by decide +kernel
theorem dLw_law_157 : decode code 157 = .ok (.iload 5, 2) := by decide +kernel
theorem dLw_law_159 : decode code 159 = .ok (.iconst 2, 1) := by decide +kernel
theorem dLw_law_160 : decode code 160 = .ok (.iadd, 1) := by decide +kernel
theorem dLw_law_161 : decode code 161 = .ok (.iaload, 1) := by decide +kernel
theorem dLw_law_162 : decode code 162 = .ok (.aload_n 0, 1) := by decide +kernel
theorem dLw_law_163 : decode code 163 = .ok (.iload 5, 2) := by decide +kernel
theorem dLw_law_165 : decode code 165 = .ok (.iconst 3, 1) := by decide +kernel
theorem dLw_law_166 : decode code 166 = .ok (.iadd, 1) := by decide +kernel
theorem dLw_law_167 : decode code 167 = .ok (.iaload, 1) := by decide +kernel
theorem dLw_law_168 : decode code 168 = .ok (.invokevirtual 73, 3) := by decide +kernel
theorem dLw_law_171 : decode code 171 = .ok (.istore 7, 2) := by decide +kernel
theorem dLw_law_173 : decode code 173 = .ok (.aload_n 2, 1) := by decide +kernel
theorem dLw_law_174 : decode code 174 = .ok (.invokevirtual 74, 3) := by decide +kernel
theorem dLw_law_177 : decode code 177 = .ok (.iload 6, 2) := by decide +kernel
theorem dLw_law_179 : decode code 179 = .ok (.if_icmp .eq 5, 3) := by decide +kernel
theorem dLw_law_182 : decode code 182 = .ok (.iconst 0, 1) := by decide +kernel
theorem dLw_law_183 : decode code 183 = .ok (.ireturn, 1) := by decide +kernel
theorem dLw_law_184 : decode code 184 = .ok (.iload 6, 2) := by decide +kernel
theorem dLw_law_186 : decode code 186 = .ok (.ifCond .ne 15, 3) := by decide +kernel
theorem dLw_law_189 : decode code 189 = .ok (.aload_n 3, 1) := by decide +kernel
theorem dLw_law_190 : decode code 190 = .ok (.iconst 0, 1) := by decide +kernel
theorem dLw_law_191 : decode code 191 = .ok (.laload, 1) := by decide +kernel
theorem dLw_law_192 : decode code 192 = .ok (.iload 7, 2) := by decide +kernel
theorem dLw_law_194 : decode code 194 = .ok (.i2l, 1) := by decide +kernel
theorem dLw_law_195 : decode code 195 = .ok (.lcmp, 1) := by decide +kernel
theorem dLw_law_196 : decode code 196 = .ok (.ifCond .eq 5, 3) := by decide +kernel
theorem dLw_law_199 : decode code 199 = .ok (.iconst 0, 1) := by decide +kernel
theorem dLw_law_200 : decode code 200 = .ok (.ireturn, 1) := by decide +kernel
theorem dLw_law_201 : decode code 201 = .ok (.goto 903, 3) := by decide +kernel
theorem dLw_law_204 : decode code 204 = .ok (.aload_n 1, 1) := by decide +kernel
theorem dLw_law_205 : decode code 205 = .ok (.aload_n 0, 1) := by decide +kernel
theorem dLw_law_206 : decode code 206 = .ok (.iload 5, 2) := by decide +kernel
theorem dLw_law_208 : decode code 208 = .ok (.iconst 1, 1) := by decide +kernel
theorem dLw_law_209 : decode code 209 = .ok (.iadd, 1) := by decide +kernel
theorem dLw_law_210 : decode code 210 = .ok (.iaload, 1) := by decide +kernel
theorem dLw_law_211 : decode code 211 = .ok (.aload_n 0, 1) := by decide +kernel
theorem dLw_law_212 : decode code 212 = .ok (.iload 5, 2) := by decide +kernel
theorem dLw_law_214 : decode code 214 = .ok (.iconst 2, 1) := by decide +kernel
theorem dLw_law_215 : decode code 215 = .ok (.iadd, 1) := by decide +kernel
theorem dLw_law_216 : decode code 216 = .ok (.iaload, 1) := by decide +kernel
theorem dLw_law_217 : decode code 217 = .ok (.i2d, 1) := by decide +kernel
theorem dLw_law_218 : decode code 218 = .ok (.ldc2_w 78, 3) := by decide +kernel
theorem dLw_law_221 : decode code 221 = .ok (.dmul, 1) := by decide +kernel
theorem dLw_law_222 : decode code 222 = .ok (.aload_n 0, 1) := by decide +kernel
theorem dLw_law_223 : decode code 223 = .ok (.iload 5, 2) := by decide +kernel
theorem dLw_law_225 : decode code 225 = .ok (.iconst 3, 1) := by decide +kernel
theorem dLw_law_226 : decode code 226 = .ok (.iadd, 1) := by decide +kernel
theorem dLw_law_227 : decode code 227 = .ok (.iaload, 1) := by decide +kernel
theorem dLw_law_228 : decode code 228 = .ok (.i2d, 1) := by decide +kernel
theorem dLw_law_229 : decode code 229 = .ok (.ldc2_w 78, 3) := by decide +kernel
theorem dLw_law_232 : decode code 232 = .ok (.dmul, 1) := by decide +kernel
theorem dLw_law_233 : decode code 233 = .ok (.aload 4, 2) := by decide +kernel
theorem dLw_law_235 : decode code 235 = .ok (.invokestatic 80, 3) := by decide +kernel
theorem dLw_law_238 : decode code 238 = .ok (.istore 6, 2) := by decide +kernel
theorem dLw_law_240 : decode code 240 = .ok (.aload_n 2, 1) := by decide +kernel
theorem dLw_law_241 : decode code 241 = .ok (.aload_n 0, 1) := by decide +kernel
theorem dLw_law_242 : decode code 242 = .ok (.iload 5, 2) := by decide +kernel
theorem dLw_law_244 : decode code 244 = .ok (.iconst 1, 1) := by decide +kernel
theorem dLw_law_245 : decode code 245 = .ok (.iadd, 1) := by decide +kernel
theorem dLw_law_246 : decode code 246 = .ok (.iaload, 1) := by decide +kernel
theorem dLw_law_247 : decode code 247 = .ok (.aload_n 0, 1) := by decide +kernel
theorem dLw_law_248 : decode code 248 = .ok (.iload 5, 2) := by decide +kernel
theorem dLw_law_250 : decode code 250 = .ok (.iconst 2, 1) := by decide +kernel
theorem dLw_law_251 : decode code 251 = .ok (.iadd, 1) := by decide +kernel
theorem dLw_law_252 : decode code 252 = .ok (.iaload, 1) := by decide +kernel
theorem dLw_law_253 : decode code 253 = .ok (.i2d, 1) := by decide +kernel
theorem dLw_law_254 : decode code 254 = .ok (.ldc2_w 78, 3) := by decide +kernel
theorem dLw_law_257 : decode code 257 = .ok (.dmul, 1) := by decide +kernel
theorem dLw_law_258 : decode code 258 = .ok (.aload_n 0, 1) := by decide +kernel
theorem dLw_law_259 : decode code 259 = .ok (.iload 5, 2) := by decide +kernel
theorem dLw_law_261 : decode code 261 = .ok (.iconst 3, 1) := by decide +kernel
theorem dLw_law_262 : decode code 262 = .ok (.iadd, 1) := by decide +kernel
theorem dLw_law_263 : decode code 263 = .ok (.iaload, 1) := by decide +kernel
theorem dLw_law_264 : decode code 264 = .ok (.i2d, 1) := by decide +kernel
theorem dLw_law_265 : decode code 265 = .ok (.ldc2_w 78, 3) := by decide +kernel
theorem dLw_law_268 : decode code 268 = .ok (.dmul, 1) := by decide +kernel
theorem dLw_law_269 : decode code 269 = .ok (.invokevirtual 83, 3) := by decide +kernel
theorem dLw_law_272 : decode code 272 = .ok (.dstore 7, 2) := by decide +kernel
theorem dLw_law_274 : decode code 274 = .ok (.aload_n 2, 1) := by decide +kernel
theorem dLw_law_275 : decode code 275 = .ok (.invokevirtual 74, 3) := by decide +kernel
theorem dLw_law_278 : decode code 278 = .ok (.iload 6, 2) := by decide +kernel
theorem dLw_law_280 : decode code 280 = .ok (.if_icmp .eq 5, 3) := by decide +kernel
theorem dLw_law_283 : decode code 283 = .ok (.iconst 0, 1) := by decide +kernel
theorem dLw_law_284 : decode code 284 = .ok (.ireturn, 1) := by decide +kernel
theorem dLw_law_285 : decode code 285 = .ok (.iload 6, 2) := by decide +kernel
theorem dLw_law_287 : decode code 287 = .ok (.ifCond .ne 35, 3) := by decide +kernel
theorem dLw_law_290 : decode code 290 = .ok (.aload 4, 2) := by decide +kernel
theorem dLw_law_292 : decode code 292 = .ok (.iconst 0, 1) := by decide +kernel
theorem dLw_law_293 : decode code 293 = .ok (.daload, 1) := by decide +kernel
theorem dLw_law_294 : decode code 294 = .ok (.dload 7, 2) := by decide +kernel
theorem dLw_law_296 : decode code 296 = .ok (.dcmp .l, 1) := by decide +kernel
theorem dLw_law_297 : decode code 297 = .ok (.ifCond .eq 25, 3) := by decide +kernel
theorem dLw_law_300 : decode code 300 = .ok (.aload 4, 2) := by decide +kernel
theorem dLw_law_302 : decode code 302 = .ok (.iconst 0, 1) := by decide +kernel
theorem dLw_law_303 : decode code 303 = .ok (.daload, 1) := by decide +kernel
theorem dLw_law_304 : decode code 304 = .ok (.aload 4, 2) := by decide +kernel
theorem dLw_law_306 : decode code 306 = .ok (.iconst 0, 1) := by decide +kernel
theorem dLw_law_307 : decode code 307 = .ok (.daload, 1) := by decide +kernel
theorem dLw_law_308 : decode code 308 = .ok (.dcmp .l, 1) := by decide +kernel
theorem dLw_law_309 : decode code 309 = .ok (.ifCond .eq 11, 3) := by decide +kernel
theorem dLw_law_312 : decode code 312 = .ok (.dload 7, 2) := by decide +kernel
theorem dLw_law_314 : decode code 314 = .ok (.dload 7, 2) := by decide +kernel
theorem dLw_law_316 : decode code 316 = .ok (.dcmp .l, 1) := by decide +kernel
theorem dLw_law_317 : decode code 317 = .ok (.ifCond .ne 5, 3) := by decide +kernel
theorem dLw_law_320 : decode code 320 = .ok (.iconst 0, 1) := by decide +kernel
theorem dLw_law_321 : decode code 321 = .ok (.ireturn, 1) := by decide +kernel
theorem dLw_law_322 : decode code 322 = .ok (.goto 782, 3) := by decide +kernel
theorem dLw_law_325 : decode code 325 = .ok (.aload_n 1, 1) := by decide +kernel
theorem dLw_law_326 : decode code 326 = .ok (.aload_n 0, 1) := by decide +kernel
theorem dLw_law_327 : decode code 327 = .ok (.iload 5, 2) := by decide +kernel
theorem dLw_law_329 : decode code 329 = .ok (.iconst 1, 1) := by decide +kernel
theorem dLw_law_330 : decode code 330 = .ok (.iadd, 1) := by decide +kernel
theorem dLw_law_331 : decode code 331 = .ok (.iaload, 1) := by decide +kernel
theorem dLw_law_332 : decode code 332 = .ok (.aload_n 0, 1) := by decide +kernel
theorem dLw_law_333 : decode code 333 = .ok (.iload 5, 2) := by decide +kernel
theorem dLw_law_335 : decode code 335 = .ok (.iconst 2, 1) := by decide +kernel
theorem dLw_law_336 : decode code 336 = .ok (.iadd, 1) := by decide +kernel
theorem dLw_law_337 : decode code 337 = .ok (.iaload, 1) := by decide +kernel
theorem dLw_law_338 : decode code 338 = .ok (.aload_n 0, 1) := by decide +kernel
theorem dLw_law_339 : decode code 339 = .ok (.iload 5, 2) := by decide +kernel
theorem dLw_law_341 : decode code 341 = .ok (.iconst 3, 1) := by decide +kernel
theorem dLw_law_342 : decode code 342 = .ok (.iadd, 1) := by decide +kernel
theorem dLw_law_343 : decode code 343 = .ok (.iaload, 1) := by decide +kernel
theorem dLw_law_344 : decode code 344 = .ok (.aload_n 3, 1) := by decide +kernel
theorem dLw_law_345 : decode code 345 = .ok (.invokestatic 84, 3) := by decide +kernel
theorem dLw_law_348 : decode code 348 = .ok (.istore 6, 2) := by decide +kernel
theorem dLw_law_350 : decode code 350 = .ok (.aload_n 2, 1) := by decide +kernel
theorem dLw_law_351 : decode code 351 = .ok (.aload_n 0, 1) := by decide +kernel
theorem dLw_law_352 : decode code 352 = .ok (.iload 5, 2) := by decide +kernel
theorem dLw_law_354 : decode code 354 = .ok (.iconst 1, 1) := by decide +kernel
theorem dLw_law_355 : decode code 355 = .ok (.iadd, 1) := by decide +kernel
theorem dLw_law_356 : decode code 356 = .ok (.iaload, 1) := by decide +kernel
theorem dLw_law_357 : decode code 357 = .ok (.aload_n 0, 1) := by decide +kernel
theorem dLw_law_358 : decode code 358 = .ok (.iload 5, 2) := by decide +kernel
theorem dLw_law_360 : decode code 360 = .ok (.iconst 2, 1) := by decide +kernel
theorem dLw_law_361 : decode code 361 = .ok (.iadd, 1) := by decide +kernel
theorem dLw_law_362 : decode code 362 = .ok (.iaload, 1) := by decide +kernel
theorem dLw_law_363 : decode code 363 = .ok (.aload_n 0, 1) := by decide +kernel
theorem dLw_law_364 : decode code 364 = .ok (.iload 5, 2) := by decide +kernel
theorem dLw_law_366 : decode code 366 = .ok (.iconst 3, 1) := by decide +kernel
theorem dLw_law_367 : decode code 367 = .ok (.iadd, 1) := by decide +kernel
theorem dLw_law_368 : decode code 368 = .ok (.iaload, 1) := by decide +kernel
theorem dLw_law_369 : decode code 369 = .ok (.invokevirtual 86, 3) := by decide +kernel
theorem dLw_law_372 : decode code 372 = .ok (.istore 7, 2) := by decide +kernel
theorem dLw_law_374 : decode code 374 = .ok (.aload_n 2, 1) := by decide +kernel
theorem dLw_law_375 : decode code 375 = .ok (.invokevirtual 74, 3) := by decide +kernel
theorem dLw_law_378 : decode code 378 = .ok (.iload 6, 2) := by decide +kernel
theorem dLw_law_380 : decode code 380 = .ok (.if_icmp .eq 5, 3) := by decide +kernel
theorem dLw_law_383 : decode code 383 = .ok (.iconst 0, 1) := by decide +kernel
theorem dLw_law_384 : decode code 384 = .ok (.ireturn, 1) := by decide +kernel
theorem dLw_law_385 : decode code 385 = .ok (.iload 6, 2) := by decide +kernel
theorem dLw_law_387 : decode code 387 = .ok (.ifCond .ne 15, 3) := by decide +kernel
theorem dLw_law_390 : decode code 390 = .ok (.aload_n 3, 1) := by decide +kernel
theorem dLw_law_391 : decode code 391 = .ok (.iconst 0, 1) := by decide +kernel
theorem dLw_law_392 : decode code 392 = .ok (.laload, 1) := by decide +kernel
theorem dLw_law_393 : decode code 393 = .ok (.iload 7, 2) := by decide +kernel
theorem dLw_law_395 : decode code 395 = .ok (.i2l, 1) := by decide +kernel
theorem dLw_law_396 : decode code 396 = .ok (.lcmp, 1) := by decide +kernel
theorem dLw_law_397 : decode code 397 = .ok (.ifCond .eq 5, 3) := by decide +kernel
theorem dLw_law_400 : decode code 400 = .ok (.iconst 0, 1) := by decide +kernel
theorem dLw_law_401 : decode code 401 = .ok (.ireturn, 1) := by decide +kernel
theorem dLw_law_402 : decode code 402 = .ok (.goto 702, 3) := by decide +kernel
theorem dLw_law_405 : decode code 405 = .ok (.aload_n 1, 1) := by decide +kernel
theorem dLw_law_406 : decode code 406 = .ok (.aload_n 0, 1) := by decide +kernel
theorem dLw_law_407 : decode code 407 = .ok (.iload 5, 2) := by decide +kernel
theorem dLw_law_409 : decode code 409 = .ok (.iconst 1, 1) := by decide +kernel
theorem dLw_law_410 : decode code 410 = .ok (.iadd, 1) := by decide +kernel
theorem dLw_law_411 : decode code 411 = .ok (.iaload, 1) := by decide +kernel
theorem dLw_law_412 : decode code 412 = .ok (.aload_n 3, 1) := by decide +kernel
theorem dLw_law_413 : decode code 413 = .ok (.invokestatic 87, 3) := by decide +kernel
theorem dLw_law_416 : decode code 416 = .ok (.istore 6, 2) := by decide +kernel
theorem dLw_law_418 : decode code 418 = .ok (.aload_n 2, 1) := by decide +kernel
theorem dLw_law_419 : decode code 419 = .ok (.aload_n 0, 1) := by decide +kernel
theorem dLw_law_420 : decode code 420 = .ok (.iload 5, 2) := by decide +kernel
theorem dLw_law_422 : decode code 422 = .ok (.iconst 1, 1) := by decide +kernel
theorem dLw_law_423 : decode code 423 = .ok (.iadd, 1) := by decide +kernel
theorem dLw_law_424 : decode code 424 = .ok (.iaload, 1) := by decide +kernel
theorem dLw_law_425 : decode code 425 = .ok (.invokevirtual 90, 3) := by decide +kernel
theorem dLw_law_428 : decode code 428 = .ok (.istore 7, 2) := by decide +kernel
theorem dLw_law_430 : decode code 430 = .ok (.aload_n 2, 1) := by decide +kernel
theorem dLw_law_431 : decode code 431 = .ok (.invokevirtual 74, 3) := by decide +kernel
theorem dLw_law_434 : decode code 434 = .ok (.iload 6, 2) := by decide +kernel
theorem dLw_law_436 : decode code 436 = .ok (.if_icmp .eq 5, 3) := by decide +kernel
theorem dLw_law_439 : decode code 439 = .ok (.iconst 0, 1) := by decide +kernel
theorem dLw_law_440 : decode code 440 = .ok (.ireturn, 1) := by decide +kernel
theorem dLw_law_441 : decode code 441 = .ok (.iload 6, 2) := by decide +kernel
theorem dLw_law_443 : decode code 443 = .ok (.ifCond .ne 15, 3) := by decide +kernel
theorem dLw_law_446 : decode code 446 = .ok (.aload_n 3, 1) := by decide +kernel
theorem dLw_law_447 : decode code 447 = .ok (.iconst 0, 1) := by decide +kernel
theorem dLw_law_448 : decode code 448 = .ok (.laload, 1) := by decide +kernel
theorem dLw_law_449 : decode code 449 = .ok (.iload 7, 2) := by decide +kernel
theorem dLw_law_451 : decode code 451 = .ok (.i2l, 1) := by decide +kernel
theorem dLw_law_452 : decode code 452 = .ok (.lcmp, 1) := by decide +kernel
theorem dLw_law_453 : decode code 453 = .ok (.ifCond .eq 5, 3) := by decide +kernel
theorem dLw_law_456 : decode code 456 = .ok (.iconst 0, 1) := by decide +kernel
theorem dLw_law_457 : decode code 457 = .ok (.ireturn, 1) := by decide +kernel
theorem dLw_law_458 : decode code 458 = .ok (.goto 646, 3) := by decide +kernel
theorem dLw_law_461 : decode code 461 = .ok (.aload_n 1, 1) := by decide +kernel
theorem dLw_law_462 : decode code 462 = .ok (.invokevirtual 91, 3) := by decide +kernel
theorem dLw_law_465 : decode code 465 = .ok (.aload_n 2, 1) := by decide +kernel
theorem dLw_law_466 : decode code 466 = .ok (.invokevirtual 94, 3) := by decide +kernel
theorem dLw_law_469 : decode code 469 = .ok (.if_icmp .eq 635, 3) := by decide +kernel
theorem dLw_law_472 : decode code 472 = .ok (.iconst 0, 1) := by decide +kernel
theorem dLw_law_473 : decode code 473 = .ok (.ireturn, 1) := by decide +kernel
theorem dLw_law_474 : decode code 474 = .ok (.aload_n 1, 1) := by decide +kernel
theorem dLw_law_475 : decode code 475 = .ok (.aload_n 0, 1) := by decide +kernel
theorem dLw_law_476 : decode code 476 = .ok (.iload 5, 2) := by decide +kernel
theorem dLw_law_478 : decode code 478 = .ok (.iconst 1, 1) := by decide +kernel
theorem dLw_law_479 : decode code 479 = .ok (.iadd, 1) := by decide +kernel
theorem dLw_law_480 : decode code 480 = .ok (.iaload, 1) := by decide +kernel
theorem dLw_law_481 : decode code 481 = .ok (.aload_n 0, 1) := by decide +kernel
theorem dLw_law_482 : decode code 482 = .ok (.iload 5, 2) := by decide +kernel
theorem dLw_law_484 : decode code 484 = .ok (.iconst 2, 1) := by decide +kernel
theorem dLw_law_485 : decode code 485 = .ok (.iadd, 1) := by decide +kernel
theorem dLw_law_486 : decode code 486 = .ok (.iaload, 1) := by decide +kernel
theorem dLw_law_487 : decode code 487 = .ok (.aload_n 3, 1) := by decide +kernel
theorem dLw_law_488 : decode code 488 = .ok (.invokestatic 95, 3) := by decide +kernel
theorem dLw_law_491 : decode code 491 = .ok (.istore 6, 2) := by decide +kernel
theorem dLw_law_493 : decode code 493 = .ok (.aload_n 2, 1) := by decide +kernel
theorem dLw_law_494 : decode code 494 = .ok (.aload_n 0, 1) := by decide +kernel
theorem dLw_law_495 : decode code 495 = .ok (.iload 5, 2) := by decide +kernel
theorem dLw_law_497 : decode code 497 = .ok (.iconst 1, 1) := by decide +kernel
theorem dLw_law_498 : decode code 498 = .ok (.iadd, 1) := by decide +kernel
theorem dLw_law_499 : decode code 499 = .ok (.iaload, 1) := by decide +kernel
theorem dLw_law_500 : decode code 500 = .ok (.aload_n 0, 1) := by decide +kernel
theorem dLw_law_501 : decode code 501 = .ok (.iload 5, 2) := by decide +kernel
theorem dLw_law_503 : decode code 503 = .ok (.iconst 2, 1) := by decide +kernel
theorem dLw_law_504 : decode code 504 = .ok (.iadd, 1) := by decide +kernel
theorem dLw_law_505 : decode code 505 = .ok (.iaload, 1) := by decide +kernel
theorem dLw_law_506 : decode code 506 = .ok (.invokevirtual 98, 3) := by decide +kernel
theorem dLw_law_509 : decode code 509 = .ok (.istore 7, 2) := by decide +kernel
theorem dLw_law_511 : decode code 511 = .ok (.aload_n 2, 1) := by decide +kernel
theorem dLw_law_512 : decode code 512 = .ok (.invokevirtual 74, 3) := by decide +kernel
theorem dLw_law_515 : decode code 515 = .ok (.iload 6, 2) := by decide +kernel
theorem dLw_law_517 : decode code 517 = .ok (.if_icmp .eq 5, 3) := by decide +kernel
theorem dLw_law_520 : decode code 520 = .ok (.iconst 0, 1) := by decide +kernel
theorem dLw_law_521 : decode code 521 = .ok (.ireturn, 1) := by decide +kernel
theorem dLw_law_522 : decode code 522 = .ok (.iload 6, 2) := by decide +kernel
theorem dLw_law_524 : decode code 524 = .ok (.ifCond .ne 15, 3) := by decide +kernel
theorem dLw_law_527 : decode code 527 = .ok (.aload_n 3, 1) := by decide +kernel
theorem dLw_law_528 : decode code 528 = .ok (.iconst 0, 1) := by decide +kernel
theorem dLw_law_529 : decode code 529 = .ok (.laload, 1) := by decide +kernel
theorem dLw_law_530 : decode code 530 = .ok (.iload 7, 2) := by decide +kernel
theorem dLw_law_532 : decode code 532 = .ok (.i2l, 1) := by decide +kernel
theorem dLw_law_533 : decode code 533 = .ok (.lcmp, 1) := by decide +kernel
theorem dLw_law_534 : decode code 534 = .ok (.ifCond .eq 5, 3) := by decide +kernel
theorem dLw_law_537 : decode code 537 = .ok (.iconst 0, 1) := by decide +kernel
theorem dLw_law_538 : decode code 538 = .ok (.ireturn, 1) := by decide +kernel
theorem dLw_law_539 : decode code 539 = .ok (.goto 565, 3) := by decide +kernel
theorem dLw_law_542 : decode code 542 = .ok (.aload_n 1, 1) := by decide +kernel
theorem dLw_law_543 : decode code 543 = .ok (.aload_n 0, 1) := by decide +kernel
theorem dLw_law_544 : decode code 544 = .ok (.iload 5, 2) := by decide +kernel
theorem dLw_law_546 : decode code 546 = .ok (.iconst 1, 1) := by decide +kernel
theorem dLw_law_547 : decode code 547 = .ok (.iadd, 1) := by decide +kernel
theorem dLw_law_548 : decode code 548 = .ok (.iaload, 1) := by decide +kernel
theorem dLw_law_549 : decode code 549 = .ok (.aload_n 0, 1) := by decide +kernel
theorem dLw_law_550 : decode code 550 = .ok (.iload 5, 2) := by decide +kernel
theorem dLw_law_552 : decode code 552 = .ok (.iconst 2, 1) := by decide +kernel
theorem dLw_law_553 : decode code 553 = .ok (.iadd, 1) := by decide +kernel
theorem dLw_law_554 : decode code 554 = .ok (.iaload, 1) := by decide +kernel
theorem dLw_law_555 : decode code 555 = .ok (.i2d, 1) := by decide +kernel
theorem dLw_law_556 : decode code 556 = .ok (.ldc2_w 78, 3) := by decide +kernel
theorem dLw_law_559 : decode code 559 = .ok (.dmul, 1) := by decide +kernel
theorem dLw_law_560 : decode code 560 = .ok (.aload 4, 2) := by decide +kernel
theorem dLw_law_562 : decode code 562 = .ok (.invokestatic 99, 3) := by decide +kernel
theorem dLw_law_565 : decode code 565 = .ok (.istore 6, 2) := by decide +kernel
theorem dLw_law_567 : decode code 567 = .ok (.aload_n 2, 1) := by decide +kernel
theorem dLw_law_568 : decode code 568 = .ok (.aload_n 0, 1) := by decide +kernel
theorem dLw_law_569 : decode code 569 = .ok (.iload 5, 2) := by decide +kernel
theorem dLw_law_571 : decode code 571 = .ok (.iconst 1, 1) := by decide +kernel
theorem dLw_law_572 : decode code 572 = .ok (.iadd, 1) := by decide +kernel
theorem dLw_law_573 : decode code 573 = .ok (.iaload, 1) := by decide +kernel
theorem dLw_law_574 : decode code 574 = .ok (.aload_n 0, 1) := by decide +kernel
theorem dLw_law_575 : decode code 575 = .ok (.iload 5, 2) := by decide +kernel
theorem dLw_law_577 : decode code 577 = .ok (.iconst 2, 1) := by decide +kernel
theorem dLw_law_578 : decode code 578 = .ok (.iadd, 1) := by decide +kernel
theorem dLw_law_579 : decode code 579 = .ok (.iaload, 1) := by decide +kernel
theorem dLw_law_580 : decode code 580 = .ok (.i2d, 1) := by decide +kernel
theorem dLw_law_581 : decode code 581 = .ok (.ldc2_w 78, 3) := by decide +kernel
theorem dLw_law_584 : decode code 584 = .ok (.dmul, 1) := by decide +kernel
theorem dLw_law_585 : decode code 585 = .ok (.invokevirtual 102, 3) := by decide +kernel
theorem dLw_law_588 : decode code 588 = .ok (.dstore 7, 2) := by decide +kernel
theorem dLw_law_590 : decode code 590 = .ok (.aload_n 2, 1) := by decide +kernel
theorem dLw_law_591 : decode code 591 = .ok (.invokevirtual 74, 3) := by decide +kernel
theorem dLw_law_594 : decode code 594 = .ok (.iload 6, 2) := by decide +kernel
theorem dLw_law_596 : decode code 596 = .ok (.if_icmp .eq 5, 3) := by decide +kernel
theorem dLw_law_599 : decode code 599 = .ok (.iconst 0, 1) := by decide +kernel
theorem dLw_law_600 : decode code 600 = .ok (.ireturn, 1) := by decide +kernel
theorem dLw_law_601 : decode code 601 = .ok (.iload 6, 2) := by decide +kernel
theorem dLw_law_603 : decode code 603 = .ok (.ifCond .ne 35, 3) := by decide +kernel
theorem dLw_law_606 : decode code 606 = .ok (.aload 4, 2) := by decide +kernel
theorem dLw_law_608 : decode code 608 = .ok (.iconst 0, 1) := by decide +kernel
theorem dLw_law_609 : decode code 609 = .ok (.daload, 1) := by decide +kernel
theorem dLw_law_610 : decode code 610 = .ok (.dload 7, 2) := by decide +kernel
theorem dLw_law_612 : decode code 612 = .ok (.dcmp .l, 1) := by decide +kernel
theorem dLw_law_613 : decode code 613 = .ok (.ifCond .eq 25, 3) := by decide +kernel
theorem dLw_law_616 : decode code 616 = .ok (.aload 4, 2) := by decide +kernel
theorem dLw_law_618 : decode code 618 = .ok (.iconst 0, 1) := by decide +kernel
theorem dLw_law_619 : decode code 619 = .ok (.daload, 1) := by decide +kernel
theorem dLw_law_620 : decode code 620 = .ok (.aload 4, 2) := by decide +kernel
theorem dLw_law_622 : decode code 622 = .ok (.iconst 0, 1) := by decide +kernel
theorem dLw_law_623 : decode code 623 = .ok (.daload, 1) := by decide +kernel
theorem dLw_law_624 : decode code 624 = .ok (.dcmp .l, 1) := by decide +kernel
theorem dLw_law_625 : decode code 625 = .ok (.ifCond .eq 11, 3) := by decide +kernel
theorem dLw_law_628 : decode code 628 = .ok (.dload 7, 2) := by decide +kernel
theorem dLw_law_630 : decode code 630 = .ok (.dload 7, 2) := by decide +kernel
theorem dLw_law_632 : decode code 632 = .ok (.dcmp .l, 1) := by decide +kernel
theorem dLw_law_633 : decode code 633 = .ok (.ifCond .ne 5, 3) := by decide +kernel
theorem dLw_law_636 : decode code 636 = .ok (.iconst 0, 1) := by decide +kernel
theorem dLw_law_637 : decode code 637 = .ok (.ireturn, 1) := by decide +kernel
theorem dLw_law_638 : decode code 638 = .ok (.goto 466, 3) := by decide +kernel
theorem dLw_law_641 : decode code 641 = .ok (.aload_n 1, 1) := by decide +kernel
theorem dLw_law_642 : decode code 642 = .ok (.aload_n 0, 1) := by decide +kernel
theorem dLw_law_643 : decode code 643 = .ok (.iload 5, 2) := by decide +kernel
theorem dLw_law_645 : decode code 645 = .ok (.iconst 1, 1) := by decide +kernel
theorem dLw_law_646 : decode code 646 = .ok (.iadd, 1) := by decide +kernel
theorem dLw_law_647 : decode code 647 = .ok (.iaload, 1) := by decide +kernel
theorem dLw_law_648 : decode code 648 = .ok (.aload_n 0, 1) := by decide +kernel
theorem dLw_law_649 : decode code 649 = .ok (.iload 5, 2) := by decide +kernel
theorem dLw_law_651 : decode code 651 = .ok (.iconst 2, 1) := by decide +kernel
theorem dLw_law_652 : decode code 652 = .ok (.iadd, 1) := by decide +kernel
theorem dLw_law_653 : decode code 653 = .ok (.iaload, 1) := by decide +kernel
theorem dLw_law_654 : decode code 654 = .ok (.aload_n 3, 1) := by decide +kernel
theorem dLw_law_655 : decode code 655 = .ok (.invokestatic 103, 3) := by decide +kernel
theorem dLw_law_658 : decode code 658 = .ok (.istore 6, 2) := by decide +kernel
theorem dLw_law_660 : decode code 660 = .ok (.aload_n 2, 1) := by decide +kernel
theorem dLw_law_661 : decode code 661 = .ok (.aload_n 0, 1) := by decide +kernel
theorem dLw_law_662 : decode code 662 = .ok (.iload 5, 2) := by decide +kernel
theorem dLw_law_664 : decode code 664 = .ok (.iconst 1, 1) := by decide +kernel
theorem dLw_law_665 : decode code 665 = .ok (.iadd, 1) := by decide +kernel
theorem dLw_law_666 : decode code 666 = .ok (.iaload, 1) := by decide +kernel
theorem dLw_law_667 : decode code 667 = .ok (.aload_n 0, 1) := by decide +kernel
theorem dLw_law_668 : decode code 668 = .ok (.iload 5, 2) := by decide +kernel
theorem dLw_law_670 : decode code 670 = .ok (.iconst 2, 1) := by decide +kernel
theorem dLw_law_671 : decode code 671 = .ok (.iadd, 1) := by decide +kernel
theorem dLw_law_672 : decode code 672 = .ok (.iaload, 1) := by decide +kernel
theorem dLw_law_673 : decode code 673 = .ok (.invokevirtual 105, 3) := by decide +kernel
theorem dLw_law_676 : decode code 676 = .ok (.istore 7, 2) := by decide +kernel
theorem dLw_law_678 : decode code 678 = .ok (.aload_n 2, 1) := by decide +kernel
theorem dLw_law_679 : decode code 679 = .ok (.invokevirtual 74, 3) := by decide +kernel
theorem dLw_law_682 : decode code 682 = .ok (.iload 6, 2) := by decide +kernel
theorem dLw_law_684 : decode code 684 = .ok (.if_icmp .eq 5, 3) := by decide +kernel
theorem dLw_law_687 : decode code 687 = .ok (.iconst 0, 1) := by decide +kernel
theorem dLw_law_688 : decode code 688 = .ok (.ireturn, 1) := by decide +kernel
theorem dLw_law_689 : decode code 689 = .ok (.iload 6, 2) := by decide +kernel
theorem dLw_law_691 : decode code 691 = .ok (.ifCond .ne 15, 3) := by decide +kernel
theorem dLw_law_694 : decode code 694 = .ok (.aload_n 3, 1) := by decide +kernel
theorem dLw_law_695 : decode code 695 = .ok (.iconst 0, 1) := by decide +kernel
theorem dLw_law_696 : decode code 696 = .ok (.laload, 1) := by decide +kernel
theorem dLw_law_697 : decode code 697 = .ok (.iload 7, 2) := by decide +kernel
theorem dLw_law_699 : decode code 699 = .ok (.i2l, 1) := by decide +kernel
theorem dLw_law_700 : decode code 700 = .ok (.lcmp, 1) := by decide +kernel
theorem dLw_law_701 : decode code 701 = .ok (.ifCond .eq 5, 3) := by decide +kernel
theorem dLw_law_704 : decode code 704 = .ok (.iconst 0, 1) := by decide +kernel
theorem dLw_law_705 : decode code 705 = .ok (.ireturn, 1) := by decide +kernel
theorem dLw_law_706 : decode code 706 = .ok (.goto 398, 3) := by decide +kernel
theorem dLw_law_709 : decode code 709 = .ok (.aload_n 1, 1) := by decide +kernel
theorem dLw_law_710 : decode code 710 = .ok (.aload_n 0, 1) := by decide +kernel
theorem dLw_law_711 : decode code 711 = .ok (.iload 5, 2) := by decide +kernel
theorem dLw_law_713 : decode code 713 = .ok (.iconst 1, 1) := by decide +kernel
theorem dLw_law_714 : decode code 714 = .ok (.iadd, 1) := by decide +kernel
theorem dLw_law_715 : decode code 715 = .ok (.iaload, 1) := by decide +kernel
theorem dLw_law_716 : decode code 716 = .ok (.aload_n 3, 1) := by decide +kernel
theorem dLw_law_717 : decode code 717 = .ok (.invokestatic 106, 3) := by decide +kernel
theorem dLw_law_720 : decode code 720 = .ok (.istore 6, 2) := by decide +kernel
theorem dLw_law_722 : decode code 722 = .ok (.aload_n 2, 1) := by decide +kernel
theorem dLw_law_723 : decode code 723 = .ok (.aload_n 0, 1) := by decide +kernel
theorem dLw_law_724 : decode code 724 = .ok (.iload 5, 2) := by decide +kernel
theorem dLw_law_726 : decode code 726 = .ok (.iconst 1, 1) := by decide +kernel
theorem dLw_law_727 : decode code 727 = .ok (.iadd, 1) := by decide +kernel
theorem dLw_law_728 : decode code 728 = .ok (.iaload, 1) := by decide +kernel
theorem dLw_law_729 : decode code 729 = .ok (.invokevirtual 108, 3) := by decide +kernel
theorem dLw_law_732 : decode code 732 = .ok (.istore 7, 2) := by decide +kernel
theorem dLw_law_734 : decode code 734 = .ok (.aload_n 2, 1) := by decide +kernel
theorem dLw_law_735 : decode code 735 = .ok (.invokevirtual 74, 3) := by decide +kernel
theorem dLw_law_738 : decode code 738 = .ok (.iload 6, 2) := by decide +kernel
theorem dLw_law_740 : decode code 740 = .ok (.if_icmp .eq 5, 3) := by decide +kernel
theorem dLw_law_743 : decode code 743 = .ok (.iconst 0, 1) := by decide +kernel
theorem dLw_law_744 : decode code 744 = .ok (.ireturn, 1) := by decide +kernel
theorem dLw_law_745 : decode code 745 = .ok (.iload 6, 2) := by decide +kernel
theorem dLw_law_747 : decode code 747 = .ok (.ifCond .ne 15, 3) := by decide +kernel
theorem dLw_law_750 : decode code 750 = .ok (.aload_n 3, 1) := by decide +kernel
theorem dLw_law_751 : decode code 751 = .ok (.iconst 0, 1) := by decide +kernel
theorem dLw_law_752 : decode code 752 = .ok (.laload, 1) := by decide +kernel
theorem dLw_law_753 : decode code 753 = .ok (.iload 7, 2) := by decide +kernel
theorem dLw_law_755 : decode code 755 = .ok (.i2l, 1) := by decide +kernel
theorem dLw_law_756 : decode code 756 = .ok (.lcmp, 1) := by decide +kernel
theorem dLw_law_757 : decode code 757 = .ok (.ifCond .eq 5, 3) := by decide +kernel
theorem dLw_law_760 : decode code 760 = .ok (.iconst 0, 1) := by decide +kernel
theorem dLw_law_761 : decode code 761 = .ok (.ireturn, 1) := by decide +kernel
theorem dLw_law_762 : decode code 762 = .ok (.goto 342, 3) := by decide +kernel
theorem dLw_law_765 : decode code 765 = .ok (.aload_n 1, 1) := by decide +kernel
theorem dLw_law_766 : decode code 766 = .ok (.invokevirtual 109, 3) := by decide +kernel
theorem dLw_law_769 : decode code 769 = .ok (.aload_n 2, 1) := by decide +kernel
theorem dLw_law_770 : decode code 770 = .ok (.invokevirtual 112, 3) := by decide +kernel
theorem dLw_law_773 : decode code 773 = .ok (.if_icmp .eq 331, 3) := by decide +kernel
theorem dLw_law_776 : decode code 776 = .ok (.iconst 0, 1) := by decide +kernel
theorem dLw_law_777 : decode code 777 = .ok (.ireturn, 1) := by decide +kernel
theorem dLw_law_778 : decode code 778 = .ok (.aload_n 1, 1) := by decide +kernel
theorem dLw_law_779 : decode code 779 = .ok (.invokevirtual 113, 3) := by decide +kernel
theorem dLw_law_782 : decode code 782 = .ok (.aload_n 2, 1) := by decide +kernel
theorem dLw_law_783 : decode code 783 = .ok (.invokevirtual 116, 3) := by decide +kernel
theorem dLw_law_786 : decode code 786 = .ok (.if_icmp .eq 318, 3) := by decide +kernel
theorem dLw_law_789 : decode code 789 = .ok (.iconst 0, 1) := by decide +kernel
theorem dLw_law_790 : decode code 790 = .ok (.ireturn, 1) := by decide +kernel
theorem dLw_law_791 : decode code 791 = .ok (.aload_n 1, 1) := by decide +kernel
theorem dLw_law_792 : decode code 792 = .ok (.aload_n 0, 1) := by decide +kernel
theorem dLw_law_793 : decode code 793 = .ok (.iload 5, 2) := by decide +kernel
theorem dLw_law_795 : decode code 795 = .ok (.iconst 1, 1) := by decide +kernel
theorem dLw_law_796 : decode code 796 = .ok (.iadd, 1) := by decide +kernel
theorem dLw_law_797 : decode code 797 = .ok (.iaload, 1) := by decide +kernel
theorem dLw_law_798 : decode code 798 = .ok (.aload_n 3, 1) := by decide +kernel
theorem dLw_law_799 : decode code 799 = .ok (.invokestatic 117, 3) := by decide +kernel
theorem dLw_law_802 : decode code 802 = .ok (.istore 6, 2) := by decide +kernel
theorem dLw_law_804 : decode code 804 = .ok (.aload_n 2, 1) := by decide +kernel
theorem dLw_law_805 : decode code 805 = .ok (.aload_n 0, 1) := by decide +kernel
theorem dLw_law_806 : decode code 806 = .ok (.iload 5, 2) := by decide +kernel
theorem dLw_law_808 : decode code 808 = .ok (.iconst 1, 1) := by decide +kernel
theorem dLw_law_809 : decode code 809 = .ok (.iadd, 1) := by decide +kernel
theorem dLw_law_810 : decode code 810 = .ok (.iaload, 1) := by decide +kernel
theorem dLw_law_811 : decode code 811 = .ok (.invokevirtual 119, 3) := by decide +kernel
theorem dLw_law_814 : decode code 814 = .ok (.istore 7, 2) := by decide +kernel
theorem dLw_law_816 : decode code 816 = .ok (.aload_n 2, 1) := by decide +kernel
theorem dLw_law_817 : decode code 817 = .ok (.invokevirtual 74, 3) := by decide +kernel
theorem dLw_law_820 : decode code 820 = .ok (.iload 6, 2) := by decide +kernel
theorem dLw_law_822 : decode code 822 = .ok (.if_icmp .eq 5, 3) := by decide +kernel
theorem dLw_law_825 : decode code 825 = .ok (.iconst 0, 1) := by decide +kernel
theorem dLw_law_826 : decode code 826 = .ok (.ireturn, 1) := by decide +kernel
theorem dLw_law_827 : decode code 827 = .ok (.iload 6, 2) := by decide +kernel
theorem dLw_law_829 : decode code 829 = .ok (.ifCond .ne 15, 3) := by decide +kernel
theorem dLw_law_832 : decode code 832 = .ok (.aload_n 3, 1) := by decide +kernel
theorem dLw_law_833 : decode code 833 = .ok (.iconst 0, 1) := by decide +kernel
theorem dLw_law_834 : decode code 834 = .ok (.laload, 1) := by decide +kernel
theorem dLw_law_835 : decode code 835 = .ok (.iload 7, 2) := by decide +kernel
theorem dLw_law_837 : decode code 837 = .ok (.i2l, 1) := by decide +kernel
theorem dLw_law_838 : decode code 838 = .ok (.lcmp, 1) := by decide +kernel
theorem dLw_law_839 : decode code 839 = .ok (.ifCond .eq 5, 3) := by decide +kernel
theorem dLw_law_842 : decode code 842 = .ok (.iconst 0, 1) := by decide +kernel
theorem dLw_law_843 : decode code 843 = .ok (.ireturn, 1) := by decide +kernel
theorem dLw_law_844 : decode code 844 = .ok (.goto 260, 3) := by decide +kernel
theorem dLw_law_847 : decode code 847 = .ok (.aload_n 1, 1) := by decide +kernel
theorem dLw_law_848 : decode code 848 = .ok (.aload_n 0, 1) := by decide +kernel
theorem dLw_law_849 : decode code 849 = .ok (.iload 5, 2) := by decide +kernel
theorem dLw_law_851 : decode code 851 = .ok (.iconst 1, 1) := by decide +kernel
theorem dLw_law_852 : decode code 852 = .ok (.iadd, 1) := by decide +kernel
theorem dLw_law_853 : decode code 853 = .ok (.iaload, 1) := by decide +kernel
theorem dLw_law_854 : decode code 854 = .ok (.aload_n 3, 1) := by decide +kernel
theorem dLw_law_855 : decode code 855 = .ok (.invokestatic 120, 3) := by decide +kernel
theorem dLw_law_858 : decode code 858 = .ok (.istore 6, 2) := by decide +kernel
theorem dLw_law_860 : decode code 860 = .ok (.aload_n 2, 1) := by decide +kernel
theorem dLw_law_861 : decode code 861 = .ok (.aload_n 0, 1) := by decide +kernel
theorem dLw_law_862 : decode code 862 = .ok (.iload 5, 2) := by decide +kernel
theorem dLw_law_864 : decode code 864 = .ok (.iconst 1, 1) := by decide +kernel
theorem dLw_law_865 : decode code 865 = .ok (.iadd, 1) := by decide +kernel
theorem dLw_law_866 : decode code 866 = .ok (.iaload, 1) := by decide +kernel
theorem dLw_law_867 : decode code 867 = .ok (.invokevirtual 122, 3) := by decide +kernel
theorem dLw_law_870 : decode code 870 = .ok (.istore 7, 2) := by decide +kernel
theorem dLw_law_872 : decode code 872 = .ok (.aload_n 2, 1) := by decide +kernel
theorem dLw_law_873 : decode code 873 = .ok (.invokevirtual 74, 3) := by decide +kernel
theorem dLw_law_876 : decode code 876 = .ok (.iload 6, 2) := by decide +kernel
theorem dLw_law_878 : decode code 878 = .ok (.if_icmp .eq 5, 3) := by decide +kernel
theorem dLw_law_881 : decode code 881 = .ok (.iconst 0, 1) := by decide +kernel
theorem dLw_law_882 : decode code 882 = .ok (.ireturn, 1) := by decide +kernel
theorem dLw_law_883 : decode code 883 = .ok (.iload 6, 2) := by decide +kernel
theorem dLw_law_885 : decode code 885 = .ok (.ifCond .ne 15, 3) := by decide +kernel
theorem dLw_law_888 : decode code 888 = .ok (.aload_n 3, 1) := by decide +kernel
theorem dLw_law_889 : decode code 889 = .ok (.iconst 0, 1) := by decide +kernel
theorem dLw_law_890 : decode code 890 = .ok (.laload, 1) := by decide +kernel
theorem dLw_law_891 : decode code 891 = .ok (.iload 7, 2) := by decide +kernel
theorem dLw_law_893 : decode code 893 = .ok (.i2l, 1) := by decide +kernel
theorem dLw_law_894 : decode code 894 = .ok (.lcmp, 1) := by decide +kernel
theorem dLw_law_895 : decode code 895 = .ok (.ifCond .eq 5, 3) := by decide +kernel
theorem dLw_law_898 : decode code 898 = .ok (.iconst 0, 1) := by decide +kernel
theorem dLw_law_899 : decode code 899 = .ok (.ireturn, 1) := by decide +kernel
theorem dLw_law_900 : decode code 900 = .ok (.goto 204, 3) := by decide +kernel
theorem dLw_law_903 : decode code 903 = .ok (.aload_n 1, 1) := by decide +kernel
theorem dLw_law_904 : decode code 904 = .ok (.aload_n 0, 1) := by decide +kernel
theorem dLw_law_905 : decode code 905 = .ok (.iload 5, 2) := by decide +kernel
theorem dLw_law_907 : decode code 907 = .ok (.iconst 1, 1) := by decide +kernel
theorem dLw_law_908 : decode code 908 = .ok (.iadd, 1) := by decide +kernel
theorem dLw_law_909 : decode code 909 = .ok (.iaload, 1) := by decide +kernel
theorem dLw_law_910 : decode code 910 = .ok (.aload 4, 2) := by decide +kernel
theorem dLw_law_912 : decode code 912 = .ok (.invokestatic 123, 3) := by decide +kernel
theorem dLw_law_915 : decode code 915 = .ok (.istore 6, 2) := by decide +kernel
theorem dLw_law_917 : decode code 917 = .ok (.aload_n 2, 1) := by decide +kernel
theorem dLw_law_918 : decode code 918 = .ok (.aload_n 0, 1) := by decide +kernel
theorem dLw_law_919 : decode code 919 = .ok (.iload 5, 2) := by decide +kernel
theorem dLw_law_921 : decode code 921 = .ok (.iconst 1, 1) := by decide +kernel
theorem dLw_law_922 : decode code 922 = .ok (.iadd, 1) := by decide +kernel
theorem dLw_law_923 : decode code 923 = .ok (.iaload, 1) := by decide +kernel
theorem dLw_law_924 : decode code 924 = .ok (.invokevirtual 126, 3) := by decide +kernel
theorem dLw_law_927 : decode code 927 = .ok (.dstore 7, 2) := by decide +kernel
theorem dLw_law_929 : decode code 929 = .ok (.aload_n 2, 1) := by decide +kernel
theorem dLw_law_930 : decode code 930 = .ok (.invokevirtual 74, 3) := by decide +kernel
theorem dLw_law_933 : decode code 933 = .ok (.iload 6, 2) := by decide +kernel
theorem dLw_law_935 : decode code 935 = .ok (.if_icmp .eq 5, 3) := by decide +kernel
theorem dLw_law_938 : decode code 938 = .ok (.iconst 0, 1) := by decide +kernel
theorem dLw_law_939 : decode code 939 = .ok (.ireturn, 1) := by decide +kernel
theorem dLw_law_940 : decode code 940 = .ok (.iload 6, 2) := by decide +kernel
theorem dLw_law_942 : decode code 942 = .ok (.ifCond .ne 35, 3) := by decide +kernel
theorem dLw_law_945 : decode code 945 = .ok (.aload 4, 2) := by decide +kernel
theorem dLw_law_947 : decode code 947 = .ok (.iconst 0, 1) := by decide +kernel
theorem dLw_law_948 : decode code 948 = .ok (.daload, 1) := by decide +kernel
theorem dLw_law_949 : decode code 949 = .ok (.dload 7, 2) := by decide +kernel
theorem dLw_law_951 : decode code 951 = .ok (.dcmp .l, 1) := by decide +kernel
theorem dLw_law_952 : decode code 952 = .ok (.ifCond .eq 25, 3) := by decide +kernel
theorem dLw_law_955 : decode code 955 = .ok (.aload 4, 2) := by decide +kernel
theorem dLw_law_957 : decode code 957 = .ok (.iconst 0, 1) := by decide +kernel
theorem dLw_law_958 : decode code 958 = .ok (.daload, 1) := by decide +kernel
theorem dLw_law_959 : decode code 959 = .ok (.aload 4, 2) := by decide +kernel
theorem dLw_law_961 : decode code 961 = .ok (.iconst 0, 1) := by decide +kernel
theorem dLw_law_962 : decode code 962 = .ok (.daload, 1) := by decide +kernel
theorem dLw_law_963 : decode code 963 = .ok (.dcmp .l, 1) := by decide +kernel
theorem dLw_law_964 : decode code 964 = .ok (.ifCond .eq 11, 3) := by decide +kernel
theorem dLw_law_967 : decode code 967 = .ok (.dload 7, 2) := by decide +kernel
theorem dLw_law_969 : decode code 969 = .ok (.dload 7, 2) := by decide +kernel
theorem dLw_law_971 : decode code 971 = .ok (.dcmp .l, 1) := by decide +kernel
theorem dLw_law_972 : decode code 972 = .ok (.ifCond .ne 5, 3) := by decide +kernel
theorem dLw_law_975 : decode code 975 = .ok (.iconst 0, 1) := by decide +kernel
theorem dLw_law_976 : decode code 976 = .ok (.ireturn, 1) := by decide +kernel
theorem dLw_law_977 : decode code 977 = .ok (.goto 127, 3) := by decide +kernel
theorem dLw_law_980 : decode code 980 = .ok (.aload_n 1, 1) := by decide +kernel
theorem dLw_law_981 : decode code 981 = .ok (.aload_n 0, 1) := by decide +kernel
theorem dLw_law_982 : decode code 982 = .ok (.iload 5, 2) := by decide +kernel
theorem dLw_law_984 : decode code 984 = .ok (.iconst 1, 1) := by decide +kernel
theorem dLw_law_985 : decode code 985 = .ok (.iadd, 1) := by decide +kernel
theorem dLw_law_986 : decode code 986 = .ok (.iaload, 1) := by decide +kernel
theorem dLw_law_987 : decode code 987 = .ok (.aload_n 0, 1) := by decide +kernel
theorem dLw_law_988 : decode code 988 = .ok (.iload 5, 2) := by decide +kernel
theorem dLw_law_990 : decode code 990 = .ok (.iconst 2, 1) := by decide +kernel
theorem dLw_law_991 : decode code 991 = .ok (.iadd, 1) := by decide +kernel
theorem dLw_law_992 : decode code 992 = .ok (.iaload, 1) := by decide +kernel
theorem dLw_law_993 : decode code 993 = .ok (.aload_n 3, 1) := by decide +kernel
theorem dLw_law_994 : decode code 994 = .ok (.invokestatic 127, 3) := by decide +kernel
theorem dLw_law_997 : decode code 997 = .ok (.istore 6, 2) := by decide +kernel
theorem dLw_law_999 : decode code 999 = .ok (.aload_n 2, 1) := by decide +kernel
theorem dLw_law_1000 : decode code 1000 = .ok (.aload_n 0, 1) := by decide +kernel
theorem dLw_law_1001 : decode code 1001 = .ok (.iload 5, 2) := by decide +kernel
theorem dLw_law_1003 : decode code 1003 = .ok (.iconst 1, 1) := by decide +kernel
theorem dLw_law_1004 : decode code 1004 = .ok (.iadd, 1) := by decide +kernel
theorem dLw_law_1005 : decode code 1005 = .ok (.iaload, 1) := by decide +kernel
theorem dLw_law_1006 : decode code 1006 = .ok (.aload_n 0, 1) := by decide +kernel
theorem dLw_law_1007 : decode code 1007 = .ok (.iload 5, 2) := by decide +kernel
theorem dLw_law_1009 : decode code 1009 = .ok (.iconst 2, 1) := by decide +kernel
theorem dLw_law_1010 : decode code 1010 = .ok (.iadd, 1) := by decide +kernel
theorem dLw_law_1011 : decode code 1011 = .ok (.iaload, 1) := by decide +kernel
theorem dLw_law_1012 : decode code 1012 = .ok (.invokevirtual 129, 3) := by decide +kernel
theorem dLw_law_1015 : decode code 1015 = .ok (.istore 7, 2) := by decide +kernel
theorem dLw_law_1017 : decode code 1017 = .ok (.aload_n 2, 1) := by decide +kernel
theorem dLw_law_1018 : decode code 1018 = .ok (.invokevirtual 74, 3) := by decide +kernel
theorem dLw_law_1021 : decode code 1021 = .ok (.iload 6, 2) := by decide +kernel
theorem dLw_law_1023 : decode code 1023 = .ok (.if_icmp .eq 5, 3) := by decide +kernel
theorem dLw_law_1026 : decode code 1026 = .ok (.iconst 0, 1) := by decide +kernel
theorem dLw_law_1027 : decode code 1027 = .ok (.ireturn, 1) := by decide +kernel
theorem dLw_law_1028 : decode code 1028 = .ok (.iload 6, 2) := by decide +kernel
theorem dLw_law_1030 : decode code 1030 = .ok (.ifCond .ne 15, 3) := by decide +kernel
theorem dLw_law_1033 : decode code 1033 = .ok (.aload_n 3, 1) := by decide +kernel
theorem dLw_law_1034 : decode code 1034 = .ok (.iconst 0, 1) := by decide +kernel
theorem dLw_law_1035 : decode code 1035 = .ok (.laload, 1) := by decide +kernel
theorem dLw_law_1036 : decode code 1036 = .ok (.iload 7, 2) := by decide +kernel
theorem dLw_law_1038 : decode code 1038 = .ok (.i2l, 1) := by decide +kernel
theorem dLw_law_1039 : decode code 1039 = .ok (.lcmp, 1) := by decide +kernel
theorem dLw_law_1040 : decode code 1040 = .ok (.ifCond .eq 5, 3) := by decide +kernel
theorem dLw_law_1043 : decode code 1043 = .ok (.iconst 0, 1) := by decide +kernel
theorem dLw_law_1044 : decode code 1044 = .ok (.ireturn, 1) := by decide +kernel
theorem dLw_law_1045 : decode code 1045 = .ok (.goto 59, 3) := by decide +kernel
theorem dLw_law_1048 : decode code 1048 = .ok (.aload_n 1, 1) := by decide +kernel
theorem dLw_law_1049 : decode code 1049 = .ok (.aload_n 0, 1) := by decide +kernel
theorem dLw_law_1050 : decode code 1050 = .ok (.iload 5, 2) := by decide +kernel
theorem dLw_law_1052 : decode code 1052 = .ok (.iconst 1, 1) := by decide +kernel
theorem dLw_law_1053 : decode code 1053 = .ok (.iadd, 1) := by decide +kernel
theorem dLw_law_1054 : decode code 1054 = .ok (.iaload, 1) := by decide +kernel
theorem dLw_law_1055 : decode code 1055 = .ok (.aload_n 3, 1) := by decide +kernel
theorem dLw_law_1056 : decode code 1056 = .ok (.invokestatic 130, 3) := by decide +kernel
theorem dLw_law_1059 : decode code 1059 = .ok (.istore 6, 2) := by decide +kernel
theorem dLw_law_1061 : decode code 1061 = .ok (.aload_n 2, 1) := by decide +kernel
theorem dLw_law_1062 : decode code 1062 = .ok (.aload_n 0, 1) := by decide +kernel
theorem dLw_law_1063 : decode code 1063 = .ok (.iload 5, 2) := by decide +kernel
theorem dLw_law_1065 : decode code 1065 = .ok (.iconst 1, 1) := by decide +kernel
theorem dLw_law_1066 : decode code 1066 = .ok (.iadd, 1) := by decide +kernel
theorem dLw_law_1067 : decode code 1067 = .ok (.iaload, 1) := by decide +kernel
theorem dLw_law_1068 : decode code 1068 = .ok (.invokevirtual 132, 3) := by decide +kernel
theorem dLw_law_1071 : decode code 1071 = .ok (.istore 7, 2) := by decide +kernel
theorem dLw_law_1073 : decode code 1073 = .ok (.aload_n 2, 1) := by decide +kernel
theorem dLw_law_1074 : decode code 1074 = .ok (.invokevirtual 74, 3) := by decide +kernel
theorem dLw_law_1077 : decode code 1077 = .ok (.iload 6, 2) := by decide +kernel
theorem dLw_law_1079 : decode code 1079 = .ok (.if_icmp .eq 5, 3) := by decide +kernel
theorem dLw_law_1082 : decode code 1082 = .ok (.iconst 0, 1) := by decide +kernel
theorem dLw_law_1083 : decode code 1083 = .ok (.ireturn, 1) := by decide +kernel
theorem dLw_law_1084 : decode code 1084 = .ok (.iload 6, 2) := by decide +kernel
theorem dLw_law_1086 : decode code 1086 = .ok (.ifCond .ne 15, 3) := by decide +kernel
theorem dLw_law_1089 : decode code 1089 = .ok (.aload_n 3, 1) := by decide +kernel
theorem dLw_law_1090 : decode code 1090 = .ok (.iconst 0, 1) := by decide +kernel
theorem dLw_law_1091 : decode code 1091 = .ok (.laload, 1) := by decide +kernel
theorem dLw_law_1092 : decode code 1092 = .ok (.iload 7, 2) := by decide +kernel
theorem dLw_law_1094 : decode code 1094 = .ok (.i2l, 1) := by decide +kernel
theorem dLw_law_1095 : decode code 1095 = .ok (.lcmp, 1) := by decide +kernel
theorem dLw_law_1096 : decode code 1096 = .ok (.ifCond .eq 5, 3) := by decide +kernel
theorem dLw_law_1099 : decode code 1099 = .ok (.iconst 0, 1) := by decide +kernel
theorem dLw_law_1100 : decode code 1100 = .ok (.ireturn, 1) := by decide +kernel
theorem dLw_law_1101 : decode code 1101 = .ok (.goto 3, 3) := by decide +kernel
theorem dLw_law_1104 : decode code 1104 = .ok (.iinc 5 4, 3) := by decide +kernel
theorem dLw_law_1107 : decode code 1107 = .ok (.goto (-1079), 3) := by decide +kernel
theorem dLw_law_1110 : decode code 1110 = .ok (.iconst 1, 1) := by decide +kernel
theorem dLw_law_1111 : decode code 1111 = .ok (.ireturn, 1) := by decide +kernel
end
section
/-! decode rows of java/lang/Math -/
theorem dMa_floorDiv_0 : decode bMa_floorDiv 0 = .ok (.lload_n 0, 1) := by decide +kernel
theorem dMa_floorDiv_1 : decode bMa_floorDiv 1 = .ok (.lload_n 2, 1) := by decide +kernel
theorem dMa_floorDiv_2 : decode bMa_floorDiv 2 = .ok (.ldiv, 1) := by decide +kernel
theorem dMa_floorDiv_3 : decode bMa_floorDiv 3 = .ok (.lstore 4, 2) := by decide +kernel
theorem dMa_floorDiv_5 : decode bMa_floorDiv 5 = .ok (.lload_n 0, 1) := by decide +kernel
theorem dMa_floorDiv_6 : decode bMa_floorDiv 6 = .ok (.lload_n 2, 1) := by decide +kernel
theorem dMa_floorDiv_7 : decode bMa_floorDiv 7 = .ok (.lxor, 1) := by decide +kernel
theorem dMa_floorDiv_8 : decode bMa_floorDiv 8 = .ok (.lconst 0, 1) := by decide +kernel
theorem dMa_floorDiv_9 : decode bMa_floorDiv 9 = .ok (.lcmp, 1) := by decide +kernel
theorem dMa_floorDiv_10 : decode bMa_floorDiv 10 = .ok (.ifCond .ge 17, 3) := by decide +kernel
theorem dMa_floorDiv_13 : decode bMa_floorDiv 13 = .ok (.lload 4, 2) := by decide +kernel
theorem dMa_floorDiv_15 : decode bMa_floorDiv 15 = .ok (.lload_n 2, 1) := by decide +kernel
theorem dMa_floorDiv_16 : decode bMa_floorDiv 16 = .ok (.lmul, 1) := by decide +kernel
theorem dMa_floorDiv_17 : decode bMa_floorDiv 17 = .ok (.lload_n 0, 1) := by decide +kernel
theorem dMa_floorDiv_18 : decode bMa_floorDiv 18 = .ok (.lcmp, 1) := by decide +kernel
theorem dMa_floorDiv_19 : decode bMa_floorDiv 19 = .ok (.ifCond .eq 8, 3) := by decide +kernel
theorem dMa_floorDiv_22 : decode bMa_floorDiv 22 = .ok (.lload 4, 2) := by decide +kernel
theorem dMa_floorDiv_24 : decode bMa_floorDiv 24 = .ok (.lconst 1, 1) := by decide +kernel
theorem dMa_floorDiv_25 : decode bMa_floorDiv 25 = .ok (.lsub, 1) := by decide +kernel
theorem dMa_floorDiv_26 : decode bMa_floorDiv 26 = .ok (.lreturn, 1) := by decide +kernel
theorem dMa_floorDiv_27 : decode bMa_floorDiv 27 = .ok (.lload 4, 2) := by decide +kernel
theorem dMa_floorDiv_29 : decode bMa_floorDiv 29 = .ok (.lreturn, 1) := by decide +kernel
end
section
/-! decode rows of LadderScan$Memory -/
theorem dMe_init_0 : decode bMe_init 0 = .ok (.aload_n 0, 1) := by decide +kernel
theorem dMe_init_1 : decode bMe_init 1 = .ok (.invokespecial 3, 3) := by decide +kernel
theorem dMe_init_4 : decode bMe_init 4 = .ok (.aload_n 0, 1) := by decide +kernel
theorem dMe_init_5 : decode bMe_init 5 = .ok (.bipush 32, 2) := by decide +kernel
theorem dMe_init_7 : decode bMe_init 7 = .ok (.newarray .int, 2) := by decide +kernel
theorem dMe_init_9 : decode bMe_init 9 = .ok (.putfield 9, 3) := by decide +kernel
theorem dMe_init_12 : decode bMe_init 12 = .ok (.aload_n 0, 1) := by decide +kernel
theorem dMe_init_13 : decode bMe_init 13 = .ok (.bipush 32, 2) := by decide +kernel
theorem dMe_init_15 : decode bMe_init 15 = .ok (.newarray .int, 2) := by decide +kernel
theorem dMe_init_17 : decode bMe_init 17 = .ok (.putfield 15, 3) := by decide +kernel
theorem dMe_init_20 : decode bMe_init 20 = .ok (.aload_n 0, 1) := by decide +kernel
theorem dMe_init_21 : decode bMe_init 21 = .ok (.bipush 8, 2) := by decide +kernel
theorem dMe_init_23 : decode bMe_init 23 = .ok (.newarray .int, 2) := by decide +kernel
theorem dMe_init_25 : decode bMe_init 25 = .ok (.putfield 18, 3) := by decide +kernel
theorem dMe_init_28 : decode bMe_init 28 = .ok (.aload_n 0, 1) := by decide +kernel
theorem dMe_init_29 : decode bMe_init 29 = .ok (.bipush 8, 2) := by decide +kernel
theorem dMe_init_31 : decode bMe_init 31 = .ok (.newarray .int, 2) := by decide +kernel
theorem dMe_init_33 : decode bMe_init 33 = .ok (.putfield 21, 3) := by decide +kernel
theorem dMe_init_36 : decode bMe_init 36 = .ok (.aload_n 0, 1) := by decide +kernel
theorem dMe_init_37 : decode bMe_init 37 = .ok (.bipush 8, 2) := by decide +kernel
theorem dMe_init_39 : decode bMe_init 39 = .ok (.newarray .int, 2) := by decide +kernel
theorem dMe_init_41 : decode bMe_init 41 = .ok (.putfield 24, 3) := by decide +kernel
theorem dMe_init_44 : decode bMe_init 44 = .ok (.iconst 0, 1) := by decide +kernel
theorem dMe_init_45 : decode bMe_init 45 = .ok (.istore_n 1, 1) := by decide +kernel
theorem dMe_init_46 : decode bMe_init 46 = .ok (.iload_n 1, 1) := by decide +kernel
theorem dMe_init_47 : decode bMe_init 47 = .ok (.bipush 32, 2) := by decide +kernel
theorem dMe_init_49 : decode bMe_init 49 = .ok (.if_icmp .ge 16, 3) := by decide +kernel
theorem dMe_init_52 : decode bMe_init 52 = .ok (.aload_n 0, 1) := by decide +kernel
theorem dMe_init_53 : decode bMe_init 53 = .ok (.getfield 15, 3) := by decide +kernel
theorem dMe_init_56 : decode bMe_init 56 = .ok (.iload_n 1, 1) := by decide +kernel
theorem dMe_init_57 : decode bMe_init 57 = .ok (.iconst (-1), 1) := by decide +kernel
theorem dMe_init_58 : decode bMe_init 58 = .ok (.iastore, 1) := by decide +kernel
theorem dMe_init_59 : decode bMe_init 59 = .ok (.iinc 1 1, 3) := by decide +kernel
theorem dMe_init_62 : decode bMe_init 62 = .ok (.goto (-16), 3) := by decide +kernel
theorem dMe_init_65 : decode bMe_init 65 = .ok (.return_, 1) := by decide +kernel
theorem dMe_read_0 : decode bMe_read 0 = .ok (.aload_n 0, 1) := by decide +kernel
theorem dMe_read_1 : decode bMe_read 1 = .ok (.getfield 15, 3) := by decide +kernel
theorem dMe_read_4 : decode bMe_read 4 = .ok (.iload_n 1, 1) := by decide +kernel
theorem dMe_read_5 : decode bMe_read 5 = .ok (.iaload, 1) := by decide +kernel
theorem dMe_read_6 : decode bMe_read 6 = .ok (.iconst (-1), 1) := by decide +kernel
theorem dMe_read_7 : decode bMe_read 7 = .ok (.if_icmp .ne 12, 3) := by decide +kernel
theorem dMe_read_10 : decode bMe_read 10 = .ok (.aload_n 0, 1) := by decide +kernel
theorem dMe_read_11 : decode bMe_read 11 = .ok (.getfield 9, 3) := by decide +kernel
theorem dMe_read_14 : decode bMe_read 14 = .ok (.iload_n 1, 1) := by decide +kernel
theorem dMe_read_15 : decode bMe_read 15 = .ok (.iaload, 1) := by decide +kernel
theorem dMe_read_16 : decode bMe_read 16 = .ok (.goto 9, 3) := by decide +kernel
theorem dMe_read_19 : decode bMe_read 19 = .ok (.aload_n 0, 1) := by decide +kernel
theorem dMe_read_20 : decode bMe_read 20 = .ok (.getfield 15, 3) := by decide +kernel
theorem dMe_read_23 : decode bMe_read 23 = .ok (.iload_n 1, 1) := by decide +kernel
theorem dMe_read_24 : decode bMe_read 24 = .ok (.iaload, 1) := by decide +kernel
theorem dMe_read_25 : decode bMe_read 25 = .ok (.ireturn, 1) := by decide +kernel
theorem dMe_assign_0 : decode bMe_assign 0 = .ok (.iload_n 1, 1) := by decide +kernel
theorem dMe_assign_1 : decode bMe_assign 1 = .ok (.bipush 10, 2) := by decide +kernel
theorem dMe_assign_3 : decode bMe_assign 3 = .ok (.if_icmp .ne 13, 3) := by decide +kernel
theorem dMe_assign_6 : decode bMe_assign 6 = .ok (.aload_n 0, 1) := by decide +kernel
theorem dMe_assign_7 : decode bMe_assign 7 = .ok (.getfield 9, 3) := by decide +kernel
theorem dMe_assign_10 : decode bMe_assign 10 = .ok (.iload_n 2, 1) := by decide +kernel
theorem dMe_assign_11 : decode bMe_assign 11 = .ok (.iload_n 3, 1) := by decide +kernel
theorem dMe_assign_12 : decode bMe_assign 12 = .ok (.iastore, 1) := by decide +kernel
theorem dMe_assign_13 : decode bMe_assign 13 = .ok (.goto 25, 3) := by decide +kernel
theorem dMe_assign_16 : decode bMe_assign 16 = .ok (.iload_n 3, 1) := by decide +kernel
theorem dMe_assign_17 : decode bMe_assign 17 = .ok (.iconst 1, 1) := by decide +kernel
theorem dMe_assign_18 : decode bMe_assign 18 = .ok (.if_icmp .ne 20, 3) := by decide +kernel
theorem dMe_assign_21 : decode bMe_assign 21 = .ok (.aload_n 0, 1) := by decide +kernel
theorem dMe_assign_22 : decode bMe_assign 22 = .ok (.getfield 9, 3) := by decide +kernel
theorem dMe_assign_25 : decode bMe_assign 25 = .ok (.iload_n 2, 1) := by decide +kernel
theorem dMe_assign_26 : decode bMe_assign 26 = .ok (.iload_n 1, 1) := by decide +kernel
theorem dMe_assign_27 : decode bMe_assign 27 = .ok (.bipush 11, 2) := by decide +kernel
theorem dMe_assign_29 : decode bMe_assign 29 = .ok (.if_icmp .ne 7, 3) := by decide +kernel
theorem dMe_assign_32 : decode bMe_assign 32 = .ok (.iconst 1, 1) := by decide +kernel
theorem dMe_assign_33 : decode bMe_assign 33 = .ok (.goto 4, 3) := by decide +kernel
theorem dMe_assign_36 : decode bMe_assign 36 = .ok (.iconst 0, 1) := by decide +kernel
theorem dMe_assign_37 : decode bMe_assign 37 = .ok (.iastore, 1) := by decide +kernel
theorem dMe_assign_38 : decode bMe_assign 38 = .ok (.return_, 1) := by decide +kernel
theorem dMe_isAbove_0 : decode bMe_isAbove 0 = .ok (.aload_n 0, 1) := by decide +kernel
theorem dMe_isAbove_1 : decode bMe_isAbove 1 = .ok (.getfield 24, 3) := by decide +kernel
theorem dMe_isAbove_4 : decode bMe_isAbove 4 = .ok (.iload_n 1, 1) := by decide +kernel
theorem dMe_isAbove_5 : decode bMe_isAbove 5 = .ok (.iaload, 1) := by decide +kernel
theorem dMe_isAbove_6 : decode bMe_isAbove 6 = .ok (.aload_n 0, 1) := by decide +kernel
theorem dMe_isAbove_7 : decode bMe_isAbove 7 = .ok (.getfield 24, 3) := by decide +kernel
theorem dMe_isAbove_10 : decode bMe_isAbove 10 = .ok (.iload_n 2, 1) := by decide +kernel
theorem dMe_isAbove_11 : decode bMe_isAbove 11 = .ok (.iaload, 1) := by decide +kernel
theorem dMe_isAbove_12 : decode bMe_isAbove 12 = .ok (.if_icmp .le 7, 3) := by decide +kernel
theorem dMe_isAbove_15 : decode bMe_isAbove 15 = .ok (.iconst 1, 1) := by decide +kernel
theorem dMe_isAbove_16 : decode bMe_isAbove 16 = .ok (.goto 4, 3) := by decide +kernel
theorem dMe_isAbove_19 : decode bMe_isAbove 19 = .ok (.iconst 0, 1) := by decide +kernel
theorem dMe_isAbove_20 : decode bMe_isAbove 20 = .ok (.ireturn, 1) := by decide +kernel
theorem dMe_store_0 : decode bMe_store 0 = .ok (.aload_n 0, 1) := by decide +kernel
theorem dMe_store_1 : decode bMe_store 1 = .ok (.getfield 24, 3) := by decide +kernel
theorem dMe_store_4 : decode bMe_store 4 = .ok (.iload_n 1, 1) := by decide +kernel
theorem dMe_store_5 : decode bMe_store 5 = .ok (.ldc2_w 27, 3) := by decide +kernel
theorem dMe_store_8 : decode bMe_store 8 = .ok (.ldc2_w 29, 3) := by decide +kernel
theorem dMe_store_11 : decode bMe_store 11 = .ok (.lload_n 2, 1) := by decide +kernel
theorem dMe_store_12 : decode bMe_store 12 = .ok (.invokestatic 31, 3) := by decide +kernel
theorem dMe_store_15 : decode bMe_store 15 = .ok (.invokestatic 37, 3) := by decide +kernel
theorem dMe_store_18 : decode bMe_store 18 = .ok (.l2i, 1) := by decide +kernel
theorem dMe_store_19 : decode bMe_store 19 = .ok (.iastore, 1) := by decide +kernel
theorem dMe_store_20 : decode bMe_store 20 = .ok (.return_, 1) := by decide +kernel
theorem dMe_takeInputs_0 : decode bMe_takeInputs 0 = .ok (.iconst 0, 1) := by decide +kernel
theorem dMe_takeInputs_1 : decode bMe_takeInputs 1 = .ok (.istore_n 1, 1) := by decide +kernel
theorem dMe_takeInputs_2 : decode bMe_takeInputs 2 = .ok (.iload_n 1, 1) := by decide +kernel
theorem dMe_takeInputs_3 : decode bMe_takeInputs 3 = .ok (.bipush 8, 2) := by decide +kernel
theorem dMe_takeInputs_5 : decode bMe_takeInputs 5 = .ok (.if_icmp .ge 21, 3) := by decide +kernel
theorem dMe_takeInputs_8 : decode bMe_takeInputs 8 = .ok (.aload_n 0, 1) := by decide +kernel
theorem dMe_takeInputs_9 : decode bMe_takeInputs 9 = .ok (.getfield 9, 3) := by decide +kernel
theorem dMe_takeInputs_12 : decode bMe_takeInputs 12 = .ok (.iload_n 1, 1) := by decide +kernel
theorem dMe_takeInputs_13 : decode bMe_takeInputs 13 = .ok (.aload_n 0, 1) := by decide +kernel
theorem dMe_takeInputs_14 : decode bMe_takeInputs 14 = .ok (.getfield 18, 3) := by decide +kernel
theorem dMe_takeInputs_17 : decode bMe_takeInputs 17 = .ok (.iload_n 1, 1) := by decide +kernel
theorem dMe_takeInputs_18 : decode bMe_takeInputs 18 = .ok (.iaload, 1) := by decide +kernel
theorem dMe_takeInputs_19 : decode bMe_takeInputs 19 = .ok (.iastore, 1) := by decide +kernel
theorem dMe_takeInputs_20 : decode bMe_takeInputs 20 = .ok (.iinc 1 1, 3) := by decide +kernel
theorem dMe_takeInputs_23 : decode bMe_takeInputs 23 = .ok (.goto (-21), 3) := by decide +kernel
theorem dMe_takeInputs_26 : decode bMe_takeInputs 26 = .ok (.return_, 1) := by decide +kernel
theorem dMe_sendOutputs_0 : decode bMe_sendOutputs 0 = .ok (.iconst 0, 1) := by decide +kernel
theorem dMe_sendOutputs_1 : decode bMe_sendOutputs 1 = .ok (.istore_n 1, 1) := by decide +kernel
theorem dMe_sendOutputs_2 : decode bMe_sendOutputs 2 = .ok (.iload_n 1, 1) := by decide +kernel
theorem dMe_sendOutputs_3 : decode bMe_sendOutputs 3 = .ok (.bipush 8, 2) := by decide +kernel
theorem dMe_sendOutputs_5 : decode bMe_sendOutputs 5 = .ok (.if_icmp .ge 23, 3) := by decide +kernel
theorem dMe_sendOutputs_8 : decode bMe_sendOutputs 8 = .ok (.aload_n 0, 1) := by decide +kernel
theorem dMe_sendOutputs_9 : decode bMe_sendOutputs 9 = .ok (.getfield 21, 3) := by decide +kernel
theorem dMe_sendOutputs_12 : decode bMe_sendOutputs 12 = .ok (.iload_n 1, 1) := by decide +kernel
theorem dMe_sendOutputs_13 : decode bMe_sendOutputs 13 = .ok (.aload_n 0, 1) := by decide +kernel
theorem dMe_sendOutputs_14 : decode bMe_sendOutputs 14 = .ok (.bipush 8, 2) := by decide +kernel
theorem dMe_sendOutputs_16 : decode bMe_sendOutputs 16 = .ok (.iload_n 1, 1) := by decide +kernel
theorem dMe_sendOutputs_17 : decode bMe_sendOutputs 17 = .ok (.iadd, 1) := by decide +kernel
theorem dMe_sendOutputs_18 : decode bMe_sendOutputs 18 = .ok (.invokevirtual 40, 3) := by decide +kernel
theorem dMe_sendOutputs_21 : decode bMe_sendOutputs 21 = .ok (.iastore, 1) := by decide +kernel
theorem dMe_sendOutputs_22 : decode bMe_sendOutputs 22 = .ok (.iinc 1 1, 3) := by decide +kernel
theorem dMe_sendOutputs_25 : decode bMe_sendOutputs 25 = .ok (.goto (-23), 3) := by decide +kernel
theorem dMe_sendOutputs_28 : decode bMe_sendOutputs 28 = .ok (.return_, 1) := by decide +kernel
theorem dMe_clearOutputWires_0 : decode bMe_clearOutputWires 0 = .ok (.iconst 0, 1) := by decide +kernel
theorem dMe_clearOutputWires_1 : decode bMe_clearOutputWires 1 = .ok (.istore_n 1, 1) := by decide +kernel
theorem dMe_clearOutputWires_2 : decode bMe_clearOutputWires 2 = .ok (.iload_n 1, 1) := by decide +kernel
theorem dMe_clearOutputWires_3 : decode bMe_clearOutputWires 3 = .ok (.bipush 8, 2) := by decide +kernel
theorem dMe_clearOutputWires_5 : decode bMe_clearOutputWires 5 = .ok (.if_icmp .ge 16, 3) := by decide +kernel
theorem dMe_clearOutputWires_8 : decode bMe_clearOutputWires 8 = .ok (.aload_n 0, 1) := by decide +kernel
theorem dMe_clearOutputWires_9 : decode bMe_clearOutputWires 9 = .ok (.getfield 21, 3) := by decide +kernel
theorem dMe_clearOutputWires_12 : decode bMe_clearOutputWires 12 = .ok (.iload_n 1, 1) := by decide +kernel
theorem dMe_clearOutputWires_13 : decode bMe_clearOutputWires 13 = .ok (.iconst 0, 1) := by decide +kernel
theorem dMe_clearOutputWires_14 : decode bMe_clearOutputWires 14 = .ok (.iastore, 1) := by decide +kernel
theorem dMe_clearOutputWires_15 : decode bMe_clearOutputWires 15 = .ok (.iinc 1 1, 3) := by decide +kernel
theorem dMe_clearOutputWires_18 : decode bMe_clearOutputWires 18 = .ok (.goto (-16), 3) := by decide +kernel
theorem dMe_clearOutputWires_21 : decode bMe_clearOutputWires 21 = .ok (.return_, 1) := by decide +kernel
theorem dMe_losePower_0 : decode bMe_losePower 0 = .ok (.iconst 0, 1) := by decide +kernel
theorem dMe_losePower_1 : decode bMe_losePower 1 = .ok (.istore_n 1, 1) := by decide +kernel
theorem dMe_losePower_2 : decode bMe_losePower 2 = .ok (.iload_n 1, 1) := by decide +kernel
theorem dMe_losePower_3 : decode bMe_losePower 3 = .ok (.bipush 24, 2) := by decide +kernel
theorem dMe_losePower_5 : decode bMe_losePower 5 = .ok (.if_icmp .ge 16, 3) := by decide +kernel
theorem dMe_losePower_8 : decode bMe_losePower 8 = .ok (.aload_n 0, 1) := by decide +kernel
theorem dMe_losePower_9 : decode bMe_losePower 9 = .ok (.getfield 9, 3) := by decide +kernel
theorem dMe_losePower_12 : decode bMe_losePower 12 = .ok (.iload_n 1, 1) := by decide +kernel
theorem dMe_losePower_13 : decode bMe_losePower 13 = .ok (.iconst 0, 1) := by decide +kernel
theorem dMe_losePower_14 : decode bMe_losePower 14 = .ok (.iastore, 1) := by decide +kernel
theorem dMe_losePower_15 : decode bMe_losePower 15 = .ok (.iinc 1 1, 3) := by decide +kernel
theorem dMe_losePower_18 : decode bMe_losePower 18 = .ok (.goto (-16), 3) := by decide +kernel
theorem dMe_losePower_21 : decode bMe_losePower 21 = .ok (.aload_n 0, 1) := by decide +kernel
theorem dMe_losePower_22 : decode bMe_losePower 22 = .ok (.invokevirtual 44, 3) := by decide +kernel
theorem dMe_losePower_25 : decode bMe_losePower 25 = .ok (.return_, 1) := by decide +kernel
theorem dMe_keptOnes_0 : decode bMe_keptOnes 0 = .ok (.iconst 0, 1) := by decide +kernel
theorem dMe_keptOnes_1 : decode bMe_keptOnes 1 = .ok (.istore_n 1, 1) := by decide +kernel
theorem dMe_keptOnes_2 : decode bMe_keptOnes 2 = .ok (.bipush 24, 2) := by decide +kernel
theorem dMe_keptOnes_4 : decode bMe_keptOnes 4 = .ok (.istore_n 2, 1) := by decide +kernel
theorem dMe_keptOnes_5 : decode bMe_keptOnes 5 = .ok (.iload_n 2, 1) := by decide +kernel
theorem dMe_keptOnes_6 : decode bMe_keptOnes 6 = .ok (.bipush 32, 2) := by decide +kernel
theorem dMe_keptOnes_8 : decode bMe_keptOnes 8 = .ok (.if_icmp .ge 18, 3) := by decide +kernel
theorem dMe_keptOnes_11 : decode bMe_keptOnes 11 = .ok (.iload_n 1, 1) := by decide +kernel
theorem dMe_keptOnes_12 : decode bMe_keptOnes 12 = .ok (.aload_n 0, 1) := by decide +kernel
theorem dMe_keptOnes_13 : decode bMe_keptOnes 13 = .ok (.getfield 9, 3) := by decide +kernel
theorem dMe_keptOnes_16 : decode bMe_keptOnes 16 = .ok (.iload_n 2, 1) := by decide +kernel
theorem dMe_keptOnes_17 : decode bMe_keptOnes 17 = .ok (.iaload, 1) := by decide +kernel
theorem dMe_keptOnes_18 : decode bMe_keptOnes 18 = .ok (.iadd, 1) := by decide +kernel
theorem dMe_keptOnes_19 : decode bMe_keptOnes 19 = .ok (.istore_n 1, 1) := by decide +kernel
theorem dMe_keptOnes_20 : decode bMe_keptOnes 20 = .ok (.iinc 2 1, 3) := by decide +kernel
theorem dMe_keptOnes_23 : decode bMe_keptOnes 23 = .ok (.goto (-18), 3) := by decide +kernel
theorem dMe_keptOnes_26 : decode bMe_keptOnes 26 = .ok (.iload_n 1, 1) := by decide +kernel
theorem dMe_keptOnes_27 : decode bMe_keptOnes 27 = .ok (.ireturn, 1) := by decide +kernel
theorem dMe_forcedBits_0 : decode bMe_forcedBits 0 = .ok (.iconst 0, 1) := by decide +kernel
theorem dMe_forcedBits_1 : decode bMe_forcedBits 1 = .ok (.istore_n 1, 1) := by decide +kernel
theorem dMe_forcedBits_2 : decode bMe_forcedBits 2 = .ok (.iconst 0, 1) := by decide +kernel
theorem dMe_forcedBits_3 : decode bMe_forcedBits 3 = .ok (.istore_n 2, 1) := by decide +kernel
theorem dMe_forcedBits_4 : decode bMe_forcedBits 4 = .ok (.iload_n 2, 1) := by decide +kernel
theorem dMe_forcedBits_5 : decode bMe_forcedBits 5 = .ok (.bipush 32, 2) := by decide +kernel
theorem dMe_forcedBits_7 : decode bMe_forcedBits 7 = .ok (.if_icmp .ge 22, 3) := by decide +kernel
theorem dMe_forcedBits_10 : decode bMe_forcedBits 10 = .ok (.aload_n 0, 1) := by decide +kernel
theorem dMe_forcedBits_11 : decode bMe_forcedBits 11 = .ok (.getfield 15, 3) := by decide +kernel
theorem dMe_forcedBits_14 : decode bMe_forcedBits 14 = .ok (.iload_n 2, 1) := by decide +kernel
theorem dMe_forcedBits_15 : decode bMe_forcedBits 15 = .ok (.iaload, 1) := by decide +kernel
theorem dMe_forcedBits_16 : decode bMe_forcedBits 16 = .ok (.iconst (-1), 1) := by decide +kernel
theorem dMe_forcedBits_17 : decode bMe_forcedBits 17 = .ok (.if_icmp .eq 6, 3) := by decide +kernel
theorem dMe_forcedBits_20 : decode bMe_forcedBits 20 = .ok (.iinc 1 1, 3) := by decide +kernel
theorem dMe_forcedBits_23 : decode bMe_forcedBits 23 = .ok (.iinc 2 1, 3) := by decide +kernel
theorem dMe_forcedBits_26 : decode bMe_forcedBits 26 = .ok (.goto (-22), 3) := by decide +kernel
theorem dMe_forcedBits_29 : decode bMe_forcedBits 29 = .ok (.iload_n 1, 1) := by decide +kernel
theorem dMe_forcedBits_30 : decode bMe_forcedBits 30 = .ok (.ireturn, 1) := by decide +kernel
end
section
/-! decode rows of LadderScanModel -/
theorem dMo_init_0 : decode bMo_init 0 = .ok (.aload_n 0, 1) := by decide +kernel
theorem dMo_init_1 : decode bMo_init 1 = .ok (.invokespecial 1, 3) := by decide +kernel
theorem dMo_init_4 : decode bMo_init 4 = .ok (.aload_n 0, 1) := by decide +kernel
theorem dMo_init_5 : decode bMo_init 5 = .ok (.bipush 32, 2) := by decide +kernel
theorem dMo_init_7 : decode bMo_init 7 = .ok (.newarray .int, 2) := by decide +kernel
theorem dMo_init_9 : decode bMo_init 9 = .ok (.putfield 7, 3) := by decide +kernel
theorem dMo_init_12 : decode bMo_init 12 = .ok (.aload_n 0, 1) := by decide +kernel
theorem dMo_init_13 : decode bMo_init 13 = .ok (.bipush 32, 2) := by decide +kernel
theorem dMo_init_15 : decode bMo_init 15 = .ok (.newarray .int, 2) := by decide +kernel
theorem dMo_init_17 : decode bMo_init 17 = .ok (.putfield 13, 3) := by decide +kernel
theorem dMo_init_20 : decode bMo_init 20 = .ok (.aload_n 0, 1) := by decide +kernel
theorem dMo_init_21 : decode bMo_init 21 = .ok (.bipush 8, 2) := by decide +kernel
theorem dMo_init_23 : decode bMo_init 23 = .ok (.newarray .int, 2) := by decide +kernel
theorem dMo_init_25 : decode bMo_init 25 = .ok (.putfield 16, 3) := by decide +kernel
theorem dMo_init_28 : decode bMo_init 28 = .ok (.aload_n 0, 1) := by decide +kernel
theorem dMo_init_29 : decode bMo_init 29 = .ok (.bipush 8, 2) := by decide +kernel
theorem dMo_init_31 : decode bMo_init 31 = .ok (.newarray .int, 2) := by decide +kernel
theorem dMo_init_33 : decode bMo_init 33 = .ok (.putfield 19, 3) := by decide +kernel
theorem dMo_init_36 : decode bMo_init 36 = .ok (.aload_n 0, 1) := by decide +kernel
theorem dMo_init_37 : decode bMo_init 37 = .ok (.bipush 8, 2) := by decide +kernel
theorem dMo_init_39 : decode bMo_init 39 = .ok (.newarray .long, 2) := by decide +kernel
theorem dMo_init_41 : decode bMo_init 41 = .ok (.putfield 22, 3) := by decide +kernel
theorem dMo_init_44 : decode bMo_init 44 = .ok (.aload_n 0, 1) := by decide +kernel
theorem dMo_init_45 : decode bMo_init 45 = .ok (.bipush 10, 2) := by decide +kernel
theorem dMo_init_47 : decode bMo_init 47 = .ok (.newarray .int, 2) := by decide +kernel
theorem dMo_init_49 : decode bMo_init 49 = .ok (.putfield 26, 3) := by decide +kernel
theorem dMo_init_52 : decode bMo_init 52 = .ok (.aload_n 0, 1) := by decide +kernel
theorem dMo_init_53 : decode bMo_init 53 = .ok (.bipush 10, 2) := by decide +kernel
theorem dMo_init_55 : decode bMo_init 55 = .ok (.newarray .int, 2) := by decide +kernel
theorem dMo_init_57 : decode bMo_init 57 = .ok (.putfield 29, 3) := by decide +kernel
theorem dMo_init_60 : decode bMo_init 60 = .ok (.aload_n 0, 1) := by decide +kernel
theorem dMo_init_61 : decode bMo_init 61 = .ok (.bipush 10, 2) := by decide +kernel
theorem dMo_init_63 : decode bMo_init 63 = .ok (.newarray .int, 2) := by decide +kernel
theorem dMo_init_65 : decode bMo_init 65 = .ok (.putfield 32, 3) := by decide +kernel
theorem dMo_init_68 : decode bMo_init 68 = .ok (.aload_n 0, 1) := by decide +kernel
theorem dMo_init_69 : decode bMo_init 69 = .ok (.bipush 10, 2) := by decide +kernel
theorem dMo_init_71 : decode bMo_init 71 = .ok (.newarray .long, 2) := by decide +kernel
theorem dMo_init_73 : decode bMo_init 73 = .ok (.putfield 35, 3) := by decide +kernel
theorem dMo_init_76 : decode bMo_init 76 = .ok (.aload_n 0, 1) := by decide +kernel
theorem dMo_init_77 : decode bMo_init 77 = .ok (.bipush 10, 2) := by decide +kernel
theorem dMo_init_79 : decode bMo_init 79 = .ok (.newarray .long, 2) := by decide +kernel
theorem dMo_init_81 : decode bMo_init 81 = .ok (.putfield 38, 3) := by decide +kernel
theorem dMo_init_84 : decode bMo_init 84 = .ok (.aload_n 0, 1) := by decide +kernel
theorem dMo_init_85 : decode bMo_init 85 = .ok (.bipush 10, 2) := by decide +kernel
theorem dMo_init_87 : decode bMo_init 87 = .ok (.newarray .int, 2) := by decide +kernel
theorem dMo_init_89 : decode bMo_init 89 = .ok (.putfield 41, 3) := by decide +kernel
theorem dMo_init_92 : decode bMo_init 92 = .ok (.aload_n 0, 1) := by decide +kernel
theorem dMo_init_93 : decode bMo_init 93 = .ok (.bipush 10, 2) := by decide +kernel
theorem dMo_init_95 : decode bMo_init 95 = .ok (.newarray .int, 2) := by decide +kernel
theorem dMo_init_97 : decode bMo_init 97 = .ok (.putfield 44, 3) := by decide +kernel
theorem dMo_init_100 : decode bMo_init 100 = .ok (.aload_n 0, 1) := by decide +kernel
theorem dMo_init_101 : decode bMo_init 101 = .ok (.bipush 10, 2) := by decide +kernel
theorem dMo_init_103 : decode bMo_init 103 = .ok (.newarray .int, 2) := by decide +kernel
theorem dMo_init_105 : decode bMo_init 105 = .ok (.putfield 47, 3) := by decide +kernel
theorem dMo_init_108 : decode bMo_init 108 = .ok (.aload_n 0, 1) := by decide +kernel
theorem dMo_init_109 : decode bMo_init 109 = .ok (.bipush 120, 2) := by decide +kernel
theorem dMo_init_111 : decode bMo_init 111 = .ok (.newarray .int, 2) := by decide +kernel
theorem dMo_init_113 : decode bMo_init 113 = .ok (.putfield 50, 3) := by decide +kernel
theorem dMo_init_116 : decode bMo_init 116 = .ok (.aload_n 0, 1) := by decide +kernel
theorem dMo_init_117 : decode bMo_init 117 = .ok (.bipush 120, 2) := by decide +kernel
theorem dMo_init_119 : decode bMo_init 119 = .ok (.newarray .int, 2) := by decide +kernel
theorem dMo_init_121 : decode bMo_init 121 = .ok (.putfield 53, 3) := by decide +kernel
theorem dMo_init_124 : decode bMo_init 124 = .ok (.aload_n 0, 1) := by decide +kernel
theorem dMo_init_125 : decode bMo_init 125 = .ok (.bipush 12, 2) := by decide +kernel
theorem dMo_init_127 : decode bMo_init 127 = .ok (.newarray .int, 2) := by decide +kernel
theorem dMo_init_129 : decode bMo_init 129 = .ok (.putfield 56, 3) := by decide +kernel
theorem dMo_init_132 : decode bMo_init 132 = .ok (.aload_n 0, 1) := by decide +kernel
theorem dMo_init_133 : decode bMo_init 133 = .ok (.bipush 12, 2) := by decide +kernel
theorem dMo_init_135 : decode bMo_init 135 = .ok (.newarray .int, 2) := by decide +kernel
theorem dMo_init_137 : decode bMo_init 137 = .ok (.putfield 59, 3) := by decide +kernel
theorem dMo_init_140 : decode bMo_init 140 = .ok (.aload_n 0, 1) := by decide +kernel
theorem dMo_init_141 : decode bMo_init 141 = .ok (.bipush 120, 2) := by decide +kernel
theorem dMo_init_143 : decode bMo_init 143 = .ok (.newarray .int, 2) := by decide +kernel
theorem dMo_init_145 : decode bMo_init 145 = .ok (.putfield 62, 3) := by decide +kernel
theorem dMo_init_148 : decode bMo_init 148 = .ok (.aload_n 0, 1) := by decide +kernel
theorem dMo_init_149 : decode bMo_init 149 = .ok (.bipush 120, 2) := by decide +kernel
theorem dMo_init_151 : decode bMo_init 151 = .ok (.newarray .int, 2) := by decide +kernel
theorem dMo_init_153 : decode bMo_init 153 = .ok (.putfield 65, 3) := by decide +kernel
theorem dMo_init_156 : decode bMo_init 156 = .ok (.aload_n 0, 1) := by decide +kernel
theorem dMo_init_157 : decode bMo_init 157 = .ok (.bipush 12, 2) := by decide +kernel
theorem dMo_init_159 : decode bMo_init 159 = .ok (.newarray .int, 2) := by decide +kernel
theorem dMo_init_161 : decode bMo_init 161 = .ok (.putfield 68, 3) := by decide +kernel
theorem dMo_init_164 : decode bMo_init 164 = .ok (.aload_n 0, 1) := by decide +kernel
theorem dMo_init_165 : decode bMo_init 165 = .ok (.iconst 5, 1) := by decide +kernel
theorem dMo_init_166 : decode bMo_init 166 = .ok (.newarray .int, 2) := by decide +kernel
theorem dMo_init_168 : decode bMo_init 168 = .ok (.putfield 71, 3) := by decide +kernel
theorem dMo_init_171 : decode bMo_init 171 = .ok (.iconst 0, 1) := by decide +kernel
theorem dMo_init_172 : decode bMo_init 172 = .ok (.istore_n 1, 1) := by decide +kernel
theorem dMo_init_173 : decode bMo_init 173 = .ok (.iload_n 1, 1) := by decide +kernel
theorem dMo_init_174 : decode bMo_init 174 = .ok (.bipush 32, 2) := by decide +kernel
theorem dMo_init_176 : decode bMo_init 176 = .ok (.if_icmp .ge 16, 3) := by decide +kernel
theorem dMo_init_179 : decode bMo_init 179 = .ok (.aload_n 0, 1) := by decide +kernel
theorem dMo_init_180 : decode bMo_init 180 = .ok (.getfield 13, 3) := by decide +kernel
theorem dMo_init_183 : decode bMo_init 183 = .ok (.iload_n 1, 1) := by decide +kernel
theorem dMo_init_184 : decode bMo_init 184 = .ok (.iconst (-1), 1) := by decide +kernel
theorem dMo_init_185 : decode bMo_init 185 = .ok (.iastore, 1) := by decide +kernel
theorem dMo_init_186 : decode bMo_init 186 = .ok (.iinc 1 1, 3) := by decide +kernel
theorem dMo_init_189 : decode bMo_init 189 = .ok (.goto (-16), 3) := by decide +kernel
theorem dMo_init_192 : decode bMo_init 192 = .ok (.return_, 1) := by decide +kernel
theorem dMo_thrown_0 : decode bMo_thrown 0 = .ok (.aload_n 0, 1) := by decide +kernel
theorem dMo_thrown_1 : decode bMo_thrown 1 = .ok (.getfield 74, 3) := by decide +kernel
theorem dMo_thrown_4 : decode bMo_thrown 4 = .ok (.ireturn, 1) := by decide +kernel
theorem dMo_raise_0 : decode bMo_raise 0 = .ok (.aload_n 0, 1) := by decide +kernel
theorem dMo_raise_1 : decode bMo_raise 1 = .ok (.iload_n 1, 1) := by decide +kernel
theorem dMo_raise_2 : decode bMo_raise 2 = .ok (.putfield 74, 3) := by decide +kernel
theorem dMo_raise_5 : decode bMo_raise 5 = .ok (.iconst 0, 1) := by decide +kernel
theorem dMo_raise_6 : decode bMo_raise 6 = .ok (.ireturn, 1) := by decide +kernel
theorem dMo_in_0 : decode bMo_in 0 = .ok (.iload_n 0, 1) := by decide +kernel
theorem dMo_in_1 : decode bMo_in 1 = .ok (.iload_n 1, 1) := by decide +kernel
theorem dMo_in_2 : decode bMo_in 2 = .ok (.if_icmp .lt 12, 3) := by decide +kernel
theorem dMo_in_5 : decode bMo_in 5 = .ok (.iload_n 0, 1) := by decide +kernel
theorem dMo_in_6 : decode bMo_in 6 = .ok (.iload_n 2, 1) := by decide +kernel
theorem dMo_in_7 : decode bMo_in 7 = .ok (.if_icmp .gt 7, 3) := by decide +kernel
theorem dMo_in_10 : decode bMo_in 10 = .ok (.iconst 1, 1) := by decide +kernel
theorem dMo_in_11 : decode bMo_in 11 = .ok (.goto 4, 3) := by decide +kernel
theorem dMo_in_14 : decode bMo_in 14 = .ok (.iconst 0, 1) := by decide +kernel
theorem dMo_in_15 : decode bMo_in 15 = .ok (.ireturn, 1) := by decide +kernel
theorem dMo_number_0 : decode bMo_number 0 = .ok (.dload_n 0, 1) := by decide +kernel
theorem dMo_number_1 : decode bMo_number 1 = .ok (.ldc2_w 78, 3) := by decide +kernel
theorem dMo_number_4 : decode bMo_number 4 = .ok (.dcmp .l, 1) := by decide +kernel
theorem dMo_number_5 : decode bMo_number 5 = .ok (.ifCond .lt 15, 3) := by decide +kernel
theorem dMo_number_8 : decode bMo_number 8 = .ok (.dload_n 0, 1) := by decide +kernel
theorem dMo_number_9 : decode bMo_number 9 = .ok (.ldc2_w 80, 3) := by decide +kernel
theorem dMo_number_12 : decode bMo_number 12 = .ok (.dcmp .g, 1) := by decide +kernel
theorem dMo_number_13 : decode bMo_number 13 = .ok (.ifCond .gt 7, 3) := by decide +kernel
theorem dMo_number_16 : decode bMo_number 16 = .ok (.iconst 1, 1) := by decide +kernel
theorem dMo_number_17 : decode bMo_number 17 = .ok (.goto 4, 3) := by decide +kernel
theorem dMo_number_20 : decode bMo_number 20 = .ok (.iconst 0, 1) := by decide +kernel
theorem dMo_number_21 : decode bMo_number 21 = .ok (.ireturn, 1) := by decide +kernel
theorem dMo_eighths_0 : decode bMo_eighths 0 = .ok (.dload_n 0, 1) := by decide +kernel
theorem dMo_eighths_1 : decode bMo_eighths 1 = .ok (.ldc2_w 82, 3) := by decide +kernel
theorem dMo_eighths_4 : decode bMo_eighths 4 = .ok (.dmul, 1) := by decide +kernel
theorem dMo_eighths_5 : decode bMo_eighths 5 = .ok (.d2l, 1) := by decide +kernel
theorem dMo_eighths_6 : decode bMo_eighths 6 = .ok (.lstore_n 2, 1) := by decide +kernel
theorem dMo_eighths_7 : decode bMo_eighths 7 = .ok (.lload_n 2, 1) := by decide +kernel
theorem dMo_eighths_8 : decode bMo_eighths 8 = .ok (.l2d, 1) := by decide +kernel
theorem dMo_eighths_9 : decode bMo_eighths 9 = .ok (.dload_n 0, 1) := by decide +kernel
theorem dMo_eighths_10 : decode bMo_eighths 10 = .ok (.ldc2_w 82, 3) := by decide +kernel
theorem dMo_eighths_13 : decode bMo_eighths 13 = .ok (.dmul, 1) := by decide +kernel
theorem dMo_eighths_14 : decode bMo_eighths 14 = .ok (.dcmp .l, 1) := by decide +kernel
theorem dMo_eighths_15 : decode bMo_eighths 15 = .ok (.ifCond .le 9, 3) := by decide +kernel
theorem dMo_eighths_18 : decode bMo_eighths 18 = .ok (.lload_n 2, 1) := by decide +kernel
theorem dMo_eighths_19 : decode bMo_eighths 19 = .ok (.lconst 1, 1) := by decide +kernel
theorem dMo_eighths_20 : decode bMo_eighths 20 = .ok (.lsub, 1) := by decide +kernel
theorem dMo_eighths_21 : decode bMo_eighths 21 = .ok (.goto 4, 3) := by decide +kernel
theorem dMo_eighths_24 : decode bMo_eighths 24 = .ok (.lload_n 2, 1) := by decide +kernel
theorem dMo_eighths_25 : decode bMo_eighths 25 = .ok (.lreturn, 1) := by decide +kernel
theorem dMo_whole_0 : decode bMo_whole 0 = .ok (.dload_n 0, 1) := by decide +kernel
theorem dMo_whole_1 : decode bMo_whole 1 = .ok (.ldc2_w 82, 3) := by decide +kernel
theorem dMo_whole_4 : decode bMo_whole 4 = .ok (.dmul, 1) := by decide +kernel
theorem dMo_whole_5 : decode bMo_whole 5 = .ok (.dload_n 0, 1) := by decide +kernel
theorem dMo_whole_6 : decode bMo_whole 6 = .ok (.ldc2_w 82, 3) := by decide +kernel
theorem dMo_whole_9 : decode bMo_whole 9 = .ok (.dmul, 1) := by decide +kernel
theorem dMo_whole_10 : decode bMo_whole 10 = .ok (.d2l, 1) := by decide +kernel
theorem dMo_whole_11 : decode bMo_whole 11 = .ok (.l2d, 1) := by decide +kernel
theorem dMo_whole_12 : decode bMo_whole 12 = .ok (.dcmp .l, 1) := by decide +kernel
theorem dMo_whole_13 : decode bMo_whole 13 = .ok (.ifCond .ne 7, 3) := by decide +kernel
theorem dMo_whole_16 : decode bMo_whole 16 = .ok (.iconst 1, 1) := by decide +kernel
theorem dMo_whole_17 : decode bMo_whole 17 = .ok (.goto 4, 3) := by decide +kernel
theorem dMo_whole_20 : decode bMo_whole 20 = .ok (.iconst 0, 1) := by decide +kernel
theorem dMo_whole_21 : decode bMo_whole 21 = .ok (.ireturn, 1) := by decide +kernel
theorem dMo_down_0 : decode bMo_down 0 = .ok (.lload_n 0, 1) := by decide +kernel
theorem dMo_down_1 : decode bMo_down 1 = .ok (.lload_n 2, 1) := by decide +kernel
theorem dMo_down_2 : decode bMo_down 2 = .ok (.ldiv, 1) := by decide +kernel
theorem dMo_down_3 : decode bMo_down 3 = .ok (.lload_n 0, 1) := by decide +kernel
theorem dMo_down_4 : decode bMo_down 4 = .ok (.lload_n 2, 1) := by decide +kernel
theorem dMo_down_5 : decode bMo_down 5 = .ok (.lrem, 1) := by decide +kernel
theorem dMo_down_6 : decode bMo_down 6 = .ok (.lconst 0, 1) := by decide +kernel
theorem dMo_down_7 : decode bMo_down 7 = .ok (.lcmp, 1) := by decide +kernel
theorem dMo_down_8 : decode bMo_down 8 = .ok (.ifCond .eq 32, 3) := by decide +kernel
theorem dMo_down_11 : decode bMo_down 11 = .ok (.lload_n 0, 1) := by decide +kernel
theorem dMo_down_12 : decode bMo_down 12 = .ok (.lconst 0, 1) := by decide +kernel
theorem dMo_down_13 : decode bMo_down 13 = .ok (.lcmp, 1) := by decide +kernel
theorem dMo_down_14 : decode bMo_down 14 = .ok (.ifCond .ge 7, 3) := by decide +kernel
theorem dMo_down_17 : decode bMo_down 17 = .ok (.iconst 1, 1) := by decide +kernel
theorem dMo_down_18 : decode bMo_down 18 = .ok (.goto 4, 3) := by decide +kernel
theorem dMo_down_21 : decode bMo_down 21 = .ok (.iconst 0, 1) := by decide +kernel
theorem dMo_down_22 : decode bMo_down 22 = .ok (.lload_n 2, 1) := by decide +kernel
theorem dMo_down_23 : decode bMo_down 23 = .ok (.lconst 0, 1) := by decide +kernel
theorem dMo_down_24 : decode bMo_down 24 = .ok (.lcmp, 1) := by decide +kernel
theorem dMo_down_25 : decode bMo_down 25 = .ok (.ifCond .ge 7, 3) := by decide +kernel
theorem dMo_down_28 : decode bMo_down 28 = .ok (.iconst 1, 1) := by decide +kernel
theorem dMo_down_29 : decode bMo_down 29 = .ok (.goto 4, 3) := by decide +kernel
theorem dMo_down_32 : decode bMo_down 32 = .ok (.iconst 0, 1) := by decide +kernel
theorem dMo_down_33 : decode bMo_down 33 = .ok (.if_icmp .eq 7, 3) := by decide +kernel
theorem dMo_down_36 : decode bMo_down 36 = .ok (.iconst 1, 1) := by decide +kernel
theorem dMo_down_37 : decode bMo_down 37 = .ok (.goto 4, 3) := by decide +kernel
theorem dMo_down_40 : decode bMo_down 40 = .ok (.iconst 0, 1) := by decide +kernel
theorem dMo_down_41 : decode bMo_down 41 = .ok (.i2l, 1) := by decide +kernel
theorem dMo_down_42 : decode bMo_down 42 = .ok (.lsub, 1) := by decide +kernel
theorem dMo_down_43 : decode bMo_down 43 = .ok (.lreturn, 1) := by decide +kernel
theorem dMo_fit_0 : decode bMo_fit 0 = .ok (.lload_n 0, 1) := by decide +kernel
theorem dMo_fit_1 : decode bMo_fit 1 = .ok (.ldc2_w 84, 3) := by decide +kernel
theorem dMo_fit_4 : decode bMo_fit 4 = .ok (.lcmp, 1) := by decide +kernel
theorem dMo_fit_5 : decode bMo_fit 5 = .ok (.ifCond .ge 9, 3) := by decide +kernel
theorem dMo_fit_8 : decode bMo_fit 8 = .ok (.ldc2_w 84, 3) := by decide +kernel
theorem dMo_fit_11 : decode bMo_fit 11 = .ok (.goto 18, 3) := by decide +kernel
theorem dMo_fit_14 : decode bMo_fit 14 = .ok (.lload_n 0, 1) := by decide +kernel
theorem dMo_fit_15 : decode bMo_fit 15 = .ok (.ldc2_w 86, 3) := by decide +kernel
theorem dMo_fit_18 : decode bMo_fit 18 = .ok (.lcmp, 1) := by decide +kernel
theorem dMo_fit_19 : decode bMo_fit 19 = .ok (.ifCond .le 9, 3) := by decide +kernel
theorem dMo_fit_22 : decode bMo_fit 22 = .ok (.ldc2_w 86, 3) := by decide +kernel
theorem dMo_fit_25 : decode bMo_fit 25 = .ok (.goto 4, 3) := by decide +kernel
theorem dMo_fit_28 : decode bMo_fit 28 = .ok (.lload_n 0, 1) := by decide +kernel
theorem dMo_fit_29 : decode bMo_fit 29 = .ok (.lreturn, 1) := by decide +kernel
theorem dMo_block_0 : decode bMo_block 0 = .ok (.aload_n 0, 1) := by decide +kernel
theorem dMo_block_1 : decode bMo_block 1 = .ok (.iconst 0, 1) := by decide +kernel
theorem dMo_block_2 : decode bMo_block 2 = .ok (.putfield 74, 3) := by decide +kernel
theorem dMo_block_5 : decode bMo_block 5 = .ok (.iload_n 1, 1) := by decide +kernel
theorem dMo_block_6 : decode bMo_block 6 = .ok (.iconst 0, 1) := by decide +kernel
theorem dMo_block_7 : decode bMo_block 7 = .ok (.bipush 7, 2) := by decide +kernel
theorem dMo_block_9 : decode bMo_block 9 = .ok (.invokestatic 88, 3) := by decide +kernel
theorem dMo_block_12 : decode bMo_block 12 = .ok (.ifCond .eq 33, 3) := by decide +kernel
theorem dMo_block_15 : decode bMo_block 15 = .ok (.iload_n 1, 1) := by decide +kernel
theorem dMo_block_16 : decode bMo_block 16 = .ok (.iconst 3, 1) := by decide +kernel
theorem dMo_block_17 : decode bMo_block 17 = .ok (.if_icmp .ge 13, 3) := by decide +kernel
theorem dMo_block_20 : decode bMo_block 20 = .ok (.iload_n 2, 1) := by decide +kernel
theorem dMo_block_21 : decode bMo_block 21 = .ok (.iconst 1, 1) := by decide +kernel
theorem dMo_block_22 : decode bMo_block 22 = .ok (.bipush 100, 2) := by decide +kernel
theorem dMo_block_24 : decode bMo_block 24 = .ok (.invokestatic 88, 3) := by decide +kernel
theorem dMo_block_27 : decode bMo_block 27 = .ok (.ifCond .eq 18, 3) := by decide +kernel
theorem dMo_block_30 : decode bMo_block 30 = .ok (.iload_n 1, 1) := by decide +kernel
theorem dMo_block_31 : decode bMo_block 31 = .ok (.iconst 2, 1) := by decide +kernel
theorem dMo_block_32 : decode bMo_block 32 = .ok (.if_icmp .ne 19, 3) := by decide +kernel
theorem dMo_block_35 : decode bMo_block 35 = .ok (.iload_n 3, 1) := by decide +kernel
theorem dMo_block_36 : decode bMo_block 36 = .ok (.iconst 0, 1) := by decide +kernel
theorem dMo_block_37 : decode bMo_block 37 = .ok (.bipush 31, 2) := by decide +kernel
theorem dMo_block_39 : decode bMo_block 39 = .ok (.invokestatic 88, 3) := by decide +kernel
theorem dMo_block_42 : decode bMo_block 42 = .ok (.ifCond .ne 9, 3) := by decide +kernel
theorem dMo_block_45 : decode bMo_block 45 = .ok (.aload_n 0, 1) := by decide +kernel
theorem dMo_block_46 : decode bMo_block 46 = .ok (.iconst 1, 1) := by decide +kernel
theorem dMo_block_47 : decode bMo_block 47 = .ok (.invokevirtual 92, 3) := by decide +kernel
theorem dMo_block_50 : decode bMo_block 50 = .ok (.ireturn, 1) := by decide +kernel
theorem dMo_block_51 : decode bMo_block 51 = .ok (.iload_n 1, 1) := by decide +kernel
theorem dMo_block_52 : decode bMo_block 52 = .ok (.iconst 4, 1) := by decide +kernel
theorem dMo_block_53 : decode bMo_block 53 = .ok (.if_icmp .le 29, 3) := by decide +kernel
theorem dMo_block_56 : decode bMo_block 56 = .ok (.iload_n 2, 1) := by decide +kernel
theorem dMo_block_57 : decode bMo_block 57 = .ok (.iconst 0, 1) := by decide +kernel
theorem dMo_block_58 : decode bMo_block 58 = .ok (.bipush 7, 2) := by decide +kernel
theorem dMo_block_60 : decode bMo_block 60 = .ok (.invokestatic 88, 3) := by decide +kernel
theorem dMo_block_63 : decode bMo_block 63 = .ok (.ifCond .eq 13, 3) := by decide +kernel
theorem dMo_block_66 : decode bMo_block 66 = .ok (.iload_n 3, 1) := by decide +kernel
theorem dMo_block_67 : decode bMo_block 67 = .ok (.iconst 0, 1) := by decide +kernel
theorem dMo_block_68 : decode bMo_block 68 = .ok (.bipush 7, 2) := by decide +kernel
theorem dMo_block_70 : decode bMo_block 70 = .ok (.invokestatic 88, 3) := by decide +kernel
theorem dMo_block_73 : decode bMo_block 73 = .ok (.ifCond .ne 9, 3) := by decide +kernel
theorem dMo_block_76 : decode bMo_block 76 = .ok (.aload_n 0, 1) := by decide +kernel
theorem dMo_block_77 : decode bMo_block 77 = .ok (.iconst 1, 1) := by decide +kernel
theorem dMo_block_78 : decode bMo_block 78 = .ok (.invokevirtual 92, 3) := by decide +kernel
theorem dMo_block_81 : decode bMo_block 81 = .ok (.ireturn, 1) := by decide +kernel
theorem dMo_block_82 : decode bMo_block 82 = .ok (.aload_n 0, 1) := by decide +kernel
theorem dMo_block_83 : decode bMo_block 83 = .ok (.getfield 96, 3) := by decide +kernel
theorem dMo_block_86 : decode bMo_block 86 = .ok (.bipush 10, 2) := by decide +kernel
theorem dMo_block_88 : decode bMo_block 88 = .ok (.if_icmp .ne 9, 3) := by decide +kernel
theorem dMo_block_91 : decode bMo_block 91 = .ok (.aload_n 0, 1) := by decide +kernel
theorem dMo_block_92 : decode bMo_block 92 = .ok (.iconst 2, 1) := by decide +kernel
theorem dMo_block_93 : decode bMo_block 93 = .ok (.invokevirtual 92, 3) := by decide +kernel
theorem dMo_block_96 : decode bMo_block 96 = .ok (.ireturn, 1) := by decide +kernel
theorem dMo_block_97 : decode bMo_block 97 = .ok (.aload_n 0, 1) := by decide +kernel
theorem dMo_block_98 : decode bMo_block 98 = .ok (.getfield 26, 3) := by decide +kernel
theorem dMo_block_101 : decode bMo_block 101 = .ok (.aload_n 0, 1) := by decide +kernel
theorem dMo_block_102 : decode bMo_block 102 = .ok (.getfield 96, 3) := by decide +kernel
theorem dMo_block_105 : decode bMo_block 105 = .ok (.iload_n 1, 1) := by decide +kernel
theorem dMo_block_106 : decode bMo_block 106 = .ok (.iastore, 1) := by decide +kernel
theorem dMo_block_107 : decode bMo_block 107 = .ok (.aload_n 0, 1) := by decide +kernel
theorem dMo_block_108 : decode bMo_block 108 = .ok (.getfield 29, 3) := by decide +kernel
theorem dMo_block_111 : decode bMo_block 111 = .ok (.aload_n 0, 1) := by decide +kernel
theorem dMo_block_112 : decode bMo_block 112 = .ok (.getfield 96, 3) := by decide +kernel
theorem dMo_block_115 : decode bMo_block 115 = .ok (.iload_n 2, 1) := by decide +kernel
theorem dMo_block_116 : decode bMo_block 116 = .ok (.iastore, 1) := by decide +kernel
theorem dMo_block_117 : decode bMo_block 117 = .ok (.aload_n 0, 1) := by decide +kernel
theorem dMo_block_118 : decode bMo_block 118 = .ok (.getfield 32, 3) := by decide +kernel
theorem dMo_block_121 : decode bMo_block 121 = .ok (.aload_n 0, 1) := by decide +kernel
theorem dMo_block_122 : decode bMo_block 122 = .ok (.getfield 96, 3) := by decide +kernel
theorem dMo_block_125 : decode bMo_block 125 = .ok (.iload_n 3, 1) := by decide +kernel
theorem dMo_block_126 : decode bMo_block 126 = .ok (.iastore, 1) := by decide +kernel
theorem dMo_block_127 : decode bMo_block 127 = .ok (.aload_n 0, 1) := by decide +kernel
theorem dMo_block_128 : decode bMo_block 128 = .ok (.dup, 1) := by decide +kernel
theorem dMo_block_129 : decode bMo_block 129 = .ok (.getfield 96, 3) := by decide +kernel
theorem dMo_block_132 : decode bMo_block 132 = .ok (.iconst 1, 1) := by decide +kernel
theorem dMo_block_133 : decode bMo_block 133 = .ok (.iadd, 1) := by decide +kernel
theorem dMo_block_134 : decode bMo_block 134 = .ok (.putfield 96, 3) := by decide +kernel
theorem dMo_block_137 : decode bMo_block 137 = .ok (.aload_n 0, 1) := by decide +kernel
theorem dMo_block_138 : decode bMo_block 138 = .ok (.getfield 96, 3) := by decide +kernel
theorem dMo_block_141 : decode bMo_block 141 = .ok (.iconst 1, 1) := by decide +kernel
theorem dMo_block_142 : decode bMo_block 142 = .ok (.isub, 1) := by decide +kernel
theorem dMo_block_143 : decode bMo_block 143 = .ok (.ireturn, 1) := by decide +kernel
theorem dMo_tune_0 : decode bMo_tune 0 = .ok (.aload_n 0, 1) := by decide +kernel
theorem dMo_tune_1 : decode bMo_tune 1 = .ok (.iconst 0, 1) := by decide +kernel
theorem dMo_tune_2 : decode bMo_tune 2 = .ok (.putfield 74, 3) := by decide +kernel
theorem dMo_tune_5 : decode bMo_tune 5 = .ok (.iload_n 1, 1) := by decide +kernel
theorem dMo_tune_6 : decode bMo_tune 6 = .ok (.iconst 0, 1) := by decide +kernel
theorem dMo_tune_7 : decode bMo_tune 7 = .ok (.aload_n 0, 1) := by decide +kernel
theorem dMo_tune_8 : decode bMo_tune 8 = .ok (.getfield 96, 3) := by decide +kernel
theorem dMo_tune_11 : decode bMo_tune 11 = .ok (.iconst 1, 1) := by decide +kernel
theorem dMo_tune_12 : decode bMo_tune 12 = .ok (.isub, 1) := by decide +kernel
theorem dMo_tune_13 : decode bMo_tune 13 = .ok (.invokestatic 88, 3) := by decide +kernel
theorem dMo_tune_16 : decode bMo_tune 16 = .ok (.ifCond .ne 10, 3) := by decide +kernel
theorem dMo_tune_19 : decode bMo_tune 19 = .ok (.aload_n 0, 1) := by decide +kernel
theorem dMo_tune_20 : decode bMo_tune 20 = .ok (.iconst 1, 1) := by decide +kernel
theorem dMo_tune_21 : decode bMo_tune 21 = .ok (.invokevirtual 92, 3) := by decide +kernel
theorem dMo_tune_24 : decode bMo_tune 24 = .ok (.i2d, 1) := by decide +kernel
theorem dMo_tune_25 : decode bMo_tune 25 = .ok (.dreturn, 1) := by decide +kernel
theorem dMo_tune_26 : decode bMo_tune 26 = .ok (.aload_n 0, 1) := by decide +kernel
theorem dMo_tune_27 : decode bMo_tune 27 = .ok (.getfield 26, 3) := by decide +kernel
theorem dMo_tune_30 : decode bMo_tune 30 = .ok (.iload_n 1, 1) := by decide +kernel
theorem dMo_tune_31 : decode bMo_tune 31 = .ok (.iaload, 1) := by decide +kernel
theorem dMo_tune_32 : decode bMo_tune 32 = .ok (.iconst 5, 1) := by decide +kernel
theorem dMo_tune_33 : decode bMo_tune 33 = .ok (.if_icmp .ge 10, 3) := by decide +kernel
theorem dMo_tune_36 : decode bMo_tune 36 = .ok (.aload_n 0, 1) := by decide +kernel
theorem dMo_tune_37 : decode bMo_tune 37 = .ok (.iconst 2, 1) := by decide +kernel
theorem dMo_tune_38 : decode bMo_tune 38 = .ok (.invokevirtual 92, 3) := by decide +kernel
theorem dMo_tune_41 : decode bMo_tune 41 = .ok (.i2d, 1) := by decide +kernel
theorem dMo_tune_42 : decode bMo_tune 42 = .ok (.dreturn, 1) := by decide +kernel
theorem dMo_tune_43 : decode bMo_tune 43 = .ok (.dload_n 2, 1) := by decide +kernel
theorem dMo_tune_44 : decode bMo_tune 44 = .ok (.invokestatic 99, 3) := by decide +kernel
theorem dMo_tune_47 : decode bMo_tune 47 = .ok (.ifCond .eq 44, 3) := by decide +kernel
theorem dMo_tune_50 : decode bMo_tune 50 = .ok (.dload 4, 2) := by decide +kernel
theorem dMo_tune_52 : decode bMo_tune 52 = .ok (.invokestatic 99, 3) := by decide +kernel
theorem dMo_tune_55 : decode bMo_tune 55 = .ok (.ifCond .eq 36, 3) := by decide +kernel
theorem dMo_tune_58 : decode bMo_tune 58 = .ok (.dload_n 2, 1) := by decide +kernel
theorem dMo_tune_59 : decode bMo_tune 59 = .ok (.invokestatic 103, 3) := by decide +kernel
theorem dMo_tune_62 : decode bMo_tune 62 = .ok (.ifCond .eq 29, 3) := by decide +kernel
theorem dMo_tune_65 : decode bMo_tune 65 = .ok (.dload 4, 2) := by decide +kernel
theorem dMo_tune_67 : decode bMo_tune 67 = .ok (.invokestatic 103, 3) := by decide +kernel
theorem dMo_tune_70 : decode bMo_tune 70 = .ok (.ifCond .eq 21, 3) := by decide +kernel
theorem dMo_tune_73 : decode bMo_tune 73 = .ok (.aload_n 0, 1) := by decide +kernel
theorem dMo_tune_74 : decode bMo_tune 74 = .ok (.getfield 26, 3) := by decide +kernel
theorem dMo_tune_77 : decode bMo_tune 77 = .ok (.iload_n 1, 1) := by decide +kernel
theorem dMo_tune_78 : decode bMo_tune 78 = .ok (.iaload, 1) := by decide +kernel
theorem dMo_tune_79 : decode bMo_tune 79 = .ok (.bipush 7, 2) := by decide +kernel
theorem dMo_tune_81 : decode bMo_tune 81 = .ok (.if_icmp .ne 17, 3) := by decide +kernel
theorem dMo_tune_84 : decode bMo_tune 84 = .ok (.dload_n 2, 1) := by decide +kernel
theorem dMo_tune_85 : decode bMo_tune 85 = .ok (.dload 4, 2) := by decide +kernel
theorem dMo_tune_87 : decode bMo_tune 87 = .ok (.dcmp .g, 1) := by decide +kernel
theorem dMo_tune_88 : decode bMo_tune 88 = .ok (.ifCond .ge 10, 3) := by decide +kernel
theorem dMo_tune_91 : decode bMo_tune 91 = .ok (.aload_n 0, 1) := by decide +kernel
theorem dMo_tune_92 : decode bMo_tune 92 = .ok (.iconst 3, 1) := by decide +kernel
theorem dMo_tune_93 : decode bMo_tune 93 = .ok (.invokevirtual 92, 3) := by decide +kernel
theorem dMo_tune_96 : decode bMo_tune 96 = .ok (.i2d, 1) := by decide +kernel
theorem dMo_tune_97 : decode bMo_tune 97 = .ok (.dreturn, 1) := by decide +kernel
theorem dMo_tune_98 : decode bMo_tune 98 = .ok (.aload_n 0, 1) := by decide +kernel
theorem dMo_tune_99 : decode bMo_tune 99 = .ok (.getfield 35, 3) := by decide +kernel
theorem dMo_tune_102 : decode bMo_tune 102 = .ok (.iload_n 1, 1) := by decide +kernel
theorem dMo_tune_103 : decode bMo_tune 103 = .ok (.laload, 1) := by decide +kernel
theorem dMo_tune_104 : decode bMo_tune 104 = .ok (.lstore 6, 2) := by decide +kernel
theorem dMo_tune_106 : decode bMo_tune 106 = .ok (.aload_n 0, 1) := by decide +kernel
theorem dMo_tune_107 : decode bMo_tune 107 = .ok (.getfield 35, 3) := by decide +kernel
theorem dMo_tune_110 : decode bMo_tune 110 = .ok (.iload_n 1, 1) := by decide +kernel
theorem dMo_tune_111 : decode bMo_tune 111 = .ok (.dload_n 2, 1) := by decide +kernel
theorem dMo_tune_112 : decode bMo_tune 112 = .ok (.invokestatic 106, 3) := by decide +kernel
theorem dMo_tune_115 : decode bMo_tune 115 = .ok (.lastore, 1) := by decide +kernel
theorem dMo_tune_116 : decode bMo_tune 116 = .ok (.aload_n 0, 1) := by decide +kernel
theorem dMo_tune_117 : decode bMo_tune 117 = .ok (.getfield 38, 3) := by decide +kernel
theorem dMo_tune_120 : decode bMo_tune 120 = .ok (.iload_n 1, 1) := by decide +kernel
theorem dMo_tune_121 : decode bMo_tune 121 = .ok (.dload 4, 2) := by decide +kernel
theorem dMo_tune_123 : decode bMo_tune 123 = .ok (.invokestatic 106, 3) := by decide +kernel
theorem dMo_tune_126 : decode bMo_tune 126 = .ok (.lastore, 1) := by decide +kernel
theorem dMo_tune_127 : decode bMo_tune 127 = .ok (.lload 6, 2) := by decide +kernel
theorem dMo_tune_129 : decode bMo_tune 129 = .ok (.l2d, 1) := by decide +kernel
theorem dMo_tune_130 : decode bMo_tune 130 = .ok (.ldc2_w 110, 3) := by decide +kernel
theorem dMo_tune_133 : decode bMo_tune 133 = .ok (.dmul, 1) := by decide +kernel
theorem dMo_tune_134 : decode bMo_tune 134 = .ok (.dreturn, 1) := by decide +kernel
theorem dMo_fits_0 : decode bMo_fits 0 = .ok (.iload_n 1, 1) := by decide +kernel
theorem dMo_fits_1 : decode bMo_fits 1 = .ok (.iconst 0, 1) := by decide +kernel
theorem dMo_fits_2 : decode bMo_fits 2 = .ok (.iconst 5, 1) := by decide +kernel
theorem dMo_fits_3 : decode bMo_fits 3 = .ok (.invokestatic 88, 3) := by decide +kernel
theorem dMo_fits_6 : decode bMo_fits 6 = .ok (.ifCond .eq 11, 3) := by decide +kernel
theorem dMo_fits_9 : decode bMo_fits 9 = .ok (.iload_n 2, 1) := by decide +kernel
theorem dMo_fits_10 : decode bMo_fits 10 = .ok (.iconst 0, 1) := by decide +kernel
theorem dMo_fits_11 : decode bMo_fits 11 = .ok (.bipush 31, 2) := by decide +kernel
theorem dMo_fits_13 : decode bMo_fits 13 = .ok (.invokestatic 88, 3) := by decide +kernel
theorem dMo_fits_16 : decode bMo_fits 16 = .ok (.ireturn, 1) := by decide +kernel
theorem dMo_fits_17 : decode bMo_fits 17 = .ok (.iload_n 1, 1) := by decide +kernel
theorem dMo_fits_18 : decode bMo_fits 18 = .ok (.tableswitch 85 6 13 #[46, 46, 48, 56, 68, 68, 68, 77], 46) := by decide +kernel
theorem dMo_fits_64 : decode bMo_fits 64 = .ok (.iconst 1, 1) := by decide +kernel
theorem dMo_fits_65 : decode bMo_fits 65 = .ok (.ireturn, 1) := by decide +kernel
theorem dMo_fits_66 : decode bMo_fits 66 = .ok (.iload_n 2, 1) := by decide +kernel
theorem dMo_fits_67 : decode bMo_fits 67 = .ok (.iconst 0, 1) := by decide +kernel
theorem dMo_fits_68 : decode bMo_fits 68 = .ok (.bipush 63, 2) := by decide +kernel
theorem dMo_fits_70 : decode bMo_fits 70 = .ok (.invokestatic 88, 3) := by decide +kernel
theorem dMo_fits_73 : decode bMo_fits 73 = .ok (.ireturn, 1) := by decide +kernel
theorem dMo_fits_74 : decode bMo_fits 74 = .ok (.iload_n 2, 1) := by decide +kernel
theorem dMo_fits_75 : decode bMo_fits 75 = .ok (.iconst 0, 1) := by decide +kernel
theorem dMo_fits_76 : decode bMo_fits 76 = .ok (.aload_n 0, 1) := by decide +kernel
theorem dMo_fits_77 : decode bMo_fits 77 = .ok (.getfield 96, 3) := by decide +kernel
theorem dMo_fits_80 : decode bMo_fits 80 = .ok (.iconst 1, 1) := by decide +kernel
theorem dMo_fits_81 : decode bMo_fits 81 = .ok (.isub, 1) := by decide +kernel
theorem dMo_fits_82 : decode bMo_fits 82 = .ok (.invokestatic 88, 3) := by decide +kernel
theorem dMo_fits_85 : decode bMo_fits 85 = .ok (.ireturn, 1) := by decide +kernel
theorem dMo_fits_86 : decode bMo_fits 86 = .ok (.iload_n 2, 1) := by decide +kernel
theorem dMo_fits_87 : decode bMo_fits 87 = .ok (.bipush 8, 2) := by decide +kernel
theorem dMo_fits_89 : decode bMo_fits 89 = .ok (.bipush 31, 2) := by decide +kernel
theorem dMo_fits_91 : decode bMo_fits 91 = .ok (.invokestatic 88, 3) := by decide +kernel
theorem dMo_fits_94 : decode bMo_fits 94 = .ok (.ireturn, 1) := by decide +kernel
theorem dMo_fits_95 : decode bMo_fits 95 = .ok (.iload_n 2, 1) := by decide +kernel
theorem dMo_fits_96 : decode bMo_fits 96 = .ok (.iconst 0, 1) := by decide +kernel
theorem dMo_fits_97 : decode bMo_fits 97 = .ok (.bipush 11, 2) := by decide +kernel
theorem dMo_fits_99 : decode bMo_fits 99 = .ok (.invokestatic 88, 3) := by decide +kernel
theorem dMo_fits_102 : decode bMo_fits 102 = .ok (.ireturn, 1) := by decide +kernel
theorem dMo_fits_103 : decode bMo_fits 103 = .ok (.iconst 0, 1) := by decide +kernel
theorem dMo_fits_104 : decode bMo_fits 104 = .ok (.ireturn, 1) := by decide +kernel
theorem dMo_pushes_0 : decode bMo_pushes 0 = .ok (.iload_n 0, 1) := by decide +kernel
theorem dMo_pushes_1 : decode bMo_pushes 1 = .ok (.iconst 2, 1) := by decide +kernel
theorem dMo_pushes_2 : decode bMo_pushes 2 = .ok (.if_icmp .lt 9, 3) := by decide +kernel
theorem dMo_pushes_5 : decode bMo_pushes 5 = .ok (.iload_n 0, 1) := by decide +kernel
theorem dMo_pushes_6 : decode bMo_pushes 6 = .ok (.bipush 8, 2) := by decide +kernel
theorem dMo_pushes_8 : decode bMo_pushes 8 = .ok (.if_icmp .ne 7, 3) := by decide +kernel
theorem dMo_pushes_11 : decode bMo_pushes 11 = .ok (.iconst 1, 1) := by decide +kernel
theorem dMo_pushes_12 : decode bMo_pushes 12 = .ok (.goto 4, 3) := by decide +kernel
theorem dMo_pushes_15 : decode bMo_pushes 15 = .ok (.iconst 0, 1) := by decide +kernel
theorem dMo_pushes_16 : decode bMo_pushes 16 = .ok (.ireturn, 1) := by decide +kernel
theorem dMo_joins_0 : decode bMo_joins 0 = .ok (.iload_n 0, 1) := by decide +kernel
theorem dMo_joins_1 : decode bMo_joins 1 = .ok (.bipush 6, 2) := by decide +kernel
theorem dMo_joins_3 : decode bMo_joins 3 = .ok (.if_icmp .eq 9, 3) := by decide +kernel
theorem dMo_joins_6 : decode bMo_joins 6 = .ok (.iload_n 0, 1) := by decide +kernel
theorem dMo_joins_7 : decode bMo_joins 7 = .ok (.bipush 7, 2) := by decide +kernel
theorem dMo_joins_9 : decode bMo_joins 9 = .ok (.if_icmp .ne 7, 3) := by decide +kernel
theorem dMo_joins_12 : decode bMo_joins 12 = .ok (.iconst 1, 1) := by decide +kernel
theorem dMo_joins_13 : decode bMo_joins 13 = .ok (.goto 4, 3) := by decide +kernel
theorem dMo_joins_16 : decode bMo_joins 16 = .ok (.iconst 0, 1) := by decide +kernel
theorem dMo_joins_17 : decode bMo_joins 17 = .ok (.ireturn, 1) := by decide +kernel
theorem dMo_step_0 : decode bMo_step 0 = .ok (.aload_n 0, 1) := by decide +kernel
theorem dMo_step_1 : decode bMo_step 1 = .ok (.iconst 0, 1) := by decide +kernel
theorem dMo_step_2 : decode bMo_step 2 = .ok (.putfield 74, 3) := by decide +kernel
theorem dMo_step_5 : decode bMo_step 5 = .ok (.iload_n 1, 1) := by decide +kernel
theorem dMo_step_6 : decode bMo_step 6 = .ok (.iconst 0, 1) := by decide +kernel
theorem dMo_step_7 : decode bMo_step 7 = .ok (.bipush 11, 2) := by decide +kernel
theorem dMo_step_9 : decode bMo_step 9 = .ok (.invokestatic 88, 3) := by decide +kernel
theorem dMo_step_12 : decode bMo_step 12 = .ok (.ifCond .eq 12, 3) := by decide +kernel
theorem dMo_step_15 : decode bMo_step 15 = .ok (.aload_n 0, 1) := by decide +kernel
theorem dMo_step_16 : decode bMo_step 16 = .ok (.iload_n 2, 1) := by decide +kernel
theorem dMo_step_17 : decode bMo_step 17 = .ok (.iload_n 3, 1) := by decide +kernel
theorem dMo_step_18 : decode bMo_step 18 = .ok (.invokevirtual 112, 3) := by decide +kernel
theorem dMo_step_21 : decode bMo_step 21 = .ok (.ifCond .ne 9, 3) := by decide +kernel
theorem dMo_step_24 : decode bMo_step 24 = .ok (.aload_n 0, 1) := by decide +kernel
theorem dMo_step_25 : decode bMo_step 25 = .ok (.iconst 1, 1) := by decide +kernel
theorem dMo_step_26 : decode bMo_step 26 = .ok (.invokevirtual 92, 3) := by decide +kernel
theorem dMo_step_29 : decode bMo_step 29 = .ok (.ireturn, 1) := by decide +kernel
theorem dMo_step_30 : decode bMo_step 30 = .ok (.aload_n 0, 1) := by decide +kernel
theorem dMo_step_31 : decode bMo_step 31 = .ok (.getfield 59, 3) := by decide +kernel
theorem dMo_step_34 : decode bMo_step 34 = .ok (.iload_n 1, 1) := by decide +kernel
theorem dMo_step_35 : decode bMo_step 35 = .ok (.iaload, 1) := by decide +kernel
theorem dMo_step_36 : decode bMo_step 36 = .ok (.istore 4, 2) := by decide +kernel
theorem dMo_step_38 : decode bMo_step 38 = .ok (.iload_n 2, 1) := by decide +kernel
theorem dMo_step_39 : decode bMo_step 39 = .ok (.invokestatic 116, 3) := by decide +kernel
theorem dMo_step_42 : decode bMo_step 42 = .ok (.ifCond .eq 12, 3) := by decide +kernel
theorem dMo_step_45 : decode bMo_step 45 = .ok (.iload 4, 2) := by decide +kernel
theorem dMo_step_47 : decode bMo_step 47 = .ok (.iconst 4, 1) := by decide +kernel
theorem dMo_step_48 : decode bMo_step 48 = .ok (.if_icmp .ne 29, 3) := by decide +kernel
theorem dMo_step_51 : decode bMo_step 51 = .ok (.goto 20, 3) := by decide +kernel
theorem dMo_step_54 : decode bMo_step 54 = .ok (.iload 4, 2) := by decide +kernel
theorem dMo_step_56 : decode bMo_step 56 = .ok (.iload_n 2, 1) := by decide +kernel
theorem dMo_step_57 : decode bMo_step 57 = .ok (.invokestatic 120, 3) := by decide +kernel
theorem dMo_step_60 : decode bMo_step 60 = .ok (.ifCond .eq 7, 3) := by decide +kernel
theorem dMo_step_63 : decode bMo_step 63 = .ok (.iconst 2, 1) := by decide +kernel
theorem dMo_step_64 : decode bMo_step 64 = .ok (.goto 4, 3) := by decide +kernel
theorem dMo_step_67 : decode bMo_step 67 = .ok (.iconst 1, 1) := by decide +kernel
theorem dMo_step_68 : decode bMo_step 68 = .ok (.if_icmp .ge 9, 3) := by decide +kernel
theorem dMo_step_71 : decode bMo_step 71 = .ok (.aload_n 0, 1) := by decide +kernel
theorem dMo_step_72 : decode bMo_step 72 = .ok (.iconst 2, 1) := by decide +kernel
theorem dMo_step_73 : decode bMo_step 73 = .ok (.invokevirtual 92, 3) := by decide +kernel
theorem dMo_step_76 : decode bMo_step 76 = .ok (.ireturn, 1) := by decide +kernel
theorem dMo_step_77 : decode bMo_step 77 = .ok (.aload_n 0, 1) := by decide +kernel
theorem dMo_step_78 : decode bMo_step 78 = .ok (.getfield 56, 3) := by decide +kernel
theorem dMo_step_81 : decode bMo_step 81 = .ok (.iload_n 1, 1) := by decide +kernel
theorem dMo_step_82 : decode bMo_step 82 = .ok (.iaload, 1) := by decide +kernel
theorem dMo_step_83 : decode bMo_step 83 = .ok (.bipush 10, 2) := by decide +kernel
theorem dMo_step_85 : decode bMo_step 85 = .ok (.if_icmp .ne 9, 3) := by decide +kernel
theorem dMo_step_88 : decode bMo_step 88 = .ok (.aload_n 0, 1) := by decide +kernel
theorem dMo_step_89 : decode bMo_step 89 = .ok (.iconst 3, 1) := by decide +kernel
theorem dMo_step_90 : decode bMo_step 90 = .ok (.invokevirtual 92, 3) := by decide +kernel
theorem dMo_step_93 : decode bMo_step 93 = .ok (.ireturn, 1) := by decide +kernel
theorem dMo_step_94 : decode bMo_step 94 = .ok (.aload_n 0, 1) := by decide +kernel
theorem dMo_step_95 : decode bMo_step 95 = .ok (.getfield 50, 3) := by decide +kernel
theorem dMo_step_98 : decode bMo_step 98 = .ok (.bipush 10, 2) := by decide +kernel
theorem dMo_step_100 : decode bMo_step 100 = .ok (.iload_n 1, 1) := by decide +kernel
theorem dMo_step_101 : decode bMo_step 101 = .ok (.imul, 1) := by decide +kernel
theorem dMo_step_102 : decode bMo_step 102 = .ok (.aload_n 0, 1) := by decide +kernel
theorem dMo_step_103 : decode bMo_step 103 = .ok (.getfield 56, 3) := by decide +kernel
theorem dMo_step_106 : decode bMo_step 106 = .ok (.iload_n 1, 1) := by decide +kernel
theorem dMo_step_107 : decode bMo_step 107 = .ok (.iaload, 1) := by decide +kernel
theorem dMo_step_108 : decode bMo_step 108 = .ok (.iadd, 1) := by decide +kernel
theorem dMo_step_109 : decode bMo_step 109 = .ok (.iload_n 2, 1) := by decide +kernel
theorem dMo_step_110 : decode bMo_step 110 = .ok (.iastore, 1) := by decide +kernel
theorem dMo_step_111 : decode bMo_step 111 = .ok (.aload_n 0, 1) := by decide +kernel
theorem dMo_step_112 : decode bMo_step 112 = .ok (.getfield 53, 3) := by decide +kernel
theorem dMo_step_115 : decode bMo_step 115 = .ok (.bipush 10, 2) := by decide +kernel
theorem dMo_step_117 : decode bMo_step 117 = .ok (.iload_n 1, 1) := by decide +kernel
theorem dMo_step_118 : decode bMo_step 118 = .ok (.imul, 1) := by decide +kernel
theorem dMo_step_119 : decode bMo_step 119 = .ok (.aload_n 0, 1) := by decide +kernel
theorem dMo_step_120 : decode bMo_step 120 = .ok (.getfield 56, 3) := by decide +kernel
theorem dMo_step_123 : decode bMo_step 123 = .ok (.iload_n 1, 1) := by decide +kernel
theorem dMo_step_124 : decode bMo_step 124 = .ok (.iaload, 1) := by decide +kernel
theorem dMo_step_125 : decode bMo_step 125 = .ok (.iadd, 1) := by decide +kernel
theorem dMo_step_126 : decode bMo_step 126 = .ok (.iload_n 3, 1) := by decide +kernel
theorem dMo_step_127 : decode bMo_step 127 = .ok (.iastore, 1) := by decide +kernel
theorem dMo_step_128 : decode bMo_step 128 = .ok (.aload_n 0, 1) := by decide +kernel
theorem dMo_step_129 : decode bMo_step 129 = .ok (.getfield 56, 3) := by decide +kernel
theorem dMo_step_132 : decode bMo_step 132 = .ok (.iload_n 1, 1) := by decide +kernel
theorem dMo_step_133 : decode bMo_step 133 = .ok (.dup2, 1) := by decide +kernel
theorem dMo_step_134 : decode bMo_step 134 = .ok (.iaload, 1) := by decide +kernel
theorem dMo_step_135 : decode bMo_step 135 = .ok (.iconst 1, 1) := by decide +kernel
theorem dMo_step_136 : decode bMo_step 136 = .ok (.iadd, 1) := by decide +kernel
theorem dMo_step_137 : decode bMo_step 137 = .ok (.iastore, 1) := by decide +kernel
theorem dMo_step_138 : decode bMo_step 138 = .ok (.aload_n 0, 1) := by decide +kernel
theorem dMo_step_139 : decode bMo_step 139 = .ok (.getfield 59, 3) := by decide +kernel
theorem dMo_step_142 : decode bMo_step 142 = .ok (.iload_n 1, 1) := by decide +kernel
theorem dMo_step_143 : decode bMo_step 143 = .ok (.iload_n 2, 1) := by decide +kernel
theorem dMo_step_144 : decode bMo_step 144 = .ok (.invokestatic 116, 3) := by decide +kernel
theorem dMo_step_147 : decode bMo_step 147 = .ok (.ifCond .eq 10, 3) := by decide +kernel
theorem dMo_step_150 : decode bMo_step 150 = .ok (.iload 4, 2) := by decide +kernel
theorem dMo_step_152 : decode bMo_step 152 = .ok (.iconst 1, 1) := by decide +kernel
theorem dMo_step_153 : decode bMo_step 153 = .ok (.iadd, 1) := by decide +kernel
theorem dMo_step_154 : decode bMo_step 154 = .ok (.goto 19, 3) := by decide +kernel
theorem dMo_step_157 : decode bMo_step 157 = .ok (.iload_n 2, 1) := by decide +kernel
theorem dMo_step_158 : decode bMo_step 158 = .ok (.invokestatic 120, 3) := by decide +kernel
theorem dMo_step_161 : decode bMo_step 161 = .ok (.ifCond .eq 10, 3) := by decide +kernel
theorem dMo_step_164 : decode bMo_step 164 = .ok (.iload 4, 2) := by decide +kernel
theorem dMo_step_166 : decode bMo_step 166 = .ok (.iconst 1, 1) := by decide +kernel
theorem dMo_step_167 : decode bMo_step 167 = .ok (.isub, 1) := by decide +kernel
theorem dMo_step_168 : decode bMo_step 168 = .ok (.goto 5, 3) := by decide +kernel
theorem dMo_step_171 : decode bMo_step 171 = .ok (.iload 4, 2) := by decide +kernel
theorem dMo_step_173 : decode bMo_step 173 = .ok (.iastore, 1) := by decide +kernel
theorem dMo_step_174 : decode bMo_step 174 = .ok (.aload_n 0, 1) := by decide +kernel
theorem dMo_step_175 : decode bMo_step 175 = .ok (.getfield 59, 3) := by decide +kernel
theorem dMo_step_178 : decode bMo_step 178 = .ok (.iload_n 1, 1) := by decide +kernel
theorem dMo_step_179 : decode bMo_step 179 = .ok (.iaload, 1) := by decide +kernel
theorem dMo_step_180 : decode bMo_step 180 = .ok (.ireturn, 1) := by decide +kernel
theorem dMo_erase_0 : decode bMo_erase 0 = .ok (.aload_n 0, 1) := by decide +kernel
theorem dMo_erase_1 : decode bMo_erase 1 = .ok (.iconst 0, 1) := by decide +kernel
theorem dMo_erase_2 : decode bMo_erase 2 = .ok (.putfield 74, 3) := by decide +kernel
theorem dMo_erase_5 : decode bMo_erase 5 = .ok (.iload_n 1, 1) := by decide +kernel
theorem dMo_erase_6 : decode bMo_erase 6 = .ok (.iconst 0, 1) := by decide +kernel
theorem dMo_erase_7 : decode bMo_erase 7 = .ok (.bipush 11, 2) := by decide +kernel
theorem dMo_erase_9 : decode bMo_erase 9 = .ok (.invokestatic 88, 3) := by decide +kernel
theorem dMo_erase_12 : decode bMo_erase 12 = .ok (.ifCond .ne 9, 3) := by decide +kernel
theorem dMo_erase_15 : decode bMo_erase 15 = .ok (.aload_n 0, 1) := by decide +kernel
theorem dMo_erase_16 : decode bMo_erase 16 = .ok (.iconst 1, 1) := by decide +kernel
theorem dMo_erase_17 : decode bMo_erase 17 = .ok (.invokevirtual 92, 3) := by decide +kernel
theorem dMo_erase_20 : decode bMo_erase 20 = .ok (.ireturn, 1) := by decide +kernel
theorem dMo_erase_21 : decode bMo_erase 21 = .ok (.aload_n 0, 1) := by decide +kernel
theorem dMo_erase_22 : decode bMo_erase 22 = .ok (.getfield 56, 3) := by decide +kernel
theorem dMo_erase_25 : decode bMo_erase 25 = .ok (.iload_n 1, 1) := by decide +kernel
theorem dMo_erase_26 : decode bMo_erase 26 = .ok (.iaload, 1) := by decide +kernel
theorem dMo_erase_27 : decode bMo_erase 27 = .ok (.istore_n 2, 1) := by decide +kernel
theorem dMo_erase_28 : decode bMo_erase 28 = .ok (.aload_n 0, 1) := by decide +kernel
theorem dMo_erase_29 : decode bMo_erase 29 = .ok (.getfield 56, 3) := by decide +kernel
theorem dMo_erase_32 : decode bMo_erase 32 = .ok (.iload_n 1, 1) := by decide +kernel
theorem dMo_erase_33 : decode bMo_erase 33 = .ok (.iconst 0, 1) := by decide +kernel
theorem dMo_erase_34 : decode bMo_erase 34 = .ok (.iastore, 1) := by decide +kernel
theorem dMo_erase_35 : decode bMo_erase 35 = .ok (.aload_n 0, 1) := by decide +kernel
theorem dMo_erase_36 : decode bMo_erase 36 = .ok (.getfield 59, 3) := by decide +kernel
theorem dMo_erase_39 : decode bMo_erase 39 = .ok (.iload_n 1, 1) := by decide +kernel
theorem dMo_erase_40 : decode bMo_erase 40 = .ok (.iconst 0, 1) := by decide +kernel
theorem dMo_erase_41 : decode bMo_erase 41 = .ok (.iastore, 1) := by decide +kernel
theorem dMo_erase_42 : decode bMo_erase 42 = .ok (.iload_n 2, 1) := by decide +kernel
theorem dMo_erase_43 : decode bMo_erase 43 = .ok (.ireturn, 1) := by decide +kernel
theorem dMo_download_0 : decode bMo_download 0 = .ok (.aload_n 0, 1) := by decide +kernel
theorem dMo_download_1 : decode bMo_download 1 = .ok (.iconst 0, 1) := by decide +kernel
theorem dMo_download_2 : decode bMo_download 2 = .ok (.putfield 74, 3) := by decide +kernel
theorem dMo_download_5 : decode bMo_download 5 = .ok (.iconst 0, 1) := by decide +kernel
theorem dMo_download_6 : decode bMo_download 6 = .ok (.istore_n 1, 1) := by decide +kernel
theorem dMo_download_7 : decode bMo_download 7 = .ok (.iconst 0, 1) := by decide +kernel
theorem dMo_download_8 : decode bMo_download 8 = .ok (.istore_n 2, 1) := by decide +kernel
theorem dMo_download_9 : decode bMo_download 9 = .ok (.iload_n 2, 1) := by decide +kernel
theorem dMo_download_10 : decode bMo_download 10 = .ok (.bipush 120, 2) := by decide +kernel
theorem dMo_download_12 : decode bMo_download 12 = .ok (.if_icmp .ge 33, 3) := by decide +kernel
theorem dMo_download_15 : decode bMo_download 15 = .ok (.aload_n 0, 1) := by decide +kernel
theorem dMo_download_16 : decode bMo_download 16 = .ok (.getfield 62, 3) := by decide +kernel
theorem dMo_download_19 : decode bMo_download 19 = .ok (.iload_n 2, 1) := by decide +kernel
theorem dMo_download_20 : decode bMo_download 20 = .ok (.aload_n 0, 1) := by decide +kernel
theorem dMo_download_21 : decode bMo_download 21 = .ok (.getfield 50, 3) := by decide +kernel
theorem dMo_download_24 : decode bMo_download 24 = .ok (.iload_n 2, 1) := by decide +kernel
theorem dMo_download_25 : decode bMo_download 25 = .ok (.iaload, 1) := by decide +kernel
theorem dMo_download_26 : decode bMo_download 26 = .ok (.iastore, 1) := by decide +kernel
theorem dMo_download_27 : decode bMo_download 27 = .ok (.aload_n 0, 1) := by decide +kernel
theorem dMo_download_28 : decode bMo_download 28 = .ok (.getfield 65, 3) := by decide +kernel
theorem dMo_download_31 : decode bMo_download 31 = .ok (.iload_n 2, 1) := by decide +kernel
theorem dMo_download_32 : decode bMo_download 32 = .ok (.aload_n 0, 1) := by decide +kernel
theorem dMo_download_33 : decode bMo_download 33 = .ok (.getfield 53, 3) := by decide +kernel
theorem dMo_download_36 : decode bMo_download 36 = .ok (.iload_n 2, 1) := by decide +kernel
theorem dMo_download_37 : decode bMo_download 37 = .ok (.iaload, 1) := by decide +kernel
theorem dMo_download_38 : decode bMo_download 38 = .ok (.iastore, 1) := by decide +kernel
theorem dMo_download_39 : decode bMo_download 39 = .ok (.iinc 2 1, 3) := by decide +kernel
theorem dMo_download_42 : decode bMo_download 42 = .ok (.goto (-33), 3) := by decide +kernel
theorem dMo_download_45 : decode bMo_download 45 = .ok (.iconst 0, 1) := by decide +kernel
theorem dMo_download_46 : decode bMo_download 46 = .ok (.istore_n 2, 1) := by decide +kernel
theorem dMo_download_47 : decode bMo_download 47 = .ok (.iload_n 2, 1) := by decide +kernel
theorem dMo_download_48 : decode bMo_download 48 = .ok (.bipush 12, 2) := by decide +kernel
theorem dMo_download_50 : decode bMo_download 50 = .ok (.if_icmp .ge 30, 3) := by decide +kernel
theorem dMo_download_53 : decode bMo_download 53 = .ok (.aload_n 0, 1) := by decide +kernel
theorem dMo_download_54 : decode bMo_download 54 = .ok (.getfield 68, 3) := by decide +kernel
theorem dMo_download_57 : decode bMo_download 57 = .ok (.iload_n 2, 1) := by decide +kernel
theorem dMo_download_58 : decode bMo_download 58 = .ok (.aload_n 0, 1) := by decide +kernel
theorem dMo_download_59 : decode bMo_download 59 = .ok (.getfield 56, 3) := by decide +kernel
theorem dMo_download_62 : decode bMo_download 62 = .ok (.iload_n 2, 1) := by decide +kernel
theorem dMo_download_63 : decode bMo_download 63 = .ok (.iaload, 1) := by decide +kernel
theorem dMo_download_64 : decode bMo_download 64 = .ok (.iastore, 1) := by decide +kernel
theorem dMo_download_65 : decode bMo_download 65 = .ok (.iload_n 1, 1) := by decide +kernel
theorem dMo_download_66 : decode bMo_download 66 = .ok (.aload_n 0, 1) := by decide +kernel
theorem dMo_download_67 : decode bMo_download 67 = .ok (.getfield 56, 3) := by decide +kernel
theorem dMo_download_70 : decode bMo_download 70 = .ok (.iload_n 2, 1) := by decide +kernel
theorem dMo_download_71 : decode bMo_download 71 = .ok (.iaload, 1) := by decide +kernel
theorem dMo_download_72 : decode bMo_download 72 = .ok (.iadd, 1) := by decide +kernel
theorem dMo_download_73 : decode bMo_download 73 = .ok (.istore_n 1, 1) := by decide +kernel
theorem dMo_download_74 : decode bMo_download 74 = .ok (.iinc 2 1, 3) := by decide +kernel
theorem dMo_download_77 : decode bMo_download 77 = .ok (.goto (-30), 3) := by decide +kernel
theorem dMo_download_80 : decode bMo_download 80 = .ok (.iload_n 1, 1) := by decide +kernel
theorem dMo_download_81 : decode bMo_download 81 = .ok (.ireturn, 1) := by decide +kernel
theorem dMo_wire_0 : decode bMo_wire 0 = .ok (.aload_n 0, 1) := by decide +kernel
theorem dMo_wire_1 : decode bMo_wire 1 = .ok (.iconst 0, 1) := by decide +kernel
theorem dMo_wire_2 : decode bMo_wire 2 = .ok (.putfield 74, 3) := by decide +kernel
theorem dMo_wire_5 : decode bMo_wire 5 = .ok (.iload_n 1, 1) := by decide +kernel
theorem dMo_wire_6 : decode bMo_wire 6 = .ok (.iconst 0, 1) := by decide +kernel
theorem dMo_wire_7 : decode bMo_wire 7 = .ok (.bipush 7, 2) := by decide +kernel
theorem dMo_wire_9 : decode bMo_wire 9 = .ok (.invokestatic 88, 3) := by decide +kernel
theorem dMo_wire_12 : decode bMo_wire 12 = .ok (.ifCond .eq 12, 3) := by decide +kernel
theorem dMo_wire_15 : decode bMo_wire 15 = .ok (.iload_n 2, 1) := by decide +kernel
theorem dMo_wire_16 : decode bMo_wire 16 = .ok (.iconst 0, 1) := by decide +kernel
theorem dMo_wire_17 : decode bMo_wire 17 = .ok (.iconst 1, 1) := by decide +kernel
theorem dMo_wire_18 : decode bMo_wire 18 = .ok (.invokestatic 88, 3) := by decide +kernel
theorem dMo_wire_21 : decode bMo_wire 21 = .ok (.ifCond .ne 9, 3) := by decide +kernel
theorem dMo_wire_24 : decode bMo_wire 24 = .ok (.aload_n 0, 1) := by decide +kernel
theorem dMo_wire_25 : decode bMo_wire 25 = .ok (.iconst 1, 1) := by decide +kernel
theorem dMo_wire_26 : decode bMo_wire 26 = .ok (.invokevirtual 92, 3) := by decide +kernel
theorem dMo_wire_29 : decode bMo_wire 29 = .ok (.ireturn, 1) := by decide +kernel
theorem dMo_wire_30 : decode bMo_wire 30 = .ok (.aload_n 0, 1) := by decide +kernel
theorem dMo_wire_31 : decode bMo_wire 31 = .ok (.getfield 16, 3) := by decide +kernel
theorem dMo_wire_34 : decode bMo_wire 34 = .ok (.iload_n 1, 1) := by decide +kernel
theorem dMo_wire_35 : decode bMo_wire 35 = .ok (.iaload, 1) := by decide +kernel
theorem dMo_wire_36 : decode bMo_wire 36 = .ok (.istore_n 3, 1) := by decide +kernel
theorem dMo_wire_37 : decode bMo_wire 37 = .ok (.aload_n 0, 1) := by decide +kernel
theorem dMo_wire_38 : decode bMo_wire 38 = .ok (.getfield 16, 3) := by decide +kernel
theorem dMo_wire_41 : decode bMo_wire 41 = .ok (.iload_n 1, 1) := by decide +kernel
theorem dMo_wire_42 : decode bMo_wire 42 = .ok (.iload_n 2, 1) := by decide +kernel
theorem dMo_wire_43 : decode bMo_wire 43 = .ok (.iastore, 1) := by decide +kernel
theorem dMo_wire_44 : decode bMo_wire 44 = .ok (.iload_n 3, 1) := by decide +kernel
theorem dMo_wire_45 : decode bMo_wire 45 = .ok (.ireturn, 1) := by decide +kernel
theorem dMo_put_0 : decode bMo_put 0 = .ok (.aload_n 0, 1) := by decide +kernel
theorem dMo_put_1 : decode bMo_put 1 = .ok (.iconst 0, 1) := by decide +kernel
theorem dMo_put_2 : decode bMo_put 2 = .ok (.putfield 74, 3) := by decide +kernel
theorem dMo_put_5 : decode bMo_put 5 = .ok (.iload_n 1, 1) := by decide +kernel
theorem dMo_put_6 : decode bMo_put 6 = .ok (.iconst 0, 1) := by decide +kernel
theorem dMo_put_7 : decode bMo_put 7 = .ok (.bipush 7, 2) := by decide +kernel
theorem dMo_put_9 : decode bMo_put 9 = .ok (.invokestatic 88, 3) := by decide +kernel
theorem dMo_put_12 : decode bMo_put 12 = .ok (.ifCond .eq 10, 3) := by decide +kernel
theorem dMo_put_15 : decode bMo_put 15 = .ok (.dload_n 2, 1) := by decide +kernel
theorem dMo_put_16 : decode bMo_put 16 = .ok (.invokestatic 99, 3) := by decide +kernel
theorem dMo_put_19 : decode bMo_put 19 = .ok (.ifCond .ne 10, 3) := by decide +kernel
theorem dMo_put_22 : decode bMo_put 22 = .ok (.aload_n 0, 1) := by decide +kernel
theorem dMo_put_23 : decode bMo_put 23 = .ok (.iconst 1, 1) := by decide +kernel
theorem dMo_put_24 : decode bMo_put 24 = .ok (.invokevirtual 92, 3) := by decide +kernel
theorem dMo_put_27 : decode bMo_put 27 = .ok (.i2d, 1) := by decide +kernel
theorem dMo_put_28 : decode bMo_put 28 = .ok (.dreturn, 1) := by decide +kernel
theorem dMo_put_29 : decode bMo_put 29 = .ok (.aload_n 0, 1) := by decide +kernel
theorem dMo_put_30 : decode bMo_put 30 = .ok (.getfield 22, 3) := by decide +kernel
theorem dMo_put_33 : decode bMo_put 33 = .ok (.iload_n 1, 1) := by decide +kernel
theorem dMo_put_34 : decode bMo_put 34 = .ok (.laload, 1) := by decide +kernel
theorem dMo_put_35 : decode bMo_put 35 = .ok (.lstore 4, 2) := by decide +kernel
theorem dMo_put_37 : decode bMo_put 37 = .ok (.aload_n 0, 1) := by decide +kernel
theorem dMo_put_38 : decode bMo_put 38 = .ok (.getfield 22, 3) := by decide +kernel
theorem dMo_put_41 : decode bMo_put 41 = .ok (.iload_n 1, 1) := by decide +kernel
theorem dMo_put_42 : decode bMo_put 42 = .ok (.dload_n 2, 1) := by decide +kernel
theorem dMo_put_43 : decode bMo_put 43 = .ok (.invokestatic 106, 3) := by decide +kernel
theorem dMo_put_46 : decode bMo_put 46 = .ok (.lastore, 1) := by decide +kernel
theorem dMo_put_47 : decode bMo_put 47 = .ok (.lload 4, 2) := by decide +kernel
theorem dMo_put_49 : decode bMo_put 49 = .ok (.l2d, 1) := by decide +kernel
theorem dMo_put_50 : decode bMo_put 50 = .ok (.ldc2_w 110, 3) := by decide +kernel
theorem dMo_put_53 : decode bMo_put 53 = .ok (.dmul, 1) := by decide +kernel
theorem dMo_put_54 : decode bMo_put 54 = .ok (.dreturn, 1) := by decide +kernel
theorem dMo_force_0 : decode bMo_force 0 = .ok (.aload_n 0, 1) := by decide +kernel
theorem dMo_force_1 : decode bMo_force 1 = .ok (.iconst 0, 1) := by decide +kernel
theorem dMo_force_2 : decode bMo_force 2 = .ok (.putfield 74, 3) := by decide +kernel
theorem dMo_force_5 : decode bMo_force 5 = .ok (.iload_n 1, 1) := by decide +kernel
theorem dMo_force_6 : decode bMo_force 6 = .ok (.iconst 0, 1) := by decide +kernel
theorem dMo_force_7 : decode bMo_force 7 = .ok (.bipush 31, 2) := by decide +kernel
theorem dMo_force_9 : decode bMo_force 9 = .ok (.invokestatic 88, 3) := by decide +kernel
theorem dMo_force_12 : decode bMo_force 12 = .ok (.ifCond .eq 12, 3) := by decide +kernel
theorem dMo_force_15 : decode bMo_force 15 = .ok (.iload_n 2, 1) := by decide +kernel
theorem dMo_force_16 : decode bMo_force 16 = .ok (.iconst (-1), 1) := by decide +kernel
theorem dMo_force_17 : decode bMo_force 17 = .ok (.iconst 1, 1) := by decide +kernel
theorem dMo_force_18 : decode bMo_force 18 = .ok (.invokestatic 88, 3) := by decide +kernel
theorem dMo_force_21 : decode bMo_force 21 = .ok (.ifCond .ne 9, 3) := by decide +kernel
theorem dMo_force_24 : decode bMo_force 24 = .ok (.aload_n 0, 1) := by decide +kernel
theorem dMo_force_25 : decode bMo_force 25 = .ok (.iconst 1, 1) := by decide +kernel
theorem dMo_force_26 : decode bMo_force 26 = .ok (.invokevirtual 92, 3) := by decide +kernel
theorem dMo_force_29 : decode bMo_force 29 = .ok (.ireturn, 1) := by decide +kernel
theorem dMo_force_30 : decode bMo_force 30 = .ok (.aload_n 0, 1) := by decide +kernel
theorem dMo_force_31 : decode bMo_force 31 = .ok (.getfield 13, 3) := by decide +kernel
theorem dMo_force_34 : decode bMo_force 34 = .ok (.iload_n 1, 1) := by decide +kernel
theorem dMo_force_35 : decode bMo_force 35 = .ok (.iaload, 1) := by decide +kernel
theorem dMo_force_36 : decode bMo_force 36 = .ok (.istore_n 3, 1) := by decide +kernel
theorem dMo_force_37 : decode bMo_force 37 = .ok (.aload_n 0, 1) := by decide +kernel
theorem dMo_force_38 : decode bMo_force 38 = .ok (.getfield 13, 3) := by decide +kernel
theorem dMo_force_41 : decode bMo_force 41 = .ok (.iload_n 1, 1) := by decide +kernel
theorem dMo_force_42 : decode bMo_force 42 = .ok (.iload_n 2, 1) := by decide +kernel
theorem dMo_force_43 : decode bMo_force 43 = .ok (.iastore, 1) := by decide +kernel
theorem dMo_force_44 : decode bMo_force 44 = .ok (.iload_n 3, 1) := by decide +kernel
theorem dMo_force_45 : decode bMo_force 45 = .ok (.ireturn, 1) := by decide +kernel
theorem dMo_read_0 : decode bMo_read 0 = .ok (.aload_n 0, 1) := by decide +kernel
theorem dMo_read_1 : decode bMo_read 1 = .ok (.getfield 13, 3) := by decide +kernel
theorem dMo_read_4 : decode bMo_read 4 = .ok (.iload_n 1, 1) := by decide +kernel
theorem dMo_read_5 : decode bMo_read 5 = .ok (.iaload, 1) := by decide +kernel
theorem dMo_read_6 : decode bMo_read 6 = .ok (.ifCond .ge 12, 3) := by decide +kernel
theorem dMo_read_9 : decode bMo_read 9 = .ok (.aload_n 0, 1) := by decide +kernel
theorem dMo_read_10 : decode bMo_read 10 = .ok (.getfield 7, 3) := by decide +kernel
theorem dMo_read_13 : decode bMo_read 13 = .ok (.iload_n 1, 1) := by decide +kernel
theorem dMo_read_14 : decode bMo_read 14 = .ok (.iaload, 1) := by decide +kernel
theorem dMo_read_15 : decode bMo_read 15 = .ok (.goto 9, 3) := by decide +kernel
theorem dMo_read_18 : decode bMo_read 18 = .ok (.aload_n 0, 1) := by decide +kernel
theorem dMo_read_19 : decode bMo_read 19 = .ok (.getfield 13, 3) := by decide +kernel
theorem dMo_read_22 : decode bMo_read 22 = .ok (.iload_n 1, 1) := by decide +kernel
theorem dMo_read_23 : decode bMo_read 23 = .ok (.iaload, 1) := by decide +kernel
theorem dMo_read_24 : decode bMo_read 24 = .ok (.ireturn, 1) := by decide +kernel
theorem dMo_calculate_0 : decode bMo_calculate 0 = .ok (.aload_n 0, 1) := by decide +kernel
theorem dMo_calculate_1 : decode bMo_calculate 1 = .ok (.getfield 22, 3) := by decide +kernel
theorem dMo_calculate_4 : decode bMo_calculate 4 = .ok (.aload_n 0, 1) := by decide +kernel
theorem dMo_calculate_5 : decode bMo_calculate 5 = .ok (.getfield 29, 3) := by decide +kernel
theorem dMo_calculate_8 : decode bMo_calculate 8 = .ok (.iload_n 1, 1) := by decide +kernel
theorem dMo_calculate_9 : decode bMo_calculate 9 = .ok (.iaload, 1) := by decide +kernel
theorem dMo_calculate_10 : decode bMo_calculate 10 = .ok (.laload, 1) := by decide +kernel
theorem dMo_calculate_11 : decode bMo_calculate 11 = .ok (.lstore_n 2, 1) := by decide +kernel
theorem dMo_calculate_12 : decode bMo_calculate 12 = .ok (.aload_n 0, 1) := by decide +kernel
theorem dMo_calculate_13 : decode bMo_calculate 13 = .ok (.getfield 26, 3) := by decide +kernel
theorem dMo_calculate_16 : decode bMo_calculate 16 = .ok (.iload_n 1, 1) := by decide +kernel
theorem dMo_calculate_17 : decode bMo_calculate 17 = .ok (.iaload, 1) := by decide +kernel
theorem dMo_calculate_18 : decode bMo_calculate 18 = .ok (.iconst 5, 1) := by decide +kernel
theorem dMo_calculate_19 : decode bMo_calculate 19 = .ok (.if_icmp .ne 42, 3) := by decide +kernel
theorem dMo_calculate_22 : decode bMo_calculate 22 = .ok (.aload_n 0, 1) := by decide +kernel
theorem dMo_calculate_23 : decode bMo_calculate 23 = .ok (.getfield 22, 3) := by decide +kernel
theorem dMo_calculate_26 : decode bMo_calculate 26 = .ok (.aload_n 0, 1) := by decide +kernel
theorem dMo_calculate_27 : decode bMo_calculate 27 = .ok (.getfield 32, 3) := by decide +kernel
theorem dMo_calculate_30 : decode bMo_calculate 30 = .ok (.iload_n 1, 1) := by decide +kernel
theorem dMo_calculate_31 : decode bMo_calculate 31 = .ok (.iaload, 1) := by decide +kernel
theorem dMo_calculate_32 : decode bMo_calculate 32 = .ok (.lload_n 2, 1) := by decide +kernel
theorem dMo_calculate_33 : decode bMo_calculate 33 = .ok (.aload_n 0, 1) := by decide +kernel
theorem dMo_calculate_34 : decode bMo_calculate 34 = .ok (.getfield 35, 3) := by decide +kernel
theorem dMo_calculate_37 : decode bMo_calculate 37 = .ok (.iload_n 1, 1) := by decide +kernel
theorem dMo_calculate_38 : decode bMo_calculate 38 = .ok (.laload, 1) := by decide +kernel
theorem dMo_calculate_39 : decode bMo_calculate 39 = .ok (.lmul, 1) := by decide +kernel
theorem dMo_calculate_40 : decode bMo_calculate 40 = .ok (.ldc2_w 123, 3) := by decide +kernel
theorem dMo_calculate_43 : decode bMo_calculate 43 = .ok (.aload_n 0, 1) := by decide +kernel
theorem dMo_calculate_44 : decode bMo_calculate 44 = .ok (.getfield 38, 3) := by decide +kernel
theorem dMo_calculate_47 : decode bMo_calculate 47 = .ok (.iload_n 1, 1) := by decide +kernel
theorem dMo_calculate_48 : decode bMo_calculate 48 = .ok (.laload, 1) := by decide +kernel
theorem dMo_calculate_49 : decode bMo_calculate 49 = .ok (.lmul, 1) := by decide +kernel
theorem dMo_calculate_50 : decode bMo_calculate 50 = .ok (.ladd, 1) := by decide +kernel
theorem dMo_calculate_51 : decode bMo_calculate 51 = .ok (.ldc2_w 123, 3) := by decide +kernel
theorem dMo_calculate_54 : decode bMo_calculate 54 = .ok (.invokestatic 125, 3) := by decide +kernel
theorem dMo_calculate_57 : decode bMo_calculate 57 = .ok (.invokestatic 129, 3) := by decide +kernel
theorem dMo_calculate_60 : decode bMo_calculate 60 = .ok (.lastore, 1) := by decide +kernel
theorem dMo_calculate_61 : decode bMo_calculate 61 = .ok (.aload_n 0, 1) := by decide +kernel
theorem dMo_calculate_62 : decode bMo_calculate 62 = .ok (.getfield 26, 3) := by decide +kernel
theorem dMo_calculate_65 : decode bMo_calculate 65 = .ok (.iload_n 1, 1) := by decide +kernel
theorem dMo_calculate_66 : decode bMo_calculate 66 = .ok (.iaload, 1) := by decide +kernel
theorem dMo_calculate_67 : decode bMo_calculate 67 = .ok (.bipush 7, 2) := by decide +kernel
theorem dMo_calculate_69 : decode bMo_calculate 69 = .ok (.if_icmp .ne 55, 3) := by decide +kernel
theorem dMo_calculate_72 : decode bMo_calculate 72 = .ok (.aload_n 0, 1) := by decide +kernel
theorem dMo_calculate_73 : decode bMo_calculate 73 = .ok (.getfield 22, 3) := by decide +kernel
theorem dMo_calculate_76 : decode bMo_calculate 76 = .ok (.aload_n 0, 1) := by decide +kernel
theorem dMo_calculate_77 : decode bMo_calculate 77 = .ok (.getfield 32, 3) := by decide +kernel
theorem dMo_calculate_80 : decode bMo_calculate 80 = .ok (.iload_n 1, 1) := by decide +kernel
theorem dMo_calculate_81 : decode bMo_calculate 81 = .ok (.iaload, 1) := by decide +kernel
theorem dMo_calculate_82 : decode bMo_calculate 82 = .ok (.lload_n 2, 1) := by decide +kernel
theorem dMo_calculate_83 : decode bMo_calculate 83 = .ok (.aload_n 0, 1) := by decide +kernel
theorem dMo_calculate_84 : decode bMo_calculate 84 = .ok (.getfield 38, 3) := by decide +kernel
theorem dMo_calculate_87 : decode bMo_calculate 87 = .ok (.iload_n 1, 1) := by decide +kernel
theorem dMo_calculate_88 : decode bMo_calculate 88 = .ok (.laload, 1) := by decide +kernel
theorem dMo_calculate_89 : decode bMo_calculate 89 = .ok (.lcmp, 1) := by decide +kernel
theorem dMo_calculate_90 : decode bMo_calculate 90 = .ok (.ifCond .ge 12, 3) := by decide +kernel
theorem dMo_calculate_93 : decode bMo_calculate 93 = .ok (.aload_n 0, 1) := by decide +kernel
theorem dMo_calculate_94 : decode bMo_calculate 94 = .ok (.getfield 38, 3) := by decide +kernel
theorem dMo_calculate_97 : decode bMo_calculate 97 = .ok (.iload_n 1, 1) := by decide +kernel
theorem dMo_calculate_98 : decode bMo_calculate 98 = .ok (.laload, 1) := by decide +kernel
theorem dMo_calculate_99 : decode bMo_calculate 99 = .ok (.goto 24, 3) := by decide +kernel
theorem dMo_calculate_102 : decode bMo_calculate 102 = .ok (.lload_n 2, 1) := by decide +kernel
theorem dMo_calculate_103 : decode bMo_calculate 103 = .ok (.aload_n 0, 1) := by decide +kernel
theorem dMo_calculate_104 : decode bMo_calculate 104 = .ok (.getfield 35, 3) := by decide +kernel
theorem dMo_calculate_107 : decode bMo_calculate 107 = .ok (.iload_n 1, 1) := by decide +kernel
theorem dMo_calculate_108 : decode bMo_calculate 108 = .ok (.laload, 1) := by decide +kernel
theorem dMo_calculate_109 : decode bMo_calculate 109 = .ok (.lcmp, 1) := by decide +kernel
theorem dMo_calculate_110 : decode bMo_calculate 110 = .ok (.ifCond .le 12, 3) := by decide +kernel
theorem dMo_calculate_113 : decode bMo_calculate 113 = .ok (.aload_n 0, 1) := by decide +kernel
theorem dMo_calculate_114 : decode bMo_calculate 114 = .ok (.getfield 35, 3) := by decide +kernel
theorem dMo_calculate_117 : decode bMo_calculate 117 = .ok (.iload_n 1, 1) := by decide +kernel
theorem dMo_calculate_118 : decode bMo_calculate 118 = .ok (.laload, 1) := by decide +kernel
theorem dMo_calculate_119 : decode bMo_calculate 119 = .ok (.goto 4, 3) := by decide +kernel
theorem dMo_calculate_122 : decode bMo_calculate 122 = .ok (.lload_n 2, 1) := by decide +kernel
theorem dMo_calculate_123 : decode bMo_calculate 123 = .ok (.lastore, 1) := by decide +kernel
theorem dMo_calculate_124 : decode bMo_calculate 124 = .ok (.aload_n 0, 1) := by decide +kernel
theorem dMo_calculate_125 : decode bMo_calculate 125 = .ok (.getfield 26, 3) := by decide +kernel
theorem dMo_calculate_128 : decode bMo_calculate 128 = .ok (.iload_n 1, 1) := by decide +kernel
theorem dMo_calculate_129 : decode bMo_calculate 129 = .ok (.iaload, 1) := by decide +kernel
theorem dMo_calculate_130 : decode bMo_calculate 130 = .ok (.bipush 6, 2) := by decide +kernel
theorem dMo_calculate_132 : decode bMo_calculate 132 = .ok (.if_icmp .eq 4, 3) := by decide +kernel
theorem dMo_calculate_135 : decode bMo_calculate 135 = .ok (.return_, 1) := by decide +kernel
theorem dMo_calculate_136 : decode bMo_calculate 136 = .ok (.aload_n 0, 1) := by decide +kernel
theorem dMo_calculate_137 : decode bMo_calculate 137 = .ok (.getfield 35, 3) := by decide +kernel
theorem dMo_calculate_140 : decode bMo_calculate 140 = .ok (.iload_n 1, 1) := by decide +kernel
theorem dMo_calculate_141 : decode bMo_calculate 141 = .ok (.laload, 1) := by decide +kernel
theorem dMo_calculate_142 : decode bMo_calculate 142 = .ok (.lconst 0, 1) := by decide +kernel
theorem dMo_calculate_143 : decode bMo_calculate 143 = .ok (.lcmp, 1) := by decide +kernel
theorem dMo_calculate_144 : decode bMo_calculate 144 = .ok (.ifCond .ne 11, 3) := by decide +kernel
theorem dMo_calculate_147 : decode bMo_calculate 147 = .ok (.aload_n 0, 1) := by decide +kernel
theorem dMo_calculate_148 : decode bMo_calculate 148 = .ok (.iconst 3, 1) := by decide +kernel
theorem dMo_calculate_149 : decode bMo_calculate 149 = .ok (.putfield 133, 3) := by decide +kernel
theorem dMo_calculate_152 : decode bMo_calculate 152 = .ok (.goto 31, 3) := by decide +kernel
theorem dMo_calculate_155 : decode bMo_calculate 155 = .ok (.aload_n 0, 1) := by decide +kernel
theorem dMo_calculate_156 : decode bMo_calculate 156 = .ok (.getfield 22, 3) := by decide +kernel
theorem dMo_calculate_159 : decode bMo_calculate 159 = .ok (.aload_n 0, 1) := by decide +kernel
theorem dMo_calculate_160 : decode bMo_calculate 160 = .ok (.getfield 32, 3) := by decide +kernel
theorem dMo_calculate_163 : decode bMo_calculate 163 = .ok (.iload_n 1, 1) := by decide +kernel
theorem dMo_calculate_164 : decode bMo_calculate 164 = .ok (.iaload, 1) := by decide +kernel
theorem dMo_calculate_165 : decode bMo_calculate 165 = .ok (.ldc2_w 123, 3) := by decide +kernel
theorem dMo_calculate_168 : decode bMo_calculate 168 = .ok (.lload_n 2, 1) := by decide +kernel
theorem dMo_calculate_169 : decode bMo_calculate 169 = .ok (.lmul, 1) := by decide +kernel
theorem dMo_calculate_170 : decode bMo_calculate 170 = .ok (.aload_n 0, 1) := by decide +kernel
theorem dMo_calculate_171 : decode bMo_calculate 171 = .ok (.getfield 35, 3) := by decide +kernel
theorem dMo_calculate_174 : decode bMo_calculate 174 = .ok (.iload_n 1, 1) := by decide +kernel
theorem dMo_calculate_175 : decode bMo_calculate 175 = .ok (.laload, 1) := by decide +kernel
theorem dMo_calculate_176 : decode bMo_calculate 176 = .ok (.invokestatic 125, 3) := by decide +kernel
theorem dMo_calculate_179 : decode bMo_calculate 179 = .ok (.invokestatic 129, 3) := by decide +kernel
theorem dMo_calculate_182 : decode bMo_calculate 182 = .ok (.lastore, 1) := by decide +kernel
theorem dMo_calculate_183 : decode bMo_calculate 183 = .ok (.return_, 1) := by decide +kernel
theorem dMo_work_0 : decode bMo_work 0 = .ok (.aload_n 0, 1) := by decide +kernel
theorem dMo_work_1 : decode bMo_work 1 = .ok (.getfield 29, 3) := by decide +kernel
theorem dMo_work_4 : decode bMo_work 4 = .ok (.iload_n 1, 1) := by decide +kernel
theorem dMo_work_5 : decode bMo_work 5 = .ok (.iaload, 1) := by decide +kernel
theorem dMo_work_6 : decode bMo_work 6 = .ok (.istore_n 3, 1) := by decide +kernel
theorem dMo_work_7 : decode bMo_work 7 = .ok (.aload_n 0, 1) := by decide +kernel
theorem dMo_work_8 : decode bMo_work 8 = .ok (.getfield 26, 3) := by decide +kernel
theorem dMo_work_11 : decode bMo_work 11 = .ok (.iload_n 1, 1) := by decide +kernel
theorem dMo_work_12 : decode bMo_work 12 = .ok (.iaload, 1) := by decide +kernel
theorem dMo_work_13 : decode bMo_work 13 = .ok (.tableswitch 297 0 4 #[35, 100, 159, 241, 269], 35) := by decide +kernel
theorem dMo_work_48 : decode bMo_work 48 = .ok (.aload_n 0, 1) := by decide +kernel
theorem dMo_work_49 : decode bMo_work 49 = .ok (.getfield 44, 3) := by decide +kernel
theorem dMo_work_52 : decode bMo_work 52 = .ok (.iload_n 1, 1) := by decide +kernel
theorem dMo_work_53 : decode bMo_work 53 = .ok (.iload_n 2, 1) := by decide +kernel
theorem dMo_work_54 : decode bMo_work 54 = .ok (.ifCond .ne 7, 3) := by decide +kernel
theorem dMo_work_57 : decode bMo_work 57 = .ok (.iconst 0, 1) := by decide +kernel
theorem dMo_work_58 : decode bMo_work 58 = .ok (.goto 25, 3) := by decide +kernel
theorem dMo_work_61 : decode bMo_work 61 = .ok (.aload_n 0, 1) := by decide +kernel
theorem dMo_work_62 : decode bMo_work 62 = .ok (.getfield 44, 3) := by decide +kernel
theorem dMo_work_65 : decode bMo_work 65 = .ok (.iload_n 1, 1) := by decide +kernel
theorem dMo_work_66 : decode bMo_work 66 = .ok (.iaload, 1) := by decide +kernel
theorem dMo_work_67 : decode bMo_work 67 = .ok (.iload_n 3, 1) := by decide +kernel
theorem dMo_work_68 : decode bMo_work 68 = .ok (.if_icmp .ge 14, 3) := by decide +kernel
theorem dMo_work_71 : decode bMo_work 71 = .ok (.aload_n 0, 1) := by decide +kernel
theorem dMo_work_72 : decode bMo_work 72 = .ok (.getfield 44, 3) := by decide +kernel
theorem dMo_work_75 : decode bMo_work 75 = .ok (.iload_n 1, 1) := by decide +kernel
theorem dMo_work_76 : decode bMo_work 76 = .ok (.iaload, 1) := by decide +kernel
theorem dMo_work_77 : decode bMo_work 77 = .ok (.iconst 1, 1) := by decide +kernel
theorem dMo_work_78 : decode bMo_work 78 = .ok (.iadd, 1) := by decide +kernel
theorem dMo_work_79 : decode bMo_work 79 = .ok (.goto 4, 3) := by decide +kernel
theorem dMo_work_82 : decode bMo_work 82 = .ok (.iload_n 3, 1) := by decide +kernel
theorem dMo_work_83 : decode bMo_work 83 = .ok (.iastore, 1) := by decide +kernel
theorem dMo_work_84 : decode bMo_work 84 = .ok (.aload_n 0, 1) := by decide +kernel
theorem dMo_work_85 : decode bMo_work 85 = .ok (.getfield 41, 3) := by decide +kernel
theorem dMo_work_88 : decode bMo_work 88 = .ok (.iload_n 1, 1) := by decide +kernel
theorem dMo_work_89 : decode bMo_work 89 = .ok (.iload_n 2, 1) := by decide +kernel
theorem dMo_work_90 : decode bMo_work 90 = .ok (.iconst 1, 1) := by decide +kernel
theorem dMo_work_91 : decode bMo_work 91 = .ok (.if_icmp .ne 17, 3) := by decide +kernel
theorem dMo_work_94 : decode bMo_work 94 = .ok (.aload_n 0, 1) := by decide +kernel
theorem dMo_work_95 : decode bMo_work 95 = .ok (.getfield 44, 3) := by decide +kernel
theorem dMo_work_98 : decode bMo_work 98 = .ok (.iload_n 1, 1) := by decide +kernel
theorem dMo_work_99 : decode bMo_work 99 = .ok (.iaload, 1) := by decide +kernel
theorem dMo_work_100 : decode bMo_work 100 = .ok (.iload_n 3, 1) := by decide +kernel
theorem dMo_work_101 : decode bMo_work 101 = .ok (.if_icmp .ne 7, 3) := by decide +kernel
theorem dMo_work_104 : decode bMo_work 104 = .ok (.iconst 1, 1) := by decide +kernel
theorem dMo_work_105 : decode bMo_work 105 = .ok (.goto 4, 3) := by decide +kernel
theorem dMo_work_108 : decode bMo_work 108 = .ok (.iconst 0, 1) := by decide +kernel
theorem dMo_work_109 : decode bMo_work 109 = .ok (.iastore, 1) := by decide +kernel
theorem dMo_work_110 : decode bMo_work 110 = .ok (.goto 224, 3) := by decide +kernel
theorem dMo_work_113 : decode bMo_work 113 = .ok (.aload_n 0, 1) := by decide +kernel
theorem dMo_work_114 : decode bMo_work 114 = .ok (.getfield 44, 3) := by decide +kernel
theorem dMo_work_117 : decode bMo_work 117 = .ok (.iload_n 1, 1) := by decide +kernel
theorem dMo_work_118 : decode bMo_work 118 = .ok (.iload_n 2, 1) := by decide +kernel
theorem dMo_work_119 : decode bMo_work 119 = .ok (.iconst 1, 1) := by decide +kernel
theorem dMo_work_120 : decode bMo_work 120 = .ok (.if_icmp .ne 7, 3) := by decide +kernel
theorem dMo_work_123 : decode bMo_work 123 = .ok (.iload_n 3, 1) := by decide +kernel
theorem dMo_work_124 : decode bMo_work 124 = .ok (.goto 24, 3) := by decide +kernel
theorem dMo_work_127 : decode bMo_work 127 = .ok (.aload_n 0, 1) := by decide +kernel
theorem dMo_work_128 : decode bMo_work 128 = .ok (.getfield 44, 3) := by decide +kernel
theorem dMo_work_131 : decode bMo_work 131 = .ok (.iload_n 1, 1) := by decide +kernel
theorem dMo_work_132 : decode bMo_work 132 = .ok (.iaload, 1) := by decide +kernel
theorem dMo_work_133 : decode bMo_work 133 = .ok (.ifCond .le 14, 3) := by decide +kernel
theorem dMo_work_136 : decode bMo_work 136 = .ok (.aload_n 0, 1) := by decide +kernel
theorem dMo_work_137 : decode bMo_work 137 = .ok (.getfield 44, 3) := by decide +kernel
theorem dMo_work_140 : decode bMo_work 140 = .ok (.iload_n 1, 1) := by decide +kernel
theorem dMo_work_141 : decode bMo_work 141 = .ok (.iaload, 1) := by decide +kernel
theorem dMo_work_142 : decode bMo_work 142 = .ok (.iconst 1, 1) := by decide +kernel
theorem dMo_work_143 : decode bMo_work 143 = .ok (.isub, 1) := by decide +kernel
theorem dMo_work_144 : decode bMo_work 144 = .ok (.goto 4, 3) := by decide +kernel
theorem dMo_work_147 : decode bMo_work 147 = .ok (.iconst 0, 1) := by decide +kernel
theorem dMo_work_148 : decode bMo_work 148 = .ok (.iastore, 1) := by decide +kernel
theorem dMo_work_149 : decode bMo_work 149 = .ok (.aload_n 0, 1) := by decide +kernel
theorem dMo_work_150 : decode bMo_work 150 = .ok (.getfield 41, 3) := by decide +kernel
theorem dMo_work_153 : decode bMo_work 153 = .ok (.iload_n 1, 1) := by decide +kernel
theorem dMo_work_154 : decode bMo_work 154 = .ok (.aload_n 0, 1) := by decide +kernel
theorem dMo_work_155 : decode bMo_work 155 = .ok (.getfield 44, 3) := by decide +kernel
theorem dMo_work_158 : decode bMo_work 158 = .ok (.iload_n 1, 1) := by decide +kernel
theorem dMo_work_159 : decode bMo_work 159 = .ok (.iaload, 1) := by decide +kernel
theorem dMo_work_160 : decode bMo_work 160 = .ok (.ifCond .le 7, 3) := by decide +kernel
theorem dMo_work_163 : decode bMo_work 163 = .ok (.iconst 1, 1) := by decide +kernel
theorem dMo_work_164 : decode bMo_work 164 = .ok (.goto 4, 3) := by decide +kernel
theorem dMo_work_167 : decode bMo_work 167 = .ok (.iconst 0, 1) := by decide +kernel
theorem dMo_work_168 : decode bMo_work 168 = .ok (.iastore, 1) := by decide +kernel
theorem dMo_work_169 : decode bMo_work 169 = .ok (.goto 165, 3) := by decide +kernel
theorem dMo_work_172 : decode bMo_work 172 = .ok (.aload_n 0, 1) := by decide +kernel
theorem dMo_work_173 : decode bMo_work 173 = .ok (.aload_n 0, 1) := by decide +kernel
theorem dMo_work_174 : decode bMo_work 174 = .ok (.getfield 32, 3) := by decide +kernel
theorem dMo_work_177 : decode bMo_work 177 = .ok (.iload_n 1, 1) := by decide +kernel
theorem dMo_work_178 : decode bMo_work 178 = .ok (.iaload, 1) := by decide +kernel
theorem dMo_work_179 : decode bMo_work 179 = .ok (.invokevirtual 136, 3) := by decide +kernel
theorem dMo_work_182 : decode bMo_work 182 = .ok (.iconst 1, 1) := by decide +kernel
theorem dMo_work_183 : decode bMo_work 183 = .ok (.if_icmp .ne 13, 3) := by decide +kernel
theorem dMo_work_186 : decode bMo_work 186 = .ok (.aload_n 0, 1) := by decide +kernel
theorem dMo_work_187 : decode bMo_work 187 = .ok (.getfield 44, 3) := by decide +kernel
theorem dMo_work_190 : decode bMo_work 190 = .ok (.iload_n 1, 1) := by decide +kernel
theorem dMo_work_191 : decode bMo_work 191 = .ok (.iconst 0, 1) := by decide +kernel
theorem dMo_work_192 : decode bMo_work 192 = .ok (.iastore, 1) := by decide +kernel
theorem dMo_work_193 : decode bMo_work 193 = .ok (.goto 37, 3) := by decide +kernel
theorem dMo_work_196 : decode bMo_work 196 = .ok (.iload_n 2, 1) := by decide +kernel
theorem dMo_work_197 : decode bMo_work 197 = .ok (.iconst 1, 1) := by decide +kernel
theorem dMo_work_198 : decode bMo_work 198 = .ok (.if_icmp .ne 32, 3) := by decide +kernel
theorem dMo_work_201 : decode bMo_work 201 = .ok (.aload_n 0, 1) := by decide +kernel
theorem dMo_work_202 : decode bMo_work 202 = .ok (.getfield 47, 3) := by decide +kernel
theorem dMo_work_205 : decode bMo_work 205 = .ok (.iload_n 1, 1) := by decide +kernel
theorem dMo_work_206 : decode bMo_work 206 = .ok (.iaload, 1) := by decide +kernel
theorem dMo_work_207 : decode bMo_work 207 = .ok (.ifCond .ne 23, 3) := by decide +kernel
theorem dMo_work_210 : decode bMo_work 210 = .ok (.aload_n 0, 1) := by decide +kernel
theorem dMo_work_211 : decode bMo_work 211 = .ok (.getfield 44, 3) := by decide +kernel
theorem dMo_work_214 : decode bMo_work 214 = .ok (.iload_n 1, 1) := by decide +kernel
theorem dMo_work_215 : decode bMo_work 215 = .ok (.iaload, 1) := by decide +kernel
theorem dMo_work_216 : decode bMo_work 216 = .ok (.iload_n 3, 1) := by decide +kernel
theorem dMo_work_217 : decode bMo_work 217 = .ok (.if_icmp .ge 13, 3) := by decide +kernel
theorem dMo_work_220 : decode bMo_work 220 = .ok (.aload_n 0, 1) := by decide +kernel
theorem dMo_work_221 : decode bMo_work 221 = .ok (.getfield 44, 3) := by decide +kernel
theorem dMo_work_224 : decode bMo_work 224 = .ok (.iload_n 1, 1) := by decide +kernel
theorem dMo_work_225 : decode bMo_work 225 = .ok (.dup2, 1) := by decide +kernel
theorem dMo_work_226 : decode bMo_work 226 = .ok (.iaload, 1) := by decide +kernel
theorem dMo_work_227 : decode bMo_work 227 = .ok (.iconst 1, 1) := by decide +kernel
theorem dMo_work_228 : decode bMo_work 228 = .ok (.iadd, 1) := by decide +kernel
theorem dMo_work_229 : decode bMo_work 229 = .ok (.iastore, 1) := by decide +kernel
theorem dMo_work_230 : decode bMo_work 230 = .ok (.aload_n 0, 1) := by decide +kernel
theorem dMo_work_231 : decode bMo_work 231 = .ok (.getfield 41, 3) := by decide +kernel
theorem dMo_work_234 : decode bMo_work 234 = .ok (.iload_n 1, 1) := by decide +kernel
theorem dMo_work_235 : decode bMo_work 235 = .ok (.aload_n 0, 1) := by decide +kernel
theorem dMo_work_236 : decode bMo_work 236 = .ok (.getfield 44, 3) := by decide +kernel
theorem dMo_work_239 : decode bMo_work 239 = .ok (.iload_n 1, 1) := by decide +kernel
theorem dMo_work_240 : decode bMo_work 240 = .ok (.iaload, 1) := by decide +kernel
theorem dMo_work_241 : decode bMo_work 241 = .ok (.iload_n 3, 1) := by decide +kernel
theorem dMo_work_242 : decode bMo_work 242 = .ok (.if_icmp .ne 7, 3) := by decide +kernel
theorem dMo_work_245 : decode bMo_work 245 = .ok (.iconst 1, 1) := by decide +kernel
theorem dMo_work_246 : decode bMo_work 246 = .ok (.goto 4, 3) := by decide +kernel
theorem dMo_work_249 : decode bMo_work 249 = .ok (.iconst 0, 1) := by decide +kernel
theorem dMo_work_250 : decode bMo_work 250 = .ok (.iastore, 1) := by decide +kernel
theorem dMo_work_251 : decode bMo_work 251 = .ok (.goto 83, 3) := by decide +kernel
theorem dMo_work_254 : decode bMo_work 254 = .ok (.aload_n 0, 1) := by decide +kernel
theorem dMo_work_255 : decode bMo_work 255 = .ok (.getfield 41, 3) := by decide +kernel
theorem dMo_work_258 : decode bMo_work 258 = .ok (.iload_n 1, 1) := by decide +kernel
theorem dMo_work_259 : decode bMo_work 259 = .ok (.iload_n 2, 1) := by decide +kernel
theorem dMo_work_260 : decode bMo_work 260 = .ok (.iconst 1, 1) := by decide +kernel
theorem dMo_work_261 : decode bMo_work 261 = .ok (.if_icmp .ne 16, 3) := by decide +kernel
theorem dMo_work_264 : decode bMo_work 264 = .ok (.aload_n 0, 1) := by decide +kernel
theorem dMo_work_265 : decode bMo_work 265 = .ok (.getfield 47, 3) := by decide +kernel
theorem dMo_work_268 : decode bMo_work 268 = .ok (.iload_n 1, 1) := by decide +kernel
theorem dMo_work_269 : decode bMo_work 269 = .ok (.iaload, 1) := by decide +kernel
theorem dMo_work_270 : decode bMo_work 270 = .ok (.ifCond .ne 7, 3) := by decide +kernel
theorem dMo_work_273 : decode bMo_work 273 = .ok (.iconst 1, 1) := by decide +kernel
theorem dMo_work_274 : decode bMo_work 274 = .ok (.goto 4, 3) := by decide +kernel
theorem dMo_work_277 : decode bMo_work 277 = .ok (.iconst 0, 1) := by decide +kernel
theorem dMo_work_278 : decode bMo_work 278 = .ok (.iastore, 1) := by decide +kernel
theorem dMo_work_279 : decode bMo_work 279 = .ok (.goto 55, 3) := by decide +kernel
theorem dMo_work_282 : decode bMo_work 282 = .ok (.aload_n 0, 1) := by decide +kernel
theorem dMo_work_283 : decode bMo_work 283 = .ok (.getfield 41, 3) := by decide +kernel
theorem dMo_work_286 : decode bMo_work 286 = .ok (.iload_n 1, 1) := by decide +kernel
theorem dMo_work_287 : decode bMo_work 287 = .ok (.iload_n 2, 1) := by decide +kernel
theorem dMo_work_288 : decode bMo_work 288 = .ok (.ifCond .ne 17, 3) := by decide +kernel
theorem dMo_work_291 : decode bMo_work 291 = .ok (.aload_n 0, 1) := by decide +kernel
theorem dMo_work_292 : decode bMo_work 292 = .ok (.getfield 47, 3) := by decide +kernel
theorem dMo_work_295 : decode bMo_work 295 = .ok (.iload_n 1, 1) := by decide +kernel
theorem dMo_work_296 : decode bMo_work 296 = .ok (.iaload, 1) := by decide +kernel
theorem dMo_work_297 : decode bMo_work 297 = .ok (.iconst 1, 1) := by decide +kernel
theorem dMo_work_298 : decode bMo_work 298 = .ok (.if_icmp .ne 7, 3) := by decide +kernel
theorem dMo_work_301 : decode bMo_work 301 = .ok (.iconst 1, 1) := by decide +kernel
theorem dMo_work_302 : decode bMo_work 302 = .ok (.goto 4, 3) := by decide +kernel
theorem dMo_work_305 : decode bMo_work 305 = .ok (.iconst 0, 1) := by decide +kernel
theorem dMo_work_306 : decode bMo_work 306 = .ok (.iastore, 1) := by decide +kernel
theorem dMo_work_307 : decode bMo_work 307 = .ok (.goto 27, 3) := by decide +kernel
theorem dMo_work_310 : decode bMo_work 310 = .ok (.iload_n 2, 1) := by decide +kernel
theorem dMo_work_311 : decode bMo_work 311 = .ok (.iconst 1, 1) := by decide +kernel
theorem dMo_work_312 : decode bMo_work 312 = .ok (.if_icmp .ne 8, 3) := by decide +kernel
theorem dMo_work_315 : decode bMo_work 315 = .ok (.aload_n 0, 1) := by decide +kernel
theorem dMo_work_316 : decode bMo_work 316 = .ok (.iload_n 1, 1) := by decide +kernel
theorem dMo_work_317 : decode bMo_work 317 = .ok (.invokevirtual 139, 3) := by decide +kernel
theorem dMo_work_320 : decode bMo_work 320 = .ok (.aload_n 0, 1) := by decide +kernel
theorem dMo_work_321 : decode bMo_work 321 = .ok (.getfield 133, 3) := by decide +kernel
theorem dMo_work_324 : decode bMo_work 324 = .ok (.ifCond .ne 10, 3) := by decide +kernel
theorem dMo_work_327 : decode bMo_work 327 = .ok (.aload_n 0, 1) := by decide +kernel
theorem dMo_work_328 : decode bMo_work 328 = .ok (.getfield 41, 3) := by decide +kernel
theorem dMo_work_331 : decode bMo_work 331 = .ok (.iload_n 1, 1) := by decide +kernel
theorem dMo_work_332 : decode bMo_work 332 = .ok (.iload_n 2, 1) := by decide +kernel
theorem dMo_work_333 : decode bMo_work 333 = .ok (.iastore, 1) := by decide +kernel
theorem dMo_work_334 : decode bMo_work 334 = .ok (.aload_n 0, 1) := by decide +kernel
theorem dMo_work_335 : decode bMo_work 335 = .ok (.getfield 133, 3) := by decide +kernel
theorem dMo_work_338 : decode bMo_work 338 = .ok (.ifCond .ne 10, 3) := by decide +kernel
theorem dMo_work_341 : decode bMo_work 341 = .ok (.aload_n 0, 1) := by decide +kernel
theorem dMo_work_342 : decode bMo_work 342 = .ok (.getfield 47, 3) := by decide +kernel
theorem dMo_work_345 : decode bMo_work 345 = .ok (.iload_n 1, 1) := by decide +kernel
theorem dMo_work_346 : decode bMo_work 346 = .ok (.iload_n 2, 1) := by decide +kernel
theorem dMo_work_347 : decode bMo_work 347 = .ok (.iastore, 1) := by decide +kernel
theorem dMo_work_348 : decode bMo_work 348 = .ok (.return_, 1) := by decide +kernel
theorem dMo_push_0 : decode bMo_push 0 = .ok (.aload_n 0, 1) := by decide +kernel
theorem dMo_push_1 : decode bMo_push 1 = .ok (.getfield 71, 3) := by decide +kernel
theorem dMo_push_4 : decode bMo_push 4 = .ok (.aload_n 0, 1) := by decide +kernel
theorem dMo_push_5 : decode bMo_push 5 = .ok (.getfield 143, 3) := by decide +kernel
theorem dMo_push_8 : decode bMo_push 8 = .ok (.iload_n 1, 1) := by decide +kernel
theorem dMo_push_9 : decode bMo_push 9 = .ok (.iastore, 1) := by decide +kernel
theorem dMo_push_10 : decode bMo_push 10 = .ok (.aload_n 0, 1) := by decide +kernel
theorem dMo_push_11 : decode bMo_push 11 = .ok (.dup, 1) := by decide +kernel
theorem dMo_push_12 : decode bMo_push 12 = .ok (.getfield 143, 3) := by decide +kernel
theorem dMo_push_15 : decode bMo_push 15 = .ok (.iconst 1, 1) := by decide +kernel
theorem dMo_push_16 : decode bMo_push 16 = .ok (.iadd, 1) := by decide +kernel
theorem dMo_push_17 : decode bMo_push 17 = .ok (.putfield 143, 3) := by decide +kernel
theorem dMo_push_20 : decode bMo_push 20 = .ok (.return_, 1) := by decide +kernel
theorem dMo_perform_0 : decode bMo_perform 0 = .ok (.aload_n 0, 1) := by decide +kernel
theorem dMo_perform_1 : decode bMo_perform 1 = .ok (.getfield 143, 3) := by decide +kernel
theorem dMo_perform_4 : decode bMo_perform 4 = .ok (.ifCond .le 17, 3) := by decide +kernel
theorem dMo_perform_7 : decode bMo_perform 7 = .ok (.aload_n 0, 1) := by decide +kernel
theorem dMo_perform_8 : decode bMo_perform 8 = .ok (.getfield 71, 3) := by decide +kernel
theorem dMo_perform_11 : decode bMo_perform 11 = .ok (.aload_n 0, 1) := by decide +kernel
theorem dMo_perform_12 : decode bMo_perform 12 = .ok (.getfield 143, 3) := by decide +kernel
theorem dMo_perform_15 : decode bMo_perform 15 = .ok (.iconst 1, 1) := by decide +kernel
theorem dMo_perform_16 : decode bMo_perform 16 = .ok (.isub, 1) := by decide +kernel
theorem dMo_perform_17 : decode bMo_perform 17 = .ok (.iaload, 1) := by decide +kernel
theorem dMo_perform_18 : decode bMo_perform 18 = .ok (.goto 4, 3) := by decide +kernel
theorem dMo_perform_21 : decode bMo_perform 21 = .ok (.iconst 0, 1) := by decide +kernel
theorem dMo_perform_22 : decode bMo_perform 22 = .ok (.istore_n 3, 1) := by decide +kernel
theorem dMo_perform_23 : decode bMo_perform 23 = .ok (.iload_n 1, 1) := by decide +kernel
theorem dMo_perform_24 : decode bMo_perform 24 = .ok (.tableswitch 341 0 12 #[68, 80, 94, 115, 138, 159, 182, 182, 241, 275, 301, 311, 326], 68) := by decide +kernel
theorem dMo_perform_92 : decode bMo_perform 92 = .ok (.aload_n 0, 1) := by decide +kernel
theorem dMo_perform_93 : decode bMo_perform 93 = .ok (.aload_n 0, 1) := by decide +kernel
theorem dMo_perform_94 : decode bMo_perform 94 = .ok (.iload_n 2, 1) := by decide +kernel
theorem dMo_perform_95 : decode bMo_perform 95 = .ok (.invokevirtual 136, 3) := by decide +kernel
theorem dMo_perform_98 : decode bMo_perform 98 = .ok (.invokevirtual 146, 3) := by decide +kernel
theorem dMo_perform_101 : decode bMo_perform 101 = .ok (.goto 269, 3) := by decide +kernel
theorem dMo_perform_104 : decode bMo_perform 104 = .ok (.aload_n 0, 1) := by decide +kernel
theorem dMo_perform_105 : decode bMo_perform 105 = .ok (.iconst 1, 1) := by decide +kernel
theorem dMo_perform_106 : decode bMo_perform 106 = .ok (.aload_n 0, 1) := by decide +kernel
theorem dMo_perform_107 : decode bMo_perform 107 = .ok (.iload_n 2, 1) := by decide +kernel
theorem dMo_perform_108 : decode bMo_perform 108 = .ok (.invokevirtual 136, 3) := by decide +kernel
theorem dMo_perform_111 : decode bMo_perform 111 = .ok (.isub, 1) := by decide +kernel
theorem dMo_perform_112 : decode bMo_perform 112 = .ok (.invokevirtual 146, 3) := by decide +kernel
theorem dMo_perform_115 : decode bMo_perform 115 = .ok (.goto 255, 3) := by decide +kernel
theorem dMo_perform_118 : decode bMo_perform 118 = .ok (.aload_n 0, 1) := by decide +kernel
theorem dMo_perform_119 : decode bMo_perform 119 = .ok (.getfield 71, 3) := by decide +kernel
theorem dMo_perform_122 : decode bMo_perform 122 = .ok (.aload_n 0, 1) := by decide +kernel
theorem dMo_perform_123 : decode bMo_perform 123 = .ok (.getfield 143, 3) := by decide +kernel
theorem dMo_perform_126 : decode bMo_perform 126 = .ok (.iconst 1, 1) := by decide +kernel
theorem dMo_perform_127 : decode bMo_perform 127 = .ok (.isub, 1) := by decide +kernel
theorem dMo_perform_128 : decode bMo_perform 128 = .ok (.iload_n 3, 1) := by decide +kernel
theorem dMo_perform_129 : decode bMo_perform 129 = .ok (.aload_n 0, 1) := by decide +kernel
theorem dMo_perform_130 : decode bMo_perform 130 = .ok (.iload_n 2, 1) := by decide +kernel
theorem dMo_perform_131 : decode bMo_perform 131 = .ok (.invokevirtual 136, 3) := by decide +kernel
theorem dMo_perform_134 : decode bMo_perform 134 = .ok (.iand, 1) := by decide +kernel
theorem dMo_perform_135 : decode bMo_perform 135 = .ok (.iastore, 1) := by decide +kernel
theorem dMo_perform_136 : decode bMo_perform 136 = .ok (.goto 234, 3) := by decide +kernel
theorem dMo_perform_139 : decode bMo_perform 139 = .ok (.aload_n 0, 1) := by decide +kernel
theorem dMo_perform_140 : decode bMo_perform 140 = .ok (.getfield 71, 3) := by decide +kernel
theorem dMo_perform_143 : decode bMo_perform 143 = .ok (.aload_n 0, 1) := by decide +kernel
theorem dMo_perform_144 : decode bMo_perform 144 = .ok (.getfield 143, 3) := by decide +kernel
theorem dMo_perform_147 : decode bMo_perform 147 = .ok (.iconst 1, 1) := by decide +kernel
theorem dMo_perform_148 : decode bMo_perform 148 = .ok (.isub, 1) := by decide +kernel
theorem dMo_perform_149 : decode bMo_perform 149 = .ok (.iload_n 3, 1) := by decide +kernel
theorem dMo_perform_150 : decode bMo_perform 150 = .ok (.iconst 1, 1) := by decide +kernel
theorem dMo_perform_151 : decode bMo_perform 151 = .ok (.aload_n 0, 1) := by decide +kernel
theorem dMo_perform_152 : decode bMo_perform 152 = .ok (.iload_n 2, 1) := by decide +kernel
theorem dMo_perform_153 : decode bMo_perform 153 = .ok (.invokevirtual 136, 3) := by decide +kernel
theorem dMo_perform_156 : decode bMo_perform 156 = .ok (.isub, 1) := by decide +kernel
theorem dMo_perform_157 : decode bMo_perform 157 = .ok (.iand, 1) := by decide +kernel
theorem dMo_perform_158 : decode bMo_perform 158 = .ok (.iastore, 1) := by decide +kernel
theorem dMo_perform_159 : decode bMo_perform 159 = .ok (.goto 211, 3) := by decide +kernel
theorem dMo_perform_162 : decode bMo_perform 162 = .ok (.aload_n 0, 1) := by decide +kernel
theorem dMo_perform_163 : decode bMo_perform 163 = .ok (.getfield 71, 3) := by decide +kernel
theorem dMo_perform_166 : decode bMo_perform 166 = .ok (.aload_n 0, 1) := by decide +kernel
theorem dMo_perform_167 : decode bMo_perform 167 = .ok (.getfield 143, 3) := by decide +kernel
theorem dMo_perform_170 : decode bMo_perform 170 = .ok (.iconst 1, 1) := by decide +kernel
theorem dMo_perform_171 : decode bMo_perform 171 = .ok (.isub, 1) := by decide +kernel
theorem dMo_perform_172 : decode bMo_perform 172 = .ok (.iload_n 3, 1) := by decide +kernel
theorem dMo_perform_173 : decode bMo_perform 173 = .ok (.aload_n 0, 1) := by decide +kernel
theorem dMo_perform_174 : decode bMo_perform 174 = .ok (.iload_n 2, 1) := by decide +kernel
theorem dMo_perform_175 : decode bMo_perform 175 = .ok (.invokevirtual 136, 3) := by decide +kernel
theorem dMo_perform_178 : decode bMo_perform 178 = .ok (.ior, 1) := by decide +kernel
theorem dMo_perform_179 : decode bMo_perform 179 = .ok (.iastore, 1) := by decide +kernel
theorem dMo_perform_180 : decode bMo_perform 180 = .ok (.goto 190, 3) := by decide +kernel
theorem dMo_perform_183 : decode bMo_perform 183 = .ok (.aload_n 0, 1) := by decide +kernel
theorem dMo_perform_184 : decode bMo_perform 184 = .ok (.getfield 71, 3) := by decide +kernel
theorem dMo_perform_187 : decode bMo_perform 187 = .ok (.aload_n 0, 1) := by decide +kernel
theorem dMo_perform_188 : decode bMo_perform 188 = .ok (.getfield 143, 3) := by decide +kernel
theorem dMo_perform_191 : decode bMo_perform 191 = .ok (.iconst 1, 1) := by decide +kernel
theorem dMo_perform_192 : decode bMo_perform 192 = .ok (.isub, 1) := by decide +kernel
theorem dMo_perform_193 : decode bMo_perform 193 = .ok (.iload_n 3, 1) := by decide +kernel
theorem dMo_perform_194 : decode bMo_perform 194 = .ok (.iconst 1, 1) := by decide +kernel
theorem dMo_perform_195 : decode bMo_perform 195 = .ok (.aload_n 0, 1) := by decide +kernel
theorem dMo_perform_196 : decode bMo_perform 196 = .ok (.iload_n 2, 1) := by decide +kernel
theorem dMo_perform_197 : decode bMo_perform 197 = .ok (.invokevirtual 136, 3) := by decide +kernel
theorem dMo_perform_200 : decode bMo_perform 200 = .ok (.isub, 1) := by decide +kernel
theorem dMo_perform_201 : decode bMo_perform 201 = .ok (.ior, 1) := by decide +kernel
theorem dMo_perform_202 : decode bMo_perform 202 = .ok (.iastore, 1) := by decide +kernel
theorem dMo_perform_203 : decode bMo_perform 203 = .ok (.goto 167, 3) := by decide +kernel
theorem dMo_perform_206 : decode bMo_perform 206 = .ok (.aload_n 0, 1) := by decide +kernel
theorem dMo_perform_207 : decode bMo_perform 207 = .ok (.dup, 1) := by decide +kernel
theorem dMo_perform_208 : decode bMo_perform 208 = .ok (.getfield 143, 3) := by decide +kernel
theorem dMo_perform_211 : decode bMo_perform 211 = .ok (.iconst 1, 1) := by decide +kernel
theorem dMo_perform_212 : decode bMo_perform 212 = .ok (.isub, 1) := by decide +kernel
theorem dMo_perform_213 : decode bMo_perform 213 = .ok (.putfield 143, 3) := by decide +kernel
theorem dMo_perform_216 : decode bMo_perform 216 = .ok (.aload_n 0, 1) := by decide +kernel
theorem dMo_perform_217 : decode bMo_perform 217 = .ok (.getfield 71, 3) := by decide +kernel
theorem dMo_perform_220 : decode bMo_perform 220 = .ok (.aload_n 0, 1) := by decide +kernel
theorem dMo_perform_221 : decode bMo_perform 221 = .ok (.getfield 143, 3) := by decide +kernel
theorem dMo_perform_224 : decode bMo_perform 224 = .ok (.iconst 1, 1) := by decide +kernel
theorem dMo_perform_225 : decode bMo_perform 225 = .ok (.isub, 1) := by decide +kernel
theorem dMo_perform_226 : decode bMo_perform 226 = .ok (.iload_n 1, 1) := by decide +kernel
theorem dMo_perform_227 : decode bMo_perform 227 = .ok (.bipush 6, 2) := by decide +kernel
theorem dMo_perform_229 : decode bMo_perform 229 = .ok (.if_icmp .ne 19, 3) := by decide +kernel
theorem dMo_perform_232 : decode bMo_perform 232 = .ok (.aload_n 0, 1) := by decide +kernel
theorem dMo_perform_233 : decode bMo_perform 233 = .ok (.getfield 71, 3) := by decide +kernel
theorem dMo_perform_236 : decode bMo_perform 236 = .ok (.aload_n 0, 1) := by decide +kernel
theorem dMo_perform_237 : decode bMo_perform 237 = .ok (.getfield 143, 3) := by decide +kernel
theorem dMo_perform_240 : decode bMo_perform 240 = .ok (.iconst 1, 1) := by decide +kernel
theorem dMo_perform_241 : decode bMo_perform 241 = .ok (.isub, 1) := by decide +kernel
theorem dMo_perform_242 : decode bMo_perform 242 = .ok (.iaload, 1) := by decide +kernel
theorem dMo_perform_243 : decode bMo_perform 243 = .ok (.iload_n 3, 1) := by decide +kernel
theorem dMo_perform_244 : decode bMo_perform 244 = .ok (.iand, 1) := by decide +kernel
theorem dMo_perform_245 : decode bMo_perform 245 = .ok (.goto 16, 3) := by decide +kernel
theorem dMo_perform_248 : decode bMo_perform 248 = .ok (.aload_n 0, 1) := by decide +kernel
theorem dMo_perform_249 : decode bMo_perform 249 = .ok (.getfield 71, 3) := by decide +kernel
theorem dMo_perform_252 : decode bMo_perform 252 = .ok (.aload_n 0, 1) := by decide +kernel
theorem dMo_perform_253 : decode bMo_perform 253 = .ok (.getfield 143, 3) := by decide +kernel
theorem dMo_perform_256 : decode bMo_perform 256 = .ok (.iconst 1, 1) := by decide +kernel
theorem dMo_perform_257 : decode bMo_perform 257 = .ok (.isub, 1) := by decide +kernel
theorem dMo_perform_258 : decode bMo_perform 258 = .ok (.iaload, 1) := by decide +kernel
theorem dMo_perform_259 : decode bMo_perform 259 = .ok (.iload_n 3, 1) := by decide +kernel
theorem dMo_perform_260 : decode bMo_perform 260 = .ok (.ior, 1) := by decide +kernel
theorem dMo_perform_261 : decode bMo_perform 261 = .ok (.iastore, 1) := by decide +kernel
theorem dMo_perform_262 : decode bMo_perform 262 = .ok (.goto 108, 3) := by decide +kernel
theorem dMo_perform_265 : decode bMo_perform 265 = .ok (.aload_n 0, 1) := by decide +kernel
theorem dMo_perform_266 : decode bMo_perform 266 = .ok (.aload_n 0, 1) := by decide +kernel
theorem dMo_perform_267 : decode bMo_perform 267 = .ok (.getfield 22, 3) := by decide +kernel
theorem dMo_perform_270 : decode bMo_perform 270 = .ok (.iload_n 2, 1) := by decide +kernel
theorem dMo_perform_271 : decode bMo_perform 271 = .ok (.bipush 8, 2) := by decide +kernel
theorem dMo_perform_273 : decode bMo_perform 273 = .ok (.idiv, 1) := by decide +kernel
theorem dMo_perform_274 : decode bMo_perform 274 = .ok (.laload, 1) := by decide +kernel
theorem dMo_perform_275 : decode bMo_perform 275 = .ok (.aload_n 0, 1) := by decide +kernel
theorem dMo_perform_276 : decode bMo_perform 276 = .ok (.getfield 22, 3) := by decide +kernel
theorem dMo_perform_279 : decode bMo_perform 279 = .ok (.iload_n 2, 1) := by decide +kernel
theorem dMo_perform_280 : decode bMo_perform 280 = .ok (.bipush 8, 2) := by decide +kernel
theorem dMo_perform_282 : decode bMo_perform 282 = .ok (.irem, 1) := by decide +kernel
theorem dMo_perform_283 : decode bMo_perform 283 = .ok (.laload, 1) := by decide +kernel
theorem dMo_perform_284 : decode bMo_perform 284 = .ok (.lcmp, 1) := by decide +kernel
theorem dMo_perform_285 : decode bMo_perform 285 = .ok (.ifCond .le 7, 3) := by decide +kernel
theorem dMo_perform_288 : decode bMo_perform 288 = .ok (.iconst 1, 1) := by decide +kernel
theorem dMo_perform_289 : decode bMo_perform 289 = .ok (.goto 4, 3) := by decide +kernel
theorem dMo_perform_292 : decode bMo_perform 292 = .ok (.iconst 0, 1) := by decide +kernel
theorem dMo_perform_293 : decode bMo_perform 293 = .ok (.invokevirtual 146, 3) := by decide +kernel
theorem dMo_perform_296 : decode bMo_perform 296 = .ok (.goto 74, 3) := by decide +kernel
theorem dMo_perform_299 : decode bMo_perform 299 = .ok (.aload_n 0, 1) := by decide +kernel
theorem dMo_perform_300 : decode bMo_perform 300 = .ok (.iload_n 2, 1) := by decide +kernel
theorem dMo_perform_301 : decode bMo_perform 301 = .ok (.iload_n 3, 1) := by decide +kernel
theorem dMo_perform_302 : decode bMo_perform 302 = .ok (.invokevirtual 149, 3) := by decide +kernel
theorem dMo_perform_305 : decode bMo_perform 305 = .ok (.aload_n 0, 1) := by decide +kernel
theorem dMo_perform_306 : decode bMo_perform 306 = .ok (.getfield 71, 3) := by decide +kernel
theorem dMo_perform_309 : decode bMo_perform 309 = .ok (.aload_n 0, 1) := by decide +kernel
theorem dMo_perform_310 : decode bMo_perform 310 = .ok (.getfield 143, 3) := by decide +kernel
theorem dMo_perform_313 : decode bMo_perform 313 = .ok (.iconst 1, 1) := by decide +kernel
theorem dMo_perform_314 : decode bMo_perform 314 = .ok (.isub, 1) := by decide +kernel
theorem dMo_perform_315 : decode bMo_perform 315 = .ok (.aload_n 0, 1) := by decide +kernel
theorem dMo_perform_316 : decode bMo_perform 316 = .ok (.getfield 41, 3) := by decide +kernel
theorem dMo_perform_319 : decode bMo_perform 319 = .ok (.iload_n 2, 1) := by decide +kernel
theorem dMo_perform_320 : decode bMo_perform 320 = .ok (.iaload, 1) := by decide +kernel
theorem dMo_perform_321 : decode bMo_perform 321 = .ok (.iastore, 1) := by decide +kernel
theorem dMo_perform_322 : decode bMo_perform 322 = .ok (.goto 48, 3) := by decide +kernel
theorem dMo_perform_325 : decode bMo_perform 325 = .ok (.aload_n 0, 1) := by decide +kernel
theorem dMo_perform_326 : decode bMo_perform 326 = .ok (.getfield 7, 3) := by decide +kernel
theorem dMo_perform_329 : decode bMo_perform 329 = .ok (.iload_n 2, 1) := by decide +kernel
theorem dMo_perform_330 : decode bMo_perform 330 = .ok (.iload_n 3, 1) := by decide +kernel
theorem dMo_perform_331 : decode bMo_perform 331 = .ok (.iastore, 1) := by decide +kernel
theorem dMo_perform_332 : decode bMo_perform 332 = .ok (.goto 38, 3) := by decide +kernel
theorem dMo_perform_335 : decode bMo_perform 335 = .ok (.iload_n 3, 1) := by decide +kernel
theorem dMo_perform_336 : decode bMo_perform 336 = .ok (.iconst 1, 1) := by decide +kernel
theorem dMo_perform_337 : decode bMo_perform 337 = .ok (.if_icmp .ne 33, 3) := by decide +kernel
theorem dMo_perform_340 : decode bMo_perform 340 = .ok (.aload_n 0, 1) := by decide +kernel
theorem dMo_perform_341 : decode bMo_perform 341 = .ok (.getfield 7, 3) := by decide +kernel
theorem dMo_perform_344 : decode bMo_perform 344 = .ok (.iload_n 2, 1) := by decide +kernel
theorem dMo_perform_345 : decode bMo_perform 345 = .ok (.iconst 1, 1) := by decide +kernel
theorem dMo_perform_346 : decode bMo_perform 346 = .ok (.iastore, 1) := by decide +kernel
theorem dMo_perform_347 : decode bMo_perform 347 = .ok (.goto 23, 3) := by decide +kernel
theorem dMo_perform_350 : decode bMo_perform 350 = .ok (.iload_n 3, 1) := by decide +kernel
theorem dMo_perform_351 : decode bMo_perform 351 = .ok (.iconst 1, 1) := by decide +kernel
theorem dMo_perform_352 : decode bMo_perform 352 = .ok (.if_icmp .ne 18, 3) := by decide +kernel
theorem dMo_perform_355 : decode bMo_perform 355 = .ok (.aload_n 0, 1) := by decide +kernel
theorem dMo_perform_356 : decode bMo_perform 356 = .ok (.getfield 7, 3) := by decide +kernel
theorem dMo_perform_359 : decode bMo_perform 359 = .ok (.iload_n 2, 1) := by decide +kernel
theorem dMo_perform_360 : decode bMo_perform 360 = .ok (.iconst 0, 1) := by decide +kernel
theorem dMo_perform_361 : decode bMo_perform 361 = .ok (.iastore, 1) := by decide +kernel
theorem dMo_perform_362 : decode bMo_perform 362 = .ok (.goto 8, 3) := by decide +kernel
theorem dMo_perform_365 : decode bMo_perform 365 = .ok (.aload_n 0, 1) := by decide +kernel
theorem dMo_perform_366 : decode bMo_perform 366 = .ok (.iconst 2, 1) := by decide +kernel
theorem dMo_perform_367 : decode bMo_perform 367 = .ok (.putfield 133, 3) := by decide +kernel
theorem dMo_perform_370 : decode bMo_perform 370 = .ok (.return_, 1) := by decide +kernel
theorem dMo_rung_0 : decode bMo_rung 0 = .ok (.aload_n 0, 1) := by decide +kernel
theorem dMo_rung_1 : decode bMo_rung 1 = .ok (.iconst 0, 1) := by decide +kernel
theorem dMo_rung_2 : decode bMo_rung 2 = .ok (.putfield 143, 3) := by decide +kernel
theorem dMo_rung_5 : decode bMo_rung 5 = .ok (.bipush 10, 2) := by decide +kernel
theorem dMo_rung_7 : decode bMo_rung 7 = .ok (.iload_n 1, 1) := by decide +kernel
theorem dMo_rung_8 : decode bMo_rung 8 = .ok (.imul, 1) := by decide +kernel
theorem dMo_rung_9 : decode bMo_rung 9 = .ok (.istore_n 2, 1) := by decide +kernel
theorem dMo_rung_10 : decode bMo_rung 10 = .ok (.iload_n 2, 1) := by decide +kernel
theorem dMo_rung_11 : decode bMo_rung 11 = .ok (.bipush 10, 2) := by decide +kernel
theorem dMo_rung_13 : decode bMo_rung 13 = .ok (.iload_n 1, 1) := by decide +kernel
theorem dMo_rung_14 : decode bMo_rung 14 = .ok (.imul, 1) := by decide +kernel
theorem dMo_rung_15 : decode bMo_rung 15 = .ok (.aload_n 0, 1) := by decide +kernel
theorem dMo_rung_16 : decode bMo_rung 16 = .ok (.getfield 68, 3) := by decide +kernel
theorem dMo_rung_19 : decode bMo_rung 19 = .ok (.iload_n 1, 1) := by decide +kernel
theorem dMo_rung_20 : decode bMo_rung 20 = .ok (.iaload, 1) := by decide +kernel
theorem dMo_rung_21 : decode bMo_rung 21 = .ok (.iadd, 1) := by decide +kernel
theorem dMo_rung_22 : decode bMo_rung 22 = .ok (.if_icmp .ge 71, 3) := by decide +kernel
theorem dMo_rung_25 : decode bMo_rung 25 = .ok (.aload_n 0, 1) := by decide +kernel
theorem dMo_rung_26 : decode bMo_rung 26 = .ok (.getfield 62, 3) := by decide +kernel
theorem dMo_rung_29 : decode bMo_rung 29 = .ok (.iload_n 2, 1) := by decide +kernel
theorem dMo_rung_30 : decode bMo_rung 30 = .ok (.iaload, 1) := by decide +kernel
theorem dMo_rung_31 : decode bMo_rung 31 = .ok (.bipush 13, 2) := by decide +kernel
theorem dMo_rung_33 : decode bMo_rung 33 = .ok (.if_icmp .eq 22, 3) := by decide +kernel
theorem dMo_rung_36 : decode bMo_rung 36 = .ok (.aload_n 0, 1) := by decide +kernel
theorem dMo_rung_37 : decode bMo_rung 37 = .ok (.aload_n 0, 1) := by decide +kernel
theorem dMo_rung_38 : decode bMo_rung 38 = .ok (.getfield 62, 3) := by decide +kernel
theorem dMo_rung_41 : decode bMo_rung 41 = .ok (.iload_n 2, 1) := by decide +kernel
theorem dMo_rung_42 : decode bMo_rung 42 = .ok (.iaload, 1) := by decide +kernel
theorem dMo_rung_43 : decode bMo_rung 43 = .ok (.aload_n 0, 1) := by decide +kernel
theorem dMo_rung_44 : decode bMo_rung 44 = .ok (.getfield 65, 3) := by decide +kernel
theorem dMo_rung_47 : decode bMo_rung 47 = .ok (.iload_n 2, 1) := by decide +kernel
theorem dMo_rung_48 : decode bMo_rung 48 = .ok (.iaload, 1) := by decide +kernel
theorem dMo_rung_49 : decode bMo_rung 49 = .ok (.invokevirtual 153, 3) := by decide +kernel
theorem dMo_rung_52 : decode bMo_rung 52 = .ok (.goto 25, 3) := by decide +kernel
theorem dMo_rung_55 : decode bMo_rung 55 = .ok (.aload_n 0, 1) := by decide +kernel
theorem dMo_rung_56 : decode bMo_rung 56 = .ok (.getfield 71, 3) := by decide +kernel
theorem dMo_rung_59 : decode bMo_rung 59 = .ok (.aload_n 0, 1) := by decide +kernel
theorem dMo_rung_60 : decode bMo_rung 60 = .ok (.getfield 143, 3) := by decide +kernel
theorem dMo_rung_63 : decode bMo_rung 63 = .ok (.iconst 1, 1) := by decide +kernel
theorem dMo_rung_64 : decode bMo_rung 64 = .ok (.isub, 1) := by decide +kernel
theorem dMo_rung_65 : decode bMo_rung 65 = .ok (.iaload, 1) := by decide +kernel
theorem dMo_rung_66 : decode bMo_rung 66 = .ok (.iconst 1, 1) := by decide +kernel
theorem dMo_rung_67 : decode bMo_rung 67 = .ok (.if_icmp .ne 10, 3) := by decide +kernel
theorem dMo_rung_70 : decode bMo_rung 70 = .ok (.aload_n 0, 1) := by decide +kernel
theorem dMo_rung_71 : decode bMo_rung 71 = .ok (.getfield 65, 3) := by decide +kernel
theorem dMo_rung_74 : decode bMo_rung 74 = .ok (.iload_n 2, 1) := by decide +kernel
theorem dMo_rung_75 : decode bMo_rung 75 = .ok (.iaload, 1) := by decide +kernel
theorem dMo_rung_76 : decode bMo_rung 76 = .ok (.ireturn, 1) := by decide +kernel
theorem dMo_rung_77 : decode bMo_rung 77 = .ok (.aload_n 0, 1) := by decide +kernel
theorem dMo_rung_78 : decode bMo_rung 78 = .ok (.getfield 133, 3) := by decide +kernel
theorem dMo_rung_81 : decode bMo_rung 81 = .ok (.ifCond .eq 6, 3) := by decide +kernel
theorem dMo_rung_84 : decode bMo_rung 84 = .ok (.bipush 12, 2) := by decide +kernel
theorem dMo_rung_86 : decode bMo_rung 86 = .ok (.ireturn, 1) := by decide +kernel
theorem dMo_rung_87 : decode bMo_rung 87 = .ok (.iinc 2 1, 3) := by decide +kernel
theorem dMo_rung_90 : decode bMo_rung 90 = .ok (.goto (-80), 3) := by decide +kernel
theorem dMo_rung_93 : decode bMo_rung 93 = .ok (.iload_n 1, 1) := by decide +kernel
theorem dMo_rung_94 : decode bMo_rung 94 = .ok (.iconst 1, 1) := by decide +kernel
theorem dMo_rung_95 : decode bMo_rung 95 = .ok (.iadd, 1) := by decide +kernel
theorem dMo_rung_96 : decode bMo_rung 96 = .ok (.ireturn, 1) := by decide +kernel
theorem dMo_scanOnce_0 : decode bMo_scanOnce 0 = .ok (.iconst 0, 1) := by decide +kernel
theorem dMo_scanOnce_1 : decode bMo_scanOnce 1 = .ok (.istore_n 1, 1) := by decide +kernel
theorem dMo_scanOnce_2 : decode bMo_scanOnce 2 = .ok (.iconst 0, 1) := by decide +kernel
theorem dMo_scanOnce_3 : decode bMo_scanOnce 3 = .ok (.istore_n 2, 1) := by decide +kernel
theorem dMo_scanOnce_4 : decode bMo_scanOnce 4 = .ok (.aload_n 0, 1) := by decide +kernel
theorem dMo_scanOnce_5 : decode bMo_scanOnce 5 = .ok (.iconst 0, 1) := by decide +kernel
theorem dMo_scanOnce_6 : decode bMo_scanOnce 6 = .ok (.putfield 133, 3) := by decide +kernel
theorem dMo_scanOnce_9 : decode bMo_scanOnce 9 = .ok (.iconst 0, 1) := by decide +kernel
theorem dMo_scanOnce_10 : decode bMo_scanOnce 10 = .ok (.istore_n 3, 1) := by decide +kernel
theorem dMo_scanOnce_11 : decode bMo_scanOnce 11 = .ok (.iload_n 3, 1) := by decide +kernel
theorem dMo_scanOnce_12 : decode bMo_scanOnce 12 = .ok (.bipush 8, 2) := by decide +kernel
theorem dMo_scanOnce_14 : decode bMo_scanOnce 14 = .ok (.if_icmp .ge 21, 3) := by decide +kernel
theorem dMo_scanOnce_17 : decode bMo_scanOnce 17 = .ok (.aload_n 0, 1) := by decide +kernel
theorem dMo_scanOnce_18 : decode bMo_scanOnce 18 = .ok (.getfield 7, 3) := by decide +kernel
theorem dMo_scanOnce_21 : decode bMo_scanOnce 21 = .ok (.iload_n 3, 1) := by decide +kernel
theorem dMo_scanOnce_22 : decode bMo_scanOnce 22 = .ok (.aload_n 0, 1) := by decide +kernel
theorem dMo_scanOnce_23 : decode bMo_scanOnce 23 = .ok (.getfield 16, 3) := by decide +kernel
theorem dMo_scanOnce_26 : decode bMo_scanOnce 26 = .ok (.iload_n 3, 1) := by decide +kernel
theorem dMo_scanOnce_27 : decode bMo_scanOnce 27 = .ok (.iaload, 1) := by decide +kernel
theorem dMo_scanOnce_28 : decode bMo_scanOnce 28 = .ok (.iastore, 1) := by decide +kernel
theorem dMo_scanOnce_29 : decode bMo_scanOnce 29 = .ok (.iinc 3 1, 3) := by decide +kernel
theorem dMo_scanOnce_32 : decode bMo_scanOnce 32 = .ok (.goto (-21), 3) := by decide +kernel
theorem dMo_scanOnce_35 : decode bMo_scanOnce 35 = .ok (.iload_n 2, 1) := by decide +kernel
theorem dMo_scanOnce_36 : decode bMo_scanOnce 36 = .ok (.bipush 12, 2) := by decide +kernel
theorem dMo_scanOnce_38 : decode bMo_scanOnce 38 = .ok (.if_icmp .ge 36, 3) := by decide +kernel
theorem dMo_scanOnce_41 : decode bMo_scanOnce 41 = .ok (.aload_n 0, 1) := by decide +kernel
theorem dMo_scanOnce_42 : decode bMo_scanOnce 42 = .ok (.getfield 133, 3) := by decide +kernel
theorem dMo_scanOnce_45 : decode bMo_scanOnce 45 = .ok (.ifCond .ne 29, 3) := by decide +kernel
theorem dMo_scanOnce_48 : decode bMo_scanOnce 48 = .ok (.iload_n 1, 1) := by decide +kernel
theorem dMo_scanOnce_49 : decode bMo_scanOnce 49 = .ok (.bipush 30, 2) := by decide +kernel
theorem dMo_scanOnce_51 : decode bMo_scanOnce 51 = .ok (.if_icmp .ne 11, 3) := by decide +kernel
theorem dMo_scanOnce_54 : decode bMo_scanOnce 54 = .ok (.aload_n 0, 1) := by decide +kernel
theorem dMo_scanOnce_55 : decode bMo_scanOnce 55 = .ok (.iconst 2, 1) := by decide +kernel
theorem dMo_scanOnce_56 : decode bMo_scanOnce 56 = .ok (.putfield 133, 3) := by decide +kernel
theorem dMo_scanOnce_59 : decode bMo_scanOnce 59 = .ok (.goto (-24), 3) := by decide +kernel
theorem dMo_scanOnce_62 : decode bMo_scanOnce 62 = .ok (.iinc 1 1, 3) := by decide +kernel
theorem dMo_scanOnce_65 : decode bMo_scanOnce 65 = .ok (.aload_n 0, 1) := by decide +kernel
theorem dMo_scanOnce_66 : decode bMo_scanOnce 66 = .ok (.iload_n 2, 1) := by decide +kernel
theorem dMo_scanOnce_67 : decode bMo_scanOnce 67 = .ok (.invokevirtual 156, 3) := by decide +kernel
theorem dMo_scanOnce_70 : decode bMo_scanOnce 70 = .ok (.istore_n 2, 1) := by decide +kernel
theorem dMo_scanOnce_71 : decode bMo_scanOnce 71 = .ok (.goto (-36), 3) := by decide +kernel
theorem dMo_scanOnce_74 : decode bMo_scanOnce 74 = .ok (.aload_n 0, 1) := by decide +kernel
theorem dMo_scanOnce_75 : decode bMo_scanOnce 75 = .ok (.dup, 1) := by decide +kernel
theorem dMo_scanOnce_76 : decode bMo_scanOnce 76 = .ok (.getfield 159, 3) := by decide +kernel
theorem dMo_scanOnce_79 : decode bMo_scanOnce 79 = .ok (.iload_n 1, 1) := by decide +kernel
theorem dMo_scanOnce_80 : decode bMo_scanOnce 80 = .ok (.iadd, 1) := by decide +kernel
theorem dMo_scanOnce_81 : decode bMo_scanOnce 81 = .ok (.putfield 159, 3) := by decide +kernel
theorem dMo_scanOnce_84 : decode bMo_scanOnce 84 = .ok (.iconst 0, 1) := by decide +kernel
theorem dMo_scanOnce_85 : decode bMo_scanOnce 85 = .ok (.istore_n 3, 1) := by decide +kernel
theorem dMo_scanOnce_86 : decode bMo_scanOnce 86 = .ok (.iload_n 3, 1) := by decide +kernel
theorem dMo_scanOnce_87 : decode bMo_scanOnce 87 = .ok (.bipush 8, 2) := by decide +kernel
theorem dMo_scanOnce_89 : decode bMo_scanOnce 89 = .ok (.if_icmp .ge 34, 3) := by decide +kernel
theorem dMo_scanOnce_92 : decode bMo_scanOnce 92 = .ok (.aload_n 0, 1) := by decide +kernel
theorem dMo_scanOnce_93 : decode bMo_scanOnce 93 = .ok (.getfield 19, 3) := by decide +kernel
theorem dMo_scanOnce_96 : decode bMo_scanOnce 96 = .ok (.iload_n 3, 1) := by decide +kernel
theorem dMo_scanOnce_97 : decode bMo_scanOnce 97 = .ok (.aload_n 0, 1) := by decide +kernel
theorem dMo_scanOnce_98 : decode bMo_scanOnce 98 = .ok (.getfield 133, 3) := by decide +kernel
theorem dMo_scanOnce_101 : decode bMo_scanOnce 101 = .ok (.ifCond .ne 14, 3) := by decide +kernel
theorem dMo_scanOnce_104 : decode bMo_scanOnce 104 = .ok (.aload_n 0, 1) := by decide +kernel
theorem dMo_scanOnce_105 : decode bMo_scanOnce 105 = .ok (.bipush 8, 2) := by decide +kernel
theorem dMo_scanOnce_107 : decode bMo_scanOnce 107 = .ok (.iload_n 3, 1) := by decide +kernel
theorem dMo_scanOnce_108 : decode bMo_scanOnce 108 = .ok (.iadd, 1) := by decide +kernel
theorem dMo_scanOnce_109 : decode bMo_scanOnce 109 = .ok (.invokevirtual 136, 3) := by decide +kernel
theorem dMo_scanOnce_112 : decode bMo_scanOnce 112 = .ok (.goto 4, 3) := by decide +kernel
theorem dMo_scanOnce_115 : decode bMo_scanOnce 115 = .ok (.iconst 0, 1) := by decide +kernel
theorem dMo_scanOnce_116 : decode bMo_scanOnce 116 = .ok (.iastore, 1) := by decide +kernel
theorem dMo_scanOnce_117 : decode bMo_scanOnce 117 = .ok (.iinc 3 1, 3) := by decide +kernel
theorem dMo_scanOnce_120 : decode bMo_scanOnce 120 = .ok (.goto (-34), 3) := by decide +kernel
theorem dMo_scanOnce_123 : decode bMo_scanOnce 123 = .ok (.aload_n 0, 1) := by decide +kernel
theorem dMo_scanOnce_124 : decode bMo_scanOnce 124 = .ok (.getfield 133, 3) := by decide +kernel
theorem dMo_scanOnce_127 : decode bMo_scanOnce 127 = .ok (.ifCond .ne 16, 3) := by decide +kernel
theorem dMo_scanOnce_130 : decode bMo_scanOnce 130 = .ok (.aload_n 0, 1) := by decide +kernel
theorem dMo_scanOnce_131 : decode bMo_scanOnce 131 = .ok (.dup, 1) := by decide +kernel
theorem dMo_scanOnce_132 : decode bMo_scanOnce 132 = .ok (.getfield 162, 3) := by decide +kernel
theorem dMo_scanOnce_135 : decode bMo_scanOnce 135 = .ok (.iconst 1, 1) := by decide +kernel
theorem dMo_scanOnce_136 : decode bMo_scanOnce 136 = .ok (.iadd, 1) := by decide +kernel
theorem dMo_scanOnce_137 : decode bMo_scanOnce 137 = .ok (.putfield 162, 3) := by decide +kernel
theorem dMo_scanOnce_140 : decode bMo_scanOnce 140 = .ok (.goto 18, 3) := by decide +kernel
theorem dMo_scanOnce_143 : decode bMo_scanOnce 143 = .ok (.aload_n 0, 1) := by decide +kernel
theorem dMo_scanOnce_144 : decode bMo_scanOnce 144 = .ok (.dup, 1) := by decide +kernel
theorem dMo_scanOnce_145 : decode bMo_scanOnce 145 = .ok (.getfield 165, 3) := by decide +kernel
theorem dMo_scanOnce_148 : decode bMo_scanOnce 148 = .ok (.iconst 1, 1) := by decide +kernel
theorem dMo_scanOnce_149 : decode bMo_scanOnce 149 = .ok (.iadd, 1) := by decide +kernel
theorem dMo_scanOnce_150 : decode bMo_scanOnce 150 = .ok (.putfield 165, 3) := by decide +kernel
theorem dMo_scanOnce_153 : decode bMo_scanOnce 153 = .ok (.aload_n 0, 1) := by decide +kernel
theorem dMo_scanOnce_154 : decode bMo_scanOnce 154 = .ok (.iconst 1, 1) := by decide +kernel
theorem dMo_scanOnce_155 : decode bMo_scanOnce 155 = .ok (.putfield 168, 3) := by decide +kernel
theorem dMo_scanOnce_158 : decode bMo_scanOnce 158 = .ok (.return_, 1) := by decide +kernel
theorem dMo_scan_0 : decode bMo_scan 0 = .ok (.aload_n 0, 1) := by decide +kernel
theorem dMo_scan_1 : decode bMo_scan 1 = .ok (.iconst 0, 1) := by decide +kernel
theorem dMo_scan_2 : decode bMo_scan 2 = .ok (.putfield 74, 3) := by decide +kernel
theorem dMo_scan_5 : decode bMo_scan 5 = .ok (.iload_n 1, 1) := by decide +kernel
theorem dMo_scan_6 : decode bMo_scan 6 = .ok (.iconst 1, 1) := by decide +kernel
theorem dMo_scan_7 : decode bMo_scan 7 = .ok (.bipush 20, 2) := by decide +kernel
theorem dMo_scan_9 : decode bMo_scan 9 = .ok (.invokestatic 88, 3) := by decide +kernel
theorem dMo_scan_12 : decode bMo_scan 12 = .ok (.ifCond .ne 9, 3) := by decide +kernel
theorem dMo_scan_15 : decode bMo_scan 15 = .ok (.aload_n 0, 1) := by decide +kernel
theorem dMo_scan_16 : decode bMo_scan 16 = .ok (.iconst 1, 1) := by decide +kernel
theorem dMo_scan_17 : decode bMo_scan 17 = .ok (.invokevirtual 92, 3) := by decide +kernel
theorem dMo_scan_20 : decode bMo_scan 20 = .ok (.ireturn, 1) := by decide +kernel
theorem dMo_scan_21 : decode bMo_scan 21 = .ok (.aload_n 0, 1) := by decide +kernel
theorem dMo_scan_22 : decode bMo_scan 22 = .ok (.getfield 168, 3) := by decide +kernel
theorem dMo_scan_25 : decode bMo_scan 25 = .ok (.ifCond .eq 9, 3) := by decide +kernel
theorem dMo_scan_28 : decode bMo_scan 28 = .ok (.aload_n 0, 1) := by decide +kernel
theorem dMo_scan_29 : decode bMo_scan 29 = .ok (.iconst 2, 1) := by decide +kernel
theorem dMo_scan_30 : decode bMo_scan 30 = .ok (.invokevirtual 92, 3) := by decide +kernel
theorem dMo_scan_33 : decode bMo_scan 33 = .ok (.ireturn, 1) := by decide +kernel
theorem dMo_scan_34 : decode bMo_scan 34 = .ok (.aload_n 0, 1) := by decide +kernel
theorem dMo_scan_35 : decode bMo_scan 35 = .ok (.iconst 0, 1) := by decide +kernel
theorem dMo_scan_36 : decode bMo_scan 36 = .ok (.putfield 159, 3) := by decide +kernel
theorem dMo_scan_39 : decode bMo_scan 39 = .ok (.iconst 0, 1) := by decide +kernel
theorem dMo_scan_40 : decode bMo_scan 40 = .ok (.istore_n 2, 1) := by decide +kernel
theorem dMo_scan_41 : decode bMo_scan 41 = .ok (.iload_n 2, 1) := by decide +kernel
theorem dMo_scan_42 : decode bMo_scan 42 = .ok (.iload_n 1, 1) := by decide +kernel
theorem dMo_scan_43 : decode bMo_scan 43 = .ok (.if_icmp .ge 20, 3) := by decide +kernel
theorem dMo_scan_46 : decode bMo_scan 46 = .ok (.aload_n 0, 1) := by decide +kernel
theorem dMo_scan_47 : decode bMo_scan 47 = .ok (.getfield 168, 3) := by decide +kernel
theorem dMo_scan_50 : decode bMo_scan 50 = .ok (.ifCond .ne 13, 3) := by decide +kernel
theorem dMo_scan_53 : decode bMo_scan 53 = .ok (.aload_n 0, 1) := by decide +kernel
theorem dMo_scan_54 : decode bMo_scan 54 = .ok (.invokevirtual 172, 3) := by decide +kernel
theorem dMo_scan_57 : decode bMo_scan 57 = .ok (.iinc 2 1, 3) := by decide +kernel
theorem dMo_scan_60 : decode bMo_scan 60 = .ok (.goto (-19), 3) := by decide +kernel
theorem dMo_scan_63 : decode bMo_scan 63 = .ok (.aload_n 0, 1) := by decide +kernel
theorem dMo_scan_64 : decode bMo_scan 64 = .ok (.getfield 168, 3) := by decide +kernel
theorem dMo_scan_67 : decode bMo_scan 67 = .ok (.ifCond .eq 14, 3) := by decide +kernel
theorem dMo_scan_70 : decode bMo_scan 70 = .ok (.aload_n 0, 1) := by decide +kernel
theorem dMo_scan_71 : decode bMo_scan 71 = .ok (.aload_n 0, 1) := by decide +kernel
theorem dMo_scan_72 : decode bMo_scan 72 = .ok (.getfield 133, 3) := by decide +kernel
theorem dMo_scan_75 : decode bMo_scan 75 = .ok (.invokevirtual 92, 3) := by decide +kernel
theorem dMo_scan_78 : decode bMo_scan 78 = .ok (.goto 7, 3) := by decide +kernel
theorem dMo_scan_81 : decode bMo_scan 81 = .ok (.aload_n 0, 1) := by decide +kernel
theorem dMo_scan_82 : decode bMo_scan 82 = .ok (.getfield 159, 3) := by decide +kernel
theorem dMo_scan_85 : decode bMo_scan 85 = .ok (.ireturn, 1) := by decide +kernel
theorem dMo_restart_0 : decode bMo_restart 0 = .ok (.aload_n 0, 1) := by decide +kernel
theorem dMo_restart_1 : decode bMo_restart 1 = .ok (.iconst 0, 1) := by decide +kernel
theorem dMo_restart_2 : decode bMo_restart 2 = .ok (.putfield 74, 3) := by decide +kernel
theorem dMo_restart_5 : decode bMo_restart 5 = .ok (.aload_n 0, 1) := by decide +kernel
theorem dMo_restart_6 : decode bMo_restart 6 = .ok (.getfield 168, 3) := by decide +kernel
theorem dMo_restart_9 : decode bMo_restart 9 = .ok (.istore_n 1, 1) := by decide +kernel
theorem dMo_restart_10 : decode bMo_restart 10 = .ok (.aload_n 0, 1) := by decide +kernel
theorem dMo_restart_11 : decode bMo_restart 11 = .ok (.iconst 0, 1) := by decide +kernel
theorem dMo_restart_12 : decode bMo_restart 12 = .ok (.putfield 168, 3) := by decide +kernel
theorem dMo_restart_15 : decode bMo_restart 15 = .ok (.iload_n 1, 1) := by decide +kernel
theorem dMo_restart_16 : decode bMo_restart 16 = .ok (.ifCond .eq 7, 3) := by decide +kernel
theorem dMo_restart_19 : decode bMo_restart 19 = .ok (.iconst 1, 1) := by decide +kernel
theorem dMo_restart_20 : decode bMo_restart 20 = .ok (.goto 4, 3) := by decide +kernel
theorem dMo_restart_23 : decode bMo_restart 23 = .ok (.iconst 0, 1) := by decide +kernel
theorem dMo_restart_24 : decode bMo_restart 24 = .ok (.ireturn, 1) := by decide +kernel
theorem dMo_fail_0 : decode bMo_fail 0 = .ok (.aload_n 0, 1) := by decide +kernel
theorem dMo_fail_1 : decode bMo_fail 1 = .ok (.iconst 0, 1) := by decide +kernel
theorem dMo_fail_2 : decode bMo_fail 2 = .ok (.putfield 74, 3) := by decide +kernel
theorem dMo_fail_5 : decode bMo_fail 5 = .ok (.iconst 0, 1) := by decide +kernel
theorem dMo_fail_6 : decode bMo_fail 6 = .ok (.istore_n 1, 1) := by decide +kernel
theorem dMo_fail_7 : decode bMo_fail 7 = .ok (.iconst 0, 1) := by decide +kernel
theorem dMo_fail_8 : decode bMo_fail 8 = .ok (.istore_n 2, 1) := by decide +kernel
theorem dMo_fail_9 : decode bMo_fail 9 = .ok (.iload_n 2, 1) := by decide +kernel
theorem dMo_fail_10 : decode bMo_fail 10 = .ok (.bipush 24, 2) := by decide +kernel
theorem dMo_fail_12 : decode bMo_fail 12 = .ok (.if_icmp .ge 16, 3) := by decide +kernel
theorem dMo_fail_15 : decode bMo_fail 15 = .ok (.aload_n 0, 1) := by decide +kernel
theorem dMo_fail_16 : decode bMo_fail 16 = .ok (.getfield 7, 3) := by decide +kernel
theorem dMo_fail_19 : decode bMo_fail 19 = .ok (.iload_n 2, 1) := by decide +kernel
theorem dMo_fail_20 : decode bMo_fail 20 = .ok (.iconst 0, 1) := by decide +kernel
theorem dMo_fail_21 : decode bMo_fail 21 = .ok (.iastore, 1) := by decide +kernel
theorem dMo_fail_22 : decode bMo_fail 22 = .ok (.iinc 2 1, 3) := by decide +kernel
theorem dMo_fail_25 : decode bMo_fail 25 = .ok (.goto (-16), 3) := by decide +kernel
theorem dMo_fail_28 : decode bMo_fail 28 = .ok (.bipush 24, 2) := by decide +kernel
theorem dMo_fail_30 : decode bMo_fail 30 = .ok (.istore_n 2, 1) := by decide +kernel
theorem dMo_fail_31 : decode bMo_fail 31 = .ok (.iload_n 2, 1) := by decide +kernel
theorem dMo_fail_32 : decode bMo_fail 32 = .ok (.bipush 32, 2) := by decide +kernel
theorem dMo_fail_34 : decode bMo_fail 34 = .ok (.if_icmp .ge 18, 3) := by decide +kernel
theorem dMo_fail_37 : decode bMo_fail 37 = .ok (.iload_n 1, 1) := by decide +kernel
theorem dMo_fail_38 : decode bMo_fail 38 = .ok (.aload_n 0, 1) := by decide +kernel
theorem dMo_fail_39 : decode bMo_fail 39 = .ok (.getfield 7, 3) := by decide +kernel
theorem dMo_fail_42 : decode bMo_fail 42 = .ok (.iload_n 2, 1) := by decide +kernel
theorem dMo_fail_43 : decode bMo_fail 43 = .ok (.iaload, 1) := by decide +kernel
theorem dMo_fail_44 : decode bMo_fail 44 = .ok (.iadd, 1) := by decide +kernel
theorem dMo_fail_45 : decode bMo_fail 45 = .ok (.istore_n 1, 1) := by decide +kernel
theorem dMo_fail_46 : decode bMo_fail 46 = .ok (.iinc 2 1, 3) := by decide +kernel
theorem dMo_fail_49 : decode bMo_fail 49 = .ok (.goto (-18), 3) := by decide +kernel
theorem dMo_fail_52 : decode bMo_fail 52 = .ok (.iconst 0, 1) := by decide +kernel
theorem dMo_fail_53 : decode bMo_fail 53 = .ok (.istore_n 2, 1) := by decide +kernel
theorem dMo_fail_54 : decode bMo_fail 54 = .ok (.iload_n 2, 1) := by decide +kernel
theorem dMo_fail_55 : decode bMo_fail 55 = .ok (.bipush 8, 2) := by decide +kernel
theorem dMo_fail_57 : decode bMo_fail 57 = .ok (.if_icmp .ge 16, 3) := by decide +kernel
theorem dMo_fail_60 : decode bMo_fail 60 = .ok (.aload_n 0, 1) := by decide +kernel
theorem dMo_fail_61 : decode bMo_fail 61 = .ok (.getfield 19, 3) := by decide +kernel
theorem dMo_fail_64 : decode bMo_fail 64 = .ok (.iload_n 2, 1) := by decide +kernel
theorem dMo_fail_65 : decode bMo_fail 65 = .ok (.iconst 0, 1) := by decide +kernel
theorem dMo_fail_66 : decode bMo_fail 66 = .ok (.iastore, 1) := by decide +kernel
theorem dMo_fail_67 : decode bMo_fail 67 = .ok (.iinc 2 1, 3) := by decide +kernel
theorem dMo_fail_70 : decode bMo_fail 70 = .ok (.goto (-16), 3) := by decide +kernel
theorem dMo_fail_73 : decode bMo_fail 73 = .ok (.iconst 0, 1) := by decide +kernel
theorem dMo_fail_74 : decode bMo_fail 74 = .ok (.istore_n 2, 1) := by decide +kernel
theorem dMo_fail_75 : decode bMo_fail 75 = .ok (.iload_n 2, 1) := by decide +kernel
theorem dMo_fail_76 : decode bMo_fail 76 = .ok (.bipush 10, 2) := by decide +kernel
theorem dMo_fail_78 : decode bMo_fail 78 = .ok (.if_icmp .ge 30, 3) := by decide +kernel
theorem dMo_fail_81 : decode bMo_fail 81 = .ok (.aload_n 0, 1) := by decide +kernel
theorem dMo_fail_82 : decode bMo_fail 82 = .ok (.getfield 41, 3) := by decide +kernel
theorem dMo_fail_85 : decode bMo_fail 85 = .ok (.iload_n 2, 1) := by decide +kernel
theorem dMo_fail_86 : decode bMo_fail 86 = .ok (.iconst 0, 1) := by decide +kernel
theorem dMo_fail_87 : decode bMo_fail 87 = .ok (.iastore, 1) := by decide +kernel
theorem dMo_fail_88 : decode bMo_fail 88 = .ok (.aload_n 0, 1) := by decide +kernel
theorem dMo_fail_89 : decode bMo_fail 89 = .ok (.getfield 44, 3) := by decide +kernel
theorem dMo_fail_92 : decode bMo_fail 92 = .ok (.iload_n 2, 1) := by decide +kernel
theorem dMo_fail_93 : decode bMo_fail 93 = .ok (.iconst 0, 1) := by decide +kernel
theorem dMo_fail_94 : decode bMo_fail 94 = .ok (.iastore, 1) := by decide +kernel
theorem dMo_fail_95 : decode bMo_fail 95 = .ok (.aload_n 0, 1) := by decide +kernel
theorem dMo_fail_96 : decode bMo_fail 96 = .ok (.getfield 47, 3) := by decide +kernel
theorem dMo_fail_99 : decode bMo_fail 99 = .ok (.iload_n 2, 1) := by decide +kernel
theorem dMo_fail_100 : decode bMo_fail 100 = .ok (.iconst 0, 1) := by decide +kernel
theorem dMo_fail_101 : decode bMo_fail 101 = .ok (.iastore, 1) := by decide +kernel
theorem dMo_fail_102 : decode bMo_fail 102 = .ok (.iinc 2 1, 3) := by decide +kernel
theorem dMo_fail_105 : decode bMo_fail 105 = .ok (.goto (-30), 3) := by decide +kernel
theorem dMo_fail_108 : decode bMo_fail 108 = .ok (.aload_n 0, 1) := by decide +kernel
theorem dMo_fail_109 : decode bMo_fail 109 = .ok (.iconst 0, 1) := by decide +kernel
theorem dMo_fail_110 : decode bMo_fail 110 = .ok (.putfield 168, 3) := by decide +kernel
theorem dMo_fail_113 : decode bMo_fail 113 = .ok (.iload_n 1, 1) := by decide +kernel
theorem dMo_fail_114 : decode bMo_fail 114 = .ok (.ireturn, 1) := by decide +kernel
theorem dMo_bit_0 : decode bMo_bit 0 = .ok (.aload_n 0, 1) := by decide +kernel
theorem dMo_bit_1 : decode bMo_bit 1 = .ok (.iconst 0, 1) := by decide +kernel
theorem dMo_bit_2 : decode bMo_bit 2 = .ok (.putfield 74, 3) := by decide +kernel
theorem dMo_bit_5 : decode bMo_bit 5 = .ok (.iload_n 1, 1) := by decide +kernel
theorem dMo_bit_6 : decode bMo_bit 6 = .ok (.iconst 0, 1) := by decide +kernel
theorem dMo_bit_7 : decode bMo_bit 7 = .ok (.bipush 31, 2) := by decide +kernel
theorem dMo_bit_9 : decode bMo_bit 9 = .ok (.invokestatic 88, 3) := by decide +kernel
theorem dMo_bit_12 : decode bMo_bit 12 = .ok (.ifCond .eq 11, 3) := by decide +kernel
theorem dMo_bit_15 : decode bMo_bit 15 = .ok (.aload_n 0, 1) := by decide +kernel
theorem dMo_bit_16 : decode bMo_bit 16 = .ok (.iload_n 1, 1) := by decide +kernel
theorem dMo_bit_17 : decode bMo_bit 17 = .ok (.invokevirtual 136, 3) := by decide +kernel
theorem dMo_bit_20 : decode bMo_bit 20 = .ok (.goto 8, 3) := by decide +kernel
theorem dMo_bit_23 : decode bMo_bit 23 = .ok (.aload_n 0, 1) := by decide +kernel
theorem dMo_bit_24 : decode bMo_bit 24 = .ok (.iconst 1, 1) := by decide +kernel
theorem dMo_bit_25 : decode bMo_bit 25 = .ok (.invokevirtual 92, 3) := by decide +kernel
theorem dMo_bit_28 : decode bMo_bit 28 = .ok (.ireturn, 1) := by decide +kernel
theorem dMo_out_0 : decode bMo_out 0 = .ok (.aload_n 0, 1) := by decide +kernel
theorem dMo_out_1 : decode bMo_out 1 = .ok (.iconst 0, 1) := by decide +kernel
theorem dMo_out_2 : decode bMo_out 2 = .ok (.putfield 74, 3) := by decide +kernel
theorem dMo_out_5 : decode bMo_out 5 = .ok (.iload_n 1, 1) := by decide +kernel
theorem dMo_out_6 : decode bMo_out 6 = .ok (.bipush 8, 2) := by decide +kernel
theorem dMo_out_8 : decode bMo_out 8 = .ok (.bipush 15, 2) := by decide +kernel
theorem dMo_out_10 : decode bMo_out 10 = .ok (.invokestatic 88, 3) := by decide +kernel
theorem dMo_out_13 : decode bMo_out 13 = .ok (.ifCond .eq 15, 3) := by decide +kernel
theorem dMo_out_16 : decode bMo_out 16 = .ok (.aload_n 0, 1) := by decide +kernel
theorem dMo_out_17 : decode bMo_out 17 = .ok (.getfield 19, 3) := by decide +kernel
theorem dMo_out_20 : decode bMo_out 20 = .ok (.iload_n 1, 1) := by decide +kernel
theorem dMo_out_21 : decode bMo_out 21 = .ok (.bipush 8, 2) := by decide +kernel
theorem dMo_out_23 : decode bMo_out 23 = .ok (.isub, 1) := by decide +kernel
theorem dMo_out_24 : decode bMo_out 24 = .ok (.iaload, 1) := by decide +kernel
theorem dMo_out_25 : decode bMo_out 25 = .ok (.goto 8, 3) := by decide +kernel
theorem dMo_out_28 : decode bMo_out 28 = .ok (.aload_n 0, 1) := by decide +kernel
theorem dMo_out_29 : decode bMo_out 29 = .ok (.iconst 1, 1) := by decide +kernel
theorem dMo_out_30 : decode bMo_out 30 = .ok (.invokevirtual 92, 3) := by decide +kernel
theorem dMo_out_33 : decode bMo_out 33 = .ok (.ireturn, 1) := by decide +kernel
theorem dMo_register_0 : decode bMo_register 0 = .ok (.aload_n 0, 1) := by decide +kernel
theorem dMo_register_1 : decode bMo_register 1 = .ok (.iconst 0, 1) := by decide +kernel
theorem dMo_register_2 : decode bMo_register 2 = .ok (.putfield 74, 3) := by decide +kernel
theorem dMo_register_5 : decode bMo_register 5 = .ok (.iload_n 1, 1) := by decide +kernel
theorem dMo_register_6 : decode bMo_register 6 = .ok (.iconst 0, 1) := by decide +kernel
theorem dMo_register_7 : decode bMo_register 7 = .ok (.bipush 7, 2) := by decide +kernel
theorem dMo_register_9 : decode bMo_register 9 = .ok (.invokestatic 88, 3) := by decide +kernel
theorem dMo_register_12 : decode bMo_register 12 = .ok (.ifCond .eq 17, 3) := by decide +kernel
theorem dMo_register_15 : decode bMo_register 15 = .ok (.aload_n 0, 1) := by decide +kernel
theorem dMo_register_16 : decode bMo_register 16 = .ok (.getfield 22, 3) := by decide +kernel
theorem dMo_register_19 : decode bMo_register 19 = .ok (.iload_n 1, 1) := by decide +kernel
theorem dMo_register_20 : decode bMo_register 20 = .ok (.laload, 1) := by decide +kernel
theorem dMo_register_21 : decode bMo_register 21 = .ok (.l2d, 1) := by decide +kernel
theorem dMo_register_22 : decode bMo_register 22 = .ok (.ldc2_w 110, 3) := by decide +kernel
theorem dMo_register_25 : decode bMo_register 25 = .ok (.dmul, 1) := by decide +kernel
theorem dMo_register_26 : decode bMo_register 26 = .ok (.goto 9, 3) := by decide +kernel
theorem dMo_register_29 : decode bMo_register 29 = .ok (.aload_n 0, 1) := by decide +kernel
theorem dMo_register_30 : decode bMo_register 30 = .ok (.iconst 1, 1) := by decide +kernel
theorem dMo_register_31 : decode bMo_register 31 = .ok (.invokevirtual 92, 3) := by decide +kernel
theorem dMo_register_34 : decode bMo_register 34 = .ok (.i2d, 1) := by decide +kernel
theorem dMo_register_35 : decode bMo_register 35 = .ok (.dreturn, 1) := by decide +kernel
theorem dMo_state_0 : decode bMo_state 0 = .ok (.aload_n 0, 1) := by decide +kernel
theorem dMo_state_1 : decode bMo_state 1 = .ok (.iconst 0, 1) := by decide +kernel
theorem dMo_state_2 : decode bMo_state 2 = .ok (.putfield 74, 3) := by decide +kernel
theorem dMo_state_5 : decode bMo_state 5 = .ok (.iload_n 1, 1) := by decide +kernel
theorem dMo_state_6 : decode bMo_state 6 = .ok (.iconst 0, 1) := by decide +kernel
theorem dMo_state_7 : decode bMo_state 7 = .ok (.aload_n 0, 1) := by decide +kernel
theorem dMo_state_8 : decode bMo_state 8 = .ok (.getfield 96, 3) := by decide +kernel
theorem dMo_state_11 : decode bMo_state 11 = .ok (.iconst 1, 1) := by decide +kernel
theorem dMo_state_12 : decode bMo_state 12 = .ok (.isub, 1) := by decide +kernel
theorem dMo_state_13 : decode bMo_state 13 = .ok (.invokestatic 88, 3) := by decide +kernel
theorem dMo_state_16 : decode bMo_state 16 = .ok (.ifCond .ne 9, 3) := by decide +kernel
theorem dMo_state_19 : decode bMo_state 19 = .ok (.aload_n 0, 1) := by decide +kernel
theorem dMo_state_20 : decode bMo_state 20 = .ok (.iconst 1, 1) := by decide +kernel
theorem dMo_state_21 : decode bMo_state 21 = .ok (.invokevirtual 92, 3) := by decide +kernel
theorem dMo_state_24 : decode bMo_state 24 = .ok (.ireturn, 1) := by decide +kernel
theorem dMo_state_25 : decode bMo_state 25 = .ok (.iload_n 2, 1) := by decide +kernel
theorem dMo_state_26 : decode bMo_state 26 = .ok (.tableswitch 47 0 2 #[26, 33, 40], 26) := by decide +kernel
theorem dMo_state_52 : decode bMo_state 52 = .ok (.aload_n 0, 1) := by decide +kernel
theorem dMo_state_53 : decode bMo_state 53 = .ok (.getfield 26, 3) := by decide +kernel
theorem dMo_state_56 : decode bMo_state 56 = .ok (.iload_n 1, 1) := by decide +kernel
theorem dMo_state_57 : decode bMo_state 57 = .ok (.iaload, 1) := by decide +kernel
theorem dMo_state_58 : decode bMo_state 58 = .ok (.ireturn, 1) := by decide +kernel
theorem dMo_state_59 : decode bMo_state 59 = .ok (.aload_n 0, 1) := by decide +kernel
theorem dMo_state_60 : decode bMo_state 60 = .ok (.getfield 41, 3) := by decide +kernel
theorem dMo_state_63 : decode bMo_state 63 = .ok (.iload_n 1, 1) := by decide +kernel
theorem dMo_state_64 : decode bMo_state 64 = .ok (.iaload, 1) := by decide +kernel
theorem dMo_state_65 : decode bMo_state 65 = .ok (.ireturn, 1) := by decide +kernel
theorem dMo_state_66 : decode bMo_state 66 = .ok (.aload_n 0, 1) := by decide +kernel
theorem dMo_state_67 : decode bMo_state 67 = .ok (.getfield 44, 3) := by decide +kernel
theorem dMo_state_70 : decode bMo_state 70 = .ok (.iload_n 1, 1) := by decide +kernel
theorem dMo_state_71 : decode bMo_state 71 = .ok (.iaload, 1) := by decide +kernel
theorem dMo_state_72 : decode bMo_state 72 = .ok (.ireturn, 1) := by decide +kernel
theorem dMo_state_73 : decode bMo_state 73 = .ok (.aload_n 0, 1) := by decide +kernel
theorem dMo_state_74 : decode bMo_state 74 = .ok (.iconst 2, 1) := by decide +kernel
theorem dMo_state_75 : decode bMo_state 75 = .ok (.invokevirtual 92, 3) := by decide +kernel
theorem dMo_state_78 : decode bMo_state 78 = .ok (.ireturn, 1) := by decide +kernel
theorem dMo_count_0 : decode bMo_count 0 = .ok (.aload_n 0, 1) := by decide +kernel
theorem dMo_count_1 : decode bMo_count 1 = .ok (.iconst 0, 1) := by decide +kernel
theorem dMo_count_2 : decode bMo_count 2 = .ok (.putfield 74, 3) := by decide +kernel
theorem dMo_count_5 : decode bMo_count 5 = .ok (.iconst 0, 1) := by decide +kernel
theorem dMo_count_6 : decode bMo_count 6 = .ok (.istore_n 2, 1) := by decide +kernel
theorem dMo_count_7 : decode bMo_count 7 = .ok (.iload_n 1, 1) := by decide +kernel
theorem dMo_count_8 : decode bMo_count 8 = .ok (.tableswitch 121 0 5 #[40, 45, 50, 63, 68, 93], 40) := by decide +kernel
theorem dMo_count_48 : decode bMo_count 48 = .ok (.aload_n 0, 1) := by decide +kernel
theorem dMo_count_49 : decode bMo_count 49 = .ok (.getfield 162, 3) := by decide +kernel
theorem dMo_count_52 : decode bMo_count 52 = .ok (.ireturn, 1) := by decide +kernel
theorem dMo_count_53 : decode bMo_count 53 = .ok (.aload_n 0, 1) := by decide +kernel
theorem dMo_count_54 : decode bMo_count 54 = .ok (.getfield 165, 3) := by decide +kernel
theorem dMo_count_57 : decode bMo_count 57 = .ok (.ireturn, 1) := by decide +kernel
theorem dMo_count_58 : decode bMo_count 58 = .ok (.aload_n 0, 1) := by decide +kernel
theorem dMo_count_59 : decode bMo_count 59 = .ok (.getfield 168, 3) := by decide +kernel
theorem dMo_count_62 : decode bMo_count 62 = .ok (.ifCond .eq 7, 3) := by decide +kernel
theorem dMo_count_65 : decode bMo_count 65 = .ok (.iconst 1, 1) := by decide +kernel
theorem dMo_count_66 : decode bMo_count 66 = .ok (.goto 4, 3) := by decide +kernel
theorem dMo_count_69 : decode bMo_count 69 = .ok (.iconst 0, 1) := by decide +kernel
theorem dMo_count_70 : decode bMo_count 70 = .ok (.ireturn, 1) := by decide +kernel
theorem dMo_count_71 : decode bMo_count 71 = .ok (.aload_n 0, 1) := by decide +kernel
theorem dMo_count_72 : decode bMo_count 72 = .ok (.getfield 96, 3) := by decide +kernel
theorem dMo_count_75 : decode bMo_count 75 = .ok (.ireturn, 1) := by decide +kernel
theorem dMo_count_76 : decode bMo_count 76 = .ok (.iconst 0, 1) := by decide +kernel
theorem dMo_count_77 : decode bMo_count 77 = .ok (.istore_n 3, 1) := by decide +kernel
theorem dMo_count_78 : decode bMo_count 78 = .ok (.iload_n 3, 1) := by decide +kernel
theorem dMo_count_79 : decode bMo_count 79 = .ok (.bipush 12, 2) := by decide +kernel
theorem dMo_count_81 : decode bMo_count 81 = .ok (.if_icmp .ge 18, 3) := by decide +kernel
theorem dMo_count_84 : decode bMo_count 84 = .ok (.iload_n 2, 1) := by decide +kernel
theorem dMo_count_85 : decode bMo_count 85 = .ok (.aload_n 0, 1) := by decide +kernel
theorem dMo_count_86 : decode bMo_count 86 = .ok (.getfield 68, 3) := by decide +kernel
theorem dMo_count_89 : decode bMo_count 89 = .ok (.iload_n 3, 1) := by decide +kernel
theorem dMo_count_90 : decode bMo_count 90 = .ok (.iaload, 1) := by decide +kernel
theorem dMo_count_91 : decode bMo_count 91 = .ok (.iadd, 1) := by decide +kernel
theorem dMo_count_92 : decode bMo_count 92 = .ok (.istore_n 2, 1) := by decide +kernel
theorem dMo_count_93 : decode bMo_count 93 = .ok (.iinc 3 1, 3) := by decide +kernel
theorem dMo_count_96 : decode bMo_count 96 = .ok (.goto (-18), 3) := by decide +kernel
theorem dMo_count_99 : decode bMo_count 99 = .ok (.iload_n 2, 1) := by decide +kernel
theorem dMo_count_100 : decode bMo_count 100 = .ok (.ireturn, 1) := by decide +kernel
theorem dMo_count_101 : decode bMo_count 101 = .ok (.iconst 0, 1) := by decide +kernel
theorem dMo_count_102 : decode bMo_count 102 = .ok (.istore_n 3, 1) := by decide +kernel
theorem dMo_count_103 : decode bMo_count 103 = .ok (.iload_n 3, 1) := by decide +kernel
theorem dMo_count_104 : decode bMo_count 104 = .ok (.bipush 32, 2) := by decide +kernel
theorem dMo_count_106 : decode bMo_count 106 = .ok (.if_icmp .ge 21, 3) := by decide +kernel
theorem dMo_count_109 : decode bMo_count 109 = .ok (.aload_n 0, 1) := by decide +kernel
theorem dMo_count_110 : decode bMo_count 110 = .ok (.getfield 13, 3) := by decide +kernel
theorem dMo_count_113 : decode bMo_count 113 = .ok (.iload_n 3, 1) := by decide +kernel
theorem dMo_count_114 : decode bMo_count 114 = .ok (.iaload, 1) := by decide +kernel
theorem dMo_count_115 : decode bMo_count 115 = .ok (.ifCond .lt 6, 3) := by decide +kernel
theorem dMo_count_118 : decode bMo_count 118 = .ok (.iinc 2 1, 3) := by decide +kernel
theorem dMo_count_121 : decode bMo_count 121 = .ok (.iinc 3 1, 3) := by decide +kernel
theorem dMo_count_124 : decode bMo_count 124 = .ok (.goto (-21), 3) := by decide +kernel
theorem dMo_count_127 : decode bMo_count 127 = .ok (.iload_n 2, 1) := by decide +kernel
theorem dMo_count_128 : decode bMo_count 128 = .ok (.ireturn, 1) := by decide +kernel
theorem dMo_count_129 : decode bMo_count 129 = .ok (.aload_n 0, 1) := by decide +kernel
theorem dMo_count_130 : decode bMo_count 130 = .ok (.iconst 1, 1) := by decide +kernel
theorem dMo_count_131 : decode bMo_count 131 = .ok (.invokevirtual 92, 3) := by decide +kernel
theorem dMo_count_134 : decode bMo_count 134 = .ok (.ireturn, 1) := by decide +kernel
end
section
/-! decode rows of LadderScan -/
theorem dX_init_0 : decode bX_init 0 = .ok (.aload_n 0, 1) := by decide +kernel
theorem dX_init_1 : decode bX_init 1 = .ok (.invokespecial 3, 3) := by decide +kernel
theorem dX_init_4 : decode bX_init 4 = .ok (.aload_n 0, 1) := by decide +kernel
theorem dX_init_5 : decode bX_init 5 = .ok (.new 9, 3) := by decide +kernel
theorem dX_init_8 : decode bX_init 8 = .ok (.dup, 1) := by decide +kernel
theorem dX_init_9 : decode bX_init 9 = .ok (.invokespecial 11, 3) := by decide +kernel
theorem dX_init_12 : decode bX_init 12 = .ok (.putfield 12, 3) := by decide +kernel
theorem dX_init_15 : decode bX_init 15 = .ok (.aload_n 0, 1) := by decide +kernel
theorem dX_init_16 : decode bX_init 16 = .ok (.bipush 10, 2) := by decide +kernel
theorem dX_init_18 : decode bX_init 18 = .ok (.anewarray 16, 3) := by decide +kernel
theorem dX_init_21 : decode bX_init 21 = .ok (.putfield 18, 3) := by decide +kernel
theorem dX_init_24 : decode bX_init 24 = .ok (.aload_n 0, 1) := by decide +kernel
theorem dX_init_25 : decode bX_init 25 = .ok (.new 22, 3) := by decide +kernel
theorem dX_init_28 : decode bX_init 28 = .ok (.dup, 1) := by decide +kernel
theorem dX_init_29 : decode bX_init 29 = .ok (.invokespecial 24, 3) := by decide +kernel
theorem dX_init_32 : decode bX_init 32 = .ok (.putfield 25, 3) := by decide +kernel
theorem dX_init_35 : decode bX_init 35 = .ok (.aload_n 0, 1) := by decide +kernel
theorem dX_init_36 : decode bX_init 36 = .ok (.new 22, 3) := by decide +kernel
theorem dX_init_39 : decode bX_init 39 = .ok (.dup, 1) := by decide +kernel
theorem dX_init_40 : decode bX_init 40 = .ok (.invokespecial 24, 3) := by decide +kernel
theorem dX_init_43 : decode bX_init 43 = .ok (.putfield 29, 3) := by decide +kernel
theorem dX_init_46 : decode bX_init 46 = .ok (.aload_n 0, 1) := by decide +kernel
theorem dX_init_47 : decode bX_init 47 = .ok (.iconst 0, 1) := by decide +kernel
theorem dX_init_48 : decode bX_init 48 = .ok (.putfield 32, 3) := by decide +kernel
theorem dX_init_51 : decode bX_init 51 = .ok (.aload_n 0, 1) := by decide +kernel
theorem dX_init_52 : decode bX_init 52 = .ok (.iconst 0, 1) := by decide +kernel
theorem dX_init_53 : decode bX_init 53 = .ok (.putfield 36, 3) := by decide +kernel
theorem dX_init_56 : decode bX_init 56 = .ok (.aload_n 0, 1) := by decide +kernel
theorem dX_init_57 : decode bX_init 57 = .ok (.iconst 0, 1) := by decide +kernel
theorem dX_init_58 : decode bX_init 58 = .ok (.putfield 39, 3) := by decide +kernel
theorem dX_init_61 : decode bX_init 61 = .ok (.aload_n 0, 1) := by decide +kernel
theorem dX_init_62 : decode bX_init 62 = .ok (.iconst 0, 1) := by decide +kernel
theorem dX_init_63 : decode bX_init 63 = .ok (.putfield 42, 3) := by decide +kernel
theorem dX_init_66 : decode bX_init 66 = .ok (.iconst 0, 1) := by decide +kernel
theorem dX_init_67 : decode bX_init 67 = .ok (.istore_n 1, 1) := by decide +kernel
theorem dX_init_68 : decode bX_init 68 = .ok (.iload_n 1, 1) := by decide +kernel
theorem dX_init_69 : decode bX_init 69 = .ok (.bipush 10, 2) := by decide +kernel
theorem dX_init_71 : decode bX_init 71 = .ok (.if_icmp .ge 22, 3) := by decide +kernel
theorem dX_init_74 : decode bX_init 74 = .ok (.aload_n 0, 1) := by decide +kernel
theorem dX_init_75 : decode bX_init 75 = .ok (.getfield 18, 3) := by decide +kernel
theorem dX_init_78 : decode bX_init 78 = .ok (.iload_n 1, 1) := by decide +kernel
theorem dX_init_79 : decode bX_init 79 = .ok (.new 16, 3) := by decide +kernel
theorem dX_init_82 : decode bX_init 82 = .ok (.dup, 1) := by decide +kernel
theorem dX_init_83 : decode bX_init 83 = .ok (.invokespecial 46, 3) := by decide +kernel
theorem dX_init_86 : decode bX_init 86 = .ok (.aastore, 1) := by decide +kernel
theorem dX_init_87 : decode bX_init 87 = .ok (.iinc 1 1, 3) := by decide +kernel
theorem dX_init_90 : decode bX_init 90 = .ok (.goto (-22), 3) := by decide +kernel
theorem dX_init_93 : decode bX_init 93 = .ok (.return_, 1) := by decide +kernel
theorem dX_block_0 : decode bX_block 0 = .ok (.iload_n 1, 1) := by decide +kernel
theorem dX_block_1 : decode bX_block 1 = .ok (.iload_n 2, 1) := by decide +kernel
theorem dX_block_2 : decode bX_block 2 = .ok (.iload_n 3, 1) := by decide +kernel
theorem dX_block_3 : decode bX_block 3 = .ok (.invokestatic 47, 3) := by decide +kernel
theorem dX_block_6 : decode bX_block 6 = .ok (.ifCond .ne 11, 3) := by decide +kernel
theorem dX_block_9 : decode bX_block 9 = .ok (.new 51, 3) := by decide +kernel
theorem dX_block_12 : decode bX_block 12 = .ok (.dup, 1) := by decide +kernel
theorem dX_block_13 : decode bX_block 13 = .ok (.invokespecial 53, 3) := by decide +kernel
theorem dX_block_16 : decode bX_block 16 = .ok (.athrow, 1) := by decide +kernel
theorem dX_block_17 : decode bX_block 17 = .ok (.aload_n 0, 1) := by decide +kernel
theorem dX_block_18 : decode bX_block 18 = .ok (.getfield 32, 3) := by decide +kernel
theorem dX_block_21 : decode bX_block 21 = .ok (.bipush 10, 2) := by decide +kernel
theorem dX_block_23 : decode bX_block 23 = .ok (.if_icmp .lt 11, 3) := by decide +kernel
theorem dX_block_26 : decode bX_block 26 = .ok (.new 54, 3) := by decide +kernel
theorem dX_block_29 : decode bX_block 29 = .ok (.dup, 1) := by decide +kernel
theorem dX_block_30 : decode bX_block 30 = .ok (.invokespecial 56, 3) := by decide +kernel
theorem dX_block_33 : decode bX_block 33 = .ok (.athrow, 1) := by decide +kernel
theorem dX_block_34 : decode bX_block 34 = .ok (.aload_n 0, 1) := by decide +kernel
theorem dX_block_35 : decode bX_block 35 = .ok (.getfield 18, 3) := by decide +kernel
theorem dX_block_38 : decode bX_block 38 = .ok (.aload_n 0, 1) := by decide +kernel
theorem dX_block_39 : decode bX_block 39 = .ok (.getfield 32, 3) := by decide +kernel
theorem dX_block_42 : decode bX_block 42 = .ok (.aaload, 1) := by decide +kernel
theorem dX_block_43 : decode bX_block 43 = .ok (.iload_n 1, 1) := by decide +kernel
theorem dX_block_44 : decode bX_block 44 = .ok (.iload_n 2, 1) := by decide +kernel
theorem dX_block_45 : decode bX_block 45 = .ok (.iload_n 3, 1) := by decide +kernel
theorem dX_block_46 : decode bX_block 46 = .ok (.invokevirtual 57, 3) := by decide +kernel
theorem dX_block_49 : decode bX_block 49 = .ok (.aload_n 0, 1) := by decide +kernel
theorem dX_block_50 : decode bX_block 50 = .ok (.dup, 1) := by decide +kernel
theorem dX_block_51 : decode bX_block 51 = .ok (.getfield 32, 3) := by decide +kernel
theorem dX_block_54 : decode bX_block 54 = .ok (.iconst 1, 1) := by decide +kernel
theorem dX_block_55 : decode bX_block 55 = .ok (.iadd, 1) := by decide +kernel
theorem dX_block_56 : decode bX_block 56 = .ok (.putfield 32, 3) := by decide +kernel
theorem dX_block_59 : decode bX_block 59 = .ok (.aload_n 0, 1) := by decide +kernel
theorem dX_block_60 : decode bX_block 60 = .ok (.getfield 32, 3) := by decide +kernel
theorem dX_block_63 : decode bX_block 63 = .ok (.iconst 1, 1) := by decide +kernel
theorem dX_block_64 : decode bX_block 64 = .ok (.isub, 1) := by decide +kernel
theorem dX_block_65 : decode bX_block 65 = .ok (.ireturn, 1) := by decide +kernel
theorem dX_tune_0 : decode bX_tune 0 = .ok (.aload_n 0, 1) := by decide +kernel
theorem dX_tune_1 : decode bX_tune 1 = .ok (.iload_n 1, 1) := by decide +kernel
theorem dX_tune_2 : decode bX_tune 2 = .ok (.invokevirtual 61, 3) := by decide +kernel
theorem dX_tune_5 : decode bX_tune 5 = .ok (.ifCond .ne 11, 3) := by decide +kernel
theorem dX_tune_8 : decode bX_tune 8 = .ok (.new 65, 3) := by decide +kernel
theorem dX_tune_11 : decode bX_tune 11 = .ok (.dup, 1) := by decide +kernel
theorem dX_tune_12 : decode bX_tune 12 = .ok (.invokespecial 67, 3) := by decide +kernel
theorem dX_tune_15 : decode bX_tune 15 = .ok (.athrow, 1) := by decide +kernel
theorem dX_tune_16 : decode bX_tune 16 = .ok (.aload_n 0, 1) := by decide +kernel
theorem dX_tune_17 : decode bX_tune 17 = .ok (.getfield 18, 3) := by decide +kernel
theorem dX_tune_20 : decode bX_tune 20 = .ok (.iload_n 1, 1) := by decide +kernel
theorem dX_tune_21 : decode bX_tune 21 = .ok (.aaload, 1) := by decide +kernel
theorem dX_tune_22 : decode bX_tune 22 = .ok (.astore 6, 2) := by decide +kernel
theorem dX_tune_24 : decode bX_tune 24 = .ok (.aload 6, 2) := by decide +kernel
theorem dX_tune_26 : decode bX_tune 26 = .ok (.getfield 68, 3) := by decide +kernel
theorem dX_tune_29 : decode bX_tune 29 = .ok (.iconst 5, 1) := by decide +kernel
theorem dX_tune_30 : decode bX_tune 30 = .ok (.if_icmp .ge 11, 3) := by decide +kernel
theorem dX_tune_33 : decode bX_tune 33 = .ok (.new 71, 3) := by decide +kernel
theorem dX_tune_36 : decode bX_tune 36 = .ok (.dup, 1) := by decide +kernel
theorem dX_tune_37 : decode bX_tune 37 = .ok (.invokespecial 73, 3) := by decide +kernel
theorem dX_tune_40 : decode bX_tune 40 = .ok (.athrow, 1) := by decide +kernel
theorem dX_tune_41 : decode bX_tune 41 = .ok (.dload_n 2, 1) := by decide +kernel
theorem dX_tune_42 : decode bX_tune 42 = .ok (.invokestatic 74, 3) := by decide +kernel
theorem dX_tune_45 : decode bX_tune 45 = .ok (.ifCond .eq 11, 3) := by decide +kernel
theorem dX_tune_48 : decode bX_tune 48 = .ok (.dload 4, 2) := by decide +kernel
theorem dX_tune_50 : decode bX_tune 50 = .ok (.invokestatic 74, 3) := by decide +kernel
theorem dX_tune_53 : decode bX_tune 53 = .ok (.ifCond .ne 11, 3) := by decide +kernel
theorem dX_tune_56 : decode bX_tune 56 = .ok (.new 51, 3) := by decide +kernel
theorem dX_tune_59 : decode bX_tune 59 = .ok (.dup, 1) := by decide +kernel
theorem dX_tune_60 : decode bX_tune 60 = .ok (.invokespecial 53, 3) := by decide +kernel
theorem dX_tune_63 : decode bX_tune 63 = .ok (.athrow, 1) := by decide +kernel
theorem dX_tune_64 : decode bX_tune 64 = .ok (.aload 6, 2) := by decide +kernel
theorem dX_tune_66 : decode bX_tune 66 = .ok (.getfield 68, 3) := by decide +kernel
theorem dX_tune_69 : decode bX_tune 69 = .ok (.bipush 7, 2) := by decide +kernel
theorem dX_tune_71 : decode bX_tune 71 = .ok (.if_icmp .ne 18, 3) := by decide +kernel
theorem dX_tune_74 : decode bX_tune 74 = .ok (.dload_n 2, 1) := by decide +kernel
theorem dX_tune_75 : decode bX_tune 75 = .ok (.dload 4, 2) := by decide +kernel
theorem dX_tune_77 : decode bX_tune 77 = .ok (.dcmp .g, 1) := by decide +kernel
theorem dX_tune_78 : decode bX_tune 78 = .ok (.ifCond .ge 11, 3) := by decide +kernel
theorem dX_tune_81 : decode bX_tune 81 = .ok (.new 51, 3) := by decide +kernel
theorem dX_tune_84 : decode bX_tune 84 = .ok (.dup, 1) := by decide +kernel
theorem dX_tune_85 : decode bX_tune 85 = .ok (.invokespecial 53, 3) := by decide +kernel
theorem dX_tune_88 : decode bX_tune 88 = .ok (.athrow, 1) := by decide +kernel
theorem dX_tune_89 : decode bX_tune 89 = .ok (.aload 6, 2) := by decide +kernel
theorem dX_tune_91 : decode bX_tune 91 = .ok (.getfield 78, 3) := by decide +kernel
theorem dX_tune_94 : decode bX_tune 94 = .ok (.invokestatic 81, 3) := by decide +kernel
theorem dX_tune_97 : decode bX_tune 97 = .ok (.dstore 7, 2) := by decide +kernel
theorem dX_tune_99 : decode bX_tune 99 = .ok (.aload 6, 2) := by decide +kernel
theorem dX_tune_101 : decode bX_tune 101 = .ok (.dload_n 2, 1) := by decide +kernel
theorem dX_tune_102 : decode bX_tune 102 = .ok (.invokestatic 85, 3) := by decide +kernel
theorem dX_tune_105 : decode bX_tune 105 = .ok (.putfield 78, 3) := by decide +kernel
theorem dX_tune_108 : decode bX_tune 108 = .ok (.aload 6, 2) := by decide +kernel
theorem dX_tune_110 : decode bX_tune 110 = .ok (.dload 4, 2) := by decide +kernel
theorem dX_tune_112 : decode bX_tune 112 = .ok (.invokestatic 85, 3) := by decide +kernel
theorem dX_tune_115 : decode bX_tune 115 = .ok (.putfield 89, 3) := by decide +kernel
theorem dX_tune_118 : decode bX_tune 118 = .ok (.dload 7, 2) := by decide +kernel
theorem dX_tune_120 : decode bX_tune 120 = .ok (.dreturn, 1) := by decide +kernel
theorem dX_step_0 : decode bX_step 0 = .ok (.iload_n 1, 1) := by decide +kernel
theorem dX_step_1 : decode bX_step 1 = .ok (.invokestatic 92, 3) := by decide +kernel
theorem dX_step_4 : decode bX_step 4 = .ok (.ifCond .eq 12, 3) := by decide +kernel
theorem dX_step_7 : decode bX_step 7 = .ok (.aload_n 0, 1) := by decide +kernel
theorem dX_step_8 : decode bX_step 8 = .ok (.iload_n 2, 1) := by decide +kernel
theorem dX_step_9 : decode bX_step 9 = .ok (.iload_n 3, 1) := by decide +kernel
theorem dX_step_10 : decode bX_step 10 = .ok (.invokevirtual 95, 3) := by decide +kernel
theorem dX_step_13 : decode bX_step 13 = .ok (.ifCond .ne 11, 3) := by decide +kernel
theorem dX_step_16 : decode bX_step 16 = .ok (.new 51, 3) := by decide +kernel
theorem dX_step_19 : decode bX_step 19 = .ok (.dup, 1) := by decide +kernel
theorem dX_step_20 : decode bX_step 20 = .ok (.invokespecial 53, 3) := by decide +kernel
theorem dX_step_23 : decode bX_step 23 = .ok (.athrow, 1) := by decide +kernel
theorem dX_step_24 : decode bX_step 24 = .ok (.aload_n 0, 1) := by decide +kernel
theorem dX_step_25 : decode bX_step 25 = .ok (.getfield 25, 3) := by decide +kernel
theorem dX_step_28 : decode bX_step 28 = .ok (.iload_n 1, 1) := by decide +kernel
theorem dX_step_29 : decode bX_step 29 = .ok (.iload_n 2, 1) := by decide +kernel
theorem dX_step_30 : decode bX_step 30 = .ok (.invokevirtual 99, 3) := by decide +kernel
theorem dX_step_33 : decode bX_step 33 = .ok (.ifCond .ne 11, 3) := by decide +kernel
theorem dX_step_36 : decode bX_step 36 = .ok (.new 71, 3) := by decide +kernel
theorem dX_step_39 : decode bX_step 39 = .ok (.dup, 1) := by decide +kernel
theorem dX_step_40 : decode bX_step 40 = .ok (.invokespecial 73, 3) := by decide +kernel
theorem dX_step_43 : decode bX_step 43 = .ok (.athrow, 1) := by decide +kernel
theorem dX_step_44 : decode bX_step 44 = .ok (.aload_n 0, 1) := by decide +kernel
theorem dX_step_45 : decode bX_step 45 = .ok (.getfield 25, 3) := by decide +kernel
theorem dX_step_48 : decode bX_step 48 = .ok (.iload_n 1, 1) := by decide +kernel
theorem dX_step_49 : decode bX_step 49 = .ok (.invokevirtual 102, 3) := by decide +kernel
theorem dX_step_52 : decode bX_step 52 = .ok (.ifCond .eq 11, 3) := by decide +kernel
theorem dX_step_55 : decode bX_step 55 = .ok (.new 54, 3) := by decide +kernel
theorem dX_step_58 : decode bX_step 58 = .ok (.dup, 1) := by decide +kernel
theorem dX_step_59 : decode bX_step 59 = .ok (.invokespecial 56, 3) := by decide +kernel
theorem dX_step_62 : decode bX_step 62 = .ok (.athrow, 1) := by decide +kernel
theorem dX_step_63 : decode bX_step 63 = .ok (.aload_n 0, 1) := by decide +kernel
theorem dX_step_64 : decode bX_step 64 = .ok (.getfield 25, 3) := by decide +kernel
theorem dX_step_67 : decode bX_step 67 = .ok (.iload_n 1, 1) := by decide +kernel
theorem dX_step_68 : decode bX_step 68 = .ok (.iload_n 2, 1) := by decide +kernel
theorem dX_step_69 : decode bX_step 69 = .ok (.iload_n 3, 1) := by decide +kernel
theorem dX_step_70 : decode bX_step 70 = .ok (.invokevirtual 105, 3) := by decide +kernel
theorem dX_step_73 : decode bX_step 73 = .ok (.ireturn, 1) := by decide +kernel
theorem dX_erase_0 : decode bX_erase 0 = .ok (.iload_n 1, 1) := by decide +kernel
theorem dX_erase_1 : decode bX_erase 1 = .ok (.invokestatic 92, 3) := by decide +kernel
theorem dX_erase_4 : decode bX_erase 4 = .ok (.ifCond .ne 11, 3) := by decide +kernel
theorem dX_erase_7 : decode bX_erase 7 = .ok (.new 51, 3) := by decide +kernel
theorem dX_erase_10 : decode bX_erase 10 = .ok (.dup, 1) := by decide +kernel
theorem dX_erase_11 : decode bX_erase 11 = .ok (.invokespecial 53, 3) := by decide +kernel
theorem dX_erase_14 : decode bX_erase 14 = .ok (.athrow, 1) := by decide +kernel
theorem dX_erase_15 : decode bX_erase 15 = .ok (.aload_n 0, 1) := by decide +kernel
theorem dX_erase_16 : decode bX_erase 16 = .ok (.getfield 25, 3) := by decide +kernel
theorem dX_erase_19 : decode bX_erase 19 = .ok (.iload_n 1, 1) := by decide +kernel
theorem dX_erase_20 : decode bX_erase 20 = .ok (.invokevirtual 109, 3) := by decide +kernel
theorem dX_erase_23 : decode bX_erase 23 = .ok (.ireturn, 1) := by decide +kernel
theorem dX_download_0 : decode bX_download 0 = .ok (.aload_n 0, 1) := by decide +kernel
theorem dX_download_1 : decode bX_download 1 = .ok (.getfield 29, 3) := by decide +kernel
theorem dX_download_4 : decode bX_download 4 = .ok (.aload_n 0, 1) := by decide +kernel
theorem dX_download_5 : decode bX_download 5 = .ok (.getfield 25, 3) := by decide +kernel
theorem dX_download_8 : decode bX_download 8 = .ok (.invokevirtual 113, 3) := by decide +kernel
theorem dX_download_11 : decode bX_download 11 = .ok (.aload_n 0, 1) := by decide +kernel
theorem dX_download_12 : decode bX_download 12 = .ok (.getfield 29, 3) := by decide +kernel
theorem dX_download_15 : decode bX_download 15 = .ok (.invokevirtual 117, 3) := by decide +kernel
theorem dX_download_18 : decode bX_download 18 = .ok (.ireturn, 1) := by decide +kernel
theorem dX_wire_0 : decode bX_wire 0 = .ok (.iload_n 1, 1) := by decide +kernel
theorem dX_wire_1 : decode bX_wire 1 = .ok (.iconst 0, 1) := by decide +kernel
theorem dX_wire_2 : decode bX_wire 2 = .ok (.bipush 7, 2) := by decide +kernel
theorem dX_wire_4 : decode bX_wire 4 = .ok (.invokestatic 121, 3) := by decide +kernel
theorem dX_wire_7 : decode bX_wire 7 = .ok (.ifCond .eq 12, 3) := by decide +kernel
theorem dX_wire_10 : decode bX_wire 10 = .ok (.iload_n 2, 1) := by decide +kernel
theorem dX_wire_11 : decode bX_wire 11 = .ok (.iconst 0, 1) := by decide +kernel
theorem dX_wire_12 : decode bX_wire 12 = .ok (.iconst 1, 1) := by decide +kernel
theorem dX_wire_13 : decode bX_wire 13 = .ok (.invokestatic 121, 3) := by decide +kernel
theorem dX_wire_16 : decode bX_wire 16 = .ok (.ifCond .ne 11, 3) := by decide +kernel
theorem dX_wire_19 : decode bX_wire 19 = .ok (.new 51, 3) := by decide +kernel
theorem dX_wire_22 : decode bX_wire 22 = .ok (.dup, 1) := by decide +kernel
theorem dX_wire_23 : decode bX_wire 23 = .ok (.invokespecial 53, 3) := by decide +kernel
theorem dX_wire_26 : decode bX_wire 26 = .ok (.athrow, 1) := by decide +kernel
theorem dX_wire_27 : decode bX_wire 27 = .ok (.aload_n 0, 1) := by decide +kernel
theorem dX_wire_28 : decode bX_wire 28 = .ok (.getfield 12, 3) := by decide +kernel
theorem dX_wire_31 : decode bX_wire 31 = .ok (.getfield 124, 3) := by decide +kernel
theorem dX_wire_34 : decode bX_wire 34 = .ok (.iload_n 1, 1) := by decide +kernel
theorem dX_wire_35 : decode bX_wire 35 = .ok (.iaload, 1) := by decide +kernel
theorem dX_wire_36 : decode bX_wire 36 = .ok (.istore_n 3, 1) := by decide +kernel
theorem dX_wire_37 : decode bX_wire 37 = .ok (.aload_n 0, 1) := by decide +kernel
theorem dX_wire_38 : decode bX_wire 38 = .ok (.getfield 12, 3) := by decide +kernel
theorem dX_wire_41 : decode bX_wire 41 = .ok (.getfield 124, 3) := by decide +kernel
theorem dX_wire_44 : decode bX_wire 44 = .ok (.iload_n 1, 1) := by decide +kernel
theorem dX_wire_45 : decode bX_wire 45 = .ok (.iload_n 2, 1) := by decide +kernel
theorem dX_wire_46 : decode bX_wire 46 = .ok (.iastore, 1) := by decide +kernel
theorem dX_wire_47 : decode bX_wire 47 = .ok (.iload_n 3, 1) := by decide +kernel
theorem dX_wire_48 : decode bX_wire 48 = .ok (.ireturn, 1) := by decide +kernel
theorem dX_put_0 : decode bX_put 0 = .ok (.iload_n 1, 1) := by decide +kernel
theorem dX_put_1 : decode bX_put 1 = .ok (.invokestatic 128, 3) := by decide +kernel
theorem dX_put_4 : decode bX_put 4 = .ok (.ifCond .eq 10, 3) := by decide +kernel
theorem dX_put_7 : decode bX_put 7 = .ok (.dload_n 2, 1) := by decide +kernel
theorem dX_put_8 : decode bX_put 8 = .ok (.invokestatic 131, 3) := by decide +kernel
theorem dX_put_11 : decode bX_put 11 = .ok (.ifCond .ne 11, 3) := by decide +kernel
theorem dX_put_14 : decode bX_put 14 = .ok (.new 51, 3) := by decide +kernel
theorem dX_put_17 : decode bX_put 17 = .ok (.dup, 1) := by decide +kernel
theorem dX_put_18 : decode bX_put 18 = .ok (.invokespecial 53, 3) := by decide +kernel
theorem dX_put_21 : decode bX_put 21 = .ok (.athrow, 1) := by decide +kernel
theorem dX_put_22 : decode bX_put 22 = .ok (.aload_n 0, 1) := by decide +kernel
theorem dX_put_23 : decode bX_put 23 = .ok (.getfield 12, 3) := by decide +kernel
theorem dX_put_26 : decode bX_put 26 = .ok (.getfield 134, 3) := by decide +kernel
theorem dX_put_29 : decode bX_put 29 = .ok (.iload_n 1, 1) := by decide +kernel
theorem dX_put_30 : decode bX_put 30 = .ok (.iaload, 1) := by decide +kernel
theorem dX_put_31 : decode bX_put 31 = .ok (.invokestatic 81, 3) := by decide +kernel
theorem dX_put_34 : decode bX_put 34 = .ok (.dstore 4, 2) := by decide +kernel
theorem dX_put_36 : decode bX_put 36 = .ok (.aload_n 0, 1) := by decide +kernel
theorem dX_put_37 : decode bX_put 37 = .ok (.getfield 12, 3) := by decide +kernel
theorem dX_put_40 : decode bX_put 40 = .ok (.getfield 134, 3) := by decide +kernel
theorem dX_put_43 : decode bX_put 43 = .ok (.iload_n 1, 1) := by decide +kernel
theorem dX_put_44 : decode bX_put 44 = .ok (.dload_n 2, 1) := by decide +kernel
theorem dX_put_45 : decode bX_put 45 = .ok (.invokestatic 85, 3) := by decide +kernel
theorem dX_put_48 : decode bX_put 48 = .ok (.iastore, 1) := by decide +kernel
theorem dX_put_49 : decode bX_put 49 = .ok (.dload 4, 2) := by decide +kernel
theorem dX_put_51 : decode bX_put 51 = .ok (.dreturn, 1) := by decide +kernel
theorem dX_force_0 : decode bX_force 0 = .ok (.iload_n 1, 1) := by decide +kernel
theorem dX_force_1 : decode bX_force 1 = .ok (.invokestatic 137, 3) := by decide +kernel
theorem dX_force_4 : decode bX_force 4 = .ok (.ifCond .eq 12, 3) := by decide +kernel
theorem dX_force_7 : decode bX_force 7 = .ok (.iload_n 2, 1) := by decide +kernel
theorem dX_force_8 : decode bX_force 8 = .ok (.iconst (-1), 1) := by decide +kernel
theorem dX_force_9 : decode bX_force 9 = .ok (.iconst 1, 1) := by decide +kernel
theorem dX_force_10 : decode bX_force 10 = .ok (.invokestatic 121, 3) := by decide +kernel
theorem dX_force_13 : decode bX_force 13 = .ok (.ifCond .ne 11, 3) := by decide +kernel
theorem dX_force_16 : decode bX_force 16 = .ok (.new 51, 3) := by decide +kernel
theorem dX_force_19 : decode bX_force 19 = .ok (.dup, 1) := by decide +kernel
theorem dX_force_20 : decode bX_force 20 = .ok (.invokespecial 53, 3) := by decide +kernel
theorem dX_force_23 : decode bX_force 23 = .ok (.athrow, 1) := by decide +kernel
theorem dX_force_24 : decode bX_force 24 = .ok (.aload_n 0, 1) := by decide +kernel
theorem dX_force_25 : decode bX_force 25 = .ok (.getfield 12, 3) := by decide +kernel
theorem dX_force_28 : decode bX_force 28 = .ok (.getfield 140, 3) := by decide +kernel
theorem dX_force_31 : decode bX_force 31 = .ok (.iload_n 1, 1) := by decide +kernel
theorem dX_force_32 : decode bX_force 32 = .ok (.iaload, 1) := by decide +kernel
theorem dX_force_33 : decode bX_force 33 = .ok (.istore_n 3, 1) := by decide +kernel
theorem dX_force_34 : decode bX_force 34 = .ok (.aload_n 0, 1) := by decide +kernel
theorem dX_force_35 : decode bX_force 35 = .ok (.getfield 12, 3) := by decide +kernel
theorem dX_force_38 : decode bX_force 38 = .ok (.getfield 140, 3) := by decide +kernel
theorem dX_force_41 : decode bX_force 41 = .ok (.iload_n 1, 1) := by decide +kernel
theorem dX_force_42 : decode bX_force 42 = .ok (.iload_n 2, 1) := by decide +kernel
theorem dX_force_43 : decode bX_force 43 = .ok (.iastore, 1) := by decide +kernel
theorem dX_force_44 : decode bX_force 44 = .ok (.iload_n 3, 1) := by decide +kernel
theorem dX_force_45 : decode bX_force 45 = .ok (.ireturn, 1) := by decide +kernel
theorem dX_scan_0 : decode bX_scan 0 = .ok (.iload_n 1, 1) := by decide +kernel
theorem dX_scan_1 : decode bX_scan 1 = .ok (.iconst 1, 1) := by decide +kernel
theorem dX_scan_2 : decode bX_scan 2 = .ok (.bipush 20, 2) := by decide +kernel
theorem dX_scan_4 : decode bX_scan 4 = .ok (.invokestatic 121, 3) := by decide +kernel
theorem dX_scan_7 : decode bX_scan 7 = .ok (.ifCond .ne 11, 3) := by decide +kernel
theorem dX_scan_10 : decode bX_scan 10 = .ok (.new 51, 3) := by decide +kernel
theorem dX_scan_13 : decode bX_scan 13 = .ok (.dup, 1) := by decide +kernel
theorem dX_scan_14 : decode bX_scan 14 = .ok (.invokespecial 53, 3) := by decide +kernel
theorem dX_scan_17 : decode bX_scan 17 = .ok (.athrow, 1) := by decide +kernel
theorem dX_scan_18 : decode bX_scan 18 = .ok (.aload_n 0, 1) := by decide +kernel
theorem dX_scan_19 : decode bX_scan 19 = .ok (.getfield 42, 3) := by decide +kernel
theorem dX_scan_22 : decode bX_scan 22 = .ok (.ifCond .eq 11, 3) := by decide +kernel
theorem dX_scan_25 : decode bX_scan 25 = .ok (.new 54, 3) := by decide +kernel
theorem dX_scan_28 : decode bX_scan 28 = .ok (.dup, 1) := by decide +kernel
theorem dX_scan_29 : decode bX_scan 29 = .ok (.invokespecial 56, 3) := by decide +kernel
theorem dX_scan_32 : decode bX_scan 32 = .ok (.athrow, 1) := by decide +kernel
theorem dX_scan_33 : decode bX_scan 33 = .ok (.iconst 0, 1) := by decide +kernel
theorem dX_scan_34 : decode bX_scan 34 = .ok (.istore_n 2, 1) := by decide +kernel
theorem dX_scan_35 : decode bX_scan 35 = .ok (.iconst 0, 1) := by decide +kernel
theorem dX_scan_36 : decode bX_scan 36 = .ok (.istore_n 3, 1) := by decide +kernel
theorem dX_scan_37 : decode bX_scan 37 = .ok (.iload_n 3, 1) := by decide +kernel
theorem dX_scan_38 : decode bX_scan 38 = .ok (.iload_n 1, 1) := by decide +kernel
theorem dX_scan_39 : decode bX_scan 39 = .ok (.if_icmp .ge 49, 3) := by decide +kernel
theorem dX_scan_42 : decode bX_scan 42 = .ok (.aload_n 0, 1) := by decide +kernel
theorem dX_scan_43 : decode bX_scan 43 = .ok (.invokevirtual 143, 3) := by decide +kernel
theorem dX_scan_46 : decode bX_scan 46 = .ok (.istore 4, 2) := by decide +kernel
theorem dX_scan_48 : decode bX_scan 48 = .ok (.iload 4, 2) := by decide +kernel
theorem dX_scan_50 : decode bX_scan 50 = .ok (.iconst (-1), 1) := by decide +kernel
theorem dX_scan_51 : decode bX_scan 51 = .ok (.if_icmp .ne 11, 3) := by decide +kernel
theorem dX_scan_54 : decode bX_scan 54 = .ok (.new 54, 3) := by decide +kernel
theorem dX_scan_57 : decode bX_scan 57 = .ok (.dup, 1) := by decide +kernel
theorem dX_scan_58 : decode bX_scan 58 = .ok (.invokespecial 56, 3) := by decide +kernel
theorem dX_scan_61 : decode bX_scan 61 = .ok (.athrow, 1) := by decide +kernel
theorem dX_scan_62 : decode bX_scan 62 = .ok (.iload 4, 2) := by decide +kernel
theorem dX_scan_64 : decode bX_scan 64 = .ok (.bipush (-2), 2) := by decide +kernel
theorem dX_scan_66 : decode bX_scan 66 = .ok (.if_icmp .ne 11, 3) := by decide +kernel
theorem dX_scan_69 : decode bX_scan 69 = .ok (.new 146, 3) := by decide +kernel
theorem dX_scan_72 : decode bX_scan 72 = .ok (.dup, 1) := by decide +kernel
theorem dX_scan_73 : decode bX_scan 73 = .ok (.invokespecial 148, 3) := by decide +kernel
theorem dX_scan_76 : decode bX_scan 76 = .ok (.athrow, 1) := by decide +kernel
theorem dX_scan_77 : decode bX_scan 77 = .ok (.iload_n 2, 1) := by decide +kernel
theorem dX_scan_78 : decode bX_scan 78 = .ok (.iload 4, 2) := by decide +kernel
theorem dX_scan_80 : decode bX_scan 80 = .ok (.iadd, 1) := by decide +kernel
theorem dX_scan_81 : decode bX_scan 81 = .ok (.istore_n 2, 1) := by decide +kernel
theorem dX_scan_82 : decode bX_scan 82 = .ok (.iinc 3 1, 3) := by decide +kernel
theorem dX_scan_85 : decode bX_scan 85 = .ok (.goto (-48), 3) := by decide +kernel
theorem dX_scan_88 : decode bX_scan 88 = .ok (.iload_n 2, 1) := by decide +kernel
theorem dX_scan_89 : decode bX_scan 89 = .ok (.ireturn, 1) := by decide +kernel
theorem dX_restart_0 : decode bX_restart 0 = .ok (.aload_n 0, 1) := by decide +kernel
theorem dX_restart_1 : decode bX_restart 1 = .ok (.getfield 42, 3) := by decide +kernel
theorem dX_restart_4 : decode bX_restart 4 = .ok (.ifCond .eq 7, 3) := by decide +kernel
theorem dX_restart_7 : decode bX_restart 7 = .ok (.iconst 1, 1) := by decide +kernel
theorem dX_restart_8 : decode bX_restart 8 = .ok (.goto 4, 3) := by decide +kernel
theorem dX_restart_11 : decode bX_restart 11 = .ok (.iconst 0, 1) := by decide +kernel
theorem dX_restart_12 : decode bX_restart 12 = .ok (.istore_n 1, 1) := by decide +kernel
theorem dX_restart_13 : decode bX_restart 13 = .ok (.aload_n 0, 1) := by decide +kernel
theorem dX_restart_14 : decode bX_restart 14 = .ok (.iconst 0, 1) := by decide +kernel
theorem dX_restart_15 : decode bX_restart 15 = .ok (.putfield 42, 3) := by decide +kernel
theorem dX_restart_18 : decode bX_restart 18 = .ok (.iload_n 1, 1) := by decide +kernel
theorem dX_restart_19 : decode bX_restart 19 = .ok (.ireturn, 1) := by decide +kernel
theorem dX_fail_0 : decode bX_fail 0 = .ok (.aload_n 0, 1) := by decide +kernel
theorem dX_fail_1 : decode bX_fail 1 = .ok (.getfield 12, 3) := by decide +kernel
theorem dX_fail_4 : decode bX_fail 4 = .ok (.invokevirtual 149, 3) := by decide +kernel
theorem dX_fail_7 : decode bX_fail 7 = .ok (.iconst 0, 1) := by decide +kernel
theorem dX_fail_8 : decode bX_fail 8 = .ok (.istore_n 1, 1) := by decide +kernel
theorem dX_fail_9 : decode bX_fail 9 = .ok (.iload_n 1, 1) := by decide +kernel
theorem dX_fail_10 : decode bX_fail 10 = .ok (.bipush 10, 2) := by decide +kernel
theorem dX_fail_12 : decode bX_fail 12 = .ok (.if_icmp .ge 18, 3) := by decide +kernel
theorem dX_fail_15 : decode bX_fail 15 = .ok (.aload_n 0, 1) := by decide +kernel
theorem dX_fail_16 : decode bX_fail 16 = .ok (.getfield 18, 3) := by decide +kernel
theorem dX_fail_19 : decode bX_fail 19 = .ok (.iload_n 1, 1) := by decide +kernel
theorem dX_fail_20 : decode bX_fail 20 = .ok (.aaload, 1) := by decide +kernel
theorem dX_fail_21 : decode bX_fail 21 = .ok (.invokevirtual 152, 3) := by decide +kernel
theorem dX_fail_24 : decode bX_fail 24 = .ok (.iinc 1 1, 3) := by decide +kernel
theorem dX_fail_27 : decode bX_fail 27 = .ok (.goto (-18), 3) := by decide +kernel
theorem dX_fail_30 : decode bX_fail 30 = .ok (.aload_n 0, 1) := by decide +kernel
theorem dX_fail_31 : decode bX_fail 31 = .ok (.iconst 0, 1) := by decide +kernel
theorem dX_fail_32 : decode bX_fail 32 = .ok (.putfield 42, 3) := by decide +kernel
theorem dX_fail_35 : decode bX_fail 35 = .ok (.aload_n 0, 1) := by decide +kernel
theorem dX_fail_36 : decode bX_fail 36 = .ok (.getfield 12, 3) := by decide +kernel
theorem dX_fail_39 : decode bX_fail 39 = .ok (.invokevirtual 153, 3) := by decide +kernel
theorem dX_fail_42 : decode bX_fail 42 = .ok (.ireturn, 1) := by decide +kernel
theorem dX_bit_0 : decode bX_bit 0 = .ok (.iload_n 1, 1) := by decide +kernel
theorem dX_bit_1 : decode bX_bit 1 = .ok (.invokestatic 137, 3) := by decide +kernel
theorem dX_bit_4 : decode bX_bit 4 = .ok (.ifCond .ne 11, 3) := by decide +kernel
theorem dX_bit_7 : decode bX_bit 7 = .ok (.new 51, 3) := by decide +kernel
theorem dX_bit_10 : decode bX_bit 10 = .ok (.dup, 1) := by decide +kernel
theorem dX_bit_11 : decode bX_bit 11 = .ok (.invokespecial 53, 3) := by decide +kernel
theorem dX_bit_14 : decode bX_bit 14 = .ok (.athrow, 1) := by decide +kernel
theorem dX_bit_15 : decode bX_bit 15 = .ok (.aload_n 0, 1) := by decide +kernel
theorem dX_bit_16 : decode bX_bit 16 = .ok (.getfield 12, 3) := by decide +kernel
theorem dX_bit_19 : decode bX_bit 19 = .ok (.iload_n 1, 1) := by decide +kernel
theorem dX_bit_20 : decode bX_bit 20 = .ok (.invokevirtual 156, 3) := by decide +kernel
theorem dX_bit_23 : decode bX_bit 23 = .ok (.ireturn, 1) := by decide +kernel
theorem dX_out_0 : decode bX_out 0 = .ok (.iload_n 1, 1) := by decide +kernel
theorem dX_out_1 : decode bX_out 1 = .ok (.bipush 8, 2) := by decide +kernel
theorem dX_out_3 : decode bX_out 3 = .ok (.bipush 15, 2) := by decide +kernel
theorem dX_out_5 : decode bX_out 5 = .ok (.invokestatic 121, 3) := by decide +kernel
theorem dX_out_8 : decode bX_out 8 = .ok (.ifCond .ne 11, 3) := by decide +kernel
theorem dX_out_11 : decode bX_out 11 = .ok (.new 51, 3) := by decide +kernel
theorem dX_out_14 : decode bX_out 14 = .ok (.dup, 1) := by decide +kernel
theorem dX_out_15 : decode bX_out 15 = .ok (.invokespecial 53, 3) := by decide +kernel
theorem dX_out_18 : decode bX_out 18 = .ok (.athrow, 1) := by decide +kernel
theorem dX_out_19 : decode bX_out 19 = .ok (.aload_n 0, 1) := by decide +kernel
theorem dX_out_20 : decode bX_out 20 = .ok (.getfield 12, 3) := by decide +kernel
theorem dX_out_23 : decode bX_out 23 = .ok (.getfield 159, 3) := by decide +kernel
theorem dX_out_26 : decode bX_out 26 = .ok (.iload_n 1, 1) := by decide +kernel
theorem dX_out_27 : decode bX_out 27 = .ok (.bipush 8, 2) := by decide +kernel
theorem dX_out_29 : decode bX_out 29 = .ok (.isub, 1) := by decide +kernel
theorem dX_out_30 : decode bX_out 30 = .ok (.iaload, 1) := by decide +kernel
theorem dX_out_31 : decode bX_out 31 = .ok (.ireturn, 1) := by decide +kernel
theorem dX_register_0 : decode bX_register 0 = .ok (.iload_n 1, 1) := by decide +kernel
theorem dX_register_1 : decode bX_register 1 = .ok (.invokestatic 128, 3) := by decide +kernel
theorem dX_register_4 : decode bX_register 4 = .ok (.ifCond .ne 11, 3) := by decide +kernel
theorem dX_register_7 : decode bX_register 7 = .ok (.new 51, 3) := by decide +kernel
theorem dX_register_10 : decode bX_register 10 = .ok (.dup, 1) := by decide +kernel
theorem dX_register_11 : decode bX_register 11 = .ok (.invokespecial 53, 3) := by decide +kernel
theorem dX_register_14 : decode bX_register 14 = .ok (.athrow, 1) := by decide +kernel
theorem dX_register_15 : decode bX_register 15 = .ok (.aload_n 0, 1) := by decide +kernel
theorem dX_register_16 : decode bX_register 16 = .ok (.getfield 12, 3) := by decide +kernel
theorem dX_register_19 : decode bX_register 19 = .ok (.getfield 134, 3) := by decide +kernel
theorem dX_register_22 : decode bX_register 22 = .ok (.iload_n 1, 1) := by decide +kernel
theorem dX_register_23 : decode bX_register 23 = .ok (.iaload, 1) := by decide +kernel
theorem dX_register_24 : decode bX_register 24 = .ok (.invokestatic 81, 3) := by decide +kernel
theorem dX_register_27 : decode bX_register 27 = .ok (.dreturn, 1) := by decide +kernel
theorem dX_state_0 : decode bX_state 0 = .ok (.aload_n 0, 1) := by decide +kernel
theorem dX_state_1 : decode bX_state 1 = .ok (.iload_n 1, 1) := by decide +kernel
theorem dX_state_2 : decode bX_state 2 = .ok (.invokevirtual 61, 3) := by decide +kernel
theorem dX_state_5 : decode bX_state 5 = .ok (.ifCond .ne 11, 3) := by decide +kernel
theorem dX_state_8 : decode bX_state 8 = .ok (.new 65, 3) := by decide +kernel
theorem dX_state_11 : decode bX_state 11 = .ok (.dup, 1) := by decide +kernel
theorem dX_state_12 : decode bX_state 12 = .ok (.invokespecial 67, 3) := by decide +kernel
theorem dX_state_15 : decode bX_state 15 = .ok (.athrow, 1) := by decide +kernel
theorem dX_state_16 : decode bX_state 16 = .ok (.iload_n 2, 1) := by decide +kernel
theorem dX_state_17 : decode bX_state 17 = .ok (.tableswitch 57 0 2 #[27, 37, 47], 27) := by decide +kernel
theorem dX_state_44 : decode bX_state 44 = .ok (.aload_n 0, 1) := by decide +kernel
theorem dX_state_45 : decode bX_state 45 = .ok (.getfield 18, 3) := by decide +kernel
theorem dX_state_48 : decode bX_state 48 = .ok (.iload_n 1, 1) := by decide +kernel
theorem dX_state_49 : decode bX_state 49 = .ok (.aaload, 1) := by decide +kernel
theorem dX_state_50 : decode bX_state 50 = .ok (.getfield 68, 3) := by decide +kernel
theorem dX_state_53 : decode bX_state 53 = .ok (.ireturn, 1) := by decide +kernel
theorem dX_state_54 : decode bX_state 54 = .ok (.aload_n 0, 1) := by decide +kernel
theorem dX_state_55 : decode bX_state 55 = .ok (.getfield 18, 3) := by decide +kernel
theorem dX_state_58 : decode bX_state 58 = .ok (.iload_n 1, 1) := by decide +kernel
theorem dX_state_59 : decode bX_state 59 = .ok (.aaload, 1) := by decide +kernel
theorem dX_state_60 : decode bX_state 60 = .ok (.getfield 162, 3) := by decide +kernel
theorem dX_state_63 : decode bX_state 63 = .ok (.ireturn, 1) := by decide +kernel
theorem dX_state_64 : decode bX_state 64 = .ok (.aload_n 0, 1) := by decide +kernel
theorem dX_state_65 : decode bX_state 65 = .ok (.getfield 18, 3) := by decide +kernel
theorem dX_state_68 : decode bX_state 68 = .ok (.iload_n 1, 1) := by decide +kernel
theorem dX_state_69 : decode bX_state 69 = .ok (.aaload, 1) := by decide +kernel
theorem dX_state_70 : decode bX_state 70 = .ok (.getfield 165, 3) := by decide +kernel
theorem dX_state_73 : decode bX_state 73 = .ok (.ireturn, 1) := by decide +kernel
theorem dX_state_74 : decode bX_state 74 = .ok (.new 51, 3) := by decide +kernel
theorem dX_state_77 : decode bX_state 77 = .ok (.dup, 1) := by decide +kernel
theorem dX_state_78 : decode bX_state 78 = .ok (.invokespecial 53, 3) := by decide +kernel
theorem dX_state_81 : decode bX_state 81 = .ok (.athrow, 1) := by decide +kernel
theorem dX_count_0 : decode bX_count 0 = .ok (.iload_n 1, 1) := by decide +kernel
theorem dX_count_1 : decode bX_count 1 = .ok (.tableswitch 83 0 5 #[39, 44, 49, 62, 67, 75], 39) := by decide +kernel
theorem dX_count_40 : decode bX_count 40 = .ok (.aload_n 0, 1) := by decide +kernel
theorem dX_count_41 : decode bX_count 41 = .ok (.getfield 36, 3) := by decide +kernel
theorem dX_count_44 : decode bX_count 44 = .ok (.ireturn, 1) := by decide +kernel
theorem dX_count_45 : decode bX_count 45 = .ok (.aload_n 0, 1) := by decide +kernel
theorem dX_count_46 : decode bX_count 46 = .ok (.getfield 39, 3) := by decide +kernel
theorem dX_count_49 : decode bX_count 49 = .ok (.ireturn, 1) := by decide +kernel
theorem dX_count_50 : decode bX_count 50 = .ok (.aload_n 0, 1) := by decide +kernel
theorem dX_count_51 : decode bX_count 51 = .ok (.getfield 42, 3) := by decide +kernel
theorem dX_count_54 : decode bX_count 54 = .ok (.ifCond .eq 7, 3) := by decide +kernel
theorem dX_count_57 : decode bX_count 57 = .ok (.iconst 1, 1) := by decide +kernel
theorem dX_count_58 : decode bX_count 58 = .ok (.goto 4, 3) := by decide +kernel
theorem dX_count_61 : decode bX_count 61 = .ok (.iconst 0, 1) := by decide +kernel
theorem dX_count_62 : decode bX_count 62 = .ok (.ireturn, 1) := by decide +kernel
theorem dX_count_63 : decode bX_count 63 = .ok (.aload_n 0, 1) := by decide +kernel
theorem dX_count_64 : decode bX_count 64 = .ok (.getfield 32, 3) := by decide +kernel
theorem dX_count_67 : decode bX_count 67 = .ok (.ireturn, 1) := by decide +kernel
theorem dX_count_68 : decode bX_count 68 = .ok (.aload_n 0, 1) := by decide +kernel
theorem dX_count_69 : decode bX_count 69 = .ok (.getfield 29, 3) := by decide +kernel
theorem dX_count_72 : decode bX_count 72 = .ok (.invokevirtual 117, 3) := by decide +kernel
theorem dX_count_75 : decode bX_count 75 = .ok (.ireturn, 1) := by decide +kernel
theorem dX_count_76 : decode bX_count 76 = .ok (.aload_n 0, 1) := by decide +kernel
theorem dX_count_77 : decode bX_count 77 = .ok (.getfield 12, 3) := by decide +kernel
theorem dX_count_80 : decode bX_count 80 = .ok (.invokevirtual 168, 3) := by decide +kernel
theorem dX_count_83 : decode bX_count 83 = .ok (.ireturn, 1) := by decide +kernel
theorem dX_count_84 : decode bX_count 84 = .ok (.new 51, 3) := by decide +kernel
theorem dX_count_87 : decode bX_count 87 = .ok (.dup, 1) := by decide +kernel
theorem dX_count_88 : decode bX_count 88 = .ok (.invokespecial 53, 3) := by decide +kernel
theorem dX_count_91 : decode bX_count 91 = .ok (.athrow, 1) := by decide +kernel
theorem dX_isWithin_0 : decode bX_isWithin 0 = .ok (.iload_n 0, 1) := by decide +kernel
theorem dX_isWithin_1 : decode bX_isWithin 1 = .ok (.iload_n 1, 1) := by decide +kernel
theorem dX_isWithin_2 : decode bX_isWithin 2 = .ok (.if_icmp .lt 12, 3) := by decide +kernel
theorem dX_isWithin_5 : decode bX_isWithin 5 = .ok (.iload_n 0, 1) := by decide +kernel
theorem dX_isWithin_6 : decode bX_isWithin 6 = .ok (.iload_n 2, 1) := by decide +kernel
theorem dX_isWithin_7 : decode bX_isWithin 7 = .ok (.if_icmp .gt 7, 3) := by decide +kernel
theorem dX_isWithin_10 : decode bX_isWithin 10 = .ok (.iconst 1, 1) := by decide +kernel
theorem dX_isWithin_11 : decode bX_isWithin 11 = .ok (.goto 4, 3) := by decide +kernel
theorem dX_isWithin_14 : decode bX_isWithin 14 = .ok (.iconst 0, 1) := by decide +kernel
theorem dX_isWithin_15 : decode bX_isWithin 15 = .ok (.ireturn, 1) := by decide +kernel
theorem dX_isBit_0 : decode bX_isBit 0 = .ok (.iload_n 0, 1) := by decide +kernel
theorem dX_isBit_1 : decode bX_isBit 1 = .ok (.iconst 0, 1) := by decide +kernel
theorem dX_isBit_2 : decode bX_isBit 2 = .ok (.bipush 31, 2) := by decide +kernel
theorem dX_isBit_4 : decode bX_isBit 4 = .ok (.invokestatic 121, 3) := by decide +kernel
theorem dX_isBit_7 : decode bX_isBit 7 = .ok (.ireturn, 1) := by decide +kernel
theorem dX_isRegister_0 : decode bX_isRegister 0 = .ok (.iload_n 0, 1) := by decide +kernel
theorem dX_isRegister_1 : decode bX_isRegister 1 = .ok (.iconst 0, 1) := by decide +kernel
theorem dX_isRegister_2 : decode bX_isRegister 2 = .ok (.bipush 7, 2) := by decide +kernel
theorem dX_isRegister_4 : decode bX_isRegister 4 = .ok (.invokestatic 121, 3) := by decide +kernel
theorem dX_isRegister_7 : decode bX_isRegister 7 = .ok (.ireturn, 1) := by decide +kernel
theorem dX_isRung_0 : decode bX_isRung 0 = .ok (.iload_n 0, 1) := by decide +kernel
theorem dX_isRung_1 : decode bX_isRung 1 = .ok (.iconst 0, 1) := by decide +kernel
theorem dX_isRung_2 : decode bX_isRung 2 = .ok (.bipush 11, 2) := by decide +kernel
theorem dX_isRung_4 : decode bX_isRung 4 = .ok (.invokestatic 121, 3) := by decide +kernel
theorem dX_isRung_7 : decode bX_isRung 7 = .ok (.ireturn, 1) := by decide +kernel
theorem dX_isMade_0 : decode bX_isMade 0 = .ok (.iload_n 1, 1) := by decide +kernel
theorem dX_isMade_1 : decode bX_isMade 1 = .ok (.iconst 0, 1) := by decide +kernel
theorem dX_isMade_2 : decode bX_isMade 2 = .ok (.aload_n 0, 1) := by decide +kernel
theorem dX_isMade_3 : decode bX_isMade 3 = .ok (.getfield 32, 3) := by decide +kernel
theorem dX_isMade_6 : decode bX_isMade 6 = .ok (.iconst 1, 1) := by decide +kernel
theorem dX_isMade_7 : decode bX_isMade 7 = .ok (.isub, 1) := by decide +kernel
theorem dX_isMade_8 : decode bX_isMade 8 = .ok (.invokestatic 121, 3) := by decide +kernel
theorem dX_isMade_11 : decode bX_isMade 11 = .ok (.ireturn, 1) := by decide +kernel
theorem dX_isBlock_0 : decode bX_isBlock 0 = .ok (.iload_n 0, 1) := by decide +kernel
theorem dX_isBlock_1 : decode bX_isBlock 1 = .ok (.tableswitch 100 0 7 #[47, 47, 55, 78, 78, 80, 80, 80], 47) := by decide +kernel
theorem dX_isBlock_48 : decode bX_isBlock 48 = .ok (.iload_n 1, 1) := by decide +kernel
theorem dX_isBlock_49 : decode bX_isBlock 49 = .ok (.iconst 1, 1) := by decide +kernel
theorem dX_isBlock_50 : decode bX_isBlock 50 = .ok (.bipush 100, 2) := by decide +kernel
theorem dX_isBlock_52 : decode bX_isBlock 52 = .ok (.invokestatic 121, 3) := by decide +kernel
theorem dX_isBlock_55 : decode bX_isBlock 55 = .ok (.ireturn, 1) := by decide +kernel
theorem dX_isBlock_56 : decode bX_isBlock 56 = .ok (.iload_n 1, 1) := by decide +kernel
theorem dX_isBlock_57 : decode bX_isBlock 57 = .ok (.iconst 1, 1) := by decide +kernel
theorem dX_isBlock_58 : decode bX_isBlock 58 = .ok (.bipush 100, 2) := by decide +kernel
theorem dX_isBlock_60 : decode bX_isBlock 60 = .ok (.invokestatic 121, 3) := by decide +kernel
theorem dX_isBlock_63 : decode bX_isBlock 63 = .ok (.ifCond .eq 14, 3) := by decide +kernel
theorem dX_isBlock_66 : decode bX_isBlock 66 = .ok (.iload_n 2, 1) := by decide +kernel
theorem dX_isBlock_67 : decode bX_isBlock 67 = .ok (.invokestatic 137, 3) := by decide +kernel
theorem dX_isBlock_70 : decode bX_isBlock 70 = .ok (.ifCond .eq 7, 3) := by decide +kernel
theorem dX_isBlock_73 : decode bX_isBlock 73 = .ok (.iconst 1, 1) := by decide +kernel
theorem dX_isBlock_74 : decode bX_isBlock 74 = .ok (.goto 4, 3) := by decide +kernel
theorem dX_isBlock_77 : decode bX_isBlock 77 = .ok (.iconst 0, 1) := by decide +kernel
theorem dX_isBlock_78 : decode bX_isBlock 78 = .ok (.ireturn, 1) := by decide +kernel
theorem dX_isBlock_79 : decode bX_isBlock 79 = .ok (.iconst 1, 1) := by decide +kernel
theorem dX_isBlock_80 : decode bX_isBlock 80 = .ok (.ireturn, 1) := by decide +kernel
theorem dX_isBlock_81 : decode bX_isBlock 81 = .ok (.iload_n 1, 1) := by decide +kernel
theorem dX_isBlock_82 : decode bX_isBlock 82 = .ok (.invokestatic 128, 3) := by decide +kernel
theorem dX_isBlock_85 : decode bX_isBlock 85 = .ok (.ifCond .eq 14, 3) := by decide +kernel
theorem dX_isBlock_88 : decode bX_isBlock 88 = .ok (.iload_n 2, 1) := by decide +kernel
theorem dX_isBlock_89 : decode bX_isBlock 89 = .ok (.invokestatic 128, 3) := by decide +kernel
theorem dX_isBlock_92 : decode bX_isBlock 92 = .ok (.ifCond .eq 7, 3) := by decide +kernel
theorem dX_isBlock_95 : decode bX_isBlock 95 = .ok (.iconst 1, 1) := by decide +kernel
theorem dX_isBlock_96 : decode bX_isBlock 96 = .ok (.goto 4, 3) := by decide +kernel
theorem dX_isBlock_99 : decode bX_isBlock 99 = .ok (.iconst 0, 1) := by decide +kernel
theorem dX_isBlock_100 : decode bX_isBlock 100 = .ok (.ireturn, 1) := by decide +kernel
theorem dX_isBlock_101 : decode bX_isBlock 101 = .ok (.iconst 0, 1) := by decide +kernel
theorem dX_isBlock_102 : decode bX_isBlock 102 = .ok (.ireturn, 1) := by decide +kernel
theorem dX_isStep_0 : decode bX_isStep 0 = .ok (.iload_n 1, 1) := by decide +kernel
theorem dX_isStep_1 : decode bX_isStep 1 = .ok (.tableswitch 106 0 13 #[71, 71, 71, 71, 71, 71, 76, 76, 78, 86, 92, 92, 92, 101], 71) := by decide +kernel
theorem dX_isStep_72 : decode bX_isStep 72 = .ok (.iload_n 2, 1) := by decide +kernel
theorem dX_isStep_73 : decode bX_isStep 73 = .ok (.invokestatic 137, 3) := by decide +kernel
theorem dX_isStep_76 : decode bX_isStep 76 = .ok (.ireturn, 1) := by decide +kernel
theorem dX_isStep_77 : decode bX_isStep 77 = .ok (.iconst 1, 1) := by decide +kernel
theorem dX_isStep_78 : decode bX_isStep 78 = .ok (.ireturn, 1) := by decide +kernel
theorem dX_isStep_79 : decode bX_isStep 79 = .ok (.iload_n 2, 1) := by decide +kernel
theorem dX_isStep_80 : decode bX_isStep 80 = .ok (.iconst 0, 1) := by decide +kernel
theorem dX_isStep_81 : decode bX_isStep 81 = .ok (.bipush 63, 2) := by decide +kernel
theorem dX_isStep_83 : decode bX_isStep 83 = .ok (.invokestatic 121, 3) := by decide +kernel
theorem dX_isStep_86 : decode bX_isStep 86 = .ok (.ireturn, 1) := by decide +kernel
theorem dX_isStep_87 : decode bX_isStep 87 = .ok (.aload_n 0, 1) := by decide +kernel
theorem dX_isStep_88 : decode bX_isStep 88 = .ok (.iload_n 2, 1) := by decide +kernel
theorem dX_isStep_89 : decode bX_isStep 89 = .ok (.invokevirtual 61, 3) := by decide +kernel
theorem dX_isStep_92 : decode bX_isStep 92 = .ok (.ireturn, 1) := by decide +kernel
theorem dX_isStep_93 : decode bX_isStep 93 = .ok (.iload_n 2, 1) := by decide +kernel
theorem dX_isStep_94 : decode bX_isStep 94 = .ok (.bipush 8, 2) := by decide +kernel
theorem dX_isStep_96 : decode bX_isStep 96 = .ok (.bipush 31, 2) := by decide +kernel
theorem dX_isStep_98 : decode bX_isStep 98 = .ok (.invokestatic 121, 3) := by decide +kernel
theorem dX_isStep_101 : decode bX_isStep 101 = .ok (.ireturn, 1) := by decide +kernel
theorem dX_isStep_102 : decode bX_isStep 102 = .ok (.iload_n 2, 1) := by decide +kernel
theorem dX_isStep_103 : decode bX_isStep 103 = .ok (.invokestatic 92, 3) := by decide +kernel
theorem dX_isStep_106 : decode bX_isStep 106 = .ok (.ireturn, 1) := by decide +kernel
theorem dX_isStep_107 : decode bX_isStep 107 = .ok (.iconst 0, 1) := by decide +kernel
theorem dX_isStep_108 : decode bX_isStep 108 = .ok (.ireturn, 1) := by decide +kernel
theorem dX_isInRange_0 : decode bX_isInRange 0 = .ok (.dload_n 0, 1) := by decide +kernel
theorem dX_isInRange_1 : decode bX_isInRange 1 = .ok (.ldc2_w 171, 3) := by decide +kernel
theorem dX_isInRange_4 : decode bX_isInRange 4 = .ok (.dcmp .l, 1) := by decide +kernel
theorem dX_isInRange_5 : decode bX_isInRange 5 = .ok (.ifCond .lt 15, 3) := by decide +kernel
theorem dX_isInRange_8 : decode bX_isInRange 8 = .ok (.dload_n 0, 1) := by decide +kernel
theorem dX_isInRange_9 : decode bX_isInRange 9 = .ok (.ldc2_w 173, 3) := by decide +kernel
theorem dX_isInRange_12 : decode bX_isInRange 12 = .ok (.dcmp .g, 1) := by decide +kernel
theorem dX_isInRange_13 : decode bX_isInRange 13 = .ok (.ifCond .gt 7, 3) := by decide +kernel
theorem dX_isInRange_16 : decode bX_isInRange 16 = .ok (.iconst 1, 1) := by decide +kernel
theorem dX_isInRange_17 : decode bX_isInRange 17 = .ok (.goto 4, 3) := by decide +kernel
theorem dX_isInRange_20 : decode bX_isInRange 20 = .ok (.iconst 0, 1) := by decide +kernel
theorem dX_isInRange_21 : decode bX_isInRange 21 = .ok (.ireturn, 1) := by decide +kernel
theorem dX_isWholeEighths_0 : decode bX_isWholeEighths 0 = .ok (.dload_n 0, 1) := by decide +kernel
theorem dX_isWholeEighths_1 : decode bX_isWholeEighths 1 = .ok (.invokestatic 131, 3) := by decide +kernel
theorem dX_isWholeEighths_4 : decode bX_isWholeEighths 4 = .ok (.ifCond .eq 19, 3) := by decide +kernel
theorem dX_isWholeEighths_7 : decode bX_isWholeEighths 7 = .ok (.dload_n 0, 1) := by decide +kernel
theorem dX_isWholeEighths_8 : decode bX_isWholeEighths 8 = .ok (.invokestatic 85, 3) := by decide +kernel
theorem dX_isWholeEighths_11 : decode bX_isWholeEighths 11 = .ok (.invokestatic 81, 3) := by decide +kernel
theorem dX_isWholeEighths_14 : decode bX_isWholeEighths 14 = .ok (.dload_n 0, 1) := by decide +kernel
theorem dX_isWholeEighths_15 : decode bX_isWholeEighths 15 = .ok (.dcmp .l, 1) := by decide +kernel
theorem dX_isWholeEighths_16 : decode bX_isWholeEighths 16 = .ok (.ifCond .ne 7, 3) := by decide +kernel
theorem dX_isWholeEighths_19 : decode bX_isWholeEighths 19 = .ok (.iconst 1, 1) := by decide +kernel
theorem dX_isWholeEighths_20 : decode bX_isWholeEighths 20 = .ok (.goto 4, 3) := by decide +kernel
theorem dX_isWholeEighths_23 : decode bX_isWholeEighths 23 = .ok (.iconst 0, 1) := by decide +kernel
theorem dX_isWholeEighths_24 : decode bX_isWholeEighths 24 = .ok (.ireturn, 1) := by decide +kernel
theorem dX_eighthsAtMost_0 : decode bX_eighthsAtMost 0 = .ok (.dload_n 0, 1) := by decide +kernel
theorem dX_eighthsAtMost_1 : decode bX_eighthsAtMost 1 = .ok (.ldc2_w 175, 3) := by decide +kernel
theorem dX_eighthsAtMost_4 : decode bX_eighthsAtMost 4 = .ok (.dmul, 1) := by decide +kernel
theorem dX_eighthsAtMost_5 : decode bX_eighthsAtMost 5 = .ok (.dstore_n 2, 1) := by decide +kernel
theorem dX_eighthsAtMost_6 : decode bX_eighthsAtMost 6 = .ok (.dload_n 2, 1) := by decide +kernel
theorem dX_eighthsAtMost_7 : decode bX_eighthsAtMost 7 = .ok (.d2i, 1) := by decide +kernel
theorem dX_eighthsAtMost_8 : decode bX_eighthsAtMost 8 = .ok (.istore 4, 2) := by decide +kernel
theorem dX_eighthsAtMost_10 : decode bX_eighthsAtMost 10 = .ok (.iload 4, 2) := by decide +kernel
theorem dX_eighthsAtMost_12 : decode bX_eighthsAtMost 12 = .ok (.i2d, 1) := by decide +kernel
theorem dX_eighthsAtMost_13 : decode bX_eighthsAtMost 13 = .ok (.dload_n 2, 1) := by decide +kernel
theorem dX_eighthsAtMost_14 : decode bX_eighthsAtMost 14 = .ok (.dcmp .l, 1) := by decide +kernel
theorem dX_eighthsAtMost_15 : decode bX_eighthsAtMost 15 = .ok (.ifCond .le 10, 3) := by decide +kernel
theorem dX_eighthsAtMost_18 : decode bX_eighthsAtMost 18 = .ok (.iload 4, 2) := by decide +kernel
theorem dX_eighthsAtMost_20 : decode bX_eighthsAtMost 20 = .ok (.iconst 1, 1) := by decide +kernel
theorem dX_eighthsAtMost_21 : decode bX_eighthsAtMost 21 = .ok (.isub, 1) := by decide +kernel
theorem dX_eighthsAtMost_22 : decode bX_eighthsAtMost 22 = .ok (.goto 5, 3) := by decide +kernel
theorem dX_eighthsAtMost_25 : decode bX_eighthsAtMost 25 = .ok (.iload 4, 2) := by decide +kernel
theorem dX_eighthsAtMost_27 : decode bX_eighthsAtMost 27 = .ok (.ireturn, 1) := by decide +kernel
theorem dX_numberOf_0 : decode bX_numberOf 0 = .ok (.iload_n 0, 1) := by decide +kernel
theorem dX_numberOf_1 : decode bX_numberOf 1 = .ok (.i2d, 1) := by decide +kernel
theorem dX_numberOf_2 : decode bX_numberOf 2 = .ok (.ldc2_w 175, 3) := by decide +kernel
theorem dX_numberOf_5 : decode bX_numberOf 5 = .ok (.ddiv, 1) := by decide +kernel
theorem dX_numberOf_6 : decode bX_numberOf 6 = .ok (.dreturn, 1) := by decide +kernel
theorem dX_scanOnce_0 : decode bX_scanOnce 0 = .ok (.aload_n 0, 1) := by decide +kernel
theorem dX_scanOnce_1 : decode bX_scanOnce 1 = .ok (.getfield 12, 3) := by decide +kernel
theorem dX_scanOnce_4 : decode bX_scanOnce 4 = .ok (.invokevirtual 177, 3) := by decide +kernel
theorem dX_scanOnce_7 : decode bX_scanOnce 7 = .ok (.aload_n 0, 1) := by decide +kernel
theorem dX_scanOnce_8 : decode bX_scanOnce 8 = .ok (.invokevirtual 180, 3) := by decide +kernel
theorem dX_scanOnce_11 : decode bX_scanOnce 11 = .ok (.istore_n 1, 1) := by decide +kernel
theorem dX_scanOnce_12 : decode bX_scanOnce 12 = .ok (.iload_n 1, 1) := by decide +kernel
theorem dX_scanOnce_13 : decode bX_scanOnce 13 = .ok (.ifCond .ge 28, 3) := by decide +kernel
theorem dX_scanOnce_16 : decode bX_scanOnce 16 = .ok (.aload_n 0, 1) := by decide +kernel
theorem dX_scanOnce_17 : decode bX_scanOnce 17 = .ok (.iconst 1, 1) := by decide +kernel
theorem dX_scanOnce_18 : decode bX_scanOnce 18 = .ok (.putfield 42, 3) := by decide +kernel
theorem dX_scanOnce_21 : decode bX_scanOnce 21 = .ok (.aload_n 0, 1) := by decide +kernel
theorem dX_scanOnce_22 : decode bX_scanOnce 22 = .ok (.dup, 1) := by decide +kernel
theorem dX_scanOnce_23 : decode bX_scanOnce 23 = .ok (.getfield 39, 3) := by decide +kernel
theorem dX_scanOnce_26 : decode bX_scanOnce 26 = .ok (.iconst 1, 1) := by decide +kernel
theorem dX_scanOnce_27 : decode bX_scanOnce 27 = .ok (.iadd, 1) := by decide +kernel
theorem dX_scanOnce_28 : decode bX_scanOnce 28 = .ok (.putfield 39, 3) := by decide +kernel
theorem dX_scanOnce_31 : decode bX_scanOnce 31 = .ok (.aload_n 0, 1) := by decide +kernel
theorem dX_scanOnce_32 : decode bX_scanOnce 32 = .ok (.getfield 12, 3) := by decide +kernel
theorem dX_scanOnce_35 : decode bX_scanOnce 35 = .ok (.invokevirtual 183, 3) := by decide +kernel
theorem dX_scanOnce_38 : decode bX_scanOnce 38 = .ok (.goto 20, 3) := by decide +kernel
theorem dX_scanOnce_41 : decode bX_scanOnce 41 = .ok (.aload_n 0, 1) := by decide +kernel
theorem dX_scanOnce_42 : decode bX_scanOnce 42 = .ok (.dup, 1) := by decide +kernel
theorem dX_scanOnce_43 : decode bX_scanOnce 43 = .ok (.getfield 36, 3) := by decide +kernel
theorem dX_scanOnce_46 : decode bX_scanOnce 46 = .ok (.iconst 1, 1) := by decide +kernel
theorem dX_scanOnce_47 : decode bX_scanOnce 47 = .ok (.iadd, 1) := by decide +kernel
theorem dX_scanOnce_48 : decode bX_scanOnce 48 = .ok (.putfield 36, 3) := by decide +kernel
theorem dX_scanOnce_51 : decode bX_scanOnce 51 = .ok (.aload_n 0, 1) := by decide +kernel
theorem dX_scanOnce_52 : decode bX_scanOnce 52 = .ok (.getfield 12, 3) := by decide +kernel
theorem dX_scanOnce_55 : decode bX_scanOnce 55 = .ok (.invokevirtual 186, 3) := by decide +kernel
theorem dX_scanOnce_58 : decode bX_scanOnce 58 = .ok (.iload_n 1, 1) := by decide +kernel
theorem dX_scanOnce_59 : decode bX_scanOnce 59 = .ok (.ireturn, 1) := by decide +kernel
theorem dX_runProgram_0 : decode bX_runProgram 0 = .ok (.iconst 0, 1) := by decide +kernel
theorem dX_runProgram_1 : decode bX_runProgram 1 = .ok (.istore_n 1, 1) := by decide +kernel
theorem dX_runProgram_2 : decode bX_runProgram 2 = .ok (.iconst 0, 1) := by decide +kernel
theorem dX_runProgram_3 : decode bX_runProgram 3 = .ok (.istore_n 2, 1) := by decide +kernel
theorem dX_runProgram_4 : decode bX_runProgram 4 = .ok (.iload_n 1, 1) := by decide +kernel
theorem dX_runProgram_5 : decode bX_runProgram 5 = .ok (.bipush 12, 2) := by decide +kernel
theorem dX_runProgram_7 : decode bX_runProgram 7 = .ok (.if_icmp .ge 24, 3) := by decide +kernel
theorem dX_runProgram_10 : decode bX_runProgram 10 = .ok (.iload_n 2, 1) := by decide +kernel
theorem dX_runProgram_11 : decode bX_runProgram 11 = .ok (.bipush 30, 2) := by decide +kernel
theorem dX_runProgram_13 : decode bX_runProgram 13 = .ok (.if_icmp .ge 18, 3) := by decide +kernel
theorem dX_runProgram_16 : decode bX_runProgram 16 = .ok (.iinc 2 1, 3) := by decide +kernel
theorem dX_runProgram_19 : decode bX_runProgram 19 = .ok (.aload_n 0, 1) := by decide +kernel
theorem dX_runProgram_20 : decode bX_runProgram 20 = .ok (.iload_n 1, 1) := by decide +kernel
theorem dX_runProgram_21 : decode bX_runProgram 21 = .ok (.invokevirtual 189, 3) := by decide +kernel
theorem dX_runProgram_24 : decode bX_runProgram 24 = .ok (.istore_n 1, 1) := by decide +kernel
theorem dX_runProgram_25 : decode bX_runProgram 25 = .ok (.iload_n 1, 1) := by decide +kernel
theorem dX_runProgram_26 : decode bX_runProgram 26 = .ok (.ifCond .ge (-22), 3) := by decide +kernel
theorem dX_runProgram_29 : decode bX_runProgram 29 = .ok (.iload_n 1, 1) := by decide +kernel
theorem dX_runProgram_30 : decode bX_runProgram 30 = .ok (.ireturn, 1) := by decide +kernel
theorem dX_runProgram_31 : decode bX_runProgram 31 = .ok (.iload_n 1, 1) := by decide +kernel
theorem dX_runProgram_32 : decode bX_runProgram 32 = .ok (.bipush 12, 2) := by decide +kernel
theorem dX_runProgram_34 : decode bX_runProgram 34 = .ok (.if_icmp .ge 7, 3) := by decide +kernel
theorem dX_runProgram_37 : decode bX_runProgram 37 = .ok (.iconst (-1), 1) := by decide +kernel
theorem dX_runProgram_38 : decode bX_runProgram 38 = .ok (.goto 4, 3) := by decide +kernel
theorem dX_runProgram_41 : decode bX_runProgram 41 = .ok (.iload_n 2, 1) := by decide +kernel
theorem dX_runProgram_42 : decode bX_runProgram 42 = .ok (.ireturn, 1) := by decide +kernel
theorem dX_runRung_0 : decode bX_runRung 0 = .ok (.iconst 0, 1) := by decide +kernel
theorem dX_runRung_1 : decode bX_runRung 1 = .ok (.istore_n 2, 1) := by decide +kernel
theorem dX_runRung_2 : decode bX_runRung 2 = .ok (.aload_n 0, 1) := by decide +kernel
theorem dX_runRung_3 : decode bX_runRung 3 = .ok (.getfield 29, 3) := by decide +kernel
theorem dX_runRung_6 : decode bX_runRung 6 = .ok (.getfield 192, 3) := by decide +kernel
theorem dX_runRung_9 : decode bX_runRung 9 = .ok (.iload_n 1, 1) := by decide +kernel
theorem dX_runRung_10 : decode bX_runRung 10 = .ok (.iaload, 1) := by decide +kernel
theorem dX_runRung_11 : decode bX_runRung 11 = .ok (.istore_n 3, 1) := by decide +kernel
theorem dX_runRung_12 : decode bX_runRung 12 = .ok (.iconst 0, 1) := by decide +kernel
theorem dX_runRung_13 : decode bX_runRung 13 = .ok (.istore 4, 2) := by decide +kernel
theorem dX_runRung_15 : decode bX_runRung 15 = .ok (.iload 4, 2) := by decide +kernel
theorem dX_runRung_17 : decode bX_runRung 17 = .ok (.iload_n 3, 1) := by decide +kernel
theorem dX_runRung_18 : decode bX_runRung 18 = .ok (.if_icmp .ge 146, 3) := by decide +kernel
theorem dX_runRung_21 : decode bX_runRung 21 = .ok (.aload_n 0, 1) := by decide +kernel
theorem dX_runRung_22 : decode bX_runRung 22 = .ok (.getfield 29, 3) := by decide +kernel
theorem dX_runRung_25 : decode bX_runRung 25 = .ok (.getfield 195, 3) := by decide +kernel
theorem dX_runRung_28 : decode bX_runRung 28 = .ok (.iload_n 1, 1) := by decide +kernel
theorem dX_runRung_29 : decode bX_runRung 29 = .ok (.bipush 10, 2) := by decide +kernel
theorem dX_runRung_31 : decode bX_runRung 31 = .ok (.imul, 1) := by decide +kernel
theorem dX_runRung_32 : decode bX_runRung 32 = .ok (.iload 4, 2) := by decide +kernel
theorem dX_runRung_34 : decode bX_runRung 34 = .ok (.iadd, 1) := by decide +kernel
theorem dX_runRung_35 : decode bX_runRung 35 = .ok (.iaload, 1) := by decide +kernel
theorem dX_runRung_36 : decode bX_runRung 36 = .ok (.istore 5, 2) := by decide +kernel
theorem dX_runRung_38 : decode bX_runRung 38 = .ok (.aload_n 0, 1) := by decide +kernel
theorem dX_runRung_39 : decode bX_runRung 39 = .ok (.getfield 29, 3) := by decide +kernel
theorem dX_runRung_42 : decode bX_runRung 42 = .ok (.getfield 198, 3) := by decide +kernel
theorem dX_runRung_45 : decode bX_runRung 45 = .ok (.iload_n 1, 1) := by decide +kernel
theorem dX_runRung_46 : decode bX_runRung 46 = .ok (.bipush 10, 2) := by decide +kernel
theorem dX_runRung_48 : decode bX_runRung 48 = .ok (.imul, 1) := by decide +kernel
theorem dX_runRung_49 : decode bX_runRung 49 = .ok (.iload 4, 2) := by decide +kernel
theorem dX_runRung_51 : decode bX_runRung 51 = .ok (.iadd, 1) := by decide +kernel
theorem dX_runRung_52 : decode bX_runRung 52 = .ok (.iaload, 1) := by decide +kernel
theorem dX_runRung_53 : decode bX_runRung 53 = .ok (.istore 6, 2) := by decide +kernel
theorem dX_runRung_55 : decode bX_runRung 55 = .ok (.iload_n 2, 1) := by decide +kernel
theorem dX_runRung_56 : decode bX_runRung 56 = .ok (.iconst 1, 1) := by decide +kernel
theorem dX_runRung_57 : decode bX_runRung 57 = .ok (.iand, 1) := by decide +kernel
theorem dX_runRung_58 : decode bX_runRung 58 = .ok (.istore 7, 2) := by decide +kernel
theorem dX_runRung_60 : decode bX_runRung 60 = .ok (.iload 5, 2) := by decide +kernel
theorem dX_runRung_62 : decode bX_runRung 62 = .ok (.bipush 13, 2) := by decide +kernel
theorem dX_runRung_64 : decode bX_runRung 64 = .ok (.if_icmp .ne 12, 3) := by decide +kernel
theorem dX_runRung_67 : decode bX_runRung 67 = .ok (.iload 7, 2) := by decide +kernel
theorem dX_runRung_69 : decode bX_runRung 69 = .ok (.iconst 1, 1) := by decide +kernel
theorem dX_runRung_70 : decode bX_runRung 70 = .ok (.if_icmp .ne 88, 3) := by decide +kernel
theorem dX_runRung_73 : decode bX_runRung 73 = .ok (.iload 6, 2) := by decide +kernel
theorem dX_runRung_75 : decode bX_runRung 75 = .ok (.ireturn, 1) := by decide +kernel
theorem dX_runRung_76 : decode bX_runRung 76 = .ok (.iload 5, 2) := by decide +kernel
theorem dX_runRung_78 : decode bX_runRung 78 = .ok (.bipush 9, 2) := by decide +kernel
theorem dX_runRung_80 : decode bX_runRung 80 = .ok (.if_icmp .ne 45, 3) := by decide +kernel
theorem dX_runRung_83 : decode bX_runRung 83 = .ok (.aload_n 0, 1) := by decide +kernel
theorem dX_runRung_84 : decode bX_runRung 84 = .ok (.getfield 18, 3) := by decide +kernel
theorem dX_runRung_87 : decode bX_runRung 87 = .ok (.iload 6, 2) := by decide +kernel
theorem dX_runRung_89 : decode bX_runRung 89 = .ok (.aaload, 1) := by decide +kernel
theorem dX_runRung_90 : decode bX_runRung 90 = .ok (.iload 7, 2) := by decide +kernel
theorem dX_runRung_92 : decode bX_runRung 92 = .ok (.invokevirtual 201, 3) := by decide +kernel
theorem dX_runRung_95 : decode bX_runRung 95 = .ok (.ifCond .eq 6, 3) := by decide +kernel
theorem dX_runRung_98 : decode bX_runRung 98 = .ok (.bipush (-2), 2) := by decide +kernel
theorem dX_runRung_100 : decode bX_runRung 100 = .ok (.ireturn, 1) := by decide +kernel
theorem dX_runRung_101 : decode bX_runRung 101 = .ok (.iload_n 2, 1) := by decide +kernel
theorem dX_runRung_102 : decode bX_runRung 102 = .ok (.aload_n 0, 1) := by decide +kernel
theorem dX_runRung_103 : decode bX_runRung 103 = .ok (.getfield 18, 3) := by decide +kernel
theorem dX_runRung_106 : decode bX_runRung 106 = .ok (.iload 6, 2) := by decide +kernel
theorem dX_runRung_108 : decode bX_runRung 108 = .ok (.aaload, 1) := by decide +kernel
theorem dX_runRung_109 : decode bX_runRung 109 = .ok (.iload 7, 2) := by decide +kernel
theorem dX_runRung_111 : decode bX_runRung 111 = .ok (.aload_n 0, 1) := by decide +kernel
theorem dX_runRung_112 : decode bX_runRung 112 = .ok (.getfield 12, 3) := by decide +kernel
theorem dX_runRung_115 : decode bX_runRung 115 = .ok (.invokevirtual 204, 3) := by decide +kernel
theorem dX_runRung_118 : decode bX_runRung 118 = .ok (.invokestatic 208, 3) := by decide +kernel
theorem dX_runRung_121 : decode bX_runRung 121 = .ok (.istore_n 2, 1) := by decide +kernel
theorem dX_runRung_122 : decode bX_runRung 122 = .ok (.goto 36, 3) := by decide +kernel
theorem dX_runRung_125 : decode bX_runRung 125 = .ok (.iload 5, 2) := by decide +kernel
theorem dX_runRung_127 : decode bX_runRung 127 = .ok (.bipush 10, 2) := by decide +kernel
theorem dX_runRung_129 : decode bX_runRung 129 = .ok (.if_icmp .lt 19, 3) := by decide +kernel
theorem dX_runRung_132 : decode bX_runRung 132 = .ok (.aload_n 0, 1) := by decide +kernel
theorem dX_runRung_133 : decode bX_runRung 133 = .ok (.getfield 12, 3) := by decide +kernel
theorem dX_runRung_136 : decode bX_runRung 136 = .ok (.iload 5, 2) := by decide +kernel
theorem dX_runRung_138 : decode bX_runRung 138 = .ok (.iload 6, 2) := by decide +kernel
theorem dX_runRung_140 : decode bX_runRung 140 = .ok (.iload 7, 2) := by decide +kernel
theorem dX_runRung_142 : decode bX_runRung 142 = .ok (.invokevirtual 212, 3) := by decide +kernel
theorem dX_runRung_145 : decode bX_runRung 145 = .ok (.goto 13, 3) := by decide +kernel
theorem dX_runRung_148 : decode bX_runRung 148 = .ok (.aload_n 0, 1) := by decide +kernel
theorem dX_runRung_149 : decode bX_runRung 149 = .ok (.iload_n 2, 1) := by decide +kernel
theorem dX_runRung_150 : decode bX_runRung 150 = .ok (.iload 5, 2) := by decide +kernel
theorem dX_runRung_152 : decode bX_runRung 152 = .ok (.iload 6, 2) := by decide +kernel
theorem dX_runRung_154 : decode bX_runRung 154 = .ok (.invokevirtual 215, 3) := by decide +kernel
theorem dX_runRung_157 : decode bX_runRung 157 = .ok (.istore_n 2, 1) := by decide +kernel
theorem dX_runRung_158 : decode bX_runRung 158 = .ok (.iinc 4 1, 3) := by decide +kernel
theorem dX_runRung_161 : decode bX_runRung 161 = .ok (.goto (-146), 3) := by decide +kernel
theorem dX_runRung_164 : decode bX_runRung 164 = .ok (.iload_n 1, 1) := by decide +kernel
theorem dX_runRung_165 : decode bX_runRung 165 = .ok (.iconst 1, 1) := by decide +kernel
theorem dX_runRung_166 : decode bX_runRung 166 = .ok (.iadd, 1) := by decide +kernel
theorem dX_runRung_167 : decode bX_runRung 167 = .ok (.ireturn, 1) := by decide +kernel
theorem dX_stackAfter_0 : decode bX_stackAfter 0 = .ok (.iload_n 2, 1) := by decide +kernel
theorem dX_stackAfter_1 : decode bX_stackAfter 1 = .ok (.tableswitch 203 0 8 #[51, 64, 79, 94, 111, 128, 147, 161, 175], 51) := by decide +kernel
theorem dX_stackAfter_52 : decode bX_stackAfter 52 = .ok (.iload_n 1, 1) := by decide +kernel
theorem dX_stackAfter_53 : decode bX_stackAfter 53 = .ok (.aload_n 0, 1) := by decide +kernel
theorem dX_stackAfter_54 : decode bX_stackAfter 54 = .ok (.getfield 12, 3) := by decide +kernel
theorem dX_stackAfter_57 : decode bX_stackAfter 57 = .ok (.iload_n 3, 1) := by decide +kernel
theorem dX_stackAfter_58 : decode bX_stackAfter 58 = .ok (.invokevirtual 156, 3) := by decide +kernel
theorem dX_stackAfter_61 : decode bX_stackAfter 61 = .ok (.invokestatic 218, 3) := by decide +kernel
theorem dX_stackAfter_64 : decode bX_stackAfter 64 = .ok (.ireturn, 1) := by decide +kernel
theorem dX_stackAfter_65 : decode bX_stackAfter 65 = .ok (.iload_n 1, 1) := by decide +kernel
theorem dX_stackAfter_66 : decode bX_stackAfter 66 = .ok (.iconst 1, 1) := by decide +kernel
theorem dX_stackAfter_67 : decode bX_stackAfter 67 = .ok (.aload_n 0, 1) := by decide +kernel
theorem dX_stackAfter_68 : decode bX_stackAfter 68 = .ok (.getfield 12, 3) := by decide +kernel
theorem dX_stackAfter_71 : decode bX_stackAfter 71 = .ok (.iload_n 3, 1) := by decide +kernel
theorem dX_stackAfter_72 : decode bX_stackAfter 72 = .ok (.invokevirtual 156, 3) := by decide +kernel
theorem dX_stackAfter_75 : decode bX_stackAfter 75 = .ok (.isub, 1) := by decide +kernel
theorem dX_stackAfter_76 : decode bX_stackAfter 76 = .ok (.invokestatic 218, 3) := by decide +kernel
theorem dX_stackAfter_79 : decode bX_stackAfter 79 = .ok (.ireturn, 1) := by decide +kernel
theorem dX_stackAfter_80 : decode bX_stackAfter 80 = .ok (.iload_n 1, 1) := by decide +kernel
theorem dX_stackAfter_81 : decode bX_stackAfter 81 = .ok (.iload_n 1, 1) := by decide +kernel
theorem dX_stackAfter_82 : decode bX_stackAfter 82 = .ok (.aload_n 0, 1) := by decide +kernel
theorem dX_stackAfter_83 : decode bX_stackAfter 83 = .ok (.getfield 12, 3) := by decide +kernel
theorem dX_stackAfter_86 : decode bX_stackAfter 86 = .ok (.iload_n 3, 1) := by decide +kernel
theorem dX_stackAfter_87 : decode bX_stackAfter 87 = .ok (.invokevirtual 156, 3) := by decide +kernel
theorem dX_stackAfter_90 : decode bX_stackAfter 90 = .ok (.iand, 1) := by decide +kernel
theorem dX_stackAfter_91 : decode bX_stackAfter 91 = .ok (.invokestatic 208, 3) := by decide +kernel
theorem dX_stackAfter_94 : decode bX_stackAfter 94 = .ok (.ireturn, 1) := by decide +kernel
theorem dX_stackAfter_95 : decode bX_stackAfter 95 = .ok (.iload_n 1, 1) := by decide +kernel
theorem dX_stackAfter_96 : decode bX_stackAfter 96 = .ok (.iload_n 1, 1) := by decide +kernel
theorem dX_stackAfter_97 : decode bX_stackAfter 97 = .ok (.iconst 1, 1) := by decide +kernel
theorem dX_stackAfter_98 : decode bX_stackAfter 98 = .ok (.aload_n 0, 1) := by decide +kernel
theorem dX_stackAfter_99 : decode bX_stackAfter 99 = .ok (.getfield 12, 3) := by decide +kernel
theorem dX_stackAfter_102 : decode bX_stackAfter 102 = .ok (.iload_n 3, 1) := by decide +kernel
theorem dX_stackAfter_103 : decode bX_stackAfter 103 = .ok (.invokevirtual 156, 3) := by decide +kernel
theorem dX_stackAfter_106 : decode bX_stackAfter 106 = .ok (.isub, 1) := by decide +kernel
theorem dX_stackAfter_107 : decode bX_stackAfter 107 = .ok (.iand, 1) := by decide +kernel
theorem dX_stackAfter_108 : decode bX_stackAfter 108 = .ok (.invokestatic 208, 3) := by decide +kernel
theorem dX_stackAfter_111 : decode bX_stackAfter 111 = .ok (.ireturn, 1) := by decide +kernel
theorem dX_stackAfter_112 : decode bX_stackAfter 112 = .ok (.iload_n 1, 1) := by decide +kernel
theorem dX_stackAfter_113 : decode bX_stackAfter 113 = .ok (.iload_n 1, 1) := by decide +kernel
theorem dX_stackAfter_114 : decode bX_stackAfter 114 = .ok (.iconst 1, 1) := by decide +kernel
theorem dX_stackAfter_115 : decode bX_stackAfter 115 = .ok (.iand, 1) := by decide +kernel
theorem dX_stackAfter_116 : decode bX_stackAfter 116 = .ok (.aload_n 0, 1) := by decide +kernel
theorem dX_stackAfter_117 : decode bX_stackAfter 117 = .ok (.getfield 12, 3) := by decide +kernel
theorem dX_stackAfter_120 : decode bX_stackAfter 120 = .ok (.iload_n 3, 1) := by decide +kernel
theorem dX_stackAfter_121 : decode bX_stackAfter 121 = .ok (.invokevirtual 156, 3) := by decide +kernel
theorem dX_stackAfter_124 : decode bX_stackAfter 124 = .ok (.ior, 1) := by decide +kernel
theorem dX_stackAfter_125 : decode bX_stackAfter 125 = .ok (.invokestatic 208, 3) := by decide +kernel
theorem dX_stackAfter_128 : decode bX_stackAfter 128 = .ok (.ireturn, 1) := by decide +kernel
theorem dX_stackAfter_129 : decode bX_stackAfter 129 = .ok (.iload_n 1, 1) := by decide +kernel
theorem dX_stackAfter_130 : decode bX_stackAfter 130 = .ok (.iload_n 1, 1) := by decide +kernel
theorem dX_stackAfter_131 : decode bX_stackAfter 131 = .ok (.iconst 1, 1) := by decide +kernel
theorem dX_stackAfter_132 : decode bX_stackAfter 132 = .ok (.iand, 1) := by decide +kernel
theorem dX_stackAfter_133 : decode bX_stackAfter 133 = .ok (.iconst 1, 1) := by decide +kernel
theorem dX_stackAfter_134 : decode bX_stackAfter 134 = .ok (.aload_n 0, 1) := by decide +kernel
theorem dX_stackAfter_135 : decode bX_stackAfter 135 = .ok (.getfield 12, 3) := by decide +kernel
theorem dX_stackAfter_138 : decode bX_stackAfter 138 = .ok (.iload_n 3, 1) := by decide +kernel
theorem dX_stackAfter_139 : decode bX_stackAfter 139 = .ok (.invokevirtual 156, 3) := by decide +kernel
theorem dX_stackAfter_142 : decode bX_stackAfter 142 = .ok (.isub, 1) := by decide +kernel
theorem dX_stackAfter_143 : decode bX_stackAfter 143 = .ok (.ior, 1) := by decide +kernel
theorem dX_stackAfter_144 : decode bX_stackAfter 144 = .ok (.invokestatic 208, 3) := by decide +kernel
theorem dX_stackAfter_147 : decode bX_stackAfter 147 = .ok (.ireturn, 1) := by decide +kernel
theorem dX_stackAfter_148 : decode bX_stackAfter 148 = .ok (.iload_n 1, 1) := by decide +kernel
theorem dX_stackAfter_149 : decode bX_stackAfter 149 = .ok (.iconst 1, 1) := by decide +kernel
theorem dX_stackAfter_150 : decode bX_stackAfter 150 = .ok (.ishr, 1) := by decide +kernel
theorem dX_stackAfter_151 : decode bX_stackAfter 151 = .ok (.iload_n 1, 1) := by decide +kernel
theorem dX_stackAfter_152 : decode bX_stackAfter 152 = .ok (.iconst 1, 1) := by decide +kernel
theorem dX_stackAfter_153 : decode bX_stackAfter 153 = .ok (.ishr, 1) := by decide +kernel
theorem dX_stackAfter_154 : decode bX_stackAfter 154 = .ok (.iload_n 1, 1) := by decide +kernel
theorem dX_stackAfter_155 : decode bX_stackAfter 155 = .ok (.iand, 1) := by decide +kernel
theorem dX_stackAfter_156 : decode bX_stackAfter 156 = .ok (.iconst 1, 1) := by decide +kernel
theorem dX_stackAfter_157 : decode bX_stackAfter 157 = .ok (.iand, 1) := by decide +kernel
theorem dX_stackAfter_158 : decode bX_stackAfter 158 = .ok (.invokestatic 208, 3) := by decide +kernel
theorem dX_stackAfter_161 : decode bX_stackAfter 161 = .ok (.ireturn, 1) := by decide +kernel
theorem dX_stackAfter_162 : decode bX_stackAfter 162 = .ok (.iload_n 1, 1) := by decide +kernel
theorem dX_stackAfter_163 : decode bX_stackAfter 163 = .ok (.iconst 1, 1) := by decide +kernel
theorem dX_stackAfter_164 : decode bX_stackAfter 164 = .ok (.ishr, 1) := by decide +kernel
theorem dX_stackAfter_165 : decode bX_stackAfter 165 = .ok (.iload_n 1, 1) := by decide +kernel
theorem dX_stackAfter_166 : decode bX_stackAfter 166 = .ok (.iconst 1, 1) := by decide +kernel
theorem dX_stackAfter_167 : decode bX_stackAfter 167 = .ok (.ishr, 1) := by decide +kernel
theorem dX_stackAfter_168 : decode bX_stackAfter 168 = .ok (.iload_n 1, 1) := by decide +kernel
theorem dX_stackAfter_169 : decode bX_stackAfter 169 = .ok (.ior, 1) := by decide +kernel
theorem dX_stackAfter_170 : decode bX_stackAfter 170 = .ok (.iconst 1, 1) := by decide +kernel
theorem dX_stackAfter_171 : decode bX_stackAfter 171 = .ok (.iand, 1) := by decide +kernel
theorem dX_stackAfter_172 : decode bX_stackAfter 172 = .ok (.invokestatic 208, 3) := by decide +kernel
theorem dX_stackAfter_175 : decode bX_stackAfter 175 = .ok (.ireturn, 1) := by decide +kernel
theorem dX_stackAfter_176 : decode bX_stackAfter 176 = .ok (.iload_n 1, 1) := by decide +kernel
theorem dX_stackAfter_177 : decode bX_stackAfter 177 = .ok (.aload_n 0, 1) := by decide +kernel
theorem dX_stackAfter_178 : decode bX_stackAfter 178 = .ok (.getfield 12, 3) := by decide +kernel
theorem dX_stackAfter_181 : decode bX_stackAfter 181 = .ok (.iload_n 3, 1) := by decide +kernel
theorem dX_stackAfter_182 : decode bX_stackAfter 182 = .ok (.bipush 8, 2) := by decide +kernel
theorem dX_stackAfter_184 : decode bX_stackAfter 184 = .ok (.idiv, 1) := by decide +kernel
theorem dX_stackAfter_185 : decode bX_stackAfter 185 = .ok (.iload_n 3, 1) := by decide +kernel
theorem dX_stackAfter_186 : decode bX_stackAfter 186 = .ok (.bipush 8, 2) := by decide +kernel
theorem dX_stackAfter_188 : decode bX_stackAfter 188 = .ok (.irem, 1) := by decide +kernel
theorem dX_stackAfter_189 : decode bX_stackAfter 189 = .ok (.invokevirtual 221, 3) := by decide +kernel
theorem dX_stackAfter_192 : decode bX_stackAfter 192 = .ok (.ifCond .eq 7, 3) := by decide +kernel
theorem dX_stackAfter_195 : decode bX_stackAfter 195 = .ok (.iconst 1, 1) := by decide +kernel
theorem dX_stackAfter_196 : decode bX_stackAfter 196 = .ok (.goto 4, 3) := by decide +kernel
theorem dX_stackAfter_199 : decode bX_stackAfter 199 = .ok (.iconst 0, 1) := by decide +kernel
theorem dX_stackAfter_200 : decode bX_stackAfter 200 = .ok (.invokestatic 218, 3) := by decide +kernel
theorem dX_stackAfter_203 : decode bX_stackAfter 203 = .ok (.ireturn, 1) := by decide +kernel
theorem dX_stackAfter_204 : decode bX_stackAfter 204 = .ok (.iload_n 1, 1) := by decide +kernel
theorem dX_stackAfter_205 : decode bX_stackAfter 205 = .ok (.ireturn, 1) := by decide +kernel
theorem dX_withPushed_0 : decode bX_withPushed 0 = .ok (.iload_n 0, 1) := by decide +kernel
theorem dX_withPushed_1 : decode bX_withPushed 1 = .ok (.iconst 1, 1) := by decide +kernel
theorem dX_withPushed_2 : decode bX_withPushed 2 = .ok (.ishl, 1) := by decide +kernel
theorem dX_withPushed_3 : decode bX_withPushed 3 = .ok (.iload_n 1, 1) := by decide +kernel
theorem dX_withPushed_4 : decode bX_withPushed 4 = .ok (.ior, 1) := by decide +kernel
theorem dX_withPushed_5 : decode bX_withPushed 5 = .ok (.ireturn, 1) := by decide +kernel
theorem dX_withTop_0 : decode bX_withTop 0 = .ok (.iload_n 0, 1) := by decide +kernel
theorem dX_withTop_1 : decode bX_withTop 1 = .ok (.bipush (-2), 2) := by decide +kernel
theorem dX_withTop_3 : decode bX_withTop 3 = .ok (.iand, 1) := by decide +kernel
theorem dX_withTop_4 : decode bX_withTop 4 = .ok (.iload_n 1, 1) := by decide +kernel
theorem dX_withTop_5 : decode bX_withTop 5 = .ok (.ior, 1) := by decide +kernel
theorem dX_withTop_6 : decode bX_withTop 6 = .ok (.ireturn, 1) := by decide +kernel
end
section
/-! Doubles that are whole eighths: eD k is k * 0.125, as the law makes it -/
def eD (k : Int32) : UInt64 := FP.dmul (FP.i2d k) 0x3FC0000000000000
/-- x is k eighths -/
def E8 (k : Int) (x : UInt64) : Prop := ∃ (s : Bool) (c : Nat) (q : Int), FP.Core.val64 x = .fin s c q ∧ FP.Core.Whole k (.fin s c (q + 3))
theorem e8_val8th : FP.Core.val64 0x3FC0000000000000 = .fin false (2 ^ 52) (-55) := by decide +kernel
theorem e8_val8 : FP.Core.val64 0x4020000000000000 = .fin false (2 ^ 52) (-49) := by decide +kernel
theorem e8_nan {x : UInt64} (h : FP.Core.val64 x ≠ .nan) : vf_n64 x := by
  have h1 := (FP.Core.ne_nan x).mp h
  unfold vf_n64
  rw [UInt64.le_iff_toNat_le, UInt64.toNat_and]
  have h2 : (0x7fffffffffffffff : UInt64).toNat = 2 ^ 63 - 1 := by decide
  have h3 : (0x7ff0000000000000 : UInt64).toNat = 9218868437227405312 := by decide
  rw [h2, h3, Nat.and_two_pow_sub_one_eq_mod]
  exact h1
theorem e8_n {k : Int} {x : UInt64} (h : E8 k x) : vf_n64 x := by
  obtain ⟨s, c, q, h1, -⟩ := h
  exact e8_nan (by rw [h1]; intro h2; cases h2)
/-- the datum of a whole number other than 0: its significand and exponent -/
theorem e8_i2d (k : Int32) (hk : k ≠ 0) : ∃ (s : Bool) (c : Nat) (q : Int), FP.Core.val64 (FP.i2d k) = .fin s c q ∧ FP.Core.Whole k.toInt (.fin s c q) ∧ FP.Core.fits FP.Core.b64 (.fin s c q) ∧ FP.Core.fits FP.Core.b64 (.fin s c (q - 3)) := by
  have h1 : FP.Core.Whole k.toInt (FP.Core.val64 (FP.i2d k)) := FP.Core.i2d_int k
  have h2 := FP.Core.val64_fits (FP.i2d k)
  cases hd : FP.Core.val64 (FP.i2d k) with
  | nan => rw [hd] at h1; exact h1.elim
  | inf s => rw [hd] at h1; exact h1.elim
  | fin s c q =>
    rw [hd] at h1 h2
    refine ⟨s, c, q, rfl, h1, h2, ?_⟩
    have hk0 : k.toInt ≠ 0 := fun h => hk (Int32.toInt_inj.mp (by rw [h]; rfl))
    obtain ⟨a1, a2, a3, a4⟩ := h2
    have hp : FP.Core.b64.p = 53 := rfl
    have hm : FP.Core.b64.qmin = -1074 := by decide
    rw [hp] at a1
    rw [hm] at a2 a4
    have hc0 : c ≠ 0 := fun h => hk0 ((FP.Core.whole_zero h1).mp h)
    have hq : -53 ≤ q := by
      have h3 := FP.Core.whole_natAbs h1
      rcases Int.lt_or_le q (-53) with hq | hq
      · exfalso
        have e1 : q.toNat = 0 := by omega
        rw [e1] at h3
        have e2 : 2 ^ 53 ≤ 2 ^ (-q).toNat := Nat.pow_le_pow_right (by decide) (by omega)
        have e3 : 1 ≤ k.toInt.natAbs := by omega
        have e4 : 1 * 2 ^ 53 ≤ k.toInt.natAbs * 2 ^ (-q).toNat := Nat.mul_le_mul e3 e2
        simp only [Nat.pow_zero, Nat.mul_one] at h3
        omega
      · exact hq
    refine ⟨by rw [hp]; exact a1, by rw [hm]; omega, by omega, Or.inr ?_⟩
    rcases a4 with a4 | a4
    · omega
    · exact a4
theorem e8_eD_val (k : Int32) {s : Bool} {c : Nat} {q : Int} (h : FP.Core.val64 (FP.i2d k) = .fin s c q) (hf : FP.Core.fits FP.Core.b64 (.fin s c (q - 3))) : FP.Core.val64 (eD k) = .fin s c (q - 3) := by
  unfold eD
  have h1 : FP.Core.val64 (FP.dmul (FP.i2d k) 0x3FC0000000000000) = FP.Core.round FP.Core.b64 (FP.Core.exactProduct (FP.Core.val64 (FP.i2d k)) (FP.Core.val64 0x3FC0000000000000)) := FP.Core.val64_dmul _ _
  rw [h1, h, e8_val8th]
  show FP.Core.roundRatio FP.Core.b64 (s != false) (c * 2 ^ 52) 1 (q + (-55)) = _
  rw [show (s != false) = s by cases s <;> rfl]
  refine FP.Core.roundRatio_exact FP.Core.good_b64 (by decide) hf ?_
  rw [show (q + (-55) - (q - 3)).toNat = 0 by omega, show (q - 3 - (q + (-55))).toNat = 52 by omega]
  simp
theorem e8_eD (k : Int32) : E8 k.toInt (eD k) := by
  by_cases hk : k = 0
  · subst hk
    have h0 : FP.Core.val64 (eD 0) = .fin false 0 (-1074) := by decide +kernel
    refine ⟨false, 0, -1074, h0, ?_⟩
    show FP.Core.signed false (0 * _) = (0 : Int32).toInt * _
    simp [FP.Core.signed]
  · obtain ⟨s, c, q, h1, h2, h3, h4⟩ := e8_i2d k hk
    exact ⟨s, c, q - 3, e8_eD_val k h1 h4, by rw [show q - 3 + 3 = q by omega]; exact h2⟩
theorem e8_mul8 (k : Int32) : FP.dmul (eD k) 0x4020000000000000 = FP.i2d k := by
  by_cases hk : k = 0
  · subst hk
    decide +kernel
  · obtain ⟨s, c, q, h1, h2, h3, h4⟩ := e8_i2d k hk
    have h5 := e8_eD_val k h1 h4
    have h6 : FP.Core.val64 (FP.dmul (eD k) 0x4020000000000000) = FP.Core.round FP.Core.b64 (FP.Core.exactProduct (FP.Core.val64 (eD k)) (FP.Core.val64 0x4020000000000000)) := FP.Core.val64_dmul _ _
    have h7 : FP.Core.val64 (FP.dmul (eD k) 0x4020000000000000) = .fin s c q := by
      rw [h6, h5, e8_val8]
      show FP.Core.roundRatio FP.Core.b64 (s != false) (c * 2 ^ 52) 1 (q - 3 + (-49)) = _
      rw [show (s != false) = s by cases s <;> rfl]
      refine FP.Core.roundRatio_exact FP.Core.good_b64 (by decide) h3 ?_
      rw [show (q - 3 + (-49) - q).toNat = 0 by omega, show (q - (q - 3 + (-49))).toNat = 52 by omega]
      simp
    exact FP.Core.val64_inj (by rw [h7]; intro h; cases h) (by rw [h7, h1])
theorem e8_div8 (k : Int32) : FP.ddiv (FP.i2d k) 0x4020000000000000 = eD k := by
  by_cases hk : k = 0
  · subst hk
    decide +kernel
  · obtain ⟨s, c, q, h1, h2, h3, h4⟩ := e8_i2d k hk
    have h5 := e8_eD_val k h1 h4
    have h6 : FP.Core.val64 (FP.ddiv (FP.i2d k) 0x4020000000000000) = FP.Core.quotient FP.Core.b64 (FP.Core.val64 (FP.i2d k)) (FP.Core.val64 0x4020000000000000) := FP.Core.val64_ddiv _ _
    have h7 : FP.Core.val64 (FP.ddiv (FP.i2d k) 0x4020000000000000) = .fin s c (q - 3) := by
      rw [h6, h1, e8_val8]
      show (if (2 ^ 52 : Nat) = 0 then (if c = 0 then FP.Core.Datum.nan else FP.Core.Datum.inf (s != false)) else FP.Core.roundRatio FP.Core.b64 (s != false) c (2 ^ 52) (q - (-49))) = _
      rw [if_neg (by decide), show (s != false) = s by cases s <;> rfl]
      refine FP.Core.roundRatio_exact FP.Core.good_b64 (by decide) h4 ?_
      rw [show (q - (-49) - (q - 3)).toNat = 52 by omega, show (q - 3 - (q - (-49))).toNat = 0 by omega]
      simp
    exact FP.Core.val64_inj (by rw [h7]; intro h; cases h) (by rw [h7, h5])
theorem e8_i2d_n (k : Int32) : vf_n64 (FP.i2d k) := by
  refine e8_nan ?_
  have h1 : FP.Core.Whole k.toInt (FP.Core.val64 (FP.i2d k)) := FP.Core.i2d_int k
  intro h
  rw [h] at h1
  exact h1
theorem e8_l2d (k : Int32) : FP.l2d k.toInt64 = FP.i2d k := by
  have h : k.toInt64.toInt = k.toInt := Int32.toInt_toInt64 k
  show FP.Core.l2d k.toInt64 = FP.Core.i2d k
  unfold FP.Core.l2d FP.Core.i2d
  rw [h]
theorem e8_d2i (k : Int32) : FP.d2i (FP.i2d k) = k := FP.Core.d2i_i2d k
theorem e8_d2l (k : Int32) : FP.d2l (FP.i2d k) = k.toInt64 := by
  have h : FP.Core.DInt k.toInt64.toInt (FP.i2d k) := by rw [Int32.toInt_toInt64]; exact FP.Core.i2d_int k
  exact FP.Core.d2l_int h
theorem e8_cmpI (a b : Int32) : FP.dcmp (FP.i2d a) (FP.i2d b) = some (compare a.toInt b.toInt) := FP.Core.dcmp_int (FP.Core.i2d_int a) (FP.Core.i2d_int b)
theorem e8_order {s t : Bool} {c d : Nat} {q r : Int} : FP.Core.order (.fin s c q) (.fin t d r) = FP.Core.order (.fin s c (q + 3)) (.fin t d (r + 3)) := by
  show some (compare (FP.Core.signed s (FP.Core.inUnits c q (min q r))) (FP.Core.signed t (FP.Core.inUnits d r (min q r)))) = some (compare (FP.Core.signed s (FP.Core.inUnits c (q + 3) (min (q + 3) (r + 3)))) (FP.Core.signed t (FP.Core.inUnits d (r + 3) (min (q + 3) (r + 3)))))
  unfold FP.Core.inUnits
  rw [show q + 3 - min (q + 3) (r + 3) = q - min q r by omega, show r + 3 - min (q + 3) (r + 3) = r - min q r by omega]
theorem e8_cmpE {a b : Int} {x y : UInt64} (hx : E8 a x) (hy : E8 b y) : FP.dcmp x y = some (compare a b) := by
  obtain ⟨s, c, q, h1, h2⟩ := hx
  obtain ⟨t, d, r, h3, h4⟩ := hy
  show FP.Core.order (FP.Core.val64 x) (FP.Core.val64 y) = _
  rw [h1, h3, e8_order]
  exact FP.Core.order_whole h2 h4
theorem e8_cmp (a b : Int32) : FP.dcmp (eD a) (eD b) = some (compare a.toInt b.toInt) := e8_cmpE (e8_eD a) (e8_eD b)
theorem e8_lo : (0xC0C0000000000000 : UInt64) = eD (-65536) := by decide +kernel
theorem e8_hi : (0x40C0000000000000 : UInt64) = eD 65536 := by decide +kernel
/-- what the two compares answer, and the branches behind them -/
theorem e8_c {a b : Int} (op : CmpOp) : (Op.cmpValue (some (compare a b)) op < 0 ↔ a < b) ∧ (Op.cmpValue (some (compare a b)) op = 0 ↔ a = b) ∧ (0 < Op.cmpValue (some (compare a b)) op ↔ b < a) ∧ (Op.cmpValue (some (compare a b)) op ≤ 0 ↔ a ≤ b) ∧ (0 ≤ Op.cmpValue (some (compare a b)) op ↔ b ≤ a) := by
  rcases Int.lt_trichotomy a b with h | h | h
  · have e : compare a b = .lt := by simp [compare, compareOfLessAndEq, h]
    rw [e]
    refine ⟨?_, ?_, ?_, ?_, ?_⟩ <;> cases op <;> simp [Op.cmpValue] <;> omega
  · subst h
    have e : compare a a = .eq := by simp [compare, compareOfLessAndEq]
    rw [e]
    refine ⟨?_, ?_, ?_, ?_, ?_⟩ <;> cases op <;> simp [Op.cmpValue]
  · have e : compare a b = .gt := by
      simp only [compare, compareOfLessAndEq]
      rw [if_neg (by omega), if_neg (by omega)]
    rw [e]
    refine ⟨?_, ?_, ?_, ?_, ?_⟩ <;> cases op <;> simp [Op.cmpValue] <;> omega
end
section
/-! The state of a run: rows of ints. 0: blocks made, full scans, failed scans, stopped; 1 bits, 2 forces, 3 wires of inputs, 4 wires of outputs, 5 registers (eighths);
6 ops, 7 operands, 8 lengths, 9 depths of the rungs as written; 10 .. 13 the same of the program; 14 .. 21 of block j: kind, p, q, factor, offset, output, count, last input. -/
abbrev Ss : Type := Nat → Nat → Int32
def row (S : Ss) (r : Nat) (f : Nat → Int32) : Ss := fun a => if a = r then f else S a
theorem row_s (S : Ss) (r : Nat) (f : Nat → Int32) : row S r f r = f := if_pos rfl
theorem row_n {S : Ss} {r a : Nat} {f : Nat → Int32} (h : a ≠ r) : row S r f a = S a := if_neg h
theorem row_row (S : Ss) (r : Nat) (f g : Nat → Int32) : row (row S r f) r g = row S r g := by
  funext a
  unfold row
  by_cases h : a = r <;> simp [h]
theorem row_comm {S : Ss} {r q : Nat} {f g : Nat → Int32} (h : r ≠ q) : row (row S r f) q g = row (row S q g) r f := by
  funext a
  unfold row
  by_cases h1 : a = q
  · subst h1
    simp [Ne.symm h]
  · simp [h1]
theorem row_self (S : Ss) (r : Nat) : row S r (S r) = S := by
  funext a
  unfold row
  by_cases h : a = r
  · subst h; simp
  · simp [h]
def b2 (P : Prop) [Decidable P] : Int32 := if P then 1 else 0
theorem b2_t {P : Prop} [Decidable P] (h : P) : b2 P = 1 := if_pos h
theorem b2_f {P : Prop} [Decidable P] (h : ¬ P) : b2 P = 0 := if_neg h
theorem b2_0 {P : Prop} [Decidable P] : b2 P = 0 ↔ ¬ P := by
  by_cases h : P
  · simp [b2, h]
  · simp [b2, h]
theorem b2_1 {P : Prop} [Decidable P] : b2 P = 1 ↔ P := by
  by_cases h : P
  · simp [b2, h]
  · simp [b2, h]
theorem b2_n {P : Prop} [Decidable P] : ¬ b2 P = 0 ↔ P := by
  by_cases h : P
  · simp [b2, h]
  · simp [b2, h]
theorem b2_01 (P : Prop) [Decidable P] : b2 P = 0 ∨ b2 P = 1 := by
  by_cases h : P
  · exact Or.inr (b2_t h)
  · exact Or.inl (b2_f h)
theorem b2_c {P Q : Prop} [Decidable P] [Decidable Q] (h : P ↔ Q) : b2 P = b2 Q := by
  by_cases h1 : P
  · rw [b2_t h1, b2_t (h.mp h1)]
  · rw [b2_f h1, b2_f (fun z => h1 (h.mpr z))]
/-- v lies from lo to hi -/
abbrev wi (v lo hi : Int32) : Prop := lo ≤ v ∧ v ≤ hi
theorem wi_nat {v M : Int32} {n : Nat} (hM : M.toInt = n) (h : wi v 0 M) : ∃ j : Nat, j ≤ n ∧ v = nI j := nI_of2 hM (Int32.not_lt.mpr h.1) h.2
theorem wi_of {n M : Nat} (h : n ≤ M) (hM : M < 2 ^ 31) : wi (nI n) 0 (nI M) := ⟨nI_pos' (by omega), nI_le h hM⟩
/-- what a bit reads -/
def rd (S : Ss) (k : Nat) : Int32 := if S 2 k = -1 then S 1 k else S 2 k
/-- may such a block be made? -/
abbrev okB (k p q : Int32) : Prop := ((k = 0 ∨ k = 1) ∧ wi p 1 100) ∨ (k = 2 ∧ wi p 1 100 ∧ wi q 0 31) ∨ (k = 3 ∨ k = 4) ∨ ((k = 5 ∨ k = 6 ∨ k = 7) ∧ wi p 0 7 ∧ wi q 0 7)
/-- may a rung take such a step, but for its stack? -/
abbrev okO (made op a : Int32) : Prop := (wi op 0 5 ∧ wi a 0 31) ∨ (op = 6 ∨ op = 7) ∨ (op = 8 ∧ wi a 0 63) ∨ (op = 9 ∧ wi a 0 (made - 1)) ∨ (wi op 10 12 ∧ wi a 8 31) ∨ (op = 13 ∧ wi a 0 11)
abbrev psh (op : Int32) : Prop := op = 0 ∨ op = 1 ∨ op = 8
abbrev jns (op : Int32) : Prop := op = 6 ∨ op = 7
end
section
/-! contracts over a whole world: what a method finds, what it leaves, how a call of it goes on -/
def gPre (D : va_G) (tys : List (ClassId × FieldType)) (ws : va_W) (sz : Nat) : State → Prop := fun U => U.heap.size = sz ∧ va_P D vwCl ws U.heap ∧ va_K D vwCl tys U ∧ va_D (fun _ => True) ws
def gAt (D : va_G) (tys : List (ClassId × FieldType)) (A : Nat → Prop) (ws : va_W) (t : State) : Prop := va_P D vwCl ws t.heap ∧ va_K D vwCl tys t ∧ va_D A ws
theorem gPre_blind {D : va_G} {tys : List (ClassId × FieldType)} {ws : va_W} {sz : Nat} {av : List Value} : FrameBlind (va_Pc av (gPre D tys ws sz)) := fun a U g mk q => by
  obtain ⟨q0, q1, qP, qK, qD⟩ := q
  exact ⟨q0, q1, qP, va_K.moved (u := U) (U := U.calling g mk a) (Vm.Alike.refl U.vm) qK, qD⟩
theorem gPre_in {D : va_G} {tys : List (ClassId × FieldType)} {ws : va_W} {av : List Value} {H : Heap} {s : State} {A : Nat → Prop} (hP : va_P D vwCl ws H) (hK : va_K D vwCl tys s) (hD : va_D A ws) : ∀ U : State, U.heap = H → s.WarmedH U.vm → va_Pc av (gPre D tys ws H.size) av.toArray U :=
  fun U hU hW => ⟨rfl, by rw [hU], by rw [hU]; exact hP, va_K.moved hW.alike hK, hD.weaken (fun _ _ _ _ => trivial)⟩
theorem tPre_blind {av : List Value} : FrameBlind (va_Pc av (fun _ => True)) := fun _ _ _ _ q => q
theorem tPre_in {av : List Value} {H : Heap} {s : State} : ∀ U : State, U.heap = H → s.WarmedH U.vm → va_Pc av (fun _ => True) av.toArray U := fun _ _ _ => ⟨rfl, trivial⟩
theorem g_free {A : Nat → Prop} {ws : va_W} {H0 H : Heap} {locs : List Loc} (hD : va_D A ws) (hS : va_S A H0 H locs) (hA : ∀ q, H0.size ≤ q → A q) : ∀ q, va_A ws H.size q → A q := by
  intro q h
  rcases h with ⟨k, e, h⟩ | h
  · exact hD.2 k _ h
  · exact hA q (Nat.le_trans hS.1 h)
section GCalls
variable {p : Program} {l : Launch} {e : Env} {R : Room} {s : State} {m : MethodId} {args : Array Value} {below : List Frame} {meth : Method} {c : Code} {H : Heap} {locs : List Loc} {cells slots mc ms : Nat} {Q : State → Prop} {pc : Nat} {ls : Array Slot} {st0 rest : List Value} {a : Array Value}
variable {D : va_G} {tys : List (ClassId × FieldType)} {ws : va_W} {A : Nat → Prop}
theorem g_calli {σ : Type} {post : Int32 → σ → Prop} {Wd : σ → va_W} (hr : va_Run p l e R s m args below meth c H locs cells slots mc ms (F0 m pc ls st0) rest (va_Qi post (fun u => gAt D tys (va_A ws H.size) (Wd u)) (va_A ws H.size) a) (va_A ws H.size)) (hD : va_D A ws) (hS : va_S A s.heap H locs) (hA : ∀ q, s.heap.size ≤ q → A q)
    (kk : ∀ (r : Int32) (u : σ) (H1 : Heap) (locs1 : List Loc), post r u → va_P D vwCl (Wd u) H1 → va_D A (Wd u) → va_S A s.heap H1 locs1 → W p l e R s m args below meth c H1 locs1 (cells + mc) (slots + ms) Q (F0 m (pc + 3) ls (.int r :: rest))) : W p l e R s m args below meth c H locs cells slots Q (F0 m pc ls st0) := by
  have hF := g_free hD hS hA
  refine va_calli hr hS (fun q _ h => hF q h) hF (fun r u t H1 locs1 ht hvm hw hB hz hk hS1 => ?_)
  obtain ⟨hP1, hK1, hD1⟩ := hB
  rw [ht] at hP1
  exact kk r u H1 locs1 hw hP1 (hD1.weaken (fun k q _ h => hF q.1 h)) hS1
theorem g_calld {σ : Type} {post : UInt64 → σ → Prop} {Wd : σ → va_W} (hr : va_Run p l e R s m args below meth c H locs cells slots mc ms (F0 m pc ls st0) rest (va_Qd post (fun u => gAt D tys (va_A ws H.size) (Wd u)) (va_A ws H.size) a) (va_A ws H.size)) (hD : va_D A ws) (hS : va_S A s.heap H locs) (hA : ∀ q, s.heap.size ≤ q → A q)
    (kk : ∀ (r : UInt64) (u : σ) (H1 : Heap) (locs1 : List Loc), post r u → va_P D vwCl (Wd u) H1 → va_D A (Wd u) → va_S A s.heap H1 locs1 → W p l e R s m args below meth c H1 locs1 (cells + mc) (slots + ms) Q (F0 m (pc + 3) ls (.double r :: rest))) : W p l e R s m args below meth c H locs cells slots Q (F0 m pc ls st0) := by
  have hF := g_free hD hS hA
  refine va_calld hr hS (fun q _ h => hF q h) hF (fun r u t H1 locs1 ht hvm hw hB hz hk hS1 => ?_)
  obtain ⟨hP1, hK1, hD1⟩ := hB
  rw [ht] at hP1
  exact kk r u H1 locs1 hw hP1 (hD1.weaken (fun k q _ h => hF q.1 h)) hS1
theorem g_callv {σ : Type} {post : σ → Prop} {Wd : σ → va_W} (hr : va_Run p l e R s m args below meth c H locs cells slots mc ms (F0 m pc ls st0) rest (va_Qv post (fun u => gAt D tys (va_A ws H.size) (Wd u)) (va_A ws H.size) a) (va_A ws H.size)) (hD : va_D A ws) (hS : va_S A s.heap H locs) (hA : ∀ q, s.heap.size ≤ q → A q)
    (kk : ∀ (u : σ) (H1 : Heap) (locs1 : List Loc), post u → va_P D vwCl (Wd u) H1 → va_D A (Wd u) → va_S A s.heap H1 locs1 → W p l e R s m args below meth c H1 locs1 (cells + mc) (slots + ms) Q (F0 m (pc + 3) ls rest)) : W p l e R s m args below meth c H locs cells slots Q (F0 m pc ls st0) := by
  have hF := g_free hD hS hA
  refine va_callv hr hS (fun q _ h => hF q h) hF (fun u t H1 locs1 ht hvm hw hB hz hk hS1 => ?_)
  obtain ⟨hP1, hK1, hD1⟩ := hB
  rw [ht] at hP1
  exact kk u H1 locs1 hw hP1 (hD1.weaken (fun k q _ h => hF q.1 h)) hS1
/-- a loop: the goal at its head by a measure -/
theorem g_loop (I : Nat → Heap → List Loc → Array Slot → Prop) (hs : ∀ (n : Nat) (H : Heap) (locs : List Loc) (ls : Array Slot), I n H locs ls → (∀ (n' : Nat) (H' : Heap) (locs' : List Loc) (ls' : Array Slot), n' < n → I n' H' locs' ls' → W p l e R s m args below meth c H' locs' cells slots Q (F0 m pc ls' [])) → W p l e R s m args below meth c H locs cells slots Q (F0 m pc ls [])) :
    ∀ (n : Nat) (H : Heap) (locs : List Loc) (ls : Array Slot), I n H locs ls → W p l e R s m args below meth c H locs cells slots Q (F0 m pc ls []) := by
  intro n
  induction n using Nat.strongRecOn with
  | ind n ih => exact fun H locs ls h => hs n H locs ls h (fun n' H' locs' ls' hn h' => ih n' hn H' locs' ls' h')
end GCalls
theorem nar_b2 (P : Prop) [Decidable P] : narrow .boolean (.int (b2 P)) = .int (b2 P) := by
  rcases b2_01 P with h | h <;> rw [h] <;> rfl
theorem fit_b2 (P : Prop) [Decidable P] : fits .boolean (.int (b2 P)) = true := by
  rcases b2_01 P with h | h <;> rw [h] <;> rfl
end
section
/-! what a block, a step, a rung, the program and a scan do -/
/-- an int brought into the registers' range -/
def fitI (z : Int) : Int32 := Int32.ofInt (max (-65536) (min 65536 z))
/-- what a block of kind 5 to 7 makes of its register -/
def clc (k v f o : Int32) : Int32 := if k = 5 then fitI (Int.fdiv (v.toInt * f.toInt) 8 + o.toInt) else if k = 7 then (if v < o then o else if f < v then f else v) else fitI (Int.fdiv (8 * v.toInt) f.toInt)
abbrev failB (S : Ss) (j : Nat) (x : Int32) : Prop := S 14 j = 6 ∧ x = 1 ∧ S 17 j = 0
/-- count and output of a block that works with x -/
def cntB (S : Ss) (j : Nat) (x : Int32) : Int32 :=
  if S 14 j = 0 then (if x = 1 then (if S 20 j < S 15 j then S 20 j + 1 else S 15 j) else 0)
  else if S 14 j = 1 then (if x = 1 then S 15 j else if 0 < S 20 j then S 20 j - 1 else 0)
  else if S 14 j = 2 then (if rd S (S 16 j).toNatClampNeg = 1 then 0 else if x = 1 ∧ S 21 j = 0 then (if S 20 j < S 15 j then S 20 j + 1 else S 15 j) else S 20 j)
  else S 20 j
def outB (S : Ss) (j : Nat) (x : Int32) : Int32 :=
  if S 14 j = 0 then b2 (x = 1 ∧ cntB S j x = S 15 j)
  else if S 14 j = 1 then b2 (0 < cntB S j x)
  else if S 14 j = 2 then b2 (cntB S j x = S 15 j)
  else if S 14 j = 3 then b2 (x = 1 ∧ S 21 j = 0)
  else if S 14 j = 4 then b2 (x = 0 ∧ S 21 j = 1)
  else x
def regB (S : Ss) (j : Nat) (x : Int32) : Nat → Int32 :=
  if 5 ≤ S 14 j ∧ x = 1 then upd (S 5) (S 16 j).toNatClampNeg (clc (S 14 j) (S 5 (S 15 j).toNatClampNeg) (S 17 j) (S 18 j)) else S 5
def bw (S : Ss) (j : Nat) (x : Int32) : Ss := row (row (row (row S 5 (regB S j x)) 20 (upd (S 20) j (cntB S j x))) 19 (upd (S 19) j (outB S j x))) 21 (upd (S 21) j x)
/-- the stack: its values, the top first; the number that holds it -/
def pk : List Int32 → Int32
  | [] => 0
  | v :: l => (pk l <<< ((1 : Int32) &&& 31)) ||| v
def hd (l : List Int32) : Int32 := l.headD 0
def stA (S : Ss) (l : List Int32) (op : Int32) (a : Nat) : List Int32 :=
  if op = 0 then rd S a :: l else if op = 1 then (1 - rd S a) :: l
  else if op = 2 then (hd l &&& rd S a) :: l.tail else if op = 3 then (hd l &&& (1 - rd S a)) :: l.tail
  else if op = 4 then (hd l ||| rd S a) :: l.tail else if op = 5 then (hd l ||| (1 - rd S a)) :: l.tail
  else if op = 6 then (hd l.tail &&& hd l) :: l.tail.tail else if op = 7 then (hd l.tail ||| hd l) :: l.tail.tail
  else b2 (S 5 (a % 8) < S 5 (a / 8)) :: l
def asg (S : Ss) (op : Int32) (a : Nat) (t : Int32) : Ss := if op = 10 then row S 1 (upd (S 1) a t) else if t = 1 then row S 1 (upd (S 1) a (b2 (op = 11))) else S
/-- the steps of rung r of the program from step i on, n of them: the rung that comes next, or -2 -/
def rgo (r : Nat) : Nat → Nat → Ss → List Int32 → Int32 × Ss
  | 0, _, S, _ => (nI (r + 1), S)
  | n + 1, i, S, l =>
    if S 10 (10 * r + i) = 13 then (if hd l = 1 then (S 11 (10 * r + i), S) else rgo r n (i + 1) S l)
    else if S 10 (10 * r + i) = 9 then (if failB S (S 11 (10 * r + i)).toNatClampNeg (hd l) then (-2, S) else rgo r n (i + 1) (bw S (S 11 (10 * r + i)).toNatClampNeg (hd l)) (outB S (S 11 (10 * r + i)).toNatClampNeg (hd l) :: l.tail))
    else if 10 ≤ S 10 (10 * r + i) then rgo r n (i + 1) (asg S (S 10 (10 * r + i)) (S 11 (10 * r + i)).toNatClampNeg (hd l)) l
    else rgo r n (i + 1) S (stA S l (S 10 (10 * r + i)) (S 11 (10 * r + i)).toNatClampNeg)
def rgr (S : Ss) (r : Nat) : Int32 × Ss := rgo r (S 12 r).toNatClampNeg 0 S []
/-- the program from rung r on, b rungs begun, n more may be -/
def pgo : Nat → Nat → Nat → Ss → Int32 × Ss
  | 0, b, r, S => (if r < 12 then -1 else nI b, S)
  | n + 1, b, r, S => if r < 12 then (if (rgr S r).1 < 0 then rgr S r else pgo n (b + 1) (rgr S r).1.toNatClampNeg (rgr S r).2) else (nI b, S)
def tin (S : Ss) : Ss := row S 1 (fun k => if k < 8 then S 3 k else S 1 k)
def sout (S : Ss) : Ss := row S 4 (fun k => if k < 8 then rd S (8 + k) else S 4 k)
def cout (S : Ss) : Ss := row S 4 (fun k => if k < 8 then 0 else S 4 k)
def sc1 (S : Ss) : Int32 × Ss :=
  let x := pgo 30 0 0 (tin S)
  if x.1 < 0 then (x.1, cout (row (row x.2 0 (upd (x.2 0) 3 1)) 0 (upd (upd (x.2 0) 3 1) 2 (x.2 0 2 + 1)))) else (x.1, sout (row x.2 0 (upd (x.2 0) 1 (x.2 0 1 + 1))))
/-- n scans, b rungs begun so far: the rungs begun, or -1, -2 -/
def scn : Nat → Int32 → Ss → Int32 × Ss
  | 0, b, S => (b, S)
  | n + 1, b, S => if (sc1 S).1 < 0 then sc1 S else scn n (b + (sc1 S).1) (sc1 S).2
end
section
/-! the class's cells: 0 the object, 1 its memory and 2 .. 6 its arrays, 7 the array of blocks, 8 .. 12 the rungs as written, 13 .. 17 the program, 18 .. 27 the blocks -/
def bf (S : Ss) (j : Nat) : List Value := [.int (S 14 j), .int (S 15 j), .int (S 16 j), .int (S 17 j), .int (S 18 j), .int (S 19 j), .int (S 20 j), .int (S 21 j)]
def bA (ad : Nat → Nat) : Nat → Option Nat := fun j => if j < 10 then some (ad (18 + j)) else none
def XW (ad : Nat → Nat) (ca : Nat → ClassId) (S : Ss) : va_W := [
  (ad 0, .inr (0, [.ref (ad 1), .ref (ad 7), .ref (ad 8), .ref (ad 13), .int (S 0 0), .int (S 0 1), .int (S 0 2), .int (S 0 3)])),
  (ad 1, .inr (1, [.ref (ad 2), .ref (ad 3), .ref (ad 4), .ref (ad 5), .ref (ad 6)])),
  (ad 2, .inl (ca 0, 32, .inl (S 1))), (ad 3, .inl (ca 1, 32, .inl (S 2))), (ad 4, .inl (ca 2, 8, .inl (S 3))), (ad 5, .inl (ca 3, 8, .inl (S 4))), (ad 6, .inl (ca 4, 8, .inl (S 5))),
  (ad 7, .inl (ca 5, 10, .inr (.inr (.inr (.inr (bA ad)))))),
  (ad 8, .inr (3, [.ref (ad 9), .ref (ad 10), .ref (ad 11), .ref (ad 12)])),
  (ad 9, .inl (ca 6, 120, .inl (S 6))), (ad 10, .inl (ca 7, 120, .inl (S 7))), (ad 11, .inl (ca 8, 12, .inl (S 8))), (ad 12, .inl (ca 9, 12, .inl (S 9))),
  (ad 13, .inr (3, [.ref (ad 14), .ref (ad 15), .ref (ad 16), .ref (ad 17)])),
  (ad 14, .inl (ca 10, 120, .inl (S 10))), (ad 15, .inl (ca 11, 120, .inl (S 11))), (ad 16, .inl (ca 12, 12, .inl (S 12))), (ad 17, .inl (ca 13, 12, .inl (S 13))),
  (ad 18, .inr (2, bf S 0)), (ad 19, .inr (2, bf S 1)), (ad 20, .inr (2, bf S 2)), (ad 21, .inr (2, bf S 3)), (ad 22, .inr (2, bf S 4)), (ad 23, .inr (2, bf S 5)), (ad 24, .inr (2, bf S 6)), (ad 25, .inr (2, bf S 7)), (ad 26, .inr (2, bf S 8)), (ad 27, .inr (2, bf S 9))]
def xT (ca : Nat → ClassId) : List (ClassId × FieldType) := [(ca 0, .int), (ca 1, .int), (ca 2, .int), (ca 3, .int), (ca 4, .int), (ca 5, .object "LadderScan$Block"), (ca 6, .int), (ca 7, .int), (ca 8, .int), (ca 9, .int), (ca 10, .int), (ca 11, .int), (ca 12, .int), (ca 13, .int)]
theorem lt10 {P : Nat → Prop} (h0 : P 0) (h1 : P 1) (h2 : P 2) (h3 : P 3) (h4 : P 4) (h5 : P 5) (h6 : P 6) (h7 : P 7) (h8 : P 8) (h9 : P 9) {j : Nat} (h : j < 10) : P j := by
  match j, h with
  | 0, _ => exact h0
  | 1, _ => exact h1
  | 2, _ => exact h2
  | 3, _ => exact h3
  | 4, _ => exact h4
  | 5, _ => exact h5
  | 6, _ => exact h6
  | 7, _ => exact h7
  | 8, _ => exact h8
  | 9, _ => exact h9
  | n + 10, h => exact absurd h (by omega)
theorem xb_cell {ad : Nat → Nat} {ca : Nat → ClassId} {S : Ss} {j : Nat} (h : j < 10) : (XW ad ca S)[18 + j]? = some (ad (18 + j), .inr (2, bf S j)) := lt10 (P := fun j => (XW ad ca S)[18 + j]? = some (ad (18 + j), .inr (2, bf S j))) rfl rfl rfl rfl rfl rfl rfl rfl rfl rfl h
theorem xb_at {ad : Nat → Nat} {j : Nat} (h : j < 10) : va_rf (bA ad (nI j).toNatClampNeg) = .ref (ad (18 + j)) := by
  rw [nI_clamp (by omega)]
  unfold bA
  rw [if_pos h]
  rfl
theorem bf_set {S : Ss} {j : Nat} (k : Nat) (hk : k < 8) (v : Int32) (i : Nat) : (if i = j then (bf S j).set k (.int v) else bf S i) = bf (row S (14 + k) (upd (S (14 + k)) j v)) i := by
  match k, hk with
  | 0, _ => by_cases h : i = j <;> simp [bf, row, upd, h]
  | 1, _ => by_cases h : i = j <;> simp [bf, row, upd, h]
  | 2, _ => by_cases h : i = j <;> simp [bf, row, upd, h]
  | 3, _ => by_cases h : i = j <;> simp [bf, row, upd, h]
  | 4, _ => by_cases h : i = j <;> simp [bf, row, upd, h]
  | 5, _ => by_cases h : i = j <;> simp [bf, row, upd, h]
  | 6, _ => by_cases h : i = j <;> simp [bf, row, upd, h]
  | 7, _ => by_cases h : i = j <;> simp [bf, row, upd, h]
  | n + 8, h => exact absurd h (by omega)
/-- the world without its blocks' fields -/
theorem xb_set {ad : Nat → Nat} {ca : Nat → ClassId} {S : Ss} {j : Nat} (h : j < 10) (k : Nat) (hk : k < 8) (v : Int32) : (XW ad ca S).set (18 + j) (ad (18 + j), .inr (2, (bf S j).set k (.int v))) = XW ad ca (row S (14 + k) (upd (S (14 + k)) j v)) := by
  have hr : ∀ a, a < 14 → row S (14 + k) (upd (S (14 + k)) j v) a = S a := fun a ha => row_n (by omega)
  have hb : ∀ i, bf (row S (14 + k) (upd (S (14 + k)) j v)) i = if i = j then (bf S j).set k (.int v) else bf S i := fun i => (bf_set k hk v i).symm
  unfold XW
  simp only [hr 0 (by decide), hr 1 (by decide), hr 2 (by decide), hr 3 (by decide), hr 4 (by decide), hr 5 (by decide), hr 6 (by decide), hr 7 (by decide), hr 8 (by decide), hr 9 (by decide), hr 10 (by decide), hr 11 (by decide), hr 12 (by decide), hr 13 (by decide), hb]
  generalize (bf S j).set k (.int v) = B
  clear hr hb
  match j, h with
  | 0, _ => rfl
  | 1, _ => rfl
  | 2, _ => rfl
  | 3, _ => rfl
  | 4, _ => rfl
  | 5, _ => rfl
  | 6, _ => rfl
  | 7, _ => rfl
  | 8, _ => rfl
  | 9, _ => rfl
  | n + 10, h => exact absurd h (by omega)
end
section
/-! sums over rows -/
def sumN (f : Nat → Int32) (a : Nat) : Nat → Int32
  | 0 => 0
  | n + 1 => sumN f a n + f (a + n)
def cntF (f : Nat → Int32) : Nat → Int32
  | 0 => 0
  | n + 1 => if f n = -1 then cntF f n else cntF f n + 1
theorem tr_nI {x : Int32} {a b : Nat} (h : x = nI a + 1) (e : a + 1 = b) : x = nI b := by rw [h, nI_1, e]
theorem gV {cy : Cond} {own C : String} {i : Nat} {y : MethodName} (h1 : Cond.methodLink own i y ∈ CW) (h2 : Cond.instanceMethod y ∈ CW) (h3 : Cond.selects C y y ∈ CW) (h4 : Cond.initialized C ∈ CW) (h5 : cy ∈ CW) : GoodIn CW (wsV own i C y (cy :: CW)) := g_V (cm := cy) h1 h2 h3 h4 h5
end
section
set_option maxHeartbeats 4000000 in
set_option maxRecDepth 100000 in
theorem cX_isWithin (l : Launch) (a lo hi : Int32) : Met l yX_isWithin (kX_isWithin :: CW) ({ frames := 0, cells := 0, slots := 0, locals := 0 }) (va_Pc [.int a, .int lo, .int hi] (fun _ => True)) (vp_Si (fun r => r = b2 (wi a lo hi))) 0 0 (fun _ => False) := by
  refine Met.ofW (cc := bX_isWithin) (maxL := 3) (ret := (some .boolean)) (by decide) rfl ?_
  intro p e s m args below meth c s₁ B hml hv
  obtain ⟨rfl, -⟩ := hv
  have hx := B.exec
  have hb := B.bytes
  have hr := B.returns
  have hts := atoms_spec (ws := kX_isWithin :: CW) B.pre
  have hc : ∀ w ∈ CW, w.before _ s = true := fun w h => hts w (List.mem_cons_of_mem _ h)
  have hown : s.vm.findClass RX = some m.cls := findClass_of_methodNamed B.named
  have hlocks := B.notSynchronized
  have hl := lv_entry ([.int a, .int lo, .int hi]) (n := 3) (Nat.le_of_ble_eq_true rfl)
  rw [lg_entry_eq]
  generalize (lg_sl ([.int a, .int lo, .int hi]) ++ List.replicate (3 - (lg_sl ([.int a, .int lo, .int hi])).length) Slot.unset).toArray = ls at hl ⊢
  have hl : lv_has ls 3 [(0, .int a), (1, .int lo), (2, .int hi)] := hl
  refine lv_iload_n hx hb dX_isWithin_0 rfl (lv_at hl 0 rfl) ?_
  refine lv_iload_n hx hb dX_isWithin_1 rfl (lv_at hl 1 rfl) ?_
  refine lv_icmp_lt (tgt := 14) hx hb dX_isWithin_2 (by decide) (fun c_0 => ?_) (fun c_0 => ?_)
  · refine lv_iconst (v := 0) hx hb dX_isWithin_14 (by decide +kernel) ?_
    exact W.zret (v := 0) (ty := .boolean) hx hb hr rfl (fun t ht hW => ⟨_, rfl, (b2_f (by (try simp only [wi, Int32.lt_iff_toInt_lt, Int32.le_iff_toInt_le, ← Int32.toInt_inj, Int32.reduceToInt] at c_0); (try simp only [wi, Int32.lt_iff_toInt_lt, Int32.le_iff_toInt_le, ← Int32.toInt_inj, Int32.reduceToInt]); omega)).symm, ht⟩) (fun _ h => nomatch h) dX_isWithin_15
  · refine lv_iload_n hx hb dX_isWithin_5 rfl (lv_at hl 0 rfl) ?_
    refine lv_iload_n hx hb dX_isWithin_6 rfl (lv_at hl 2 rfl) ?_
    refine lv_icmp_gt (tgt := 14) hx hb dX_isWithin_7 (by decide) (fun c_1 => ?_) (fun c_1 => ?_)
    · refine lv_iconst (v := 0) hx hb dX_isWithin_14 (by decide +kernel) ?_
      exact W.zret (v := 0) (ty := .boolean) hx hb hr rfl (fun t ht hW => ⟨_, rfl, (b2_f (by (try simp only [wi, Int32.lt_iff_toInt_lt, Int32.le_iff_toInt_le, ← Int32.toInt_inj, Int32.reduceToInt] at c_0); (try simp only [wi, Int32.lt_iff_toInt_lt, Int32.le_iff_toInt_le, ← Int32.toInt_inj, Int32.reduceToInt] at c_1); (try simp only [wi, Int32.lt_iff_toInt_lt, Int32.le_iff_toInt_le, ← Int32.toInt_inj, Int32.reduceToInt]); omega)).symm, ht⟩) (fun _ h => nomatch h) dX_isWithin_15
    · refine lv_iconst (v := 1) hx hb dX_isWithin_10 (by decide +kernel) ?_
      refine lv_goto (tgt := 15) hx hb dX_isWithin_11 (by decide) ?_
      exact W.zret (v := 1) (ty := .boolean) hx hb hr rfl (fun t ht hW => ⟨_, rfl, (b2_t (by (try simp only [wi, Int32.lt_iff_toInt_lt, Int32.le_iff_toInt_le, ← Int32.toInt_inj, Int32.reduceToInt] at c_0); (try simp only [wi, Int32.lt_iff_toInt_lt, Int32.le_iff_toInt_le, ← Int32.toInt_inj, Int32.reduceToInt] at c_1); (try simp only [wi, Int32.lt_iff_toInt_lt, Int32.le_iff_toInt_le, ← Int32.toInt_inj, Int32.reduceToInt]); omega)).symm, ht⟩) (fun _ h => nomatch h) dX_isWithin_15

set_option maxHeartbeats 4000000 in
set_option maxRecDepth 100000 in
theorem cX_isBit (l : Launch) (a : Int32) : Met l yX_isBit (kX_isBit :: CW) ({ frames := 1, cells := 0, slots := 0, locals := 22 }) (va_Pc [.int a] (fun _ => True)) (vp_Si (fun r => r = b2 (wi a 0 31))) 0 0 (fun _ => False) := by
  refine Met.ofW (cc := bX_isBit) (maxL := 1) (ret := (some .boolean)) (by decide) rfl ?_
  intro p e s m args below meth c s₁ B hml hv
  obtain ⟨rfl, -⟩ := hv
  have hx := B.exec
  have hb := B.bytes
  have hr := B.returns
  have hts := atoms_spec (ws := kX_isBit :: CW) B.pre
  have hc : ∀ w ∈ CW, w.before _ s = true := fun w h => hts w (List.mem_cons_of_mem _ h)
  have hown : s.vm.findClass RX = some m.cls := findClass_of_methodNamed B.named
  have hlocks := B.notSynchronized
  have hl := lv_entry ([.int a]) (n := 1) (Nat.le_of_ble_eq_true rfl)
  rw [lg_entry_eq]
  generalize (lg_sl ([.int a]) ++ List.replicate (1 - (lg_sl ([.int a])).length) Slot.unset).toArray = ls at hl ⊢
  have hl : lv_has ls 1 [(0, .int a)] := hl
  refine lv_iload_n hx hb dX_isBit_0 rfl (lv_at hl 0 rfl) ?_
  refine lv_iconst (v := 0) hx hb dX_isBit_1 (by decide +kernel) ?_
  refine lv_bipush (v := 31) hx hb dX_isBit_2 (by decide +kernel) ?_
  refine vp_callSi (va_Run.run (va_runS (As := [.int a, .int 0, .int 31]) (rest := []) ⟨hx, hb, hml, hown, hc⟩ (cX_isWithin l a 0 31) (va_cwS 3 hc (g_S w187 w188 w1 qX_isWithin) rfl rfl rfl (by decide +kernel) ⟨Nat.le_of_ble_eq_true rfl, Nat.le_of_ble_eq_true rfl⟩) ⟨tPre_blind, tPre_in⟩ rfl rfl hl.1 rfl (lv_room (Nat.le_of_ble_eq_true rfl)) dX_isBit_4 ⟨Nat.zero_le _, Nat.zero_le _⟩)) (fun r_1 hr_1 => ?_)
  exact W.zret (v := r_1) (ty := .boolean) hx hb hr (by rw [hr_1]; exact nar_b2 _) (fun t ht hW => ⟨_, rfl, hr_1, ht⟩) (fun _ h => nomatch h) dX_isBit_7

set_option maxHeartbeats 4000000 in
set_option maxRecDepth 100000 in
theorem cX_isRegister (l : Launch) (a : Int32) : Met l yX_isRegister (kX_isRegister :: CW) ({ frames := 1, cells := 0, slots := 0, locals := 22 }) (va_Pc [.int a] (fun _ => True)) (vp_Si (fun r => r = b2 (wi a 0 7))) 0 0 (fun _ => False) := by
  refine Met.ofW (cc := bX_isRegister) (maxL := 1) (ret := (some .boolean)) (by decide) rfl ?_
  intro p e s m args below meth c s₁ B hml hv
  obtain ⟨rfl, -⟩ := hv
  have hx := B.exec
  have hb := B.bytes
  have hr := B.returns
  have hts := atoms_spec (ws := kX_isRegister :: CW) B.pre
  have hc : ∀ w ∈ CW, w.before _ s = true := fun w h => hts w (List.mem_cons_of_mem _ h)
  have hown : s.vm.findClass RX = some m.cls := findClass_of_methodNamed B.named
  have hlocks := B.notSynchronized
  have hl := lv_entry ([.int a]) (n := 1) (Nat.le_of_ble_eq_true rfl)
  rw [lg_entry_eq]
  generalize (lg_sl ([.int a]) ++ List.replicate (1 - (lg_sl ([.int a])).length) Slot.unset).toArray = ls at hl ⊢
  have hl : lv_has ls 1 [(0, .int a)] := hl
  refine lv_iload_n hx hb dX_isRegister_0 rfl (lv_at hl 0 rfl) ?_
  refine lv_iconst (v := 0) hx hb dX_isRegister_1 (by decide +kernel) ?_
  refine lv_bipush (v := 7) hx hb dX_isRegister_2 (by decide +kernel) ?_
  refine vp_callSi (va_Run.run (va_runS (As := [.int a, .int 0, .int 7]) (rest := []) ⟨hx, hb, hml, hown, hc⟩ (cX_isWithin l a 0 7) (va_cwS 3 hc (g_S w187 w188 w1 qX_isWithin) rfl rfl rfl (by decide +kernel) ⟨Nat.le_of_ble_eq_true rfl, Nat.le_of_ble_eq_true rfl⟩) ⟨tPre_blind, tPre_in⟩ rfl rfl hl.1 rfl (lv_room (Nat.le_of_ble_eq_true rfl)) dX_isRegister_4 ⟨Nat.zero_le _, Nat.zero_le _⟩)) (fun r_1 hr_1 => ?_)
  exact W.zret (v := r_1) (ty := .boolean) hx hb hr (by rw [hr_1]; exact nar_b2 _) (fun t ht hW => ⟨_, rfl, hr_1, ht⟩) (fun _ h => nomatch h) dX_isRegister_7

set_option maxHeartbeats 4000000 in
set_option maxRecDepth 100000 in
theorem cX_isRung (l : Launch) (a : Int32) : Met l yX_isRung (kX_isRung :: CW) ({ frames := 1, cells := 0, slots := 0, locals := 22 }) (va_Pc [.int a] (fun _ => True)) (vp_Si (fun r => r = b2 (wi a 0 11))) 0 0 (fun _ => False) := by
  refine Met.ofW (cc := bX_isRung) (maxL := 1) (ret := (some .boolean)) (by decide) rfl ?_
  intro p e s m args below meth c s₁ B hml hv
  obtain ⟨rfl, -⟩ := hv
  have hx := B.exec
  have hb := B.bytes
  have hr := B.returns
  have hts := atoms_spec (ws := kX_isRung :: CW) B.pre
  have hc : ∀ w ∈ CW, w.before _ s = true := fun w h => hts w (List.mem_cons_of_mem _ h)
  have hown : s.vm.findClass RX = some m.cls := findClass_of_methodNamed B.named
  have hlocks := B.notSynchronized
  have hl := lv_entry ([.int a]) (n := 1) (Nat.le_of_ble_eq_true rfl)
  rw [lg_entry_eq]
  generalize (lg_sl ([.int a]) ++ List.replicate (1 - (lg_sl ([.int a])).length) Slot.unset).toArray = ls at hl ⊢
  have hl : lv_has ls 1 [(0, .int a)] := hl
  refine lv_iload_n hx hb dX_isRung_0 rfl (lv_at hl 0 rfl) ?_
  refine lv_iconst (v := 0) hx hb dX_isRung_1 (by decide +kernel) ?_
  refine lv_bipush (v := 11) hx hb dX_isRung_2 (by decide +kernel) ?_
  refine vp_callSi (va_Run.run (va_runS (As := [.int a, .int 0, .int 11]) (rest := []) ⟨hx, hb, hml, hown, hc⟩ (cX_isWithin l a 0 11) (va_cwS 3 hc (g_S w187 w188 w1 qX_isWithin) rfl rfl rfl (by decide +kernel) ⟨Nat.le_of_ble_eq_true rfl, Nat.le_of_ble_eq_true rfl⟩) ⟨tPre_blind, tPre_in⟩ rfl rfl hl.1 rfl (lv_room (Nat.le_of_ble_eq_true rfl)) dX_isRung_4 ⟨Nat.zero_le _, Nat.zero_le _⟩)) (fun r_1 hr_1 => ?_)
  exact W.zret (v := r_1) (ty := .boolean) hx hb hr (by rw [hr_1]; exact nar_b2 _) (fun t ht hW => ⟨_, rfl, hr_1, ht⟩) (fun _ h => nomatch h) dX_isRung_7

set_option maxHeartbeats 4000000 in
set_option maxRecDepth 100000 in
theorem cX_isBlock (l : Launch) (k a b : Int32) : Met l yX_isBlock (kX_isBlock :: CW) ({ frames := 2, cells := 0, slots := 0, locals := 42 }) (va_Pc [.int k, .int a, .int b] (fun _ => True)) (vp_Si (fun r => r = b2 (okB k a b))) 0 0 (fun _ => False) := by
  refine Met.ofW (cc := bX_isBlock) (maxL := 3) (ret := (some .boolean)) (by decide) rfl ?_
  intro p e s m args below meth c s₁ B hml hv
  obtain ⟨rfl, -⟩ := hv
  have hx := B.exec
  have hb := B.bytes
  have hr := B.returns
  have hts := atoms_spec (ws := kX_isBlock :: CW) B.pre
  have hc : ∀ w ∈ CW, w.before _ s = true := fun w h => hts w (List.mem_cons_of_mem _ h)
  have hown : s.vm.findClass RX = some m.cls := findClass_of_methodNamed B.named
  have hlocks := B.notSynchronized
  have hl := lv_entry ([.int k, .int a, .int b]) (n := 3) (Nat.le_of_ble_eq_true rfl)
  rw [lg_entry_eq]
  generalize (lg_sl ([.int k, .int a, .int b]) ++ List.replicate (3 - (lg_sl ([.int k, .int a, .int b])).length) Slot.unset).toArray = ls at hl ⊢
  have hl : lv_has ls 3 [(0, .int k), (1, .int a), (2, .int b)] := hl
  refine lv_iload_n hx hb dX_isBlock_0 rfl (lv_at hl 0 rfl) ?_
  by_cases w_0 : k = 0
  · refine lv_tableIn (tgt := 48) hx hb dX_isBlock_1 (by rw [w_0]; decide) (by rw [w_0]; decide) (by rw [w_0]; rfl) (by decide) ?_
    refine lv_iload_n hx hb dX_isBlock_48 rfl (lv_at hl 1 rfl) ?_
    refine lv_iconst (v := 1) hx hb dX_isBlock_49 (by decide +kernel) ?_
    refine lv_bipush (v := 100) hx hb dX_isBlock_50 (by decide +kernel) ?_
    refine vp_callSi (va_Run.run (va_runS (As := [.int a, .int 1, .int 100]) (rest := []) ⟨hx, hb, hml, hown, hc⟩ (cX_isWithin l a 1 100) (va_cwS 3 hc (g_S w187 w188 w1 qX_isWithin) rfl rfl rfl (by decide +kernel) ⟨Nat.le_of_ble_eq_true rfl, Nat.le_of_ble_eq_true rfl⟩) ⟨tPre_blind, tPre_in⟩ rfl rfl hl.1 rfl (lv_room (Nat.le_of_ble_eq_true rfl)) dX_isBlock_52 ⟨Nat.zero_le _, Nat.zero_le _⟩)) (fun r_2 hr_2 => ?_)
    exact W.zret (v := r_2) (ty := .boolean) hx hb hr (by rw [hr_2]; exact nar_b2 _) (fun t ht hW => ⟨_, rfl, (hr_2.trans (b2_c (by (try simp only [okB, wi, Int32.lt_iff_toInt_lt, Int32.le_iff_toInt_le, ← Int32.toInt_inj, Int32.reduceToInt] at w_0); (try simp only [okB, wi, Int32.lt_iff_toInt_lt, Int32.le_iff_toInt_le, ← Int32.toInt_inj, Int32.reduceToInt]); omega))), ht⟩) (fun _ h => nomatch h) dX_isBlock_55
  by_cases w_2 : k = 1
  · refine lv_tableIn (tgt := 48) hx hb dX_isBlock_1 (by rw [w_2]; decide) (by rw [w_2]; decide) (by rw [w_2]; rfl) (by decide) ?_
    refine lv_iload_n hx hb dX_isBlock_48 rfl (lv_at hl 1 rfl) ?_
    refine lv_iconst (v := 1) hx hb dX_isBlock_49 (by decide +kernel) ?_
    refine lv_bipush (v := 100) hx hb dX_isBlock_50 (by decide +kernel) ?_
    refine vp_callSi (va_Run.run (va_runS (As := [.int a, .int 1, .int 100]) (rest := []) ⟨hx, hb, hml, hown, hc⟩ (cX_isWithin l a 1 100) (va_cwS 3 hc (g_S w187 w188 w1 qX_isWithin) rfl rfl rfl (by decide +kernel) ⟨Nat.le_of_ble_eq_true rfl, Nat.le_of_ble_eq_true rfl⟩) ⟨tPre_blind, tPre_in⟩ rfl rfl hl.1 rfl (lv_room (Nat.le_of_ble_eq_true rfl)) dX_isBlock_52 ⟨Nat.zero_le _, Nat.zero_le _⟩)) (fun r_4 hr_4 => ?_)
    exact W.zret (v := r_4) (ty := .boolean) hx hb hr (by rw [hr_4]; exact nar_b2 _) (fun t ht hW => ⟨_, rfl, (hr_4.trans (b2_c (by (try simp only [okB, wi, Int32.lt_iff_toInt_lt, Int32.le_iff_toInt_le, ← Int32.toInt_inj, Int32.reduceToInt] at w_0); (try simp only [okB, wi, Int32.lt_iff_toInt_lt, Int32.le_iff_toInt_le, ← Int32.toInt_inj, Int32.reduceToInt] at w_2); (try simp only [okB, wi, Int32.lt_iff_toInt_lt, Int32.le_iff_toInt_le, ← Int32.toInt_inj, Int32.reduceToInt]); omega))), ht⟩) (fun _ h => nomatch h) dX_isBlock_55
  by_cases w_4 : k = 2
  · refine lv_tableIn (tgt := 56) hx hb dX_isBlock_1 (by rw [w_4]; decide) (by rw [w_4]; decide) (by rw [w_4]; rfl) (by decide) ?_
    refine lv_iload_n hx hb dX_isBlock_56 rfl (lv_at hl 1 rfl) ?_
    refine lv_iconst (v := 1) hx hb dX_isBlock_57 (by decide +kernel) ?_
    refine lv_bipush (v := 100) hx hb dX_isBlock_58 (by decide +kernel) ?_
    refine vp_callSi (va_Run.run (va_runS (As := [.int a, .int 1, .int 100]) (rest := []) ⟨hx, hb, hml, hown, hc⟩ (cX_isWithin l a 1 100) (va_cwS 3 hc (g_S w187 w188 w1 qX_isWithin) rfl rfl rfl (by decide +kernel) ⟨Nat.le_of_ble_eq_true rfl, Nat.le_of_ble_eq_true rfl⟩) ⟨tPre_blind, tPre_in⟩ rfl rfl hl.1 rfl (lv_room (Nat.le_of_ble_eq_true rfl)) dX_isBlock_60 ⟨Nat.zero_le _, Nat.zero_le _⟩)) (fun r_6 hr_6 => ?_)
    refine lv_if_eq (tgt := 77) hx hb dX_isBlock_63 (by decide) (fun c_6 => ?_) (fun c_6 => ?_)
    · refine lv_iconst (v := 0) hx hb dX_isBlock_77 (by decide +kernel) ?_
      exact W.zret (v := 0) (ty := .boolean) hx hb hr rfl (fun t ht hW => ⟨_, rfl, (b2_f (by (try simp only [okB, wi, Int32.lt_iff_toInt_lt, Int32.le_iff_toInt_le, ← Int32.toInt_inj, Int32.reduceToInt] at w_0); (try simp only [okB, wi, Int32.lt_iff_toInt_lt, Int32.le_iff_toInt_le, ← Int32.toInt_inj, Int32.reduceToInt] at w_2); (try simp only [okB, wi, Int32.lt_iff_toInt_lt, Int32.le_iff_toInt_le, ← Int32.toInt_inj, Int32.reduceToInt] at w_4); (try simp only [hr_6, b2_0, b2_n, b2_1] at c_6); (try simp only [okB, wi, Int32.lt_iff_toInt_lt, Int32.le_iff_toInt_le, ← Int32.toInt_inj, Int32.reduceToInt] at c_6); (try simp only [okB, wi, Int32.lt_iff_toInt_lt, Int32.le_iff_toInt_le, ← Int32.toInt_inj, Int32.reduceToInt]); omega)).symm, ht⟩) (fun _ h => nomatch h) dX_isBlock_78
    · refine lv_iload_n hx hb dX_isBlock_66 rfl (lv_at hl 2 rfl) ?_
      refine vp_callSi (va_Run.run (va_runS (As := [.int b]) (rest := []) ⟨hx, hb, hml, hown, hc⟩ (cX_isBit l b) (va_cwS 1 hc (g_S w190 w191 w1 qX_isBit) rfl rfl rfl (by decide +kernel) ⟨Nat.le_of_ble_eq_true rfl, Nat.le_of_ble_eq_true rfl⟩) ⟨tPre_blind, tPre_in⟩ rfl rfl hl.1 rfl (lv_room (Nat.le_of_ble_eq_true rfl)) dX_isBlock_67 ⟨Nat.zero_le _, Nat.zero_le _⟩)) (fun r_8 hr_8 => ?_)
      refine lv_if_eq (tgt := 77) hx hb dX_isBlock_70 (by decide) (fun c_8 => ?_) (fun c_8 => ?_)
      · refine lv_iconst (v := 0) hx hb dX_isBlock_77 (by decide +kernel) ?_
        exact W.zret (v := 0) (ty := .boolean) hx hb hr rfl (fun t ht hW => ⟨_, rfl, (b2_f (by (try simp only [okB, wi, Int32.lt_iff_toInt_lt, Int32.le_iff_toInt_le, ← Int32.toInt_inj, Int32.reduceToInt] at w_0); (try simp only [okB, wi, Int32.lt_iff_toInt_lt, Int32.le_iff_toInt_le, ← Int32.toInt_inj, Int32.reduceToInt] at w_2); (try simp only [okB, wi, Int32.lt_iff_toInt_lt, Int32.le_iff_toInt_le, ← Int32.toInt_inj, Int32.reduceToInt] at w_4); (try simp only [hr_6, hr_8, b2_0, b2_n, b2_1] at c_6); (try simp only [okB, wi, Int32.lt_iff_toInt_lt, Int32.le_iff_toInt_le, ← Int32.toInt_inj, Int32.reduceToInt] at c_6); (try simp only [hr_6, hr_8, b2_0, b2_n, b2_1] at c_8); (try simp only [okB, wi, Int32.lt_iff_toInt_lt, Int32.le_iff_toInt_le, ← Int32.toInt_inj, Int32.reduceToInt] at c_8); (try simp only [okB, wi, Int32.lt_iff_toInt_lt, Int32.le_iff_toInt_le, ← Int32.toInt_inj, Int32.reduceToInt]); omega)).symm, ht⟩) (fun _ h => nomatch h) dX_isBlock_78
      · refine lv_iconst (v := 1) hx hb dX_isBlock_73 (by decide +kernel) ?_
        refine lv_goto (tgt := 78) hx hb dX_isBlock_74 (by decide) ?_
        exact W.zret (v := 1) (ty := .boolean) hx hb hr rfl (fun t ht hW => ⟨_, rfl, (b2_t (by (try simp only [okB, wi, Int32.lt_iff_toInt_lt, Int32.le_iff_toInt_le, ← Int32.toInt_inj, Int32.reduceToInt] at w_0); (try simp only [okB, wi, Int32.lt_iff_toInt_lt, Int32.le_iff_toInt_le, ← Int32.toInt_inj, Int32.reduceToInt] at w_2); (try simp only [okB, wi, Int32.lt_iff_toInt_lt, Int32.le_iff_toInt_le, ← Int32.toInt_inj, Int32.reduceToInt] at w_4); (try simp only [hr_6, hr_8, b2_0, b2_n, b2_1] at c_6); (try simp only [okB, wi, Int32.lt_iff_toInt_lt, Int32.le_iff_toInt_le, ← Int32.toInt_inj, Int32.reduceToInt] at c_6); (try simp only [hr_6, hr_8, b2_0, b2_n, b2_1] at c_8); (try simp only [okB, wi, Int32.lt_iff_toInt_lt, Int32.le_iff_toInt_le, ← Int32.toInt_inj, Int32.reduceToInt] at c_8); (try simp only [okB, wi, Int32.lt_iff_toInt_lt, Int32.le_iff_toInt_le, ← Int32.toInt_inj, Int32.reduceToInt]); omega)).symm, ht⟩) (fun _ h => nomatch h) dX_isBlock_78
  by_cases w_9 : k = 3
  · refine lv_tableIn (tgt := 79) hx hb dX_isBlock_1 (by rw [w_9]; decide) (by rw [w_9]; decide) (by rw [w_9]; rfl) (by decide) ?_
    refine lv_iconst (v := 1) hx hb dX_isBlock_79 (by decide +kernel) ?_
    exact W.zret (v := 1) (ty := .boolean) hx hb hr rfl (fun t ht hW => ⟨_, rfl, (b2_t (by (try simp only [okB, wi, Int32.lt_iff_toInt_lt, Int32.le_iff_toInt_le, ← Int32.toInt_inj, Int32.reduceToInt] at w_0); (try simp only [okB, wi, Int32.lt_iff_toInt_lt, Int32.le_iff_toInt_le, ← Int32.toInt_inj, Int32.reduceToInt] at w_2); (try simp only [okB, wi, Int32.lt_iff_toInt_lt, Int32.le_iff_toInt_le, ← Int32.toInt_inj, Int32.reduceToInt] at w_4); (try simp only [okB, wi, Int32.lt_iff_toInt_lt, Int32.le_iff_toInt_le, ← Int32.toInt_inj, Int32.reduceToInt] at w_9); (try simp only [okB, wi, Int32.lt_iff_toInt_lt, Int32.le_iff_toInt_le, ← Int32.toInt_inj, Int32.reduceToInt]); omega)).symm, ht⟩) (fun _ h => nomatch h) dX_isBlock_80
  by_cases w_10 : k = 4
  · refine lv_tableIn (tgt := 79) hx hb dX_isBlock_1 (by rw [w_10]; decide) (by rw [w_10]; decide) (by rw [w_10]; rfl) (by decide) ?_
    refine lv_iconst (v := 1) hx hb dX_isBlock_79 (by decide +kernel) ?_
    exact W.zret (v := 1) (ty := .boolean) hx hb hr rfl (fun t ht hW => ⟨_, rfl, (b2_t (by (try simp only [okB, wi, Int32.lt_iff_toInt_lt, Int32.le_iff_toInt_le, ← Int32.toInt_inj, Int32.reduceToInt] at w_0); (try simp only [okB, wi, Int32.lt_iff_toInt_lt, Int32.le_iff_toInt_le, ← Int32.toInt_inj, Int32.reduceToInt] at w_2); (try simp only [okB, wi, Int32.lt_iff_toInt_lt, Int32.le_iff_toInt_le, ← Int32.toInt_inj, Int32.reduceToInt] at w_4); (try simp only [okB, wi, Int32.lt_iff_toInt_lt, Int32.le_iff_toInt_le, ← Int32.toInt_inj, Int32.reduceToInt] at w_9); (try simp only [okB, wi, Int32.lt_iff_toInt_lt, Int32.le_iff_toInt_le, ← Int32.toInt_inj, Int32.reduceToInt] at w_10); (try simp only [okB, wi, Int32.lt_iff_toInt_lt, Int32.le_iff_toInt_le, ← Int32.toInt_inj, Int32.reduceToInt]); omega)).symm, ht⟩) (fun _ h => nomatch h) dX_isBlock_80
  by_cases w_11 : k = 5
  · refine lv_tableIn (tgt := 81) hx hb dX_isBlock_1 (by rw [w_11]; decide) (by rw [w_11]; decide) (by rw [w_11]; rfl) (by decide) ?_
    refine lv_iload_n hx hb dX_isBlock_81 rfl (lv_at hl 1 rfl) ?_
    refine vp_callSi (va_Run.run (va_runS (As := [.int a]) (rest := []) ⟨hx, hb, hml, hown, hc⟩ (cX_isRegister l a) (va_cwS 1 hc (g_S w193 w194 w1 qX_isRegister) rfl rfl rfl (by decide +kernel) ⟨Nat.le_of_ble_eq_true rfl, Nat.le_of_ble_eq_true rfl⟩) ⟨tPre_blind, tPre_in⟩ rfl rfl hl.1 rfl (lv_room (Nat.le_of_ble_eq_true rfl)) dX_isBlock_82 ⟨Nat.zero_le _, Nat.zero_le _⟩)) (fun r_13 hr_13 => ?_)
    refine lv_if_eq (tgt := 99) hx hb dX_isBlock_85 (by decide) (fun c_13 => ?_) (fun c_13 => ?_)
    · refine lv_iconst (v := 0) hx hb dX_isBlock_99 (by decide +kernel) ?_
      exact W.zret (v := 0) (ty := .boolean) hx hb hr rfl (fun t ht hW => ⟨_, rfl, (b2_f (by (try simp only [okB, wi, Int32.lt_iff_toInt_lt, Int32.le_iff_toInt_le, ← Int32.toInt_inj, Int32.reduceToInt] at w_0); (try simp only [okB, wi, Int32.lt_iff_toInt_lt, Int32.le_iff_toInt_le, ← Int32.toInt_inj, Int32.reduceToInt] at w_2); (try simp only [okB, wi, Int32.lt_iff_toInt_lt, Int32.le_iff_toInt_le, ← Int32.toInt_inj, Int32.reduceToInt] at w_4); (try simp only [okB, wi, Int32.lt_iff_toInt_lt, Int32.le_iff_toInt_le, ← Int32.toInt_inj, Int32.reduceToInt] at w_9); (try simp only [okB, wi, Int32.lt_iff_toInt_lt, Int32.le_iff_toInt_le, ← Int32.toInt_inj, Int32.reduceToInt] at w_10); (try simp only [okB, wi, Int32.lt_iff_toInt_lt, Int32.le_iff_toInt_le, ← Int32.toInt_inj, Int32.reduceToInt] at w_11); (try simp only [hr_13, b2_0, b2_n, b2_1] at c_13); (try simp only [okB, wi, Int32.lt_iff_toInt_lt, Int32.le_iff_toInt_le, ← Int32.toInt_inj, Int32.reduceToInt] at c_13); (try simp only [okB, wi, Int32.lt_iff_toInt_lt, Int32.le_iff_toInt_le, ← Int32.toInt_inj, Int32.reduceToInt]); omega)).symm, ht⟩) (fun _ h => nomatch h) dX_isBlock_100
    · refine lv_iload_n hx hb dX_isBlock_88 rfl (lv_at hl 2 rfl) ?_
      refine vp_callSi (va_Run.run (va_runS (As := [.int b]) (rest := []) ⟨hx, hb, hml, hown, hc⟩ (cX_isRegister l b) (va_cwS 1 hc (g_S w193 w194 w1 qX_isRegister) rfl rfl rfl (by decide +kernel) ⟨Nat.le_of_ble_eq_true rfl, Nat.le_of_ble_eq_true rfl⟩) ⟨tPre_blind, tPre_in⟩ rfl rfl hl.1 rfl (lv_room (Nat.le_of_ble_eq_true rfl)) dX_isBlock_89 ⟨Nat.zero_le _, Nat.zero_le _⟩)) (fun r_15 hr_15 => ?_)
      refine lv_if_eq (tgt := 99) hx hb dX_isBlock_92 (by decide) (fun c_15 => ?_) (fun c_15 => ?_)
      · refine lv_iconst (v := 0) hx hb dX_isBlock_99 (by decide +kernel) ?_
        exact W.zret (v := 0) (ty := .boolean) hx hb hr rfl (fun t ht hW => ⟨_, rfl, (b2_f (by (try simp only [okB, wi, Int32.lt_iff_toInt_lt, Int32.le_iff_toInt_le, ← Int32.toInt_inj, Int32.reduceToInt] at w_0); (try simp only [okB, wi, Int32.lt_iff_toInt_lt, Int32.le_iff_toInt_le, ← Int32.toInt_inj, Int32.reduceToInt] at w_2); (try simp only [okB, wi, Int32.lt_iff_toInt_lt, Int32.le_iff_toInt_le, ← Int32.toInt_inj, Int32.reduceToInt] at w_4); (try simp only [okB, wi, Int32.lt_iff_toInt_lt, Int32.le_iff_toInt_le, ← Int32.toInt_inj, Int32.reduceToInt] at w_9); (try simp only [okB, wi, Int32.lt_iff_toInt_lt, Int32.le_iff_toInt_le, ← Int32.toInt_inj, Int32.reduceToInt] at w_10); (try simp only [okB, wi, Int32.lt_iff_toInt_lt, Int32.le_iff_toInt_le, ← Int32.toInt_inj, Int32.reduceToInt] at w_11); (try simp only [hr_13, hr_15, b2_0, b2_n, b2_1] at c_13); (try simp only [okB, wi, Int32.lt_iff_toInt_lt, Int32.le_iff_toInt_le, ← Int32.toInt_inj, Int32.reduceToInt] at c_13); (try simp only [hr_13, hr_15, b2_0, b2_n, b2_1] at c_15); (try simp only [okB, wi, Int32.lt_iff_toInt_lt, Int32.le_iff_toInt_le, ← Int32.toInt_inj, Int32.reduceToInt] at c_15); (try simp only [okB, wi, Int32.lt_iff_toInt_lt, Int32.le_iff_toInt_le, ← Int32.toInt_inj, Int32.reduceToInt]); omega)).symm, ht⟩) (fun _ h => nomatch h) dX_isBlock_100
      · refine lv_iconst (v := 1) hx hb dX_isBlock_95 (by decide +kernel) ?_
        refine lv_goto (tgt := 100) hx hb dX_isBlock_96 (by decide) ?_
        exact W.zret (v := 1) (ty := .boolean) hx hb hr rfl (fun t ht hW => ⟨_, rfl, (b2_t (by (try simp only [okB, wi, Int32.lt_iff_toInt_lt, Int32.le_iff_toInt_le, ← Int32.toInt_inj, Int32.reduceToInt] at w_0); (try simp only [okB, wi, Int32.lt_iff_toInt_lt, Int32.le_iff_toInt_le, ← Int32.toInt_inj, Int32.reduceToInt] at w_2); (try simp only [okB, wi, Int32.lt_iff_toInt_lt, Int32.le_iff_toInt_le, ← Int32.toInt_inj, Int32.reduceToInt] at w_4); (try simp only [okB, wi, Int32.lt_iff_toInt_lt, Int32.le_iff_toInt_le, ← Int32.toInt_inj, Int32.reduceToInt] at w_9); (try simp only [okB, wi, Int32.lt_iff_toInt_lt, Int32.le_iff_toInt_le, ← Int32.toInt_inj, Int32.reduceToInt] at w_10); (try simp only [okB, wi, Int32.lt_iff_toInt_lt, Int32.le_iff_toInt_le, ← Int32.toInt_inj, Int32.reduceToInt] at w_11); (try simp only [hr_13, hr_15, b2_0, b2_n, b2_1] at c_13); (try simp only [okB, wi, Int32.lt_iff_toInt_lt, Int32.le_iff_toInt_le, ← Int32.toInt_inj, Int32.reduceToInt] at c_13); (try simp only [hr_13, hr_15, b2_0, b2_n, b2_1] at c_15); (try simp only [okB, wi, Int32.lt_iff_toInt_lt, Int32.le_iff_toInt_le, ← Int32.toInt_inj, Int32.reduceToInt] at c_15); (try simp only [okB, wi, Int32.lt_iff_toInt_lt, Int32.le_iff_toInt_le, ← Int32.toInt_inj, Int32.reduceToInt]); omega)).symm, ht⟩) (fun _ h => nomatch h) dX_isBlock_100
  by_cases w_16 : k = 6
  · refine lv_tableIn (tgt := 81) hx hb dX_isBlock_1 (by rw [w_16]; decide) (by rw [w_16]; decide) (by rw [w_16]; rfl) (by decide) ?_
    refine lv_iload_n hx hb dX_isBlock_81 rfl (lv_at hl 1 rfl) ?_
    refine vp_callSi (va_Run.run (va_runS (As := [.int a]) (rest := []) ⟨hx, hb, hml, hown, hc⟩ (cX_isRegister l a) (va_cwS 1 hc (g_S w193 w194 w1 qX_isRegister) rfl rfl rfl (by decide +kernel) ⟨Nat.le_of_ble_eq_true rfl, Nat.le_of_ble_eq_true rfl⟩) ⟨tPre_blind, tPre_in⟩ rfl rfl hl.1 rfl (lv_room (Nat.le_of_ble_eq_true rfl)) dX_isBlock_82 ⟨Nat.zero_le _, Nat.zero_le _⟩)) (fun r_18 hr_18 => ?_)
    refine lv_if_eq (tgt := 99) hx hb dX_isBlock_85 (by decide) (fun c_18 => ?_) (fun c_18 => ?_)
    · refine lv_iconst (v := 0) hx hb dX_isBlock_99 (by decide +kernel) ?_
      exact W.zret (v := 0) (ty := .boolean) hx hb hr rfl (fun t ht hW => ⟨_, rfl, (b2_f (by (try simp only [okB, wi, Int32.lt_iff_toInt_lt, Int32.le_iff_toInt_le, ← Int32.toInt_inj, Int32.reduceToInt] at w_0); (try simp only [okB, wi, Int32.lt_iff_toInt_lt, Int32.le_iff_toInt_le, ← Int32.toInt_inj, Int32.reduceToInt] at w_2); (try simp only [okB, wi, Int32.lt_iff_toInt_lt, Int32.le_iff_toInt_le, ← Int32.toInt_inj, Int32.reduceToInt] at w_4); (try simp only [okB, wi, Int32.lt_iff_toInt_lt, Int32.le_iff_toInt_le, ← Int32.toInt_inj, Int32.reduceToInt] at w_9); (try simp only [okB, wi, Int32.lt_iff_toInt_lt, Int32.le_iff_toInt_le, ← Int32.toInt_inj, Int32.reduceToInt] at w_10); (try simp only [okB, wi, Int32.lt_iff_toInt_lt, Int32.le_iff_toInt_le, ← Int32.toInt_inj, Int32.reduceToInt] at w_11); (try simp only [okB, wi, Int32.lt_iff_toInt_lt, Int32.le_iff_toInt_le, ← Int32.toInt_inj, Int32.reduceToInt] at w_16); (try simp only [hr_18, b2_0, b2_n, b2_1] at c_18); (try simp only [okB, wi, Int32.lt_iff_toInt_lt, Int32.le_iff_toInt_le, ← Int32.toInt_inj, Int32.reduceToInt] at c_18); (try simp only [okB, wi, Int32.lt_iff_toInt_lt, Int32.le_iff_toInt_le, ← Int32.toInt_inj, Int32.reduceToInt]); omega)).symm, ht⟩) (fun _ h => nomatch h) dX_isBlock_100
    · refine lv_iload_n hx hb dX_isBlock_88 rfl (lv_at hl 2 rfl) ?_
      refine vp_callSi (va_Run.run (va_runS (As := [.int b]) (rest := []) ⟨hx, hb, hml, hown, hc⟩ (cX_isRegister l b) (va_cwS 1 hc (g_S w193 w194 w1 qX_isRegister) rfl rfl rfl (by decide +kernel) ⟨Nat.le_of_ble_eq_true rfl, Nat.le_of_ble_eq_true rfl⟩) ⟨tPre_blind, tPre_in⟩ rfl rfl hl.1 rfl (lv_room (Nat.le_of_ble_eq_true rfl)) dX_isBlock_89 ⟨Nat.zero_le _, Nat.zero_le _⟩)) (fun r_20 hr_20 => ?_)
      refine lv_if_eq (tgt := 99) hx hb dX_isBlock_92 (by decide) (fun c_20 => ?_) (fun c_20 => ?_)
      · refine lv_iconst (v := 0) hx hb dX_isBlock_99 (by decide +kernel) ?_
        exact W.zret (v := 0) (ty := .boolean) hx hb hr rfl (fun t ht hW => ⟨_, rfl, (b2_f (by (try simp only [okB, wi, Int32.lt_iff_toInt_lt, Int32.le_iff_toInt_le, ← Int32.toInt_inj, Int32.reduceToInt] at w_0); (try simp only [okB, wi, Int32.lt_iff_toInt_lt, Int32.le_iff_toInt_le, ← Int32.toInt_inj, Int32.reduceToInt] at w_2); (try simp only [okB, wi, Int32.lt_iff_toInt_lt, Int32.le_iff_toInt_le, ← Int32.toInt_inj, Int32.reduceToInt] at w_4); (try simp only [okB, wi, Int32.lt_iff_toInt_lt, Int32.le_iff_toInt_le, ← Int32.toInt_inj, Int32.reduceToInt] at w_9); (try simp only [okB, wi, Int32.lt_iff_toInt_lt, Int32.le_iff_toInt_le, ← Int32.toInt_inj, Int32.reduceToInt] at w_10); (try simp only [okB, wi, Int32.lt_iff_toInt_lt, Int32.le_iff_toInt_le, ← Int32.toInt_inj, Int32.reduceToInt] at w_11); (try simp only [okB, wi, Int32.lt_iff_toInt_lt, Int32.le_iff_toInt_le, ← Int32.toInt_inj, Int32.reduceToInt] at w_16); (try simp only [hr_18, hr_20, b2_0, b2_n, b2_1] at c_18); (try simp only [okB, wi, Int32.lt_iff_toInt_lt, Int32.le_iff_toInt_le, ← Int32.toInt_inj, Int32.reduceToInt] at c_18); (try simp only [hr_18, hr_20, b2_0, b2_n, b2_1] at c_20); (try simp only [okB, wi, Int32.lt_iff_toInt_lt, Int32.le_iff_toInt_le, ← Int32.toInt_inj, Int32.reduceToInt] at c_20); (try simp only [okB, wi, Int32.lt_iff_toInt_lt, Int32.le_iff_toInt_le, ← Int32.toInt_inj, Int32.reduceToInt]); omega)).symm, ht⟩) (fun _ h => nomatch h) dX_isBlock_100
      · refine lv_iconst (v := 1) hx hb dX_isBlock_95 (by decide +kernel) ?_
        refine lv_goto (tgt := 100) hx hb dX_isBlock_96 (by decide) ?_
        exact W.zret (v := 1) (ty := .boolean) hx hb hr rfl (fun t ht hW => ⟨_, rfl, (b2_t (by (try simp only [okB, wi, Int32.lt_iff_toInt_lt, Int32.le_iff_toInt_le, ← Int32.toInt_inj, Int32.reduceToInt] at w_0); (try simp only [okB, wi, Int32.lt_iff_toInt_lt, Int32.le_iff_toInt_le, ← Int32.toInt_inj, Int32.reduceToInt] at w_2); (try simp only [okB, wi, Int32.lt_iff_toInt_lt, Int32.le_iff_toInt_le, ← Int32.toInt_inj, Int32.reduceToInt] at w_4); (try simp only [okB, wi, Int32.lt_iff_toInt_lt, Int32.le_iff_toInt_le, ← Int32.toInt_inj, Int32.reduceToInt] at w_9); (try simp only [okB, wi, Int32.lt_iff_toInt_lt, Int32.le_iff_toInt_le, ← Int32.toInt_inj, Int32.reduceToInt] at w_10); (try simp only [okB, wi, Int32.lt_iff_toInt_lt, Int32.le_iff_toInt_le, ← Int32.toInt_inj, Int32.reduceToInt] at w_11); (try simp only [okB, wi, Int32.lt_iff_toInt_lt, Int32.le_iff_toInt_le, ← Int32.toInt_inj, Int32.reduceToInt] at w_16); (try simp only [hr_18, hr_20, b2_0, b2_n, b2_1] at c_18); (try simp only [okB, wi, Int32.lt_iff_toInt_lt, Int32.le_iff_toInt_le, ← Int32.toInt_inj, Int32.reduceToInt] at c_18); (try simp only [hr_18, hr_20, b2_0, b2_n, b2_1] at c_20); (try simp only [okB, wi, Int32.lt_iff_toInt_lt, Int32.le_iff_toInt_le, ← Int32.toInt_inj, Int32.reduceToInt] at c_20); (try simp only [okB, wi, Int32.lt_iff_toInt_lt, Int32.le_iff_toInt_le, ← Int32.toInt_inj, Int32.reduceToInt]); omega)).symm, ht⟩) (fun _ h => nomatch h) dX_isBlock_100
  by_cases w_21 : k = 7
  · refine lv_tableIn (tgt := 81) hx hb dX_isBlock_1 (by rw [w_21]; decide) (by rw [w_21]; decide) (by rw [w_21]; rfl) (by decide) ?_
    refine lv_iload_n hx hb dX_isBlock_81 rfl (lv_at hl 1 rfl) ?_
    refine vp_callSi (va_Run.run (va_runS (As := [.int a]) (rest := []) ⟨hx, hb, hml, hown, hc⟩ (cX_isRegister l a) (va_cwS 1 hc (g_S w193 w194 w1 qX_isRegister) rfl rfl rfl (by decide +kernel) ⟨Nat.le_of_ble_eq_true rfl, Nat.le_of_ble_eq_true rfl⟩) ⟨tPre_blind, tPre_in⟩ rfl rfl hl.1 rfl (lv_room (Nat.le_of_ble_eq_true rfl)) dX_isBlock_82 ⟨Nat.zero_le _, Nat.zero_le _⟩)) (fun r_23 hr_23 => ?_)
    refine lv_if_eq (tgt := 99) hx hb dX_isBlock_85 (by decide) (fun c_23 => ?_) (fun c_23 => ?_)
    · refine lv_iconst (v := 0) hx hb dX_isBlock_99 (by decide +kernel) ?_
      exact W.zret (v := 0) (ty := .boolean) hx hb hr rfl (fun t ht hW => ⟨_, rfl, (b2_f (by (try simp only [okB, wi, Int32.lt_iff_toInt_lt, Int32.le_iff_toInt_le, ← Int32.toInt_inj, Int32.reduceToInt] at w_0); (try simp only [okB, wi, Int32.lt_iff_toInt_lt, Int32.le_iff_toInt_le, ← Int32.toInt_inj, Int32.reduceToInt] at w_2); (try simp only [okB, wi, Int32.lt_iff_toInt_lt, Int32.le_iff_toInt_le, ← Int32.toInt_inj, Int32.reduceToInt] at w_4); (try simp only [okB, wi, Int32.lt_iff_toInt_lt, Int32.le_iff_toInt_le, ← Int32.toInt_inj, Int32.reduceToInt] at w_9); (try simp only [okB, wi, Int32.lt_iff_toInt_lt, Int32.le_iff_toInt_le, ← Int32.toInt_inj, Int32.reduceToInt] at w_10); (try simp only [okB, wi, Int32.lt_iff_toInt_lt, Int32.le_iff_toInt_le, ← Int32.toInt_inj, Int32.reduceToInt] at w_11); (try simp only [okB, wi, Int32.lt_iff_toInt_lt, Int32.le_iff_toInt_le, ← Int32.toInt_inj, Int32.reduceToInt] at w_16); (try simp only [okB, wi, Int32.lt_iff_toInt_lt, Int32.le_iff_toInt_le, ← Int32.toInt_inj, Int32.reduceToInt] at w_21); (try simp only [hr_23, b2_0, b2_n, b2_1] at c_23); (try simp only [okB, wi, Int32.lt_iff_toInt_lt, Int32.le_iff_toInt_le, ← Int32.toInt_inj, Int32.reduceToInt] at c_23); (try simp only [okB, wi, Int32.lt_iff_toInt_lt, Int32.le_iff_toInt_le, ← Int32.toInt_inj, Int32.reduceToInt]); omega)).symm, ht⟩) (fun _ h => nomatch h) dX_isBlock_100
    · refine lv_iload_n hx hb dX_isBlock_88 rfl (lv_at hl 2 rfl) ?_
      refine vp_callSi (va_Run.run (va_runS (As := [.int b]) (rest := []) ⟨hx, hb, hml, hown, hc⟩ (cX_isRegister l b) (va_cwS 1 hc (g_S w193 w194 w1 qX_isRegister) rfl rfl rfl (by decide +kernel) ⟨Nat.le_of_ble_eq_true rfl, Nat.le_of_ble_eq_true rfl⟩) ⟨tPre_blind, tPre_in⟩ rfl rfl hl.1 rfl (lv_room (Nat.le_of_ble_eq_true rfl)) dX_isBlock_89 ⟨Nat.zero_le _, Nat.zero_le _⟩)) (fun r_25 hr_25 => ?_)
      refine lv_if_eq (tgt := 99) hx hb dX_isBlock_92 (by decide) (fun c_25 => ?_) (fun c_25 => ?_)
      · refine lv_iconst (v := 0) hx hb dX_isBlock_99 (by decide +kernel) ?_
        exact W.zret (v := 0) (ty := .boolean) hx hb hr rfl (fun t ht hW => ⟨_, rfl, (b2_f (by (try simp only [okB, wi, Int32.lt_iff_toInt_lt, Int32.le_iff_toInt_le, ← Int32.toInt_inj, Int32.reduceToInt] at w_0); (try simp only [okB, wi, Int32.lt_iff_toInt_lt, Int32.le_iff_toInt_le, ← Int32.toInt_inj, Int32.reduceToInt] at w_2); (try simp only [okB, wi, Int32.lt_iff_toInt_lt, Int32.le_iff_toInt_le, ← Int32.toInt_inj, Int32.reduceToInt] at w_4); (try simp only [okB, wi, Int32.lt_iff_toInt_lt, Int32.le_iff_toInt_le, ← Int32.toInt_inj, Int32.reduceToInt] at w_9); (try simp only [okB, wi, Int32.lt_iff_toInt_lt, Int32.le_iff_toInt_le, ← Int32.toInt_inj, Int32.reduceToInt] at w_10); (try simp only [okB, wi, Int32.lt_iff_toInt_lt, Int32.le_iff_toInt_le, ← Int32.toInt_inj, Int32.reduceToInt] at w_11); (try simp only [okB, wi, Int32.lt_iff_toInt_lt, Int32.le_iff_toInt_le, ← Int32.toInt_inj, Int32.reduceToInt] at w_16); (try simp only [okB, wi, Int32.lt_iff_toInt_lt, Int32.le_iff_toInt_le, ← Int32.toInt_inj, Int32.reduceToInt] at w_21); (try simp only [hr_23, hr_25, b2_0, b2_n, b2_1] at c_23); (try simp only [okB, wi, Int32.lt_iff_toInt_lt, Int32.le_iff_toInt_le, ← Int32.toInt_inj, Int32.reduceToInt] at c_23); (try simp only [hr_23, hr_25, b2_0, b2_n, b2_1] at c_25); (try simp only [okB, wi, Int32.lt_iff_toInt_lt, Int32.le_iff_toInt_le, ← Int32.toInt_inj, Int32.reduceToInt] at c_25); (try simp only [okB, wi, Int32.lt_iff_toInt_lt, Int32.le_iff_toInt_le, ← Int32.toInt_inj, Int32.reduceToInt]); omega)).symm, ht⟩) (fun _ h => nomatch h) dX_isBlock_100
      · refine lv_iconst (v := 1) hx hb dX_isBlock_95 (by decide +kernel) ?_
        refine lv_goto (tgt := 100) hx hb dX_isBlock_96 (by decide) ?_
        exact W.zret (v := 1) (ty := .boolean) hx hb hr rfl (fun t ht hW => ⟨_, rfl, (b2_t (by (try simp only [okB, wi, Int32.lt_iff_toInt_lt, Int32.le_iff_toInt_le, ← Int32.toInt_inj, Int32.reduceToInt] at w_0); (try simp only [okB, wi, Int32.lt_iff_toInt_lt, Int32.le_iff_toInt_le, ← Int32.toInt_inj, Int32.reduceToInt] at w_2); (try simp only [okB, wi, Int32.lt_iff_toInt_lt, Int32.le_iff_toInt_le, ← Int32.toInt_inj, Int32.reduceToInt] at w_4); (try simp only [okB, wi, Int32.lt_iff_toInt_lt, Int32.le_iff_toInt_le, ← Int32.toInt_inj, Int32.reduceToInt] at w_9); (try simp only [okB, wi, Int32.lt_iff_toInt_lt, Int32.le_iff_toInt_le, ← Int32.toInt_inj, Int32.reduceToInt] at w_10); (try simp only [okB, wi, Int32.lt_iff_toInt_lt, Int32.le_iff_toInt_le, ← Int32.toInt_inj, Int32.reduceToInt] at w_11); (try simp only [okB, wi, Int32.lt_iff_toInt_lt, Int32.le_iff_toInt_le, ← Int32.toInt_inj, Int32.reduceToInt] at w_16); (try simp only [okB, wi, Int32.lt_iff_toInt_lt, Int32.le_iff_toInt_le, ← Int32.toInt_inj, Int32.reduceToInt] at w_21); (try simp only [hr_23, hr_25, b2_0, b2_n, b2_1] at c_23); (try simp only [okB, wi, Int32.lt_iff_toInt_lt, Int32.le_iff_toInt_le, ← Int32.toInt_inj, Int32.reduceToInt] at c_23); (try simp only [hr_23, hr_25, b2_0, b2_n, b2_1] at c_25); (try simp only [okB, wi, Int32.lt_iff_toInt_lt, Int32.le_iff_toInt_le, ← Int32.toInt_inj, Int32.reduceToInt] at c_25); (try simp only [okB, wi, Int32.lt_iff_toInt_lt, Int32.le_iff_toInt_le, ← Int32.toInt_inj, Int32.reduceToInt]); omega)).symm, ht⟩) (fun _ h => nomatch h) dX_isBlock_100
  have iw_0 : (k : Int32).toInt ≠ 0 := fun z => w_0 (Int32.toInt_inj.mp (by rw [z]; rfl))
  have iw_2 : (k : Int32).toInt ≠ 1 := fun z => w_2 (Int32.toInt_inj.mp (by rw [z]; rfl))
  have iw_4 : (k : Int32).toInt ≠ 2 := fun z => w_4 (Int32.toInt_inj.mp (by rw [z]; rfl))
  have iw_9 : (k : Int32).toInt ≠ 3 := fun z => w_9 (Int32.toInt_inj.mp (by rw [z]; rfl))
  have iw_10 : (k : Int32).toInt ≠ 4 := fun z => w_10 (Int32.toInt_inj.mp (by rw [z]; rfl))
  have iw_11 : (k : Int32).toInt ≠ 5 := fun z => w_11 (Int32.toInt_inj.mp (by rw [z]; rfl))
  have iw_16 : (k : Int32).toInt ≠ 6 := fun z => w_16 (Int32.toInt_inj.mp (by rw [z]; rfl))
  have iw_21 : (k : Int32).toInt ≠ 7 := fun z => w_21 (Int32.toInt_inj.mp (by rw [z]; rfl))
  refine lv_tableOut (tgt := 101) hx hb dX_isBlock_1 (by omega) (by decide) ?_
  refine lv_iconst (v := 0) hx hb dX_isBlock_101 (by decide +kernel) ?_
  exact W.zret (v := 0) (ty := .boolean) hx hb hr rfl (fun t ht hW => ⟨_, rfl, (b2_f (by (try simp only [okB, wi, Int32.lt_iff_toInt_lt, Int32.le_iff_toInt_le, ← Int32.toInt_inj, Int32.reduceToInt] at w_0); (try simp only [okB, wi, Int32.lt_iff_toInt_lt, Int32.le_iff_toInt_le, ← Int32.toInt_inj, Int32.reduceToInt] at w_2); (try simp only [okB, wi, Int32.lt_iff_toInt_lt, Int32.le_iff_toInt_le, ← Int32.toInt_inj, Int32.reduceToInt] at w_4); (try simp only [okB, wi, Int32.lt_iff_toInt_lt, Int32.le_iff_toInt_le, ← Int32.toInt_inj, Int32.reduceToInt] at w_9); (try simp only [okB, wi, Int32.lt_iff_toInt_lt, Int32.le_iff_toInt_le, ← Int32.toInt_inj, Int32.reduceToInt] at w_10); (try simp only [okB, wi, Int32.lt_iff_toInt_lt, Int32.le_iff_toInt_le, ← Int32.toInt_inj, Int32.reduceToInt] at w_11); (try simp only [okB, wi, Int32.lt_iff_toInt_lt, Int32.le_iff_toInt_le, ← Int32.toInt_inj, Int32.reduceToInt] at w_16); (try simp only [okB, wi, Int32.lt_iff_toInt_lt, Int32.le_iff_toInt_le, ← Int32.toInt_inj, Int32.reduceToInt] at w_21); (try simp only [okB, wi, Int32.lt_iff_toInt_lt, Int32.le_iff_toInt_le, ← Int32.toInt_inj, Int32.reduceToInt]); omega)).symm, ht⟩) (fun _ h => nomatch h) dX_isBlock_102

set_option maxHeartbeats 4000000 in
set_option maxRecDepth 100000 in
theorem cX_isInRange (l : Launch) (k : Int32) : Met l yX_isInRange (kX_isInRange :: CW) ({ frames := 0, cells := 0, slots := 0, locals := 0 }) (va_Pc [.double (eD k)] (fun _ => True)) (vp_Si (fun r => r = b2 (wi k (-65536) 65536))) 0 0 (fun _ => False) := by
  refine Met.ofW (cc := bX_isInRange) (maxL := 2) (ret := (some .boolean)) (by decide) rfl ?_
  intro p e s m args below meth c s₁ B hml hv
  obtain ⟨rfl, -⟩ := hv
  have hx := B.exec
  have hb := B.bytes
  have hr := B.returns
  have hts := atoms_spec (ws := kX_isInRange :: CW) B.pre
  have hc : ∀ w ∈ CW, w.before _ s = true := fun w h => hts w (List.mem_cons_of_mem _ h)
  have hown : s.vm.findClass RX = some m.cls := findClass_of_methodNamed B.named
  have hlocks := B.notSynchronized
  have hl := lv_entry ([.double (eD k)]) (n := 2) (Nat.le_of_ble_eq_true rfl)
  rw [lg_entry_eq]
  generalize (lg_sl ([.double (eD k)]) ++ List.replicate (2 - (lg_sl ([.double (eD k)])).length) Slot.unset).toArray = ls at hl ⊢
  have hl : lv_has ls 2 [(0, .double (eD k))] := hl
  refine lv_dload_n hx hb dX_isInRange_0 rfl (lv_at hl 0 rfl) ?_
  refine lv_ldc2d (v := 13889101250810609664) hx hb hown (hc _ w329) dX_isInRange_1 ?_
  refine lv_dcmp hx hb dX_isInRange_4 ?_
  refine lv_topi (fun v_1 ev_1 => ?_)
  rw [e8_lo, e8_cmp] at ev_1
  have fv_1 := e8_c (a := k.toInt) (b := (-65536 : Int32).toInt) (.l : CmpOp)
  rw [← ev_1] at fv_1
  refine lv_if_lt (tgt := 20) hx hb dX_isInRange_5 (by decide) (fun c_1 => ?_) (fun c_1 => ?_)
  · rw [fv_1.1] at c_1
    refine lv_iconst (v := 0) hx hb dX_isInRange_20 (by decide +kernel) ?_
    exact W.zret (v := 0) (ty := .boolean) hx hb hr rfl (fun t ht hW => ⟨_, rfl, (b2_f (by (try simp only [wi, Int32.lt_iff_toInt_lt, Int32.le_iff_toInt_le, ← Int32.toInt_inj, Int32.reduceToInt] at c_1); (try simp only [wi, Int32.lt_iff_toInt_lt, Int32.le_iff_toInt_le, ← Int32.toInt_inj, Int32.reduceToInt]); omega)).symm, ht⟩) (fun _ h => nomatch h) dX_isInRange_21
  · rw [fv_1.1] at c_1
    refine lv_dload_n hx hb dX_isInRange_8 rfl (lv_at hl 0 rfl) ?_
    refine lv_ldc2d (v := 4665729213955833856) hx hb hown (hc _ w330) dX_isInRange_9 ?_
    refine lv_dcmp hx hb dX_isInRange_12 ?_
    refine lv_topi (fun v_3 ev_3 => ?_)
    rw [e8_hi, e8_cmp] at ev_3
    have fv_3 := e8_c (a := k.toInt) (b := (65536 : Int32).toInt) (.g : CmpOp)
    rw [← ev_3] at fv_3
    refine lv_if_gt (tgt := 20) hx hb dX_isInRange_13 (by decide) (fun c_3 => ?_) (fun c_3 => ?_)
    · rw [fv_3.2.2.1] at c_3
      refine lv_iconst (v := 0) hx hb dX_isInRange_20 (by decide +kernel) ?_
      exact W.zret (v := 0) (ty := .boolean) hx hb hr rfl (fun t ht hW => ⟨_, rfl, (b2_f (by (try simp only [wi, Int32.lt_iff_toInt_lt, Int32.le_iff_toInt_le, ← Int32.toInt_inj, Int32.reduceToInt] at c_1); (try simp only [wi, Int32.lt_iff_toInt_lt, Int32.le_iff_toInt_le, ← Int32.toInt_inj, Int32.reduceToInt] at c_3); (try simp only [wi, Int32.lt_iff_toInt_lt, Int32.le_iff_toInt_le, ← Int32.toInt_inj, Int32.reduceToInt]); omega)).symm, ht⟩) (fun _ h => nomatch h) dX_isInRange_21
    · rw [fv_3.2.2.1] at c_3
      refine lv_iconst (v := 1) hx hb dX_isInRange_16 (by decide +kernel) ?_
      refine lv_goto (tgt := 21) hx hb dX_isInRange_17 (by decide) ?_
      exact W.zret (v := 1) (ty := .boolean) hx hb hr rfl (fun t ht hW => ⟨_, rfl, (b2_t (by (try simp only [wi, Int32.lt_iff_toInt_lt, Int32.le_iff_toInt_le, ← Int32.toInt_inj, Int32.reduceToInt] at c_1); (try simp only [wi, Int32.lt_iff_toInt_lt, Int32.le_iff_toInt_le, ← Int32.toInt_inj, Int32.reduceToInt] at c_3); (try simp only [wi, Int32.lt_iff_toInt_lt, Int32.le_iff_toInt_le, ← Int32.toInt_inj, Int32.reduceToInt]); omega)).symm, ht⟩) (fun _ h => nomatch h) dX_isInRange_21

set_option maxHeartbeats 4000000 in
set_option maxRecDepth 100000 in
theorem cX_eighthsAtMost (l : Launch) (k : Int32) : Met l yX_eighthsAtMost (kX_eighthsAtMost :: CW) ({ frames := 0, cells := 0, slots := 0, locals := 0 }) (va_Pc [.double (eD k)] (fun _ => True)) (vp_Si (fun r => r = k)) 0 0 (fun _ => False) := by
  refine Met.ofW (cc := bX_eighthsAtMost) (maxL := 5) (ret := (some .int)) (by decide) rfl ?_
  intro p e s m args below meth c s₁ B hml hv
  obtain ⟨rfl, -⟩ := hv
  have hx := B.exec
  have hb := B.bytes
  have hr := B.returns
  have hts := atoms_spec (ws := kX_eighthsAtMost :: CW) B.pre
  have hc : ∀ w ∈ CW, w.before _ s = true := fun w h => hts w (List.mem_cons_of_mem _ h)
  have hown : s.vm.findClass RX = some m.cls := findClass_of_methodNamed B.named
  have hlocks := B.notSynchronized
  have hl := lv_entry ([.double (eD k)]) (n := 5) (Nat.le_of_ble_eq_true rfl)
  rw [lg_entry_eq]
  generalize (lg_sl ([.double (eD k)]) ++ List.replicate (5 - (lg_sl ([.double (eD k)])).length) Slot.unset).toArray = ls at hl ⊢
  have hl : lv_has ls 5 [(0, .double (eD k))] := hl
  refine lv_dload_n hx hb dX_eighthsAtMost_0 rfl (lv_at hl 0 rfl) ?_
  refine lv_ldc2d (v := 4620693217682128896) hx hb hown (hc _ w334) dX_eighthsAtMost_1 ?_
  refine lv_dmul hx hb dX_eighthsAtMost_4 (by rw [e8_mul8]; exact e8_i2d_n k) ?_
  refine lv_topd (fun v_1 ev_1 => ?_)
  rw [e8_mul8] at ev_1
  subst v_1
  refine lv_dstore_n (lv' := [(2, .double (FP.i2d k)), (0, .double (eD k))]) hx hb dX_eighthsAtMost_5 rfl hl (by decide) rfl (fun ls hl => ?_)
  refine lv_dload_n hx hb dX_eighthsAtMost_6 rfl (lv_at hl 0 rfl) ?_
  refine lv_d2i hx hb dX_eighthsAtMost_7 ?_
  refine lv_topi (fun v_2 ev_2 => ?_)
  rw [e8_d2i] at ev_2
  subst v_2
  refine lv_istore (lv' := [(4, .int k), (2, .double (FP.i2d k)), (0, .double (eD k))]) hx hb dX_eighthsAtMost_8 hl (by decide) rfl (fun ls hl => ?_)
  refine lv_iload hx hb dX_eighthsAtMost_10 (lv_at hl 0 rfl) ?_
  refine lv_i2d hx hb dX_eighthsAtMost_12 ?_
  refine lv_dload_n hx hb dX_eighthsAtMost_13 rfl (lv_at hl 1 rfl) ?_
  refine lv_dcmp hx hb dX_eighthsAtMost_14 ?_
  refine lv_topi (fun v_3 ev_3 => ?_)
  rw [e8_cmpI] at ev_3
  have fv_3 := e8_c (a := k.toInt) (b := k.toInt) (.l : CmpOp)
  rw [← ev_3] at fv_3
  refine lv_if_le (tgt := 25) hx hb dX_eighthsAtMost_15 (by decide) (fun c_3 => ?_) (fun c_3 => ?_)
  · refine lv_iload hx hb dX_eighthsAtMost_25 (lv_at hl 0 rfl) ?_
    exact W.iret (v := k) hx hb hr (fun t ht hW => ⟨_, rfl, rfl, ht⟩) (fun _ h => nomatch h) dX_eighthsAtMost_27
  · exact absurd (fv_3.2.2.2.1.mpr (Int.le_refl _)) c_3

set_option maxHeartbeats 4000000 in
set_option maxRecDepth 100000 in
theorem cX_numberOf (l : Launch) (k : Int32) : Met l yX_numberOf (kX_numberOf :: CW) ({ frames := 0, cells := 0, slots := 0, locals := 0 }) (va_Pc [.int k] (fun _ => True)) (vp_Sd (fun r => r = eD k)) 0 0 (fun _ => False) := by
  refine Met.ofW (cc := bX_numberOf) (maxL := 1) (ret := (some .double)) (by decide) rfl ?_
  intro p e s m args below meth c s₁ B hml hv
  obtain ⟨rfl, -⟩ := hv
  have hx := B.exec
  have hb := B.bytes
  have hr := B.returns
  have hts := atoms_spec (ws := kX_numberOf :: CW) B.pre
  have hc : ∀ w ∈ CW, w.before _ s = true := fun w h => hts w (List.mem_cons_of_mem _ h)
  have hown : s.vm.findClass RX = some m.cls := findClass_of_methodNamed B.named
  have hlocks := B.notSynchronized
  have hl := lv_entry ([.int k]) (n := 1) (Nat.le_of_ble_eq_true rfl)
  rw [lg_entry_eq]
  generalize (lg_sl ([.int k]) ++ List.replicate (1 - (lg_sl ([.int k])).length) Slot.unset).toArray = ls at hl ⊢
  have hl : lv_has ls 1 [(0, .int k)] := hl
  refine lv_iload_n hx hb dX_numberOf_0 rfl (lv_at hl 0 rfl) ?_
  refine lv_i2d hx hb dX_numberOf_1 ?_
  refine lv_ldc2d (v := 4620693217682128896) hx hb hown (hc _ w334) dX_numberOf_2 ?_
  refine lv_ddiv hx hb dX_numberOf_5 (by rw [e8_div8]; exact e8_n (e8_eD k)) ?_
  exact W.dret (v := (FP.ddiv (FP.i2d k) 4620693217682128896)) hx hb hr (fun t ht hW => ⟨_, rfl, e8_div8 k, ht⟩) (fun _ h => nomatch h) dX_numberOf_6

set_option maxHeartbeats 4000000 in
set_option maxRecDepth 100000 in
theorem cX_isWholeEighths (l : Launch) (k : Int32) : Met l yX_isWholeEighths (kX_isWholeEighths :: CW) ({ frames := 1, cells := 0, slots := 0, locals := 24 }) (va_Pc [.double (eD k)] (fun _ => True)) (vp_Si (fun r => r = b2 (wi k (-65536) 65536))) 0 0 (fun _ => False) := by
  refine Met.ofW (cc := bX_isWholeEighths) (maxL := 2) (ret := (some .boolean)) (by decide) rfl ?_
  intro p e s m args below meth c s₁ B hml hv
  obtain ⟨rfl, -⟩ := hv
  have hx := B.exec
  have hb := B.bytes
  have hr := B.returns
  have hts := atoms_spec (ws := kX_isWholeEighths :: CW) B.pre
  have hc : ∀ w ∈ CW, w.before _ s = true := fun w h => hts w (List.mem_cons_of_mem _ h)
  have hown : s.vm.findClass RX = some m.cls := findClass_of_methodNamed B.named
  have hlocks := B.notSynchronized
  have hl := lv_entry ([.double (eD k)]) (n := 2) (Nat.le_of_ble_eq_true rfl)
  rw [lg_entry_eq]
  generalize (lg_sl ([.double (eD k)]) ++ List.replicate (2 - (lg_sl ([.double (eD k)])).length) Slot.unset).toArray = ls at hl ⊢
  have hl : lv_has ls 2 [(0, .double (eD k))] := hl
  refine lv_dload_n hx hb dX_isWholeEighths_0 rfl (lv_at hl 0 rfl) ?_
  refine vp_callSi (va_Run.run (va_runS (As := [.double (eD k)]) (rest := []) ⟨hx, hb, hml, hown, hc⟩ (cX_isInRange l k) (va_cwS 1 hc (g_S w326 w327 w1 qX_isInRange) rfl rfl rfl (by decide +kernel) ⟨Nat.le_of_ble_eq_true rfl, Nat.le_of_ble_eq_true rfl⟩) ⟨tPre_blind, tPre_in⟩ rfl rfl hl.1 rfl (lv_room (Nat.le_of_ble_eq_true rfl)) dX_isWholeEighths_1 ⟨Nat.zero_le _, Nat.zero_le _⟩)) (fun r_1 hr_1 => ?_)
  refine lv_if_eq (tgt := 23) hx hb dX_isWholeEighths_4 (by decide) (fun c_1 => ?_) (fun c_1 => ?_)
  · refine lv_iconst (v := 0) hx hb dX_isWholeEighths_23 (by decide +kernel) ?_
    exact W.zret (v := 0) (ty := .boolean) hx hb hr rfl (fun t ht hW => ⟨_, rfl, (b2_f (by (try simp only [hr_1, b2_0, b2_n, b2_1] at c_1); (try simp only [wi, Int32.lt_iff_toInt_lt, Int32.le_iff_toInt_le, ← Int32.toInt_inj, Int32.reduceToInt] at c_1); (try simp only [wi, Int32.lt_iff_toInt_lt, Int32.le_iff_toInt_le, ← Int32.toInt_inj, Int32.reduceToInt]); omega)).symm, ht⟩) (fun _ h => nomatch h) dX_isWholeEighths_24
  · refine lv_dload_n hx hb dX_isWholeEighths_7 rfl (lv_at hl 0 rfl) ?_
    refine vp_callSi (va_Run.run (va_runS (As := [.double (eD k)]) (rest := []) ⟨hx, hb, hml, hown, hc⟩ (cX_eighthsAtMost l k) (va_cwS 1 hc (g_S w331 w332 w1 qX_eighthsAtMost) rfl rfl rfl (by decide +kernel) ⟨Nat.le_of_ble_eq_true rfl, Nat.le_of_ble_eq_true rfl⟩) ⟨tPre_blind, tPre_in⟩ rfl rfl hl.1 rfl (lv_room (Nat.le_of_ble_eq_true rfl)) dX_isWholeEighths_8 ⟨Nat.zero_le _, Nat.zero_le _⟩)) (fun r_3 hr_3 => ?_)
    subst r_3
    refine vp_callSd (va_Run.run (va_runS (As := [.int k]) (rest := []) ⟨hx, hb, hml, hown, hc⟩ (cX_numberOf l k) (va_cwS 1 hc (g_S w335 w336 w1 qX_numberOf) rfl rfl rfl (by decide +kernel) ⟨Nat.le_of_ble_eq_true rfl, Nat.le_of_ble_eq_true rfl⟩) ⟨tPre_blind, tPre_in⟩ rfl rfl hl.1 rfl (lv_room (Nat.le_of_ble_eq_true rfl)) dX_isWholeEighths_11 ⟨Nat.zero_le _, Nat.zero_le _⟩)) (fun r_4 hr_4 => ?_)
    subst r_4
    refine lv_dload_n hx hb dX_isWholeEighths_14 rfl (lv_at hl 0 rfl) ?_
    refine lv_dcmp hx hb dX_isWholeEighths_15 ?_
    refine lv_topi (fun v_5 ev_5 => ?_)
    rw [e8_cmp] at ev_5
    have fv_5 := e8_c (a := k.toInt) (b := k.toInt) (.l : CmpOp)
    rw [← ev_5] at fv_5
    refine lv_if_ne (tgt := 23) hx hb dX_isWholeEighths_16 (by decide) (fun c_5 => ?_) (fun c_5 => ?_)
    · exact absurd (fv_5.2.1.mpr rfl) c_5
    · refine lv_iconst (v := 1) hx hb dX_isWholeEighths_19 (by decide +kernel) ?_
      refine lv_goto (tgt := 24) hx hb dX_isWholeEighths_20 (by decide) ?_
      exact W.zret (v := 1) (ty := .boolean) hx hb hr rfl (fun t ht hW => ⟨_, rfl, (b2_t (by (try simp only [hr_1, b2_0, b2_n, b2_1] at c_1); (try simp only [wi, Int32.lt_iff_toInt_lt, Int32.le_iff_toInt_le, ← Int32.toInt_inj, Int32.reduceToInt] at c_1); (try simp only [wi, Int32.lt_iff_toInt_lt, Int32.le_iff_toInt_le, ← Int32.toInt_inj, Int32.reduceToInt]); omega)).symm, ht⟩) (fun _ h => nomatch h) dX_isWholeEighths_24

set_option maxHeartbeats 4000000 in
set_option maxRecDepth 100000 in
theorem cX_withPushed (l : Launch) (a b : Int32) : Met l yX_withPushed (kX_withPushed :: CW) ({ frames := 0, cells := 0, slots := 0, locals := 0 }) (va_Pc [.int a, .int b] (fun _ => True)) (vp_Si (fun r => r = (a <<< ((1 : Int32) &&& 31)) ||| b)) 0 0 (fun _ => False) := by
  refine Met.ofW (cc := bX_withPushed) (maxL := 2) (ret := (some .int)) (by decide) rfl ?_
  intro p e s m args below meth c s₁ B hml hv
  obtain ⟨rfl, -⟩ := hv
  have hx := B.exec
  have hb := B.bytes
  have hr := B.returns
  have hts := atoms_spec (ws := kX_withPushed :: CW) B.pre
  have hc : ∀ w ∈ CW, w.before _ s = true := fun w h => hts w (List.mem_cons_of_mem _ h)
  have hown : s.vm.findClass RX = some m.cls := findClass_of_methodNamed B.named
  have hlocks := B.notSynchronized
  have hl := lv_entry ([.int a, .int b]) (n := 2) (Nat.le_of_ble_eq_true rfl)
  rw [lg_entry_eq]
  generalize (lg_sl ([.int a, .int b]) ++ List.replicate (2 - (lg_sl ([.int a, .int b])).length) Slot.unset).toArray = ls at hl ⊢
  have hl : lv_has ls 2 [(0, .int a), (1, .int b)] := hl
  refine lv_iload_n hx hb dX_withPushed_0 rfl (lv_at hl 0 rfl) ?_
  refine lv_iconst (v := 1) hx hb dX_withPushed_1 (by decide +kernel) ?_
  refine lv_ishl hx hb dX_withPushed_2 ?_
  refine lv_iload_n hx hb dX_withPushed_3 rfl (lv_at hl 1 rfl) ?_
  refine lv_ior hx hb dX_withPushed_4 ?_
  exact W.iret (v := ((a <<< (1 &&& 31)) ||| b)) hx hb hr (fun t ht hW => ⟨_, rfl, rfl, ht⟩) (fun _ h => nomatch h) dX_withPushed_5

set_option maxHeartbeats 4000000 in
set_option maxRecDepth 100000 in
theorem cX_withTop (l : Launch) (a b : Int32) : Met l yX_withTop (kX_withTop :: CW) ({ frames := 0, cells := 0, slots := 0, locals := 0 }) (va_Pc [.int a, .int b] (fun _ => True)) (vp_Si (fun r => r = (a &&& (-2)) ||| b)) 0 0 (fun _ => False) := by
  refine Met.ofW (cc := bX_withTop) (maxL := 2) (ret := (some .int)) (by decide) rfl ?_
  intro p e s m args below meth c s₁ B hml hv
  obtain ⟨rfl, -⟩ := hv
  have hx := B.exec
  have hb := B.bytes
  have hr := B.returns
  have hts := atoms_spec (ws := kX_withTop :: CW) B.pre
  have hc : ∀ w ∈ CW, w.before _ s = true := fun w h => hts w (List.mem_cons_of_mem _ h)
  have hown : s.vm.findClass RX = some m.cls := findClass_of_methodNamed B.named
  have hlocks := B.notSynchronized
  have hl := lv_entry ([.int a, .int b]) (n := 2) (Nat.le_of_ble_eq_true rfl)
  rw [lg_entry_eq]
  generalize (lg_sl ([.int a, .int b]) ++ List.replicate (2 - (lg_sl ([.int a, .int b])).length) Slot.unset).toArray = ls at hl ⊢
  have hl : lv_has ls 2 [(0, .int a), (1, .int b)] := hl
  refine lv_iload_n hx hb dX_withTop_0 rfl (lv_at hl 0 rfl) ?_
  refine lv_bipush (v := (-2)) hx hb dX_withTop_1 (by decide +kernel) ?_
  refine lv_iand hx hb dX_withTop_3 ?_
  refine lv_iload_n hx hb dX_withTop_4 rfl (lv_at hl 1 rfl) ?_
  refine lv_ior hx hb dX_withTop_5 ?_
  exact W.iret (v := ((a &&& (-2)) ||| b)) hx hb hr (fun t ht hW => ⟨_, rfl, rfl, ht⟩) (fun _ h => nomatch h) dX_withTop_6

set_option maxHeartbeats 4000000 in
set_option maxRecDepth 100000 in
theorem cLa_pushes (l : Launch) (a : Int32) : Met l yLa_pushes (kLa_pushes :: CW) ({ frames := 0, cells := 0, slots := 0, locals := 0 }) (va_Pc [.int a] (fun _ => True)) (vp_Si (fun r => r = b2 (psh a))) 0 0 (fun _ => False) := by
  refine Met.ofW (cc := bLa_pushes) (maxL := 1) (ret := (some .boolean)) (by decide) rfl ?_
  intro p e s m args below meth c s₁ B hml hv
  obtain ⟨rfl, -⟩ := hv
  have hx := B.exec
  have hb := B.bytes
  have hr := B.returns
  have hts := atoms_spec (ws := kLa_pushes :: CW) B.pre
  have hc : ∀ w ∈ CW, w.before _ s = true := fun w h => hts w (List.mem_cons_of_mem _ h)
  have hown : s.vm.findClass RLa = some m.cls := findClass_of_methodNamed B.named
  have hlocks := B.notSynchronized
  have hl := lv_entry ([.int a]) (n := 1) (Nat.le_of_ble_eq_true rfl)
  rw [lg_entry_eq]
  generalize (lg_sl ([.int a]) ++ List.replicate (1 - (lg_sl ([.int a])).length) Slot.unset).toArray = ls at hl ⊢
  have hl : lv_has ls 1 [(0, .int a)] := hl
  refine lv_iload_n hx hb dLa_pushes_0 rfl (lv_at hl 0 rfl) ?_
  refine lv_if_eq (tgt := 15) hx hb dLa_pushes_1 (by decide) (fun c_0 => ?_) (fun c_0 => ?_)
  · refine lv_iconst (v := 1) hx hb dLa_pushes_15 (by decide +kernel) ?_
    refine lv_goto (tgt := 20) hx hb dLa_pushes_16 (by decide) ?_
    exact W.zret (v := 1) (ty := .boolean) hx hb hr rfl (fun t ht hW => ⟨_, rfl, (b2_t (by (try simp only [psh, Int32.lt_iff_toInt_lt, Int32.le_iff_toInt_le, ← Int32.toInt_inj, Int32.reduceToInt] at c_0); (try simp only [psh, Int32.lt_iff_toInt_lt, Int32.le_iff_toInt_le, ← Int32.toInt_inj, Int32.reduceToInt]); omega)).symm, ht⟩) (fun _ h => nomatch h) dLa_pushes_20
  · refine lv_iload_n hx hb dLa_pushes_4 rfl (lv_at hl 0 rfl) ?_
    refine lv_iconst (v := 1) hx hb dLa_pushes_5 (by decide +kernel) ?_
    refine lv_icmp_eq (tgt := 15) hx hb dLa_pushes_6 (by decide) (fun c_1 => ?_) (fun c_1 => ?_)
    · refine lv_iconst (v := 1) hx hb dLa_pushes_15 (by decide +kernel) ?_
      refine lv_goto (tgt := 20) hx hb dLa_pushes_16 (by decide) ?_
      exact W.zret (v := 1) (ty := .boolean) hx hb hr rfl (fun t ht hW => ⟨_, rfl, (b2_t (by (try simp only [psh, Int32.lt_iff_toInt_lt, Int32.le_iff_toInt_le, ← Int32.toInt_inj, Int32.reduceToInt] at c_0); (try simp only [psh, Int32.lt_iff_toInt_lt, Int32.le_iff_toInt_le, ← Int32.toInt_inj, Int32.reduceToInt] at c_1); (try simp only [psh, Int32.lt_iff_toInt_lt, Int32.le_iff_toInt_le, ← Int32.toInt_inj, Int32.reduceToInt]); omega)).symm, ht⟩) (fun _ h => nomatch h) dLa_pushes_20
    · refine lv_iload_n hx hb dLa_pushes_9 rfl (lv_at hl 0 rfl) ?_
      refine lv_bipush (v := 8) hx hb dLa_pushes_10 (by decide +kernel) ?_
      refine lv_icmp_ne (tgt := 19) hx hb dLa_pushes_12 (by decide) (fun c_2 => ?_) (fun c_2 => ?_)
      · refine lv_iconst (v := 0) hx hb dLa_pushes_19 (by decide +kernel) ?_
        exact W.zret (v := 0) (ty := .boolean) hx hb hr rfl (fun t ht hW => ⟨_, rfl, (b2_f (by (try simp only [psh, Int32.lt_iff_toInt_lt, Int32.le_iff_toInt_le, ← Int32.toInt_inj, Int32.reduceToInt] at c_0); (try simp only [psh, Int32.lt_iff_toInt_lt, Int32.le_iff_toInt_le, ← Int32.toInt_inj, Int32.reduceToInt] at c_1); (try simp only [psh, Int32.lt_iff_toInt_lt, Int32.le_iff_toInt_le, ← Int32.toInt_inj, Int32.reduceToInt] at c_2); (try simp only [psh, Int32.lt_iff_toInt_lt, Int32.le_iff_toInt_le, ← Int32.toInt_inj, Int32.reduceToInt]); omega)).symm, ht⟩) (fun _ h => nomatch h) dLa_pushes_20
      · refine lv_iconst (v := 1) hx hb dLa_pushes_15 (by decide +kernel) ?_
        refine lv_goto (tgt := 20) hx hb dLa_pushes_16 (by decide) ?_
        exact W.zret (v := 1) (ty := .boolean) hx hb hr rfl (fun t ht hW => ⟨_, rfl, (b2_t (by (try simp only [psh, Int32.lt_iff_toInt_lt, Int32.le_iff_toInt_le, ← Int32.toInt_inj, Int32.reduceToInt] at c_0); (try simp only [psh, Int32.lt_iff_toInt_lt, Int32.le_iff_toInt_le, ← Int32.toInt_inj, Int32.reduceToInt] at c_1); (try simp only [psh, Int32.lt_iff_toInt_lt, Int32.le_iff_toInt_le, ← Int32.toInt_inj, Int32.reduceToInt] at c_2); (try simp only [psh, Int32.lt_iff_toInt_lt, Int32.le_iff_toInt_le, ← Int32.toInt_inj, Int32.reduceToInt]); omega)).symm, ht⟩) (fun _ h => nomatch h) dLa_pushes_20

set_option maxHeartbeats 4000000 in
set_option maxRecDepth 100000 in
theorem cLa_joins (l : Launch) (a : Int32) : Met l yLa_joins (kLa_joins :: CW) ({ frames := 0, cells := 0, slots := 0, locals := 0 }) (va_Pc [.int a] (fun _ => True)) (vp_Si (fun r => r = b2 (jns a))) 0 0 (fun _ => False) := by
  refine Met.ofW (cc := bLa_joins) (maxL := 1) (ret := (some .boolean)) (by decide) rfl ?_
  intro p e s m args below meth c s₁ B hml hv
  obtain ⟨rfl, -⟩ := hv
  have hx := B.exec
  have hb := B.bytes
  have hr := B.returns
  have hts := atoms_spec (ws := kLa_joins :: CW) B.pre
  have hc : ∀ w ∈ CW, w.before _ s = true := fun w h => hts w (List.mem_cons_of_mem _ h)
  have hown : s.vm.findClass RLa = some m.cls := findClass_of_methodNamed B.named
  have hlocks := B.notSynchronized
  have hl := lv_entry ([.int a]) (n := 1) (Nat.le_of_ble_eq_true rfl)
  rw [lg_entry_eq]
  generalize (lg_sl ([.int a]) ++ List.replicate (1 - (lg_sl ([.int a])).length) Slot.unset).toArray = ls at hl ⊢
  have hl : lv_has ls 1 [(0, .int a)] := hl
  refine lv_iload_n hx hb dLa_joins_0 rfl (lv_at hl 0 rfl) ?_
  refine lv_bipush (v := 6) hx hb dLa_joins_1 (by decide +kernel) ?_
  refine lv_icmp_eq (tgt := 12) hx hb dLa_joins_3 (by decide) (fun c_0 => ?_) (fun c_0 => ?_)
  · refine lv_iconst (v := 1) hx hb dLa_joins_12 (by decide +kernel) ?_
    refine lv_goto (tgt := 17) hx hb dLa_joins_13 (by decide) ?_
    exact W.zret (v := 1) (ty := .boolean) hx hb hr rfl (fun t ht hW => ⟨_, rfl, (b2_t (by (try simp only [jns, Int32.lt_iff_toInt_lt, Int32.le_iff_toInt_le, ← Int32.toInt_inj, Int32.reduceToInt] at c_0); (try simp only [jns, Int32.lt_iff_toInt_lt, Int32.le_iff_toInt_le, ← Int32.toInt_inj, Int32.reduceToInt]); omega)).symm, ht⟩) (fun _ h => nomatch h) dLa_joins_17
  · refine lv_iload_n hx hb dLa_joins_6 rfl (lv_at hl 0 rfl) ?_
    refine lv_bipush (v := 7) hx hb dLa_joins_7 (by decide +kernel) ?_
    refine lv_icmp_ne (tgt := 16) hx hb dLa_joins_9 (by decide) (fun c_1 => ?_) (fun c_1 => ?_)
    · refine lv_iconst (v := 0) hx hb dLa_joins_16 (by decide +kernel) ?_
      exact W.zret (v := 0) (ty := .boolean) hx hb hr rfl (fun t ht hW => ⟨_, rfl, (b2_f (by (try simp only [jns, Int32.lt_iff_toInt_lt, Int32.le_iff_toInt_le, ← Int32.toInt_inj, Int32.reduceToInt] at c_0); (try simp only [jns, Int32.lt_iff_toInt_lt, Int32.le_iff_toInt_le, ← Int32.toInt_inj, Int32.reduceToInt] at c_1); (try simp only [jns, Int32.lt_iff_toInt_lt, Int32.le_iff_toInt_le, ← Int32.toInt_inj, Int32.reduceToInt]); omega)).symm, ht⟩) (fun _ h => nomatch h) dLa_joins_17
    · refine lv_iconst (v := 1) hx hb dLa_joins_12 (by decide +kernel) ?_
      refine lv_goto (tgt := 17) hx hb dLa_joins_13 (by decide) ?_
      exact W.zret (v := 1) (ty := .boolean) hx hb hr rfl (fun t ht hW => ⟨_, rfl, (b2_t (by (try simp only [jns, Int32.lt_iff_toInt_lt, Int32.le_iff_toInt_le, ← Int32.toInt_inj, Int32.reduceToInt] at c_0); (try simp only [jns, Int32.lt_iff_toInt_lt, Int32.le_iff_toInt_le, ← Int32.toInt_inj, Int32.reduceToInt] at c_1); (try simp only [jns, Int32.lt_iff_toInt_lt, Int32.le_iff_toInt_le, ← Int32.toInt_inj, Int32.reduceToInt]); omega)).symm, ht⟩) (fun _ h => nomatch h) dLa_joins_17

set_option maxHeartbeats 4000000 in
set_option maxRecDepth 100000 in
theorem cLa_needed (l : Launch) (a : Int32) : Met l yLa_needed (kLa_needed :: CW) ({ frames := 1, cells := 0, slots := 0, locals := 20 }) (va_Pc [.int a] (fun _ => True)) (vp_Si (fun r => r = if psh a then 0 else if jns a then 2 else 1)) 0 0 (fun _ => False) := by
  refine Met.ofW (cc := bLa_needed) (maxL := 1) (ret := (some .int)) (by decide) rfl ?_
  intro p e s m args below meth c s₁ B hml hv
  obtain ⟨rfl, -⟩ := hv
  have hx := B.exec
  have hb := B.bytes
  have hr := B.returns
  have hts := atoms_spec (ws := kLa_needed :: CW) B.pre
  have hc : ∀ w ∈ CW, w.before _ s = true := fun w h => hts w (List.mem_cons_of_mem _ h)
  have hown : s.vm.findClass RLa = some m.cls := findClass_of_methodNamed B.named
  have hlocks := B.notSynchronized
  have hl := lv_entry ([.int a]) (n := 1) (Nat.le_of_ble_eq_true rfl)
  rw [lg_entry_eq]
  generalize (lg_sl ([.int a]) ++ List.replicate (1 - (lg_sl ([.int a])).length) Slot.unset).toArray = ls at hl ⊢
  have hl : lv_has ls 1 [(0, .int a)] := hl
  refine lv_iload_n hx hb dLa_needed_0 rfl (lv_at hl 0 rfl) ?_
  refine vp_callSi (va_Run.run (va_runS (As := [.int a]) (rest := []) ⟨hx, hb, hml, hown, hc⟩ (cLa_pushes l a) (va_cwS 1 hc (g_S w359 w360 w3 qLa_pushes) rfl rfl rfl (by decide +kernel) ⟨Nat.le_of_ble_eq_true rfl, Nat.le_of_ble_eq_true rfl⟩) ⟨tPre_blind, tPre_in⟩ rfl rfl hl.1 rfl (lv_room (Nat.le_of_ble_eq_true rfl)) dLa_needed_1 ⟨Nat.zero_le _, Nat.zero_le _⟩)) (fun r_1 hr_1 => ?_)
  refine lv_if_eq (tgt := 9) hx hb dLa_needed_4 (by decide) (fun c_1 => ?_) (fun c_1 => ?_)
  · refine lv_iload_n hx hb dLa_needed_9 rfl (lv_at hl 0 rfl) ?_
    refine vp_callSi (va_Run.run (va_runS (As := [.int a]) (rest := []) ⟨hx, hb, hml, hown, hc⟩ (cLa_joins l a) (va_cwS 1 hc (g_S w362 w363 w3 qLa_joins) rfl rfl rfl (by decide +kernel) ⟨Nat.le_of_ble_eq_true rfl, Nat.le_of_ble_eq_true rfl⟩) ⟨tPre_blind, tPre_in⟩ rfl rfl hl.1 rfl (lv_room (Nat.le_of_ble_eq_true rfl)) dLa_needed_10 ⟨Nat.zero_le _, Nat.zero_le _⟩)) (fun r_3 hr_3 => ?_)
    refine lv_if_eq (tgt := 20) hx hb dLa_needed_13 (by decide) (fun c_3 => ?_) (fun c_3 => ?_)
    · refine lv_iconst (v := 1) hx hb dLa_needed_20 (by decide +kernel) ?_
      exact W.iret (v := 1) hx hb hr (fun t ht hW => ⟨_, rfl, (by simp only [hr_1, hr_3, b2_0, b2_n] at c_1 c_3; simp [c_1, c_3]), ht⟩) (fun _ h => nomatch h) dLa_needed_21
    · refine lv_iconst (v := 2) hx hb dLa_needed_16 (by decide +kernel) ?_
      refine lv_goto (tgt := 21) hx hb dLa_needed_17 (by decide) ?_
      exact W.iret (v := 2) hx hb hr (fun t ht hW => ⟨_, rfl, (by simp only [hr_1, hr_3, b2_0, b2_n] at c_1 c_3; simp [c_1, c_3]), ht⟩) (fun _ h => nomatch h) dLa_needed_21
  · refine lv_iconst (v := 0) hx hb dLa_needed_7 (by decide +kernel) ?_
    exact W.iret (v := 0) hx hb hr (fun t ht hW => ⟨_, rfl, (by simp only [hr_1, b2_0, b2_n] at c_1; simp [c_1]), ht⟩) (fun _ h => nomatch h) dLa_needed_8

set_option maxHeartbeats 4000000 in
set_option maxRecDepth 100000 in
theorem cLa_growth (l : Launch) (a : Int32) : Met l yLa_growth (kLa_growth :: CW) ({ frames := 1, cells := 0, slots := 0, locals := 20 }) (va_Pc [.int a] (fun _ => True)) (vp_Si (fun r => r = if psh a then 1 else if jns a then -1 else 0)) 0 0 (fun _ => False) := by
  refine Met.ofW (cc := bLa_growth) (maxL := 1) (ret := (some .int)) (by decide) rfl ?_
  intro p e s m args below meth c s₁ B hml hv
  obtain ⟨rfl, -⟩ := hv
  have hx := B.exec
  have hb := B.bytes
  have hr := B.returns
  have hts := atoms_spec (ws := kLa_growth :: CW) B.pre
  have hc : ∀ w ∈ CW, w.before _ s = true := fun w h => hts w (List.mem_cons_of_mem _ h)
  have hown : s.vm.findClass RLa = some m.cls := findClass_of_methodNamed B.named
  have hlocks := B.notSynchronized
  have hl := lv_entry ([.int a]) (n := 1) (Nat.le_of_ble_eq_true rfl)
  rw [lg_entry_eq]
  generalize (lg_sl ([.int a]) ++ List.replicate (1 - (lg_sl ([.int a])).length) Slot.unset).toArray = ls at hl ⊢
  have hl : lv_has ls 1 [(0, .int a)] := hl
  refine lv_iload_n hx hb dLa_growth_0 rfl (lv_at hl 0 rfl) ?_
  refine vp_callSi (va_Run.run (va_runS (As := [.int a]) (rest := []) ⟨hx, hb, hml, hown, hc⟩ (cLa_pushes l a) (va_cwS 1 hc (g_S w359 w360 w3 qLa_pushes) rfl rfl rfl (by decide +kernel) ⟨Nat.le_of_ble_eq_true rfl, Nat.le_of_ble_eq_true rfl⟩) ⟨tPre_blind, tPre_in⟩ rfl rfl hl.1 rfl (lv_room (Nat.le_of_ble_eq_true rfl)) dLa_growth_1 ⟨Nat.zero_le _, Nat.zero_le _⟩)) (fun r_1 hr_1 => ?_)
  refine lv_if_eq (tgt := 9) hx hb dLa_growth_4 (by decide) (fun c_1 => ?_) (fun c_1 => ?_)
  · refine lv_iload_n hx hb dLa_growth_9 rfl (lv_at hl 0 rfl) ?_
    refine vp_callSi (va_Run.run (va_runS (As := [.int a]) (rest := []) ⟨hx, hb, hml, hown, hc⟩ (cLa_joins l a) (va_cwS 1 hc (g_S w362 w363 w3 qLa_joins) rfl rfl rfl (by decide +kernel) ⟨Nat.le_of_ble_eq_true rfl, Nat.le_of_ble_eq_true rfl⟩) ⟨tPre_blind, tPre_in⟩ rfl rfl hl.1 rfl (lv_room (Nat.le_of_ble_eq_true rfl)) dLa_growth_10 ⟨Nat.zero_le _, Nat.zero_le _⟩)) (fun r_3 hr_3 => ?_)
    refine lv_if_eq (tgt := 20) hx hb dLa_growth_13 (by decide) (fun c_3 => ?_) (fun c_3 => ?_)
    · refine lv_iconst (v := 0) hx hb dLa_growth_20 (by decide +kernel) ?_
      exact W.iret (v := 0) hx hb hr (fun t ht hW => ⟨_, rfl, (by simp only [hr_1, hr_3, b2_0, b2_n] at c_1 c_3; simp [c_1, c_3]), ht⟩) (fun _ h => nomatch h) dLa_growth_21
    · refine lv_iconst (v := (-1)) hx hb dLa_growth_16 (by decide +kernel) ?_
      refine lv_goto (tgt := 21) hx hb dLa_growth_17 (by decide) ?_
      exact W.iret (v := (-1)) hx hb hr (fun t ht hW => ⟨_, rfl, (by simp only [hr_1, hr_3, b2_0, b2_n] at c_1 c_3; simp [c_1, c_3]), ht⟩) (fun _ h => nomatch h) dLa_growth_21
  · refine lv_iconst (v := 1) hx hb dLa_growth_7 (by decide +kernel) ?_
    exact W.iret (v := 1) hx hb hr (fun t ht hW => ⟨_, rfl, (by simp only [hr_1, b2_0, b2_n] at c_1; simp [c_1]), ht⟩) (fun _ h => nomatch h) dLa_growth_8
end
section
set_option maxHeartbeats 4000000 in
set_option maxRecDepth 100000 in
theorem cX_isMade (l : Launch) (dC : Nat → ClassId) (dI : Nat → Nat → Nat) (ad : Nat → Nat) (ca : Nat → ClassId) (sz : Nat) (S : Ss) (a : Int32) : Met l yX_isMade (kX_isMade :: CW) ({ frames := 1, cells := 0, slots := 0, locals := 22 }) (va_Pc [.ref (ad 0), .int a] (gPre (dC, dI) (xT ca) (XW ad ca S) sz)) (vp_Si (fun r => r = b2 (wi a 0 (S 0 0 - 1)))) 0 0 (fun _ => False) := by
  refine Met.ofW (cc := bX_isMade) (maxL := 2) (ret := (some .boolean)) (by decide) rfl ?_
  intro p e s m args below meth c s₁ B hml hv
  obtain ⟨rfl, hsz, hP, hK, hD0⟩ := hv
  have hx := B.exec
  have hb := B.bytes
  have hr := B.returns
  have hts := atoms_spec (ws := kX_isMade :: CW) B.pre
  have hc : ∀ w ∈ CW, w.before _ s = true := fun w h => hts w (List.mem_cons_of_mem _ h)
  have hown : s.vm.findClass RX = some m.cls := findClass_of_methodNamed B.named
  have hlocks := B.notSynchronized
  subst hsz
  have hD := hD0
  have hl := lv_entry ([.ref (ad 0), .int a]) (n := 2) (Nat.le_of_ble_eq_true rfl)
  rw [lg_entry_eq]
  generalize (lg_sl ([.ref (ad 0), .int a]) ++ List.replicate (2 - (lg_sl ([.ref (ad 0), .int a])).length) Slot.unset).toArray = ls at hl ⊢
  have hl : lv_has ls 2 [(0, .ref (ad 0)), (1, .int a)] := hl
  refine lv_iload_n hx hb dX_isMade_0 rfl (lv_at hl 1 rfl) ?_
  refine lv_iconst (v := 0) hx hb dX_isMade_1 (by decide +kernel) ?_
  refine lv_aload_n hx hb dX_isMade_2 rfl (lv_at hl 0 rfl) ?_
  refine va_get (D := (dC, dI)) (ci := 0) (v := .int (S 0 0)) (C := RX) (T := TX) (N := 8) hx hb hc inX hown hK hP 0 rfl rfl 4 (by decide) (hc _ w115) (fun _ h9 => h9) rfl dX_isMade_3 ?_
  refine lv_iconst (v := 1) hx hb dX_isMade_6 (by decide +kernel) ?_
  refine lv_isub hx hb dX_isMade_7 ?_
  refine vp_callSi (va_Run.run (va_runS (As := [.int a, .int 0, .int ((S 0 0) - 1)]) (rest := []) ⟨hx, hb, hml, hown, hc⟩ (cX_isWithin l a 0 ((S 0 0) - 1)) (va_cwS 3 hc (g_S w187 w188 w1 qX_isWithin) rfl rfl rfl (by decide +kernel) ⟨Nat.le_of_ble_eq_true rfl, Nat.le_of_ble_eq_true rfl⟩) ⟨tPre_blind, tPre_in⟩ rfl rfl hl.1 rfl (lv_room (Nat.le_of_ble_eq_true rfl)) dX_isMade_8 ⟨Nat.zero_le _, Nat.zero_le _⟩)) (fun r_1 hr_1 => ?_)
  exact W.zret (v := r_1) (ty := .boolean) hx hb hr (by rw [hr_1]; exact nar_b2 _) (fun t ht hW => ⟨_, rfl, hr_1, ht⟩) (fun _ h => nomatch h) dX_isMade_11

set_option maxHeartbeats 4000000 in
set_option maxRecDepth 100000 in
theorem cX_isStep (l : Launch) (dC : Nat → ClassId) (dI : Nat → Nat → Nat) (ad : Nat → Nat) (ca : Nat → ClassId) (sz : Nat) (S : Ss) (k a : Int32) : Met l yX_isStep (kX_isStep :: CW) ({ frames := 2, cells := 0, slots := 0, locals := 43 }) (va_Pc [.ref (ad 0), .int k, .int a] (gPre (dC, dI) (xT ca) (XW ad ca S) sz)) (vp_Si (fun r => r = b2 (okO (S 0 0) k a))) 0 0 (fun _ => False) := by
  refine Met.ofW (cc := bX_isStep) (maxL := 3) (ret := (some .boolean)) (by decide) rfl ?_
  intro p e s m args below meth c s₁ B hml hv
  obtain ⟨rfl, hsz, hP, hK, hD0⟩ := hv
  have hx := B.exec
  have hb := B.bytes
  have hr := B.returns
  have hts := atoms_spec (ws := kX_isStep :: CW) B.pre
  have hc : ∀ w ∈ CW, w.before _ s = true := fun w h => hts w (List.mem_cons_of_mem _ h)
  have hown : s.vm.findClass RX = some m.cls := findClass_of_methodNamed B.named
  have hlocks := B.notSynchronized
  subst hsz
  have hD := hD0
  have hl := lv_entry ([.ref (ad 0), .int k, .int a]) (n := 3) (Nat.le_of_ble_eq_true rfl)
  rw [lg_entry_eq]
  generalize (lg_sl ([.ref (ad 0), .int k, .int a]) ++ List.replicate (3 - (lg_sl ([.ref (ad 0), .int k, .int a])).length) Slot.unset).toArray = ls at hl ⊢
  have hl : lv_has ls 3 [(0, .ref (ad 0)), (1, .int k), (2, .int a)] := hl
  refine lv_iload_n hx hb dX_isStep_0 rfl (lv_at hl 1 rfl) ?_
  by_cases w_0 : k = 0
  · refine lv_tableIn (tgt := 72) hx hb dX_isStep_1 (by rw [w_0]; decide) (by rw [w_0]; decide) (by rw [w_0]; rfl) (by decide) ?_
    refine lv_iload_n hx hb dX_isStep_72 rfl (lv_at hl 2 rfl) ?_
    refine vp_callSi (va_Run.run (va_runS (As := [.int a]) (rest := []) ⟨hx, hb, hml, hown, hc⟩ (cX_isBit l a) (va_cwS 1 hc (g_S w190 w191 w1 qX_isBit) rfl rfl rfl (by decide +kernel) ⟨Nat.le_of_ble_eq_true rfl, Nat.le_of_ble_eq_true rfl⟩) ⟨tPre_blind, tPre_in⟩ rfl rfl hl.1 rfl (lv_room (Nat.le_of_ble_eq_true rfl)) dX_isStep_73 ⟨Nat.zero_le _, Nat.zero_le _⟩)) (fun r_2 hr_2 => ?_)
    exact W.zret (v := r_2) (ty := .boolean) hx hb hr (by rw [hr_2]; exact nar_b2 _) (fun t ht hW => ⟨_, rfl, (hr_2.trans (b2_c (by (try simp only [okO, wi, Int32.lt_iff_toInt_lt, Int32.le_iff_toInt_le, ← Int32.toInt_inj, Int32.reduceToInt] at w_0); (try simp only [okO, wi, Int32.lt_iff_toInt_lt, Int32.le_iff_toInt_le, ← Int32.toInt_inj, Int32.reduceToInt]); omega))), ht⟩) (fun _ h => nomatch h) dX_isStep_76
  by_cases w_2 : k = 1
  · refine lv_tableIn (tgt := 72) hx hb dX_isStep_1 (by rw [w_2]; decide) (by rw [w_2]; decide) (by rw [w_2]; rfl) (by decide) ?_
    refine lv_iload_n hx hb dX_isStep_72 rfl (lv_at hl 2 rfl) ?_
    refine vp_callSi (va_Run.run (va_runS (As := [.int a]) (rest := []) ⟨hx, hb, hml, hown, hc⟩ (cX_isBit l a) (va_cwS 1 hc (g_S w190 w191 w1 qX_isBit) rfl rfl rfl (by decide +kernel) ⟨Nat.le_of_ble_eq_true rfl, Nat.le_of_ble_eq_true rfl⟩) ⟨tPre_blind, tPre_in⟩ rfl rfl hl.1 rfl (lv_room (Nat.le_of_ble_eq_true rfl)) dX_isStep_73 ⟨Nat.zero_le _, Nat.zero_le _⟩)) (fun r_4 hr_4 => ?_)
    exact W.zret (v := r_4) (ty := .boolean) hx hb hr (by rw [hr_4]; exact nar_b2 _) (fun t ht hW => ⟨_, rfl, (hr_4.trans (b2_c (by (try simp only [okO, wi, Int32.lt_iff_toInt_lt, Int32.le_iff_toInt_le, ← Int32.toInt_inj, Int32.reduceToInt] at w_0); (try simp only [okO, wi, Int32.lt_iff_toInt_lt, Int32.le_iff_toInt_le, ← Int32.toInt_inj, Int32.reduceToInt] at w_2); (try simp only [okO, wi, Int32.lt_iff_toInt_lt, Int32.le_iff_toInt_le, ← Int32.toInt_inj, Int32.reduceToInt]); omega))), ht⟩) (fun _ h => nomatch h) dX_isStep_76
  by_cases w_4 : k = 2
  · refine lv_tableIn (tgt := 72) hx hb dX_isStep_1 (by rw [w_4]; decide) (by rw [w_4]; decide) (by rw [w_4]; rfl) (by decide) ?_
    refine lv_iload_n hx hb dX_isStep_72 rfl (lv_at hl 2 rfl) ?_
    refine vp_callSi (va_Run.run (va_runS (As := [.int a]) (rest := []) ⟨hx, hb, hml, hown, hc⟩ (cX_isBit l a) (va_cwS 1 hc (g_S w190 w191 w1 qX_isBit) rfl rfl rfl (by decide +kernel) ⟨Nat.le_of_ble_eq_true rfl, Nat.le_of_ble_eq_true rfl⟩) ⟨tPre_blind, tPre_in⟩ rfl rfl hl.1 rfl (lv_room (Nat.le_of_ble_eq_true rfl)) dX_isStep_73 ⟨Nat.zero_le _, Nat.zero_le _⟩)) (fun r_6 hr_6 => ?_)
    exact W.zret (v := r_6) (ty := .boolean) hx hb hr (by rw [hr_6]; exact nar_b2 _) (fun t ht hW => ⟨_, rfl, (hr_6.trans (b2_c (by (try simp only [okO, wi, Int32.lt_iff_toInt_lt, Int32.le_iff_toInt_le, ← Int32.toInt_inj, Int32.reduceToInt] at w_0); (try simp only [okO, wi, Int32.lt_iff_toInt_lt, Int32.le_iff_toInt_le, ← Int32.toInt_inj, Int32.reduceToInt] at w_2); (try simp only [okO, wi, Int32.lt_iff_toInt_lt, Int32.le_iff_toInt_le, ← Int32.toInt_inj, Int32.reduceToInt] at w_4); (try simp only [okO, wi, Int32.lt_iff_toInt_lt, Int32.le_iff_toInt_le, ← Int32.toInt_inj, Int32.reduceToInt]); omega))), ht⟩) (fun _ h => nomatch h) dX_isStep_76
  by_cases w_6 : k = 3
  · refine lv_tableIn (tgt := 72) hx hb dX_isStep_1 (by rw [w_6]; decide) (by rw [w_6]; decide) (by rw [w_6]; rfl) (by decide) ?_
    refine lv_iload_n hx hb dX_isStep_72 rfl (lv_at hl 2 rfl) ?_
    refine vp_callSi (va_Run.run (va_runS (As := [.int a]) (rest := []) ⟨hx, hb, hml, hown, hc⟩ (cX_isBit l a) (va_cwS 1 hc (g_S w190 w191 w1 qX_isBit) rfl rfl rfl (by decide +kernel) ⟨Nat.le_of_ble_eq_true rfl, Nat.le_of_ble_eq_true rfl⟩) ⟨tPre_blind, tPre_in⟩ rfl rfl hl.1 rfl (lv_room (Nat.le_of_ble_eq_true rfl)) dX_isStep_73 ⟨Nat.zero_le _, Nat.zero_le _⟩)) (fun r_8 hr_8 => ?_)
    exact W.zret (v := r_8) (ty := .boolean) hx hb hr (by rw [hr_8]; exact nar_b2 _) (fun t ht hW => ⟨_, rfl, (hr_8.trans (b2_c (by (try simp only [okO, wi, Int32.lt_iff_toInt_lt, Int32.le_iff_toInt_le, ← Int32.toInt_inj, Int32.reduceToInt] at w_0); (try simp only [okO, wi, Int32.lt_iff_toInt_lt, Int32.le_iff_toInt_le, ← Int32.toInt_inj, Int32.reduceToInt] at w_2); (try simp only [okO, wi, Int32.lt_iff_toInt_lt, Int32.le_iff_toInt_le, ← Int32.toInt_inj, Int32.reduceToInt] at w_4); (try simp only [okO, wi, Int32.lt_iff_toInt_lt, Int32.le_iff_toInt_le, ← Int32.toInt_inj, Int32.reduceToInt] at w_6); (try simp only [okO, wi, Int32.lt_iff_toInt_lt, Int32.le_iff_toInt_le, ← Int32.toInt_inj, Int32.reduceToInt]); omega))), ht⟩) (fun _ h => nomatch h) dX_isStep_76
  by_cases w_8 : k = 4
  · refine lv_tableIn (tgt := 72) hx hb dX_isStep_1 (by rw [w_8]; decide) (by rw [w_8]; decide) (by rw [w_8]; rfl) (by decide) ?_
    refine lv_iload_n hx hb dX_isStep_72 rfl (lv_at hl 2 rfl) ?_
    refine vp_callSi (va_Run.run (va_runS (As := [.int a]) (rest := []) ⟨hx, hb, hml, hown, hc⟩ (cX_isBit l a) (va_cwS 1 hc (g_S w190 w191 w1 qX_isBit) rfl rfl rfl (by decide +kernel) ⟨Nat.le_of_ble_eq_true rfl, Nat.le_of_ble_eq_true rfl⟩) ⟨tPre_blind, tPre_in⟩ rfl rfl hl.1 rfl (lv_room (Nat.le_of_ble_eq_true rfl)) dX_isStep_73 ⟨Nat.zero_le _, Nat.zero_le _⟩)) (fun r_10 hr_10 => ?_)
    exact W.zret (v := r_10) (ty := .boolean) hx hb hr (by rw [hr_10]; exact nar_b2 _) (fun t ht hW => ⟨_, rfl, (hr_10.trans (b2_c (by (try simp only [okO, wi, Int32.lt_iff_toInt_lt, Int32.le_iff_toInt_le, ← Int32.toInt_inj, Int32.reduceToInt] at w_0); (try simp only [okO, wi, Int32.lt_iff_toInt_lt, Int32.le_iff_toInt_le, ← Int32.toInt_inj, Int32.reduceToInt] at w_2); (try simp only [okO, wi, Int32.lt_iff_toInt_lt, Int32.le_iff_toInt_le, ← Int32.toInt_inj, Int32.reduceToInt] at w_4); (try simp only [okO, wi, Int32.lt_iff_toInt_lt, Int32.le_iff_toInt_le, ← Int32.toInt_inj, Int32.reduceToInt] at w_6); (try simp only [okO, wi, Int32.lt_iff_toInt_lt, Int32.le_iff_toInt_le, ← Int32.toInt_inj, Int32.reduceToInt] at w_8); (try simp only [okO, wi, Int32.lt_iff_toInt_lt, Int32.le_iff_toInt_le, ← Int32.toInt_inj, Int32.reduceToInt]); omega))), ht⟩) (fun _ h => nomatch h) dX_isStep_76
  by_cases w_10 : k = 5
  · refine lv_tableIn (tgt := 72) hx hb dX_isStep_1 (by rw [w_10]; decide) (by rw [w_10]; decide) (by rw [w_10]; rfl) (by decide) ?_
    refine lv_iload_n hx hb dX_isStep_72 rfl (lv_at hl 2 rfl) ?_
    refine vp_callSi (va_Run.run (va_runS (As := [.int a]) (rest := []) ⟨hx, hb, hml, hown, hc⟩ (cX_isBit l a) (va_cwS 1 hc (g_S w190 w191 w1 qX_isBit) rfl rfl rfl (by decide +kernel) ⟨Nat.le_of_ble_eq_true rfl, Nat.le_of_ble_eq_true rfl⟩) ⟨tPre_blind, tPre_in⟩ rfl rfl hl.1 rfl (lv_room (Nat.le_of_ble_eq_true rfl)) dX_isStep_73 ⟨Nat.zero_le _, Nat.zero_le _⟩)) (fun r_12 hr_12 => ?_)
    exact W.zret (v := r_12) (ty := .boolean) hx hb hr (by rw [hr_12]; exact nar_b2 _) (fun t ht hW => ⟨_, rfl, (hr_12.trans (b2_c (by (try simp only [okO, wi, Int32.lt_iff_toInt_lt, Int32.le_iff_toInt_le, ← Int32.toInt_inj, Int32.reduceToInt] at w_0); (try simp only [okO, wi, Int32.lt_iff_toInt_lt, Int32.le_iff_toInt_le, ← Int32.toInt_inj, Int32.reduceToInt] at w_2); (try simp only [okO, wi, Int32.lt_iff_toInt_lt, Int32.le_iff_toInt_le, ← Int32.toInt_inj, Int32.reduceToInt] at w_4); (try simp only [okO, wi, Int32.lt_iff_toInt_lt, Int32.le_iff_toInt_le, ← Int32.toInt_inj, Int32.reduceToInt] at w_6); (try simp only [okO, wi, Int32.lt_iff_toInt_lt, Int32.le_iff_toInt_le, ← Int32.toInt_inj, Int32.reduceToInt] at w_8); (try simp only [okO, wi, Int32.lt_iff_toInt_lt, Int32.le_iff_toInt_le, ← Int32.toInt_inj, Int32.reduceToInt] at w_10); (try simp only [okO, wi, Int32.lt_iff_toInt_lt, Int32.le_iff_toInt_le, ← Int32.toInt_inj, Int32.reduceToInt]); omega))), ht⟩) (fun _ h => nomatch h) dX_isStep_76
  by_cases w_12 : k = 6
  · refine lv_tableIn (tgt := 77) hx hb dX_isStep_1 (by rw [w_12]; decide) (by rw [w_12]; decide) (by rw [w_12]; rfl) (by decide) ?_
    refine lv_iconst (v := 1) hx hb dX_isStep_77 (by decide +kernel) ?_
    exact W.zret (v := 1) (ty := .boolean) hx hb hr rfl (fun t ht hW => ⟨_, rfl, (b2_t (by (try simp only [okO, wi, Int32.lt_iff_toInt_lt, Int32.le_iff_toInt_le, ← Int32.toInt_inj, Int32.reduceToInt] at w_0); (try simp only [okO, wi, Int32.lt_iff_toInt_lt, Int32.le_iff_toInt_le, ← Int32.toInt_inj, Int32.reduceToInt] at w_2); (try simp only [okO, wi, Int32.lt_iff_toInt_lt, Int32.le_iff_toInt_le, ← Int32.toInt_inj, Int32.reduceToInt] at w_4); (try simp only [okO, wi, Int32.lt_iff_toInt_lt, Int32.le_iff_toInt_le, ← Int32.toInt_inj, Int32.reduceToInt] at w_6); (try simp only [okO, wi, Int32.lt_iff_toInt_lt, Int32.le_iff_toInt_le, ← Int32.toInt_inj, Int32.reduceToInt] at w_8); (try simp only [okO, wi, Int32.lt_iff_toInt_lt, Int32.le_iff_toInt_le, ← Int32.toInt_inj, Int32.reduceToInt] at w_10); (try simp only [okO, wi, Int32.lt_iff_toInt_lt, Int32.le_iff_toInt_le, ← Int32.toInt_inj, Int32.reduceToInt] at w_12); (try simp only [okO, wi, Int32.lt_iff_toInt_lt, Int32.le_iff_toInt_le, ← Int32.toInt_inj, Int32.reduceToInt]); omega)).symm, ht⟩) (fun _ h => nomatch h) dX_isStep_78
  by_cases w_13 : k = 7
  · refine lv_tableIn (tgt := 77) hx hb dX_isStep_1 (by rw [w_13]; decide) (by rw [w_13]; decide) (by rw [w_13]; rfl) (by decide) ?_
    refine lv_iconst (v := 1) hx hb dX_isStep_77 (by decide +kernel) ?_
    exact W.zret (v := 1) (ty := .boolean) hx hb hr rfl (fun t ht hW => ⟨_, rfl, (b2_t (by (try simp only [okO, wi, Int32.lt_iff_toInt_lt, Int32.le_iff_toInt_le, ← Int32.toInt_inj, Int32.reduceToInt] at w_0); (try simp only [okO, wi, Int32.lt_iff_toInt_lt, Int32.le_iff_toInt_le, ← Int32.toInt_inj, Int32.reduceToInt] at w_2); (try simp only [okO, wi, Int32.lt_iff_toInt_lt, Int32.le_iff_toInt_le, ← Int32.toInt_inj, Int32.reduceToInt] at w_4); (try simp only [okO, wi, Int32.lt_iff_toInt_lt, Int32.le_iff_toInt_le, ← Int32.toInt_inj, Int32.reduceToInt] at w_6); (try simp only [okO, wi, Int32.lt_iff_toInt_lt, Int32.le_iff_toInt_le, ← Int32.toInt_inj, Int32.reduceToInt] at w_8); (try simp only [okO, wi, Int32.lt_iff_toInt_lt, Int32.le_iff_toInt_le, ← Int32.toInt_inj, Int32.reduceToInt] at w_10); (try simp only [okO, wi, Int32.lt_iff_toInt_lt, Int32.le_iff_toInt_le, ← Int32.toInt_inj, Int32.reduceToInt] at w_12); (try simp only [okO, wi, Int32.lt_iff_toInt_lt, Int32.le_iff_toInt_le, ← Int32.toInt_inj, Int32.reduceToInt] at w_13); (try simp only [okO, wi, Int32.lt_iff_toInt_lt, Int32.le_iff_toInt_le, ← Int32.toInt_inj, Int32.reduceToInt]); omega)).symm, ht⟩) (fun _ h => nomatch h) dX_isStep_78
  by_cases w_14 : k = 8
  · refine lv_tableIn (tgt := 79) hx hb dX_isStep_1 (by rw [w_14]; decide) (by rw [w_14]; decide) (by rw [w_14]; rfl) (by decide) ?_
    refine lv_iload_n hx hb dX_isStep_79 rfl (lv_at hl 2 rfl) ?_
    refine lv_iconst (v := 0) hx hb dX_isStep_80 (by decide +kernel) ?_
    refine lv_bipush (v := 63) hx hb dX_isStep_81 (by decide +kernel) ?_
    refine vp_callSi (va_Run.run (va_runS (As := [.int a, .int 0, .int 63]) (rest := []) ⟨hx, hb, hml, hown, hc⟩ (cX_isWithin l a 0 63) (va_cwS 3 hc (g_S w187 w188 w1 qX_isWithin) rfl rfl rfl (by decide +kernel) ⟨Nat.le_of_ble_eq_true rfl, Nat.le_of_ble_eq_true rfl⟩) ⟨tPre_blind, tPre_in⟩ rfl rfl hl.1 rfl (lv_room (Nat.le_of_ble_eq_true rfl)) dX_isStep_83 ⟨Nat.zero_le _, Nat.zero_le _⟩)) (fun r_16 hr_16 => ?_)
    exact W.zret (v := r_16) (ty := .boolean) hx hb hr (by rw [hr_16]; exact nar_b2 _) (fun t ht hW => ⟨_, rfl, (hr_16.trans (b2_c (by (try simp only [okO, wi, Int32.lt_iff_toInt_lt, Int32.le_iff_toInt_le, ← Int32.toInt_inj, Int32.reduceToInt] at w_0); (try simp only [okO, wi, Int32.lt_iff_toInt_lt, Int32.le_iff_toInt_le, ← Int32.toInt_inj, Int32.reduceToInt] at w_2); (try simp only [okO, wi, Int32.lt_iff_toInt_lt, Int32.le_iff_toInt_le, ← Int32.toInt_inj, Int32.reduceToInt] at w_4); (try simp only [okO, wi, Int32.lt_iff_toInt_lt, Int32.le_iff_toInt_le, ← Int32.toInt_inj, Int32.reduceToInt] at w_6); (try simp only [okO, wi, Int32.lt_iff_toInt_lt, Int32.le_iff_toInt_le, ← Int32.toInt_inj, Int32.reduceToInt] at w_8); (try simp only [okO, wi, Int32.lt_iff_toInt_lt, Int32.le_iff_toInt_le, ← Int32.toInt_inj, Int32.reduceToInt] at w_10); (try simp only [okO, wi, Int32.lt_iff_toInt_lt, Int32.le_iff_toInt_le, ← Int32.toInt_inj, Int32.reduceToInt] at w_12); (try simp only [okO, wi, Int32.lt_iff_toInt_lt, Int32.le_iff_toInt_le, ← Int32.toInt_inj, Int32.reduceToInt] at w_13); (try simp only [okO, wi, Int32.lt_iff_toInt_lt, Int32.le_iff_toInt_le, ← Int32.toInt_inj, Int32.reduceToInt] at w_14); (try simp only [okO, wi, Int32.lt_iff_toInt_lt, Int32.le_iff_toInt_le, ← Int32.toInt_inj, Int32.reduceToInt]); omega))), ht⟩) (fun _ h => nomatch h) dX_isStep_86
  by_cases w_16 : k = 9
  · refine lv_tableIn (tgt := 87) hx hb dX_isStep_1 (by rw [w_16]; decide) (by rw [w_16]; decide) (by rw [w_16]; rfl) (by decide) ?_
    refine lv_aload_n hx hb dX_isStep_87 rfl (lv_at hl 0 rfl) ?_
    refine lv_iload_n hx hb dX_isStep_88 rfl (lv_at hl 2 rfl) ?_
    refine vp_callSi (va_Run.run (va_runV (As := [.int a]) (rest := []) ⟨hx, hb, hml, hown, hc⟩ (cX_isMade l dC dI ad ca s.heap.size S a) (cwV 1 hc (gV w289 w291 s1 w1 qX_isMade) rfl rfl rfl (by decide +kernel) ⟨Nat.le_of_ble_eq_true rfl, Nat.le_of_ble_eq_true rfl⟩) ⟨gPre_blind, va_recv hK hP (ci := 0) (q0 := 0) rfl rfl, (gPre_in hP hK hD)⟩ rfl rfl hl.1 rfl (lv_room (Nat.le_of_ble_eq_true rfl)) dX_isStep_89 ⟨Nat.zero_le _, Nat.zero_le _⟩)) (fun r_18 hr_18 => ?_)
    exact W.zret (v := r_18) (ty := .boolean) hx hb hr (by rw [hr_18]; exact nar_b2 _) (fun t ht hW => ⟨_, rfl, (hr_18.trans (b2_c (by (try simp only [okO, wi, Int32.lt_iff_toInt_lt, Int32.le_iff_toInt_le, ← Int32.toInt_inj, Int32.reduceToInt] at w_0); (try simp only [okO, wi, Int32.lt_iff_toInt_lt, Int32.le_iff_toInt_le, ← Int32.toInt_inj, Int32.reduceToInt] at w_2); (try simp only [okO, wi, Int32.lt_iff_toInt_lt, Int32.le_iff_toInt_le, ← Int32.toInt_inj, Int32.reduceToInt] at w_4); (try simp only [okO, wi, Int32.lt_iff_toInt_lt, Int32.le_iff_toInt_le, ← Int32.toInt_inj, Int32.reduceToInt] at w_6); (try simp only [okO, wi, Int32.lt_iff_toInt_lt, Int32.le_iff_toInt_le, ← Int32.toInt_inj, Int32.reduceToInt] at w_8); (try simp only [okO, wi, Int32.lt_iff_toInt_lt, Int32.le_iff_toInt_le, ← Int32.toInt_inj, Int32.reduceToInt] at w_10); (try simp only [okO, wi, Int32.lt_iff_toInt_lt, Int32.le_iff_toInt_le, ← Int32.toInt_inj, Int32.reduceToInt] at w_12); (try simp only [okO, wi, Int32.lt_iff_toInt_lt, Int32.le_iff_toInt_le, ← Int32.toInt_inj, Int32.reduceToInt] at w_13); (try simp only [okO, wi, Int32.lt_iff_toInt_lt, Int32.le_iff_toInt_le, ← Int32.toInt_inj, Int32.reduceToInt] at w_14); (try simp only [okO, wi, Int32.lt_iff_toInt_lt, Int32.le_iff_toInt_le, ← Int32.toInt_inj, Int32.reduceToInt] at w_16); (try simp only [okO, wi, Int32.lt_iff_toInt_lt, Int32.le_iff_toInt_le, ← Int32.toInt_inj, Int32.reduceToInt]); omega))), ht⟩) (fun _ h => nomatch h) dX_isStep_92
  by_cases w_18 : k = 10
  · refine lv_tableIn (tgt := 93) hx hb dX_isStep_1 (by rw [w_18]; decide) (by rw [w_18]; decide) (by rw [w_18]; rfl) (by decide) ?_
    refine lv_iload_n hx hb dX_isStep_93 rfl (lv_at hl 2 rfl) ?_
    refine lv_bipush (v := 8) hx hb dX_isStep_94 (by decide +kernel) ?_
    refine lv_bipush (v := 31) hx hb dX_isStep_96 (by decide +kernel) ?_
    refine vp_callSi (va_Run.run (va_runS (As := [.int a, .int 8, .int 31]) (rest := []) ⟨hx, hb, hml, hown, hc⟩ (cX_isWithin l a 8 31) (va_cwS 3 hc (g_S w187 w188 w1 qX_isWithin) rfl rfl rfl (by decide +kernel) ⟨Nat.le_of_ble_eq_true rfl, Nat.le_of_ble_eq_true rfl⟩) ⟨tPre_blind, tPre_in⟩ rfl rfl hl.1 rfl (lv_room (Nat.le_of_ble_eq_true rfl)) dX_isStep_98 ⟨Nat.zero_le _, Nat.zero_le _⟩)) (fun r_20 hr_20 => ?_)
    exact W.zret (v := r_20) (ty := .boolean) hx hb hr (by rw [hr_20]; exact nar_b2 _) (fun t ht hW => ⟨_, rfl, (hr_20.trans (b2_c (by (try simp only [okO, wi, Int32.lt_iff_toInt_lt, Int32.le_iff_toInt_le, ← Int32.toInt_inj, Int32.reduceToInt] at w_0); (try simp only [okO, wi, Int32.lt_iff_toInt_lt, Int32.le_iff_toInt_le, ← Int32.toInt_inj, Int32.reduceToInt] at w_2); (try simp only [okO, wi, Int32.lt_iff_toInt_lt, Int32.le_iff_toInt_le, ← Int32.toInt_inj, Int32.reduceToInt] at w_4); (try simp only [okO, wi, Int32.lt_iff_toInt_lt, Int32.le_iff_toInt_le, ← Int32.toInt_inj, Int32.reduceToInt] at w_6); (try simp only [okO, wi, Int32.lt_iff_toInt_lt, Int32.le_iff_toInt_le, ← Int32.toInt_inj, Int32.reduceToInt] at w_8); (try simp only [okO, wi, Int32.lt_iff_toInt_lt, Int32.le_iff_toInt_le, ← Int32.toInt_inj, Int32.reduceToInt] at w_10); (try simp only [okO, wi, Int32.lt_iff_toInt_lt, Int32.le_iff_toInt_le, ← Int32.toInt_inj, Int32.reduceToInt] at w_12); (try simp only [okO, wi, Int32.lt_iff_toInt_lt, Int32.le_iff_toInt_le, ← Int32.toInt_inj, Int32.reduceToInt] at w_13); (try simp only [okO, wi, Int32.lt_iff_toInt_lt, Int32.le_iff_toInt_le, ← Int32.toInt_inj, Int32.reduceToInt] at w_14); (try simp only [okO, wi, Int32.lt_iff_toInt_lt, Int32.le_iff_toInt_le, ← Int32.toInt_inj, Int32.reduceToInt] at w_16); (try simp only [okO, wi, Int32.lt_iff_toInt_lt, Int32.le_iff_toInt_le, ← Int32.toInt_inj, Int32.reduceToInt] at w_18); (try simp only [okO, wi, Int32.lt_iff_toInt_lt, Int32.le_iff_toInt_le, ← Int32.toInt_inj, Int32.reduceToInt]); omega))), ht⟩) (fun _ h => nomatch h) dX_isStep_101
  by_cases w_20 : k = 11
  · refine lv_tableIn (tgt := 93) hx hb dX_isStep_1 (by rw [w_20]; decide) (by rw [w_20]; decide) (by rw [w_20]; rfl) (by decide) ?_
    refine lv_iload_n hx hb dX_isStep_93 rfl (lv_at hl 2 rfl) ?_
    refine lv_bipush (v := 8) hx hb dX_isStep_94 (by decide +kernel) ?_
    refine lv_bipush (v := 31) hx hb dX_isStep_96 (by decide +kernel) ?_
    refine vp_callSi (va_Run.run (va_runS (As := [.int a, .int 8, .int 31]) (rest := []) ⟨hx, hb, hml, hown, hc⟩ (cX_isWithin l a 8 31) (va_cwS 3 hc (g_S w187 w188 w1 qX_isWithin) rfl rfl rfl (by decide +kernel) ⟨Nat.le_of_ble_eq_true rfl, Nat.le_of_ble_eq_true rfl⟩) ⟨tPre_blind, tPre_in⟩ rfl rfl hl.1 rfl (lv_room (Nat.le_of_ble_eq_true rfl)) dX_isStep_98 ⟨Nat.zero_le _, Nat.zero_le _⟩)) (fun r_22 hr_22 => ?_)
    exact W.zret (v := r_22) (ty := .boolean) hx hb hr (by rw [hr_22]; exact nar_b2 _) (fun t ht hW => ⟨_, rfl, (hr_22.trans (b2_c (by (try simp only [okO, wi, Int32.lt_iff_toInt_lt, Int32.le_iff_toInt_le, ← Int32.toInt_inj, Int32.reduceToInt] at w_0); (try simp only [okO, wi, Int32.lt_iff_toInt_lt, Int32.le_iff_toInt_le, ← Int32.toInt_inj, Int32.reduceToInt] at w_2); (try simp only [okO, wi, Int32.lt_iff_toInt_lt, Int32.le_iff_toInt_le, ← Int32.toInt_inj, Int32.reduceToInt] at w_4); (try simp only [okO, wi, Int32.lt_iff_toInt_lt, Int32.le_iff_toInt_le, ← Int32.toInt_inj, Int32.reduceToInt] at w_6); (try simp only [okO, wi, Int32.lt_iff_toInt_lt, Int32.le_iff_toInt_le, ← Int32.toInt_inj, Int32.reduceToInt] at w_8); (try simp only [okO, wi, Int32.lt_iff_toInt_lt, Int32.le_iff_toInt_le, ← Int32.toInt_inj, Int32.reduceToInt] at w_10); (try simp only [okO, wi, Int32.lt_iff_toInt_lt, Int32.le_iff_toInt_le, ← Int32.toInt_inj, Int32.reduceToInt] at w_12); (try simp only [okO, wi, Int32.lt_iff_toInt_lt, Int32.le_iff_toInt_le, ← Int32.toInt_inj, Int32.reduceToInt] at w_13); (try simp only [okO, wi, Int32.lt_iff_toInt_lt, Int32.le_iff_toInt_le, ← Int32.toInt_inj, Int32.reduceToInt] at w_14); (try simp only [okO, wi, Int32.lt_iff_toInt_lt, Int32.le_iff_toInt_le, ← Int32.toInt_inj, Int32.reduceToInt] at w_16); (try simp only [okO, wi, Int32.lt_iff_toInt_lt, Int32.le_iff_toInt_le, ← Int32.toInt_inj, Int32.reduceToInt] at w_18); (try simp only [okO, wi, Int32.lt_iff_toInt_lt, Int32.le_iff_toInt_le, ← Int32.toInt_inj, Int32.reduceToInt] at w_20); (try simp only [okO, wi, Int32.lt_iff_toInt_lt, Int32.le_iff_toInt_le, ← Int32.toInt_inj, Int32.reduceToInt]); omega))), ht⟩) (fun _ h => nomatch h) dX_isStep_101
  by_cases w_22 : k = 12
  · refine lv_tableIn (tgt := 93) hx hb dX_isStep_1 (by rw [w_22]; decide) (by rw [w_22]; decide) (by rw [w_22]; rfl) (by decide) ?_
    refine lv_iload_n hx hb dX_isStep_93 rfl (lv_at hl 2 rfl) ?_
    refine lv_bipush (v := 8) hx hb dX_isStep_94 (by decide +kernel) ?_
    refine lv_bipush (v := 31) hx hb dX_isStep_96 (by decide +kernel) ?_
    refine vp_callSi (va_Run.run (va_runS (As := [.int a, .int 8, .int 31]) (rest := []) ⟨hx, hb, hml, hown, hc⟩ (cX_isWithin l a 8 31) (va_cwS 3 hc (g_S w187 w188 w1 qX_isWithin) rfl rfl rfl (by decide +kernel) ⟨Nat.le_of_ble_eq_true rfl, Nat.le_of_ble_eq_true rfl⟩) ⟨tPre_blind, tPre_in⟩ rfl rfl hl.1 rfl (lv_room (Nat.le_of_ble_eq_true rfl)) dX_isStep_98 ⟨Nat.zero_le _, Nat.zero_le _⟩)) (fun r_24 hr_24 => ?_)
    exact W.zret (v := r_24) (ty := .boolean) hx hb hr (by rw [hr_24]; exact nar_b2 _) (fun t ht hW => ⟨_, rfl, (hr_24.trans (b2_c (by (try simp only [okO, wi, Int32.lt_iff_toInt_lt, Int32.le_iff_toInt_le, ← Int32.toInt_inj, Int32.reduceToInt] at w_0); (try simp only [okO, wi, Int32.lt_iff_toInt_lt, Int32.le_iff_toInt_le, ← Int32.toInt_inj, Int32.reduceToInt] at w_2); (try simp only [okO, wi, Int32.lt_iff_toInt_lt, Int32.le_iff_toInt_le, ← Int32.toInt_inj, Int32.reduceToInt] at w_4); (try simp only [okO, wi, Int32.lt_iff_toInt_lt, Int32.le_iff_toInt_le, ← Int32.toInt_inj, Int32.reduceToInt] at w_6); (try simp only [okO, wi, Int32.lt_iff_toInt_lt, Int32.le_iff_toInt_le, ← Int32.toInt_inj, Int32.reduceToInt] at w_8); (try simp only [okO, wi, Int32.lt_iff_toInt_lt, Int32.le_iff_toInt_le, ← Int32.toInt_inj, Int32.reduceToInt] at w_10); (try simp only [okO, wi, Int32.lt_iff_toInt_lt, Int32.le_iff_toInt_le, ← Int32.toInt_inj, Int32.reduceToInt] at w_12); (try simp only [okO, wi, Int32.lt_iff_toInt_lt, Int32.le_iff_toInt_le, ← Int32.toInt_inj, Int32.reduceToInt] at w_13); (try simp only [okO, wi, Int32.lt_iff_toInt_lt, Int32.le_iff_toInt_le, ← Int32.toInt_inj, Int32.reduceToInt] at w_14); (try simp only [okO, wi, Int32.lt_iff_toInt_lt, Int32.le_iff_toInt_le, ← Int32.toInt_inj, Int32.reduceToInt] at w_16); (try simp only [okO, wi, Int32.lt_iff_toInt_lt, Int32.le_iff_toInt_le, ← Int32.toInt_inj, Int32.reduceToInt] at w_18); (try simp only [okO, wi, Int32.lt_iff_toInt_lt, Int32.le_iff_toInt_le, ← Int32.toInt_inj, Int32.reduceToInt] at w_20); (try simp only [okO, wi, Int32.lt_iff_toInt_lt, Int32.le_iff_toInt_le, ← Int32.toInt_inj, Int32.reduceToInt] at w_22); (try simp only [okO, wi, Int32.lt_iff_toInt_lt, Int32.le_iff_toInt_le, ← Int32.toInt_inj, Int32.reduceToInt]); omega))), ht⟩) (fun _ h => nomatch h) dX_isStep_101
  by_cases w_24 : k = 13
  · refine lv_tableIn (tgt := 102) hx hb dX_isStep_1 (by rw [w_24]; decide) (by rw [w_24]; decide) (by rw [w_24]; rfl) (by decide) ?_
    refine lv_iload_n hx hb dX_isStep_102 rfl (lv_at hl 2 rfl) ?_
    refine vp_callSi (va_Run.run (va_runS (As := [.int a]) (rest := []) ⟨hx, hb, hml, hown, hc⟩ (cX_isRung l a) (va_cwS 1 hc (g_S w345 w346 w1 qX_isRung) rfl rfl rfl (by decide +kernel) ⟨Nat.le_of_ble_eq_true rfl, Nat.le_of_ble_eq_true rfl⟩) ⟨tPre_blind, tPre_in⟩ rfl rfl hl.1 rfl (lv_room (Nat.le_of_ble_eq_true rfl)) dX_isStep_103 ⟨Nat.zero_le _, Nat.zero_le _⟩)) (fun r_26 hr_26 => ?_)
    exact W.zret (v := r_26) (ty := .boolean) hx hb hr (by rw [hr_26]; exact nar_b2 _) (fun t ht hW => ⟨_, rfl, (hr_26.trans (b2_c (by (try simp only [okO, wi, Int32.lt_iff_toInt_lt, Int32.le_iff_toInt_le, ← Int32.toInt_inj, Int32.reduceToInt] at w_0); (try simp only [okO, wi, Int32.lt_iff_toInt_lt, Int32.le_iff_toInt_le, ← Int32.toInt_inj, Int32.reduceToInt] at w_2); (try simp only [okO, wi, Int32.lt_iff_toInt_lt, Int32.le_iff_toInt_le, ← Int32.toInt_inj, Int32.reduceToInt] at w_4); (try simp only [okO, wi, Int32.lt_iff_toInt_lt, Int32.le_iff_toInt_le, ← Int32.toInt_inj, Int32.reduceToInt] at w_6); (try simp only [okO, wi, Int32.lt_iff_toInt_lt, Int32.le_iff_toInt_le, ← Int32.toInt_inj, Int32.reduceToInt] at w_8); (try simp only [okO, wi, Int32.lt_iff_toInt_lt, Int32.le_iff_toInt_le, ← Int32.toInt_inj, Int32.reduceToInt] at w_10); (try simp only [okO, wi, Int32.lt_iff_toInt_lt, Int32.le_iff_toInt_le, ← Int32.toInt_inj, Int32.reduceToInt] at w_12); (try simp only [okO, wi, Int32.lt_iff_toInt_lt, Int32.le_iff_toInt_le, ← Int32.toInt_inj, Int32.reduceToInt] at w_13); (try simp only [okO, wi, Int32.lt_iff_toInt_lt, Int32.le_iff_toInt_le, ← Int32.toInt_inj, Int32.reduceToInt] at w_14); (try simp only [okO, wi, Int32.lt_iff_toInt_lt, Int32.le_iff_toInt_le, ← Int32.toInt_inj, Int32.reduceToInt] at w_16); (try simp only [okO, wi, Int32.lt_iff_toInt_lt, Int32.le_iff_toInt_le, ← Int32.toInt_inj, Int32.reduceToInt] at w_18); (try simp only [okO, wi, Int32.lt_iff_toInt_lt, Int32.le_iff_toInt_le, ← Int32.toInt_inj, Int32.reduceToInt] at w_20); (try simp only [okO, wi, Int32.lt_iff_toInt_lt, Int32.le_iff_toInt_le, ← Int32.toInt_inj, Int32.reduceToInt] at w_22); (try simp only [okO, wi, Int32.lt_iff_toInt_lt, Int32.le_iff_toInt_le, ← Int32.toInt_inj, Int32.reduceToInt] at w_24); (try simp only [okO, wi, Int32.lt_iff_toInt_lt, Int32.le_iff_toInt_le, ← Int32.toInt_inj, Int32.reduceToInt]); omega))), ht⟩) (fun _ h => nomatch h) dX_isStep_106
  have iw_0 : (k : Int32).toInt ≠ 0 := fun z => w_0 (Int32.toInt_inj.mp (by rw [z]; rfl))
  have iw_2 : (k : Int32).toInt ≠ 1 := fun z => w_2 (Int32.toInt_inj.mp (by rw [z]; rfl))
  have iw_4 : (k : Int32).toInt ≠ 2 := fun z => w_4 (Int32.toInt_inj.mp (by rw [z]; rfl))
  have iw_6 : (k : Int32).toInt ≠ 3 := fun z => w_6 (Int32.toInt_inj.mp (by rw [z]; rfl))
  have iw_8 : (k : Int32).toInt ≠ 4 := fun z => w_8 (Int32.toInt_inj.mp (by rw [z]; rfl))
  have iw_10 : (k : Int32).toInt ≠ 5 := fun z => w_10 (Int32.toInt_inj.mp (by rw [z]; rfl))
  have iw_12 : (k : Int32).toInt ≠ 6 := fun z => w_12 (Int32.toInt_inj.mp (by rw [z]; rfl))
  have iw_13 : (k : Int32).toInt ≠ 7 := fun z => w_13 (Int32.toInt_inj.mp (by rw [z]; rfl))
  have iw_14 : (k : Int32).toInt ≠ 8 := fun z => w_14 (Int32.toInt_inj.mp (by rw [z]; rfl))
  have iw_16 : (k : Int32).toInt ≠ 9 := fun z => w_16 (Int32.toInt_inj.mp (by rw [z]; rfl))
  have iw_18 : (k : Int32).toInt ≠ 10 := fun z => w_18 (Int32.toInt_inj.mp (by rw [z]; rfl))
  have iw_20 : (k : Int32).toInt ≠ 11 := fun z => w_20 (Int32.toInt_inj.mp (by rw [z]; rfl))
  have iw_22 : (k : Int32).toInt ≠ 12 := fun z => w_22 (Int32.toInt_inj.mp (by rw [z]; rfl))
  have iw_24 : (k : Int32).toInt ≠ 13 := fun z => w_24 (Int32.toInt_inj.mp (by rw [z]; rfl))
  refine lv_tableOut (tgt := 107) hx hb dX_isStep_1 (by omega) (by decide) ?_
  refine lv_iconst (v := 0) hx hb dX_isStep_107 (by decide +kernel) ?_
  exact W.zret (v := 0) (ty := .boolean) hx hb hr rfl (fun t ht hW => ⟨_, rfl, (b2_f (by (try simp only [okO, wi, Int32.lt_iff_toInt_lt, Int32.le_iff_toInt_le, ← Int32.toInt_inj, Int32.reduceToInt] at w_0); (try simp only [okO, wi, Int32.lt_iff_toInt_lt, Int32.le_iff_toInt_le, ← Int32.toInt_inj, Int32.reduceToInt] at w_2); (try simp only [okO, wi, Int32.lt_iff_toInt_lt, Int32.le_iff_toInt_le, ← Int32.toInt_inj, Int32.reduceToInt] at w_4); (try simp only [okO, wi, Int32.lt_iff_toInt_lt, Int32.le_iff_toInt_le, ← Int32.toInt_inj, Int32.reduceToInt] at w_6); (try simp only [okO, wi, Int32.lt_iff_toInt_lt, Int32.le_iff_toInt_le, ← Int32.toInt_inj, Int32.reduceToInt] at w_8); (try simp only [okO, wi, Int32.lt_iff_toInt_lt, Int32.le_iff_toInt_le, ← Int32.toInt_inj, Int32.reduceToInt] at w_10); (try simp only [okO, wi, Int32.lt_iff_toInt_lt, Int32.le_iff_toInt_le, ← Int32.toInt_inj, Int32.reduceToInt] at w_12); (try simp only [okO, wi, Int32.lt_iff_toInt_lt, Int32.le_iff_toInt_le, ← Int32.toInt_inj, Int32.reduceToInt] at w_13); (try simp only [okO, wi, Int32.lt_iff_toInt_lt, Int32.le_iff_toInt_le, ← Int32.toInt_inj, Int32.reduceToInt] at w_14); (try simp only [okO, wi, Int32.lt_iff_toInt_lt, Int32.le_iff_toInt_le, ← Int32.toInt_inj, Int32.reduceToInt] at w_16); (try simp only [okO, wi, Int32.lt_iff_toInt_lt, Int32.le_iff_toInt_le, ← Int32.toInt_inj, Int32.reduceToInt] at w_18); (try simp only [okO, wi, Int32.lt_iff_toInt_lt, Int32.le_iff_toInt_le, ← Int32.toInt_inj, Int32.reduceToInt] at w_20); (try simp only [okO, wi, Int32.lt_iff_toInt_lt, Int32.le_iff_toInt_le, ← Int32.toInt_inj, Int32.reduceToInt] at w_22); (try simp only [okO, wi, Int32.lt_iff_toInt_lt, Int32.le_iff_toInt_le, ← Int32.toInt_inj, Int32.reduceToInt] at w_24); (try simp only [okO, wi, Int32.lt_iff_toInt_lt, Int32.le_iff_toInt_le, ← Int32.toInt_inj, Int32.reduceToInt]); omega)).symm, ht⟩) (fun _ h => nomatch h) dX_isStep_108

set_option maxHeartbeats 4000000 in
set_option maxRecDepth 100000 in
theorem cMe_read (l : Launch) (dC : Nat → ClassId) (dI : Nat → Nat → Nat) (ad : Nat → Nat) (ca : Nat → ClassId) (sz : Nat) (S : Ss) (k : Nat) (hk : k < 32) : Met l yMe_read (kMe_read :: CW) ({ frames := 0, cells := 0, slots := 0, locals := 0 }) (va_Pc [.ref (ad 1), .int (nI k)] (gPre (dC, dI) (xT ca) (XW ad ca S) sz)) (vp_Si (fun r => r = rd S k)) 0 0 (fun _ => False) := by
  refine Met.ofW (cc := bMe_read) (maxL := 2) (ret := (some .int)) (by decide) rfl ?_
  intro p e s m args below meth c s₁ B hml hv
  obtain ⟨rfl, hsz, hP, hK, hD0⟩ := hv
  have hx := B.exec
  have hb := B.bytes
  have hr := B.returns
  have hts := atoms_spec (ws := kMe_read :: CW) B.pre
  have hc : ∀ w ∈ CW, w.before _ s = true := fun w h => hts w (List.mem_cons_of_mem _ h)
  have hown : s.vm.findClass RMe = some m.cls := findClass_of_methodNamed B.named
  have hlocks := B.notSynchronized
  subst hsz
  have hD := hD0
  have hl := lv_entry ([.ref (ad 1), .int (nI k)]) (n := 2) (Nat.le_of_ble_eq_true rfl)
  rw [lg_entry_eq]
  generalize (lg_sl ([.ref (ad 1), .int (nI k)]) ++ List.replicate (2 - (lg_sl ([.ref (ad 1), .int (nI k)])).length) Slot.unset).toArray = ls at hl ⊢
  have hl : lv_has ls 2 [(0, .ref (ad 1)), (1, .int (nI k))] := hl
  refine lv_aload_n hx hb dMe_read_0 rfl (lv_at hl 0 rfl) ?_
  refine va_get (D := (dC, dI)) (ci := 1) (v := .ref (ad 3)) (C := RMe) (T := TMe) (N := 5) hx hb hc inMe hown hK hP 1 rfl rfl 1 (by decide) (hc _ w31) (fun _ h9 => h9) rfl dMe_read_1 ?_
  refine lv_iload_n hx hb dMe_read_4 rfl (lv_at hl 1 rfl) ?_
  refine va_iald hx hb hK hP 3 1 rfl rfl (vp_in_nI (by omega) (by decide)) dMe_read_5 ?_
  refine lv_topi (fun v_1 ev_1 => ?_)
  rw [nI_clamp (by omega)] at ev_1
  subst v_1
  refine lv_iconst (v := (-1)) hx hb dMe_read_6 (by decide +kernel) ?_
  refine lv_icmp_ne (tgt := 19) hx hb dMe_read_7 (by decide) (fun c_1 => ?_) (fun c_1 => ?_)
  · refine lv_aload_n hx hb dMe_read_19 rfl (lv_at hl 0 rfl) ?_
    refine va_get (D := (dC, dI)) (ci := 1) (v := .ref (ad 3)) (C := RMe) (T := TMe) (N := 5) hx hb hc inMe hown hK hP 1 rfl rfl 1 (by decide) (hc _ w31) (fun _ h9 => h9) rfl dMe_read_20 ?_
    refine lv_iload_n hx hb dMe_read_23 rfl (lv_at hl 1 rfl) ?_
    refine va_iald hx hb hK hP 3 1 rfl rfl (vp_in_nI (by omega) (by decide)) dMe_read_24 ?_
    refine lv_topi (fun v_3 ev_3 => ?_)
    rw [nI_clamp (by omega)] at ev_3
    subst v_3
    exact W.iret (v := (S 2 k)) hx hb hr (fun t ht hW => ⟨_, rfl, (by unfold rd; first | rw [if_pos c_1] | rw [if_neg c_1]), ht⟩) (fun _ h => nomatch h) dMe_read_25
  · refine lv_aload_n hx hb dMe_read_10 rfl (lv_at hl 0 rfl) ?_
    refine va_get (D := (dC, dI)) (ci := 1) (v := .ref (ad 2)) (C := RMe) (T := TMe) (N := 5) hx hb hc inMe hown hK hP 1 rfl rfl 0 (by decide) (hc _ w30) (fun _ h9 => h9) rfl dMe_read_11 ?_
    refine lv_iload_n hx hb dMe_read_14 rfl (lv_at hl 1 rfl) ?_
    refine va_iald hx hb hK hP 2 0 rfl rfl (vp_in_nI (by omega) (by decide)) dMe_read_15 ?_
    refine lv_topi (fun v_4 ev_4 => ?_)
    rw [nI_clamp (by omega)] at ev_4
    subst v_4
    refine lv_goto (tgt := 25) hx hb dMe_read_16 (by decide) ?_
    exact W.iret (v := (S 1 k)) hx hb hr (fun t ht hW => ⟨_, rfl, (by unfold rd; first | rw [if_pos c_1] | rw [if_neg c_1]), ht⟩) (fun _ h => nomatch h) dMe_read_25

set_option maxHeartbeats 4000000 in
set_option maxRecDepth 100000 in
theorem cMe_isAbove (l : Launch) (dC : Nat → ClassId) (dI : Nat → Nat → Nat) (ad : Nat → Nat) (ca : Nat → ClassId) (sz : Nat) (S : Ss) (k j : Nat) (hk : k < 8) (hj : j < 8) : Met l yMe_isAbove (kMe_isAbove :: CW) ({ frames := 0, cells := 0, slots := 0, locals := 0 }) (va_Pc [.ref (ad 1), .int (nI k), .int (nI j)] (gPre (dC, dI) (xT ca) (XW ad ca S) sz)) (vp_Si (fun r => r = b2 (S 5 j < S 5 k))) 0 0 (fun _ => False) := by
  refine Met.ofW (cc := bMe_isAbove) (maxL := 3) (ret := (some .boolean)) (by decide) rfl ?_
  intro p e s m args below meth c s₁ B hml hv
  obtain ⟨rfl, hsz, hP, hK, hD0⟩ := hv
  have hx := B.exec
  have hb := B.bytes
  have hr := B.returns
  have hts := atoms_spec (ws := kMe_isAbove :: CW) B.pre
  have hc : ∀ w ∈ CW, w.before _ s = true := fun w h => hts w (List.mem_cons_of_mem _ h)
  have hown : s.vm.findClass RMe = some m.cls := findClass_of_methodNamed B.named
  have hlocks := B.notSynchronized
  subst hsz
  have hD := hD0
  have hl := lv_entry ([.ref (ad 1), .int (nI k), .int (nI j)]) (n := 3) (Nat.le_of_ble_eq_true rfl)
  rw [lg_entry_eq]
  generalize (lg_sl ([.ref (ad 1), .int (nI k), .int (nI j)]) ++ List.replicate (3 - (lg_sl ([.ref (ad 1), .int (nI k), .int (nI j)])).length) Slot.unset).toArray = ls at hl ⊢
  have hl : lv_has ls 3 [(0, .ref (ad 1)), (1, .int (nI k)), (2, .int (nI j))] := hl
  refine lv_aload_n hx hb dMe_isAbove_0 rfl (lv_at hl 0 rfl) ?_
  refine va_get (D := (dC, dI)) (ci := 1) (v := .ref (ad 6)) (C := RMe) (T := TMe) (N := 5) hx hb hc inMe hown hK hP 1 rfl rfl 4 (by decide) (hc _ w37) (fun _ h9 => h9) rfl dMe_isAbove_1 ?_
  refine lv_iload_n hx hb dMe_isAbove_4 rfl (lv_at hl 1 rfl) ?_
  refine va_iald hx hb hK hP 6 4 rfl rfl (vp_in_nI (by omega) (by decide)) dMe_isAbove_5 ?_
  refine lv_topi (fun v_1 ev_1 => ?_)
  rw [nI_clamp (by omega)] at ev_1
  subst v_1
  refine lv_aload_n hx hb dMe_isAbove_6 rfl (lv_at hl 0 rfl) ?_
  refine va_get (D := (dC, dI)) (ci := 1) (v := .ref (ad 6)) (C := RMe) (T := TMe) (N := 5) hx hb hc inMe hown hK hP 1 rfl rfl 4 (by decide) (hc _ w37) (fun _ h9 => h9) rfl dMe_isAbove_7 ?_
  refine lv_iload_n hx hb dMe_isAbove_10 rfl (lv_at hl 2 rfl) ?_
  refine va_iald hx hb hK hP 6 4 rfl rfl (vp_in_nI (by omega) (by decide)) dMe_isAbove_11 ?_
  refine lv_topi (fun v_2 ev_2 => ?_)
  rw [nI_clamp (by omega)] at ev_2
  subst v_2
  refine lv_icmp_le (tgt := 19) hx hb dMe_isAbove_12 (by decide) (fun c_2 => ?_) (fun c_2 => ?_)
  · refine lv_iconst (v := 0) hx hb dMe_isAbove_19 (by decide +kernel) ?_
    exact W.zret (v := 0) (ty := .boolean) hx hb hr rfl (fun t ht hW => ⟨_, rfl, (b2_f (by (try simp only [wi, Int32.lt_iff_toInt_lt, Int32.le_iff_toInt_le, ← Int32.toInt_inj, Int32.reduceToInt] at c_2); (try simp only [wi, Int32.lt_iff_toInt_lt, Int32.le_iff_toInt_le, ← Int32.toInt_inj, Int32.reduceToInt]); omega)).symm, ht⟩) (fun _ h => nomatch h) dMe_isAbove_20
  · refine lv_iconst (v := 1) hx hb dMe_isAbove_15 (by decide +kernel) ?_
    refine lv_goto (tgt := 20) hx hb dMe_isAbove_16 (by decide) ?_
    exact W.zret (v := 1) (ty := .boolean) hx hb hr rfl (fun t ht hW => ⟨_, rfl, (b2_t (by (try simp only [wi, Int32.lt_iff_toInt_lt, Int32.le_iff_toInt_le, ← Int32.toInt_inj, Int32.reduceToInt] at c_2); (try simp only [wi, Int32.lt_iff_toInt_lt, Int32.le_iff_toInt_le, ← Int32.toInt_inj, Int32.reduceToInt]); omega)).symm, ht⟩) (fun _ h => nomatch h) dMe_isAbove_20

set_option maxHeartbeats 4000000 in
set_option maxRecDepth 100000 in
theorem cLa_isFull (l : Launch) (dC : Nat → ClassId) (dI : Nat → Nat → Nat) (ad : Nat → Nat) (ca : Nat → ClassId) (sz : Nat) (S : Ss) (k : Nat) (hk : k < 12) : Met l yLa_isFull (kLa_isFull :: CW) ({ frames := 0, cells := 0, slots := 0, locals := 0 }) (va_Pc [.ref (ad 8), .int (nI k)] (gPre (dC, dI) (xT ca) (XW ad ca S) sz)) (vp_Si (fun r => r = b2 (10 ≤ S 8 k))) 0 0 (fun _ => False) := by
  refine Met.ofW (cc := bLa_isFull) (maxL := 2) (ret := (some .boolean)) (by decide) rfl ?_
  intro p e s m args below meth c s₁ B hml hv
  obtain ⟨rfl, hsz, hP, hK, hD0⟩ := hv
  have hx := B.exec
  have hb := B.bytes
  have hr := B.returns
  have hts := atoms_spec (ws := kLa_isFull :: CW) B.pre
  have hc : ∀ w ∈ CW, w.before _ s = true := fun w h => hts w (List.mem_cons_of_mem _ h)
  have hown : s.vm.findClass RLa = some m.cls := findClass_of_methodNamed B.named
  have hlocks := B.notSynchronized
  subst hsz
  have hD := hD0
  have hl := lv_entry ([.ref (ad 8), .int (nI k)]) (n := 2) (Nat.le_of_ble_eq_true rfl)
  rw [lg_entry_eq]
  generalize (lg_sl ([.ref (ad 8), .int (nI k)]) ++ List.replicate (2 - (lg_sl ([.ref (ad 8), .int (nI k)])).length) Slot.unset).toArray = ls at hl ⊢
  have hl : lv_has ls 2 [(0, .ref (ad 8)), (1, .int (nI k))] := hl
  refine lv_aload_n hx hb dLa_isFull_0 rfl (lv_at hl 0 rfl) ?_
  refine va_get (D := (dC, dI)) (ci := 3) (v := .ref (ad 11)) (C := RLa) (T := TLa) (N := 4) hx hb hc inLa hown hK hP 8 rfl rfl 2 (by decide) (hc _ w64) (fun _ h9 => h9) rfl dLa_isFull_1 ?_
  refine lv_iload_n hx hb dLa_isFull_4 rfl (lv_at hl 1 rfl) ?_
  refine va_iald hx hb hK hP 11 8 rfl rfl (vp_in_nI (by omega) (by decide)) dLa_isFull_5 ?_
  refine lv_topi (fun v_1 ev_1 => ?_)
  rw [nI_clamp (by omega)] at ev_1
  subst v_1
  refine lv_bipush (v := 10) hx hb dLa_isFull_6 (by decide +kernel) ?_
  refine lv_icmp_lt (tgt := 15) hx hb dLa_isFull_8 (by decide) (fun c_1 => ?_) (fun c_1 => ?_)
  · refine lv_iconst (v := 0) hx hb dLa_isFull_15 (by decide +kernel) ?_
    exact W.zret (v := 0) (ty := .boolean) hx hb hr rfl (fun t ht hW => ⟨_, rfl, (b2_f (by (try simp only [wi, Int32.lt_iff_toInt_lt, Int32.le_iff_toInt_le, ← Int32.toInt_inj, Int32.reduceToInt] at c_1); (try simp only [wi, Int32.lt_iff_toInt_lt, Int32.le_iff_toInt_le, ← Int32.toInt_inj, Int32.reduceToInt]); omega)).symm, ht⟩) (fun _ h => nomatch h) dLa_isFull_16
  · refine lv_iconst (v := 1) hx hb dLa_isFull_11 (by decide +kernel) ?_
    refine lv_goto (tgt := 16) hx hb dLa_isFull_12 (by decide) ?_
    exact W.zret (v := 1) (ty := .boolean) hx hb hr rfl (fun t ht hW => ⟨_, rfl, (b2_t (by (try simp only [wi, Int32.lt_iff_toInt_lt, Int32.le_iff_toInt_le, ← Int32.toInt_inj, Int32.reduceToInt] at c_1); (try simp only [wi, Int32.lt_iff_toInt_lt, Int32.le_iff_toInt_le, ← Int32.toInt_inj, Int32.reduceToInt]); omega)).symm, ht⟩) (fun _ h => nomatch h) dLa_isFull_16

set_option maxHeartbeats 4000000 in
set_option maxRecDepth 100000 in
theorem cLa_size (l : Launch) (dC : Nat → ClassId) (dI : Nat → Nat → Nat) (ad : Nat → Nat) (ca : Nat → ClassId) (sz : Nat) (S : Ss) : Met l yLa_size (kLa_size :: CW) ({ frames := 0, cells := 0, slots := 0, locals := 0 }) (va_Pc [.ref (ad 13)] (gPre (dC, dI) (xT ca) (XW ad ca S) sz)) (vp_Si (fun r => r = sumN (S 12) 0 12)) 0 0 (fun _ => False) := by
  refine Met.ofW (cc := bLa_size) (maxL := 3) (ret := (some .int)) (by decide) rfl ?_
  intro p e s m args below meth c s₁ B hml hv
  obtain ⟨rfl, hsz, hP, hK, hD0⟩ := hv
  have hx := B.exec
  have hb := B.bytes
  have hr := B.returns
  have hts := atoms_spec (ws := kLa_size :: CW) B.pre
  have hc : ∀ w ∈ CW, w.before _ s = true := fun w h => hts w (List.mem_cons_of_mem _ h)
  have hown : s.vm.findClass RLa = some m.cls := findClass_of_methodNamed B.named
  have hlocks := B.notSynchronized
  subst hsz
  have hD := hD0
  have hl := lv_entry ([.ref (ad 13)]) (n := 3) (Nat.le_of_ble_eq_true rfl)
  rw [lg_entry_eq]
  generalize (lg_sl ([.ref (ad 13)]) ++ List.replicate (3 - (lg_sl ([.ref (ad 13)])).length) Slot.unset).toArray = ls at hl ⊢
  have hl : lv_has ls 3 [(0, .ref (ad 13))] := hl
  refine lv_iconst (v := 0) hx hb dLa_size_0 (by decide +kernel) ?_
  refine lv_istore_n (lv' := [(1, .int 0), (0, .ref (ad 13))]) hx hb dLa_size_1 rfl hl (by decide) rfl (fun ls hl => ?_)
  refine lv_iconst (v := 0) hx hb dLa_size_2 (by decide +kernel) ?_
  refine lv_istore_n (lv' := [(2, .int 0), (1, .int 0), (0, .ref (ad 13))]) hx hb dLa_size_3 rfl hl (by decide) rfl (fun ls hl => ?_)
  refine g_loop (fun n H locs ls => H = s.heap ∧ locs = [] ∧ ∃ (i : Nat), ∃ (v : Int32), n = 12 - i ∧ i ≤ 12 ∧ v = sumN (S 12) 0 i ∧ lv_has ls 3 [(0, .ref (ad 13)), (1, .int v), (2, .int (nI i))]) ?_ _ _ _ _ ⟨rfl, rfl, 0, 0, rfl, Nat.zero_le _, rfl, lv_sub hl [2, 1, 0] rfl⟩
  rintro n _ _ ls ⟨rfl, rfl, i, v, en_4, hi, ev, hl⟩ ih_4
  refine lv_iload_n hx hb dLa_size_4 rfl (lv_at hl 2 rfl) ?_
  refine lv_bipush (v := 12) hx hb dLa_size_5 (by decide +kernel) ?_
  refine lv_icmp_ge (tgt := 25) hx hb dLa_size_7 (by decide) (fun c_0 => ?_) (fun c_0 => ?_)
  · have p_7 : 12 ≤ i := (nI_leI (a := 12) (b := i) (by omega) (by omega)).mp c_0
    refine lv_iload_n hx hb dLa_size_25 rfl (lv_at hl 1 rfl) ?_
    exact W.iret (v := v) hx hb hr (fun t ht hW => ⟨_, rfl, (by rw [ev, show i = 12 by omega]), ht⟩) (fun _ h => nomatch h) dLa_size_26
  · have p_7 : i < 12 := by have := mt (nI_leI (a := 12) (b := i) (by omega) (by omega)).mpr c_0; omega
    refine lv_iload_n hx hb dLa_size_10 rfl (lv_at hl 1 rfl) ?_
    refine lv_aload_n hx hb dLa_size_11 rfl (lv_at hl 0 rfl) ?_
    refine va_get (D := (dC, dI)) (ci := 3) (v := .ref (ad 16)) (C := RLa) (T := TLa) (N := 4) hx hb hc inLa hown hK hP 13 rfl rfl 2 (by decide) (hc _ w64) (fun _ h9 => h9) rfl dLa_size_12 ?_
    refine lv_iload_n hx hb dLa_size_15 rfl (lv_at hl 2 rfl) ?_
    refine va_iald hx hb hK hP 16 12 rfl rfl (vp_in_nI (by omega) (by decide)) dLa_size_16 ?_
    refine lv_topi (fun v_2 ev_2 => ?_)
    rw [nI_clamp (by omega)] at ev_2
    subst v_2
    refine lv_iadd hx hb dLa_size_17 ?_
    refine lv_topi (fun v_3 ev_3 => ?_)
    refine lv_istore_n (lv' := [(1, .int v_3), (0, .ref (ad 13)), (2, .int (nI i))]) hx hb dLa_size_18 rfl hl (by decide) rfl (fun ls hl => ?_)
    obtain ⟨v_4, ev_4⟩ : ∃ y : Int32, y = (nI i) + 1 := ⟨_, rfl⟩
    refine lv_iinc (v := v_4) (lv' := [(2, .int v_4), (1, .int v_3), (0, .ref (ad 13))]) hx hb dLa_size_19 hl (k := 2) rfl (by rw [ev_4]; rfl) (by decide) rfl (fun ls hl => ?_)
    refine lv_goto (tgt := 4) hx hb dLa_size_22 (by decide) ?_
    have gv_4 : v_4 = nI (i + 1) := (by rw [ev_4]; exact nI_1 i)
    clear ev_4
    subst v_4
    exact ih_4 _ _ _ _ (by omega) ⟨rfl, rfl, (i + 1), v_3, rfl, (by omega), (by rw [ev_3, ev]; show _ = sumN (S 12) 0 i + S 12 (0 + i); rw [Nat.zero_add]), lv_sub hl [2, 1, 0] rfl⟩

set_option maxHeartbeats 4000000 in
set_option maxRecDepth 100000 in
theorem cMe_keptOnes (l : Launch) (dC : Nat → ClassId) (dI : Nat → Nat → Nat) (ad : Nat → Nat) (ca : Nat → ClassId) (sz : Nat) (S : Ss) : Met l yMe_keptOnes (kMe_keptOnes :: CW) ({ frames := 0, cells := 0, slots := 0, locals := 0 }) (va_Pc [.ref (ad 1)] (gPre (dC, dI) (xT ca) (XW ad ca S) sz)) (vp_Si (fun r => r = sumN (S 1) 24 8)) 0 0 (fun _ => False) := by
  refine Met.ofW (cc := bMe_keptOnes) (maxL := 3) (ret := (some .int)) (by decide) rfl ?_
  intro p e s m args below meth c s₁ B hml hv
  obtain ⟨rfl, hsz, hP, hK, hD0⟩ := hv
  have hx := B.exec
  have hb := B.bytes
  have hr := B.returns
  have hts := atoms_spec (ws := kMe_keptOnes :: CW) B.pre
  have hc : ∀ w ∈ CW, w.before _ s = true := fun w h => hts w (List.mem_cons_of_mem _ h)
  have hown : s.vm.findClass RMe = some m.cls := findClass_of_methodNamed B.named
  have hlocks := B.notSynchronized
  subst hsz
  have hD := hD0
  have hl := lv_entry ([.ref (ad 1)]) (n := 3) (Nat.le_of_ble_eq_true rfl)
  rw [lg_entry_eq]
  generalize (lg_sl ([.ref (ad 1)]) ++ List.replicate (3 - (lg_sl ([.ref (ad 1)])).length) Slot.unset).toArray = ls at hl ⊢
  have hl : lv_has ls 3 [(0, .ref (ad 1))] := hl
  refine lv_iconst (v := 0) hx hb dMe_keptOnes_0 (by decide +kernel) ?_
  refine lv_istore_n (lv' := [(1, .int 0), (0, .ref (ad 1))]) hx hb dMe_keptOnes_1 rfl hl (by decide) rfl (fun ls hl => ?_)
  refine lv_bipush (v := 24) hx hb dMe_keptOnes_2 (by decide +kernel) ?_
  refine lv_istore_n (lv' := [(2, .int 24), (1, .int 0), (0, .ref (ad 1))]) hx hb dMe_keptOnes_4 rfl hl (by decide) rfl (fun ls hl => ?_)
  refine g_loop (fun n H locs ls => H = s.heap ∧ locs = [] ∧ ∃ (i : Nat), ∃ (v : Int32), n = 8 - i ∧ i ≤ 8 ∧ v = sumN (S 1) 24 i ∧ lv_has ls 3 [(0, .ref (ad 1)), (1, .int v), (2, .int (nI (24 + i)))]) ?_ _ _ _ _ ⟨rfl, rfl, 0, 0, rfl, Nat.zero_le _, rfl, lv_sub hl [2, 1, 0] rfl⟩
  rintro n _ _ ls ⟨rfl, rfl, i, v, en_5, hi, ev, hl⟩ ih_5
  refine lv_iload_n hx hb dMe_keptOnes_5 rfl (lv_at hl 2 rfl) ?_
  refine lv_bipush (v := 32) hx hb dMe_keptOnes_6 (by decide +kernel) ?_
  refine lv_icmp_ge (tgt := 26) hx hb dMe_keptOnes_8 (by decide) (fun c_0 => ?_) (fun c_0 => ?_)
  · have p_8 : 32 ≤ (24 + i) := (nI_leI (a := 32) (b := (24 + i)) (by omega) (by omega)).mp c_0
    refine lv_iload_n hx hb dMe_keptOnes_26 rfl (lv_at hl 1 rfl) ?_
    exact W.iret (v := v) hx hb hr (fun t ht hW => ⟨_, rfl, (by rw [ev, show i = 8 by omega]), ht⟩) (fun _ h => nomatch h) dMe_keptOnes_27
  · have p_8 : (24 + i) < 32 := by have := mt (nI_leI (a := 32) (b := (24 + i)) (by omega) (by omega)).mpr c_0; omega
    refine lv_iload_n hx hb dMe_keptOnes_11 rfl (lv_at hl 1 rfl) ?_
    refine lv_aload_n hx hb dMe_keptOnes_12 rfl (lv_at hl 0 rfl) ?_
    refine va_get (D := (dC, dI)) (ci := 1) (v := .ref (ad 2)) (C := RMe) (T := TMe) (N := 5) hx hb hc inMe hown hK hP 1 rfl rfl 0 (by decide) (hc _ w30) (fun _ h9 => h9) rfl dMe_keptOnes_13 ?_
    refine lv_iload_n hx hb dMe_keptOnes_16 rfl (lv_at hl 2 rfl) ?_
    refine va_iald hx hb hK hP 2 0 rfl rfl (vp_in_nI (by omega) (by decide)) dMe_keptOnes_17 ?_
    refine lv_topi (fun v_2 ev_2 => ?_)
    rw [nI_clamp (by omega)] at ev_2
    subst v_2
    refine lv_iadd hx hb dMe_keptOnes_18 ?_
    refine lv_topi (fun v_3 ev_3 => ?_)
    refine lv_istore_n (lv' := [(1, .int v_3), (0, .ref (ad 1)), (2, .int (nI (24 + i)))]) hx hb dMe_keptOnes_19 rfl hl (by decide) rfl (fun ls hl => ?_)
    obtain ⟨v_4, ev_4⟩ : ∃ y : Int32, y = (nI (24 + i)) + 1 := ⟨_, rfl⟩
    refine lv_iinc (v := v_4) (lv' := [(2, .int v_4), (1, .int v_3), (0, .ref (ad 1))]) hx hb dMe_keptOnes_20 hl (k := 2) rfl (by rw [ev_4]; rfl) (by decide) rfl (fun ls hl => ?_)
    refine lv_goto (tgt := 5) hx hb dMe_keptOnes_23 (by decide) ?_
    have gv_4 : v_4 = nI (24 + (i + 1)) := (by rw [ev_4]; exact nI_1 (24 + i))
    clear ev_4
    subst v_4
    exact ih_5 _ _ _ _ (by omega) ⟨rfl, rfl, (i + 1), v_3, rfl, (by omega), (by rw [ev_3, ev]; rfl), lv_sub hl [2, 1, 0] rfl⟩

set_option maxHeartbeats 4000000 in
set_option maxRecDepth 100000 in
theorem cMe_forcedBits (l : Launch) (dC : Nat → ClassId) (dI : Nat → Nat → Nat) (ad : Nat → Nat) (ca : Nat → ClassId) (sz : Nat) (S : Ss) : Met l yMe_forcedBits (kMe_forcedBits :: CW) ({ frames := 0, cells := 0, slots := 0, locals := 0 }) (va_Pc [.ref (ad 1)] (gPre (dC, dI) (xT ca) (XW ad ca S) sz)) (vp_Si (fun r => r = cntF (S 2) 32)) 0 0 (fun _ => False) := by
  refine Met.ofW (cc := bMe_forcedBits) (maxL := 3) (ret := (some .int)) (by decide) rfl ?_
  intro p e s m args below meth c s₁ B hml hv
  obtain ⟨rfl, hsz, hP, hK, hD0⟩ := hv
  have hx := B.exec
  have hb := B.bytes
  have hr := B.returns
  have hts := atoms_spec (ws := kMe_forcedBits :: CW) B.pre
  have hc : ∀ w ∈ CW, w.before _ s = true := fun w h => hts w (List.mem_cons_of_mem _ h)
  have hown : s.vm.findClass RMe = some m.cls := findClass_of_methodNamed B.named
  have hlocks := B.notSynchronized
  subst hsz
  have hD := hD0
  have hl := lv_entry ([.ref (ad 1)]) (n := 3) (Nat.le_of_ble_eq_true rfl)
  rw [lg_entry_eq]
  generalize (lg_sl ([.ref (ad 1)]) ++ List.replicate (3 - (lg_sl ([.ref (ad 1)])).length) Slot.unset).toArray = ls at hl ⊢
  have hl : lv_has ls 3 [(0, .ref (ad 1))] := hl
  refine lv_iconst (v := 0) hx hb dMe_forcedBits_0 (by decide +kernel) ?_
  refine lv_istore_n (lv' := [(1, .int 0), (0, .ref (ad 1))]) hx hb dMe_forcedBits_1 rfl hl (by decide) rfl (fun ls hl => ?_)
  refine lv_iconst (v := 0) hx hb dMe_forcedBits_2 (by decide +kernel) ?_
  refine lv_istore_n (lv' := [(2, .int 0), (1, .int 0), (0, .ref (ad 1))]) hx hb dMe_forcedBits_3 rfl hl (by decide) rfl (fun ls hl => ?_)
  refine g_loop (fun n H locs ls => H = s.heap ∧ locs = [] ∧ ∃ (i : Nat), ∃ (v : Int32), n = 32 - i ∧ i ≤ 32 ∧ v = cntF (S 2) i ∧ lv_has ls 3 [(0, .ref (ad 1)), (1, .int v), (2, .int (nI i))]) ?_ _ _ _ _ ⟨rfl, rfl, 0, 0, rfl, Nat.zero_le _, rfl, lv_sub hl [2, 1, 0] rfl⟩
  rintro n _ _ ls ⟨rfl, rfl, i, v, en_4, hi, ev, hl⟩ ih_4
  refine lv_iload_n hx hb dMe_forcedBits_4 rfl (lv_at hl 2 rfl) ?_
  refine lv_bipush (v := 32) hx hb dMe_forcedBits_5 (by decide +kernel) ?_
  refine lv_icmp_ge (tgt := 29) hx hb dMe_forcedBits_7 (by decide) (fun c_0 => ?_) (fun c_0 => ?_)
  · have p_7 : 32 ≤ i := (nI_leI (a := 32) (b := i) (by omega) (by omega)).mp c_0
    refine lv_iload_n hx hb dMe_forcedBits_29 rfl (lv_at hl 1 rfl) ?_
    exact W.iret (v := v) hx hb hr (fun t ht hW => ⟨_, rfl, (by rw [ev, show i = 32 by omega]), ht⟩) (fun _ h => nomatch h) dMe_forcedBits_30
  · have p_7 : i < 32 := by have := mt (nI_leI (a := 32) (b := i) (by omega) (by omega)).mpr c_0; omega
    refine lv_aload_n hx hb dMe_forcedBits_10 rfl (lv_at hl 0 rfl) ?_
    refine va_get (D := (dC, dI)) (ci := 1) (v := .ref (ad 3)) (C := RMe) (T := TMe) (N := 5) hx hb hc inMe hown hK hP 1 rfl rfl 1 (by decide) (hc _ w31) (fun _ h9 => h9) rfl dMe_forcedBits_11 ?_
    refine lv_iload_n hx hb dMe_forcedBits_14 rfl (lv_at hl 2 rfl) ?_
    refine va_iald hx hb hK hP 3 1 rfl rfl (vp_in_nI (by omega) (by decide)) dMe_forcedBits_15 ?_
    refine lv_topi (fun v_2 ev_2 => ?_)
    rw [nI_clamp (by omega)] at ev_2
    subst v_2
    refine lv_iconst (v := (-1)) hx hb dMe_forcedBits_16 (by decide +kernel) ?_
    refine lv_icmp_eq (tgt := 23) hx hb dMe_forcedBits_17 (by decide) (fun c_2 => ?_) (fun c_2 => ?_)
    · obtain ⟨v_4, ev_4⟩ : ∃ y : Int32, y = (nI i) + 1 := ⟨_, rfl⟩
      refine lv_iinc (v := v_4) (lv' := [(2, .int v_4), (0, .ref (ad 1)), (1, .int v)]) hx hb dMe_forcedBits_23 hl (k := 2) rfl (by rw [ev_4]; rfl) (by decide) rfl (fun ls hl => ?_)
      refine lv_goto (tgt := 4) hx hb dMe_forcedBits_26 (by decide) ?_
      have gv_4 : v_4 = nI (i + 1) := (by rw [ev_4]; exact nI_1 i)
      clear ev_4
      subst v_4
      exact ih_4 _ _ _ _ (by omega) ⟨rfl, rfl, (i + 1), v, rfl, (by omega), (by show _ = if S 2 i = -1 then cntF (S 2) i else cntF (S 2) i + 1; first | rw [if_pos c_2]; exact ev | rw [if_neg c_2, ev, ev]), lv_sub hl [1, 2, 0] rfl⟩
    · obtain ⟨v_5, ev_5⟩ : ∃ y : Int32, y = v + 1 := ⟨_, rfl⟩
      refine lv_iinc (v := v_5) (lv' := [(1, .int v_5), (0, .ref (ad 1)), (2, .int (nI i))]) hx hb dMe_forcedBits_20 hl (k := 1) rfl (by rw [ev_5]; rfl) (by decide) rfl (fun ls hl => ?_)
      obtain ⟨v_6, ev_6⟩ : ∃ y : Int32, y = (nI i) + 1 := ⟨_, rfl⟩
      refine lv_iinc (v := v_6) (lv' := [(2, .int v_6), (1, .int v_5), (0, .ref (ad 1))]) hx hb dMe_forcedBits_23 hl (k := 2) rfl (by rw [ev_6]; rfl) (by decide) rfl (fun ls hl => ?_)
      refine lv_goto (tgt := 4) hx hb dMe_forcedBits_26 (by decide) ?_
      have gv_6 : v_6 = nI (i + 1) := (by rw [ev_6]; exact nI_1 i)
      clear ev_6
      subst v_6
      exact ih_4 _ _ _ _ (by omega) ⟨rfl, rfl, (i + 1), v_5, rfl, (by omega), (by show _ = if S 2 i = -1 then cntF (S 2) i else cntF (S 2) i + 1; first | rw [if_pos c_2]; exact ev | rw [if_neg c_2, ev_5, ev]), lv_sub hl [2, 1, 0] rfl⟩

set_option maxHeartbeats 4000000 in
set_option maxRecDepth 100000 in
theorem cLa_stackAllows (l : Launch) (dC : Nat → ClassId) (dI : Nat → Nat → Nat) (ad : Nat → Nat) (ca : Nat → ClassId) (sz : Nat) (S : Ss) (k : Nat) (a : Int32) (hk : k < 12) : Met l yLa_stackAllows (kLa_stackAllows :: CW) ({ frames := 2, cells := 0, slots := 0, locals := 40 }) (va_Pc [.ref (ad 8), .int (nI k), .int a] (gPre (dC, dI) (xT ca) (XW ad ca S) sz)) (vp_Si (fun r => r = b2 ((if psh a then 0 else if jns a then 2 else 1) ≤ S 9 k ∧ S 9 k + (if psh a then 1 else if jns a then -1 else 0) ≤ 4))) 0 0 (fun _ => False) := by
  refine Met.ofW (cc := bLa_stackAllows) (maxL := 3) (ret := (some .boolean)) (by decide) rfl ?_
  intro p e s m args below meth c s₁ B hml hv
  obtain ⟨rfl, hsz, hP, hK, hD0⟩ := hv
  have hx := B.exec
  have hb := B.bytes
  have hr := B.returns
  have hts := atoms_spec (ws := kLa_stackAllows :: CW) B.pre
  have hc : ∀ w ∈ CW, w.before _ s = true := fun w h => hts w (List.mem_cons_of_mem _ h)
  have hown : s.vm.findClass RLa = some m.cls := findClass_of_methodNamed B.named
  have hlocks := B.notSynchronized
  subst hsz
  have hD := hD0
  have hl := lv_entry ([.ref (ad 8), .int (nI k), .int a]) (n := 3) (Nat.le_of_ble_eq_true rfl)
  rw [lg_entry_eq]
  generalize (lg_sl ([.ref (ad 8), .int (nI k), .int a]) ++ List.replicate (3 - (lg_sl ([.ref (ad 8), .int (nI k), .int a])).length) Slot.unset).toArray = ls at hl ⊢
  have hl : lv_has ls 3 [(0, .ref (ad 8)), (1, .int (nI k)), (2, .int a)] := hl
  refine lv_aload_n hx hb dLa_stackAllows_0 rfl (lv_at hl 0 rfl) ?_
  refine va_get (D := (dC, dI)) (ci := 3) (v := .ref (ad 12)) (C := RLa) (T := TLa) (N := 4) hx hb hc inLa hown hK hP 8 rfl rfl 3 (by decide) (hc _ w66) (fun _ h9 => h9) rfl dLa_stackAllows_1 ?_
  refine lv_iload_n hx hb dLa_stackAllows_4 rfl (lv_at hl 1 rfl) ?_
  refine va_iald hx hb hK hP 12 9 rfl rfl (vp_in_nI (by omega) (by decide)) dLa_stackAllows_5 ?_
  refine lv_topi (fun v_1 ev_1 => ?_)
  rw [nI_clamp (by omega)] at ev_1
  subst v_1
  refine lv_iload_n hx hb dLa_stackAllows_6 rfl (lv_at hl 2 rfl) ?_
  refine vp_callSi (va_Run.run (va_runS (As := [.int a]) (rest := [.int (S 9 k)]) ⟨hx, hb, hml, hown, hc⟩ (cLa_needed l a) (va_cwS 1 hc (g_S w356 w357 w3 qLa_needed) rfl rfl rfl (by decide +kernel) ⟨Nat.le_of_ble_eq_true rfl, Nat.le_of_ble_eq_true rfl⟩) ⟨tPre_blind, tPre_in⟩ rfl rfl hl.1 rfl (lv_room (Nat.le_of_ble_eq_true rfl)) dLa_stackAllows_7 ⟨Nat.zero_le _, Nat.zero_le _⟩)) (fun r_2 hr_2 => ?_)
  refine lv_icmp_lt (tgt := 32) hx hb dLa_stackAllows_10 (by decide) (fun c_2 => ?_) (fun c_2 => ?_)
  · refine lv_iconst (v := 0) hx hb dLa_stackAllows_32 (by decide +kernel) ?_
    exact W.zret (v := 0) (ty := .boolean) hx hb hr rfl (fun t ht hW => ⟨_, rfl, (b2_f (fun h => by rw [← hr_2] at h; exact Int32.not_lt.mpr h.1 c_2)).symm, ht⟩) (fun _ h => nomatch h) dLa_stackAllows_33
  · refine lv_aload_n hx hb dLa_stackAllows_13 rfl (lv_at hl 0 rfl) ?_
    refine va_get (D := (dC, dI)) (ci := 3) (v := .ref (ad 12)) (C := RLa) (T := TLa) (N := 4) hx hb hc inLa hown hK hP 8 rfl rfl 3 (by decide) (hc _ w66) (fun _ h9 => h9) rfl dLa_stackAllows_14 ?_
    refine lv_iload_n hx hb dLa_stackAllows_17 rfl (lv_at hl 1 rfl) ?_
    refine va_iald hx hb hK hP 12 9 rfl rfl (vp_in_nI (by omega) (by decide)) dLa_stackAllows_18 ?_
    refine lv_topi (fun v_4 ev_4 => ?_)
    rw [nI_clamp (by omega)] at ev_4
    subst v_4
    refine lv_iload_n hx hb dLa_stackAllows_19 rfl (lv_at hl 2 rfl) ?_
    refine vp_callSi (va_Run.run (va_runS (As := [.int a]) (rest := [.int (S 9 k)]) ⟨hx, hb, hml, hown, hc⟩ (cLa_growth l a) (va_cwS 1 hc (g_S w365 w366 w3 qLa_growth) rfl rfl rfl (by decide +kernel) ⟨Nat.le_of_ble_eq_true rfl, Nat.le_of_ble_eq_true rfl⟩) ⟨tPre_blind, tPre_in⟩ rfl rfl hl.1 rfl (lv_room (Nat.le_of_ble_eq_true rfl)) dLa_stackAllows_20 ⟨Nat.zero_le _, Nat.zero_le _⟩)) (fun r_5 hr_5 => ?_)
    refine lv_iadd hx hb dLa_stackAllows_23 ?_
    refine lv_iconst (v := 4) hx hb dLa_stackAllows_24 (by decide +kernel) ?_
    refine lv_icmp_gt (tgt := 32) hx hb dLa_stackAllows_25 (by decide) (fun c_5 => ?_) (fun c_5 => ?_)
    · refine lv_iconst (v := 0) hx hb dLa_stackAllows_32 (by decide +kernel) ?_
      exact W.zret (v := 0) (ty := .boolean) hx hb hr rfl (fun t ht hW => ⟨_, rfl, (b2_f (fun h => by rw [← hr_5] at h; exact Int32.not_lt.mpr h.2 c_5)).symm, ht⟩) (fun _ h => nomatch h) dLa_stackAllows_33
    · refine lv_iconst (v := 1) hx hb dLa_stackAllows_28 (by decide +kernel) ?_
      refine lv_goto (tgt := 33) hx hb dLa_stackAllows_29 (by decide) ?_
      exact W.zret (v := 1) (ty := .boolean) hx hb hr rfl (fun t ht hW => ⟨_, rfl, (b2_t ⟨by rw [← hr_2]; exact Int32.not_lt.mp c_2, by rw [← hr_5]; exact Int32.not_lt.mp c_5⟩).symm, ht⟩) (fun _ h => nomatch h) dLa_stackAllows_33

set_option maxHeartbeats 4000000 in
set_option maxRecDepth 100000 in
theorem cBl_failsWith (l : Launch) (dC : Nat → ClassId) (dI : Nat → Nat → Nat) (ad : Nat → Nat) (ca : Nat → ClassId) (sz : Nat) (S : Ss) (j : Nat) (hj : j < 10) (x : Int32) : Met l yBl_failsWith (kBl_failsWith :: CW) ({ frames := 0, cells := 0, slots := 0, locals := 0 }) (va_Pc [.ref (ad (18 + j)), .int x] (gPre (dC, dI) (xT ca) (XW ad ca S) sz)) (vp_Si (fun r => r = b2 (failB S j x))) 0 0 (fun _ => False) := by
  refine Met.ofW (cc := bBl_failsWith) (maxL := 2) (ret := (some .boolean)) (by decide) rfl ?_
  intro p e s m args below meth c s₁ B hml hv
  obtain ⟨rfl, hsz, hP, hK, hD0⟩ := hv
  have hx := B.exec
  have hb := B.bytes
  have hr := B.returns
  have hts := atoms_spec (ws := kBl_failsWith :: CW) B.pre
  have hc : ∀ w ∈ CW, w.before _ s = true := fun w h => hts w (List.mem_cons_of_mem _ h)
  have hown : s.vm.findClass RBl = some m.cls := findClass_of_methodNamed B.named
  have hlocks := B.notSynchronized
  subst hsz
  have hD := hD0
  have hl := lv_entry ([.ref (ad (18 + j)), .int x]) (n := 2) (Nat.le_of_ble_eq_true rfl)
  rw [lg_entry_eq]
  generalize (lg_sl ([.ref (ad (18 + j)), .int x]) ++ List.replicate (2 - (lg_sl ([.ref (ad (18 + j)), .int x])).length) Slot.unset).toArray = ls at hl ⊢
  have hl : lv_has ls 2 [(0, .ref (ad (18 + j))), (1, .int x)] := hl
  refine lv_aload_n hx hb dBl_failsWith_0 rfl (lv_at hl 0 rfl) ?_
  refine va_get (D := (dC, dI)) (ci := 2) (v := .int (S 14 j)) (C := RBl) (T := TBl) (N := 8) hx hb hc inBl hown hK hP (18 + j) (xb_cell (by omega)) rfl 0 (by decide) (hc _ w81) (fun _ h9 => h9) rfl dBl_failsWith_1 ?_
  refine lv_bipush (v := 6) hx hb dBl_failsWith_4 (by decide +kernel) ?_
  refine lv_icmp_ne (tgt := 25) hx hb dBl_failsWith_6 (by decide) (fun c_0 => ?_) (fun c_0 => ?_)
  · refine lv_iconst (v := 0) hx hb dBl_failsWith_25 (by decide +kernel) ?_
    exact W.zret (v := 0) (ty := .boolean) hx hb hr rfl (fun t ht hW => ⟨_, rfl, (b2_f (by (try simp only [failB, Int32.lt_iff_toInt_lt, Int32.le_iff_toInt_le, ← Int32.toInt_inj, Int32.reduceToInt] at c_0); (try simp only [failB, Int32.lt_iff_toInt_lt, Int32.le_iff_toInt_le, ← Int32.toInt_inj, Int32.reduceToInt]); omega)).symm, ht⟩) (fun _ h => nomatch h) dBl_failsWith_26
  · refine lv_iload_n hx hb dBl_failsWith_9 rfl (lv_at hl 1 rfl) ?_
    refine lv_iconst (v := 1) hx hb dBl_failsWith_10 (by decide +kernel) ?_
    refine lv_icmp_ne (tgt := 25) hx hb dBl_failsWith_11 (by decide) (fun c_1 => ?_) (fun c_1 => ?_)
    · refine lv_iconst (v := 0) hx hb dBl_failsWith_25 (by decide +kernel) ?_
      exact W.zret (v := 0) (ty := .boolean) hx hb hr rfl (fun t ht hW => ⟨_, rfl, (b2_f (by (try simp only [failB, Int32.lt_iff_toInt_lt, Int32.le_iff_toInt_le, ← Int32.toInt_inj, Int32.reduceToInt] at c_0); (try simp only [failB, Int32.lt_iff_toInt_lt, Int32.le_iff_toInt_le, ← Int32.toInt_inj, Int32.reduceToInt] at c_1); (try simp only [failB, Int32.lt_iff_toInt_lt, Int32.le_iff_toInt_le, ← Int32.toInt_inj, Int32.reduceToInt]); omega)).symm, ht⟩) (fun _ h => nomatch h) dBl_failsWith_26
    · refine lv_aload_n hx hb dBl_failsWith_14 rfl (lv_at hl 0 rfl) ?_
      refine va_get (D := (dC, dI)) (ci := 2) (v := .int (S 17 j)) (C := RBl) (T := TBl) (N := 8) hx hb hc inBl hown hK hP (18 + j) (xb_cell (by omega)) rfl 3 (by decide) (hc _ w85) (fun _ h9 => h9) rfl dBl_failsWith_15 ?_
      refine lv_if_ne (tgt := 25) hx hb dBl_failsWith_18 (by decide) (fun c_2 => ?_) (fun c_2 => ?_)
      · refine lv_iconst (v := 0) hx hb dBl_failsWith_25 (by decide +kernel) ?_
        exact W.zret (v := 0) (ty := .boolean) hx hb hr rfl (fun t ht hW => ⟨_, rfl, (b2_f (by (try simp only [failB, Int32.lt_iff_toInt_lt, Int32.le_iff_toInt_le, ← Int32.toInt_inj, Int32.reduceToInt] at c_0); (try simp only [failB, Int32.lt_iff_toInt_lt, Int32.le_iff_toInt_le, ← Int32.toInt_inj, Int32.reduceToInt] at c_1); (try simp only [failB, Int32.lt_iff_toInt_lt, Int32.le_iff_toInt_le, ← Int32.toInt_inj, Int32.reduceToInt] at c_2); (try simp only [failB, Int32.lt_iff_toInt_lt, Int32.le_iff_toInt_le, ← Int32.toInt_inj, Int32.reduceToInt]); omega)).symm, ht⟩) (fun _ h => nomatch h) dBl_failsWith_26
      · refine lv_iconst (v := 1) hx hb dBl_failsWith_21 (by decide +kernel) ?_
        refine lv_goto (tgt := 26) hx hb dBl_failsWith_22 (by decide) ?_
        exact W.zret (v := 1) (ty := .boolean) hx hb hr rfl (fun t ht hW => ⟨_, rfl, (b2_t (by (try simp only [failB, Int32.lt_iff_toInt_lt, Int32.le_iff_toInt_le, ← Int32.toInt_inj, Int32.reduceToInt] at c_0); (try simp only [failB, Int32.lt_iff_toInt_lt, Int32.le_iff_toInt_le, ← Int32.toInt_inj, Int32.reduceToInt] at c_1); (try simp only [failB, Int32.lt_iff_toInt_lt, Int32.le_iff_toInt_le, ← Int32.toInt_inj, Int32.reduceToInt] at c_2); (try simp only [failB, Int32.lt_iff_toInt_lt, Int32.le_iff_toInt_le, ← Int32.toInt_inj, Int32.reduceToInt]); omega)).symm, ht⟩) (fun _ h => nomatch h) dBl_failsWith_26

set_option maxHeartbeats 4000000 in
set_option maxRecDepth 100000 in
theorem cBl_countWith (l : Launch) (dC : Nat → ClassId) (dI : Nat → Nat → Nat) (ad : Nat → Nat) (ca : Nat → ClassId) (sz : Nat) (S : Ss) (j : Nat) (hj : j < 10) (x y : Int32) : Met l yBl_countWith (kBl_countWith :: CW) ({ frames := 1, cells := 0, slots := 0, locals := 23 }) (va_Pc [.ref (ad (18 + j)), .int x, .int y] (gPre (dC, dI) (xT ca) (XW ad ca S) sz)) (vp_Si (fun r => r = if y = 1 then 0 else if x = 1 ∧ S 21 j = 0 then (if S 15 j < S 20 j + 1 then S 15 j else S 20 j + 1) else S 20 j)) 0 0 (fun _ => False) := by
  refine Met.ofW (cc := bBl_countWith) (maxL := 3) (ret := (some .int)) (by decide) rfl ?_
  intro p e s m args below meth c s₁ B hml hv
  obtain ⟨rfl, hsz, hP, hK, hD0⟩ := hv
  have hx := B.exec
  have hb := B.bytes
  have hr := B.returns
  have hts := atoms_spec (ws := kBl_countWith :: CW) B.pre
  have hc : ∀ w ∈ CW, w.before _ s = true := fun w h => hts w (List.mem_cons_of_mem _ h)
  have hown : s.vm.findClass RBl = some m.cls := findClass_of_methodNamed B.named
  have hlocks := B.notSynchronized
  subst hsz
  have hD := hD0
  have hl := lv_entry ([.ref (ad (18 + j)), .int x, .int y]) (n := 3) (Nat.le_of_ble_eq_true rfl)
  rw [lg_entry_eq]
  generalize (lg_sl ([.ref (ad (18 + j)), .int x, .int y]) ++ List.replicate (3 - (lg_sl ([.ref (ad (18 + j)), .int x, .int y])).length) Slot.unset).toArray = ls at hl ⊢
  have hl : lv_has ls 3 [(0, .ref (ad (18 + j))), (1, .int x), (2, .int y)] := hl
  refine lv_iload_n hx hb dBl_countWith_0 rfl (lv_at hl 2 rfl) ?_
  refine lv_iconst (v := 1) hx hb dBl_countWith_1 (by decide +kernel) ?_
  refine lv_icmp_ne (tgt := 7) hx hb dBl_countWith_2 (by decide) (fun c_0 => ?_) (fun c_0 => ?_)
  · refine lv_iload_n hx hb dBl_countWith_7 rfl (lv_at hl 1 rfl) ?_
    refine lv_iconst (v := 1) hx hb dBl_countWith_8 (by decide +kernel) ?_
    refine lv_icmp_ne (tgt := 35) hx hb dBl_countWith_9 (by decide) (fun c_1 => ?_) (fun c_1 => ?_)
    · refine lv_aload_n hx hb dBl_countWith_35 rfl (lv_at hl 0 rfl) ?_
      refine va_get (D := (dC, dI)) (ci := 2) (v := .int (S 20 j)) (C := RBl) (T := TBl) (N := 8) hx hb hc inBl hown hK hP (18 + j) (xb_cell (by omega)) rfl 6 (by decide) (hc _ w91) (fun _ h9 => h9) rfl dBl_countWith_36 ?_
      exact W.iret (v := (S 20 j)) hx hb hr (fun t ht hW => ⟨_, rfl, (by simp [c_0, c_1]), ht⟩) (fun _ h => nomatch h) dBl_countWith_39
    · refine lv_aload_n hx hb dBl_countWith_12 rfl (lv_at hl 0 rfl) ?_
      refine va_get (D := (dC, dI)) (ci := 2) (v := .int (S 21 j)) (C := RBl) (T := TBl) (N := 8) hx hb hc inBl hown hK hP (18 + j) (xb_cell (by omega)) rfl 7 (by decide) (hc _ w93) (fun _ h9 => h9) rfl dBl_countWith_13 ?_
      refine lv_if_ne (tgt := 35) hx hb dBl_countWith_16 (by decide) (fun c_2 => ?_) (fun c_2 => ?_)
      · refine lv_aload_n hx hb dBl_countWith_35 rfl (lv_at hl 0 rfl) ?_
        refine va_get (D := (dC, dI)) (ci := 2) (v := .int (S 20 j)) (C := RBl) (T := TBl) (N := 8) hx hb hc inBl hown hK hP (18 + j) (xb_cell (by omega)) rfl 6 (by decide) (hc _ w91) (fun _ h9 => h9) rfl dBl_countWith_36 ?_
        exact W.iret (v := (S 20 j)) hx hb hr (fun t ht hW => ⟨_, rfl, (by simp [c_0, c_1, c_2]), ht⟩) (fun _ h => nomatch h) dBl_countWith_39
      · refine lv_aload_n hx hb dBl_countWith_19 rfl (lv_at hl 0 rfl) ?_
        refine va_get (D := (dC, dI)) (ci := 2) (v := .int (S 20 j)) (C := RBl) (T := TBl) (N := 8) hx hb hc inBl hown hK hP (18 + j) (xb_cell (by omega)) rfl 6 (by decide) (hc _ w91) (fun _ h9 => h9) rfl dBl_countWith_20 ?_
        refine lv_iconst (v := 1) hx hb dBl_countWith_23 (by decide +kernel) ?_
        refine lv_iadd hx hb dBl_countWith_24 ?_
        refine lv_aload_n hx hb dBl_countWith_25 rfl (lv_at hl 0 rfl) ?_
        refine va_get (D := (dC, dI)) (ci := 2) (v := .int (S 15 j)) (C := RBl) (T := TBl) (N := 8) hx hb hc inBl hown hK hP (18 + j) (xb_cell (by omega)) rfl 1 (by decide) (hc _ w83) (fun _ h9 => h9) rfl dBl_countWith_26 ?_
        refine va_mmin hx hb (by rw [hml]; exact hl.1.symm) hown (hc _ w440) (hc _ w441) (hc _ w14) (hc _ w442) (Nat.le_of_ble_eq_true rfl) (Nat.le_of_ble_eq_true rfl) (Nat.zero_le _) (Nat.zero_le _) dBl_countWith_29 ?_
        refine lv_topi (fun v_4 ev_4 => ?_)
        refine lv_goto (tgt := 39) hx hb dBl_countWith_32 (by decide) ?_
        exact W.iret (v := v_4) hx hb hr (fun t ht hW => ⟨_, rfl, (by simp [c_0, c_1, c_2, ev_4]), ht⟩) (fun _ h => nomatch h) dBl_countWith_39
  · refine lv_iconst (v := 0) hx hb dBl_countWith_5 (by decide +kernel) ?_
    exact W.iret (v := 0) hx hb hr (fun t ht hW => ⟨_, rfl, (by simp [c_0]), ht⟩) (fun _ h => nomatch h) dBl_countWith_6
end
section
/-! longs as whole numbers -/
theorem lT_add {a b : Int64} (h1 : -9223372036854775808 ≤ a.toInt + b.toInt) (h2 : a.toInt + b.toInt < 9223372036854775808) : (a + b).toInt = a.toInt + b.toInt := by
  have e : (a + b).toInt = (a.toInt + b.toInt).bmod (2 ^ 64) := BitVec.toInt_add a.toBitVec b.toBitVec
  rw [e]
  exact Int.bmod_eq_of_le (by omega) (by omega)
theorem lT_sub {a b : Int64} (h1 : -9223372036854775808 ≤ a.toInt - b.toInt) (h2 : a.toInt - b.toInt < 9223372036854775808) : (a - b).toInt = a.toInt - b.toInt := by
  have e : (a - b).toInt = (a.toInt - b.toInt).bmod (2 ^ 64) := by exact BitVec.toInt_sub
  rw [e]
  exact Int.bmod_eq_of_le (by omega) (by omega)
theorem lT_mul {a b : Int64} (h1 : -9223372036854775808 ≤ a.toInt * b.toInt) (h2 : a.toInt * b.toInt < 9223372036854775808) : (a * b).toInt = a.toInt * b.toInt := by
  have e : (a * b).toInt = (a.toInt * b.toInt).bmod (2 ^ 64) := BitVec.toInt_mul a.toBitVec b.toBitVec
  rw [e]
  exact Int.bmod_eq_of_le (by omega) (by omega)
theorem lT_div {a b : Int64} (h : -9223372036854775808 < a.toInt) : (a / b).toInt = a.toInt.tdiv b.toInt := by
  refine Int64.toInt_div_of_ne_left a b (fun e => ?_)
  rw [e] at h
  exact absurd h (by decide)
theorem lT_xor (x y : Int64) : (0 ≤ x ^^^ y) ↔ (x.toInt < 0 ↔ y.toInt < 0) := by
  have h : (x ^^^ y).toBitVec.msb = (x.toBitVec.msb ^^ y.toBitVec.msb) := BitVec.msb_xor
  rw [BitVec.msb_eq_toInt, BitVec.msb_eq_toInt, BitVec.msb_eq_toInt] at h
  rw [Int64.le_iff_toInt_le]
  show (0 : Int) ≤ (x ^^^ y).toBitVec.toInt ↔ (x.toBitVec.toInt < 0 ↔ y.toBitVec.toInt < 0)
  generalize (x ^^^ y).toBitVec.toInt = z at h ⊢
  generalize x.toBitVec.toInt = a at h ⊢
  generalize y.toBitVec.toInt = b at h ⊢
  by_cases h0 : z < 0 <;> by_cases h1 : a < 0 <;> by_cases h2 : b < 0 <;> simp [h0, h1, h2] at h ⊢ <;> omega
/-- a quotient times the divisor -/
theorem tdm_le (a b : Int) : (a.tdiv b * b).natAbs ≤ a.natAbs := by
  rw [Int.natAbs_mul, Int.natAbs_tdiv]
  exact Nat.div_mul_le_self _ _
theorem tdm_dvd {a b : Int} : a.tdiv b * b = a ↔ b ∣ a := ⟨fun h => ⟨a.tdiv b, by rw [Int.mul_comm]; exact h.symm⟩, fun h => Int.tdiv_mul_cancel h⟩
theorem fd_same {a b : Int} (hb : b ≠ 0) (h : a < 0 ↔ b < 0) : a.tdiv b = a.fdiv b := by
  rw [Int.fdiv_eq_tdiv]
  by_cases hd : b ∣ a
  · simp [hd]
  · rw [if_neg hd]
    by_cases ha : 0 ≤ a
    · rw [if_pos ha, if_pos (by omega)]; omega
    · rw [if_neg ha, if_neg (by omega), Int.sign_eq_neg_one_of_neg (by omega)]; omega
theorem fd_dvd {a b : Int} (h : b ∣ a) : a.tdiv b = a.fdiv b := by
  rw [Int.fdiv_eq_tdiv, if_pos h]; omega
theorem fd_diff {a b : Int} (hb : b ≠ 0) (h : ¬ (a < 0 ↔ b < 0)) (hd : ¬ b ∣ a) : a.tdiv b - 1 = a.fdiv b := by
  rw [Int.fdiv_eq_tdiv, if_neg hd]
  by_cases ha : 0 ≤ a
  · rw [if_pos ha, if_neg (by omega)]
  · rw [if_neg ha, if_pos (by omega), Int.sign_eq_one_of_pos (by omega)]
theorem fd_abs (a b : Int) : (a.tdiv b).natAbs ≤ a.natAbs := by
  rw [Int.natAbs_tdiv]
  exact Nat.div_le_self _ _
/-- a product of two numbers of registers' size -/
theorem rp_mul {a b : Int} (h1 : -65536 ≤ a) (h2 : a ≤ 65536) (h3 : -65536 ≤ b) (h4 : b ≤ 65536) : -4294967296 ≤ a * b ∧ a * b ≤ 4294967296 := by
  have h : (a * b).natAbs ≤ 65536 * 65536 := by
    rw [Int.natAbs_mul]
    exact Nat.mul_le_mul (by omega) (by omega)
  omega
theorem fitI_id {v : Int32} (h1 : -65536 ≤ v.toInt) (h2 : v.toInt ≤ 65536) : fitI v.toInt = v := by
  unfold fitI
  rw [show max (-65536) (min 65536 v.toInt) = v.toInt by omega]
  exact Int32.ofInt_toInt v
theorem fitI_rng (z : Int) : -65536 ≤ (fitI z).toInt ∧ (fitI z).toInt ≤ 65536 := by
  unfold fitI
  rw [Int32.toInt_ofInt_of_le (by omega) (by omega)]
  omega
theorem fitI_l {x : Int64} {z : Int} (h1 : x.toInt = max (-65536) (min 65536 z)) : x.toInt32 = fitI z := by
  unfold fitI
  rw [← h1, ← Int32.toInt_inj, Int64.toInt_toInt32, Int32.toInt_ofInt_of_le (by omega) (by omega)]
  exact Int.bmod_eq_of_le (by omega) (by omega)
end
section
/-- a number of a register's size -/
abbrev rng (v : Int32) : Prop := -65536 ≤ v.toInt ∧ v.toInt ≤ 65536
theorem lm_mul {v f : Int32} (hv : rng v) (hf : rng f) : (v.toInt64 * f.toInt64).toInt = v.toInt * f.toInt ∧ -4294967296 ≤ v.toInt * f.toInt ∧ v.toInt * f.toInt ≤ 4294967296 := by
  have h := rp_mul hv.1 hv.2 hf.1 hf.2
  refine ⟨?_, h⟩
  rw [lT_mul, Int32.toInt_toInt64, Int32.toInt_toInt64]
  · rw [Int32.toInt_toInt64, Int32.toInt_toInt64]; omega
  · rw [Int32.toInt_toInt64, Int32.toInt_toInt64]; omega
theorem lm_mul8 {v : Int32} (hv : rng v) : (v.toInt64 * 8).toInt = v.toInt * 8 := by
  have e : (8 : Int64).toInt = 8 := rfl
  obtain ⟨h1, h2⟩ := hv
  rw [lT_mul, Int32.toInt_toInt64, e]
  · rw [Int32.toInt_toInt64, e]; omega
  · rw [Int32.toInt_toInt64, e]; omega
theorem fd_bound {a b : Int} (hb : b ≠ 0) : (a.fdiv b).natAbs ≤ a.natAbs + 1 := by
  have h1 := fd_abs a b
  rw [Int.tdiv_eq_fdiv] at h1
  by_cases hd : b ∣ a
  · rw [if_pos hd] at h1; omega
  · rw [if_neg hd] at h1
    by_cases ha : 0 ≤ a
    · rw [if_pos ha] at h1
      by_cases hb0 : 0 ≤ b
      · rw [if_pos hb0] at h1; omega
      · rw [if_neg hb0] at h1; omega
    · rw [if_neg ha] at h1
      by_cases hb0 : 0 ≤ b
      · rw [if_pos hb0, Int.sign_eq_one_of_pos (by omega)] at h1; omega
      · rw [if_neg hb0, Int.sign_eq_neg_one_of_neg (by omega)] at h1; omega
/-- what reckon answers -/
def rkn (k v f o : Int32) : Int := if k = 5 then Int.fdiv (v.toInt * f.toInt) 8 + o.toInt else if k = 7 then max o.toInt (min f.toInt v.toInt) else if f = 0 then 0 else Int.fdiv (v.toInt * 8) f.toInt
theorem rk_clc {k v f o : Int32} (hk : k = 5 ∨ k = 6 ∨ k = 7) (hv : rng v) (hf : rng f) (ho : rng o) (h7 : k = 7 → o ≤ f) (h6 : k = 6 → f ≠ 0) : fitI (rkn k v f o) = clc k v f o := by
  unfold rkn clc
  rcases hk with rfl | rfl | rfl
  · simp
  · have := h6 rfl
    simp [this, Int.mul_comm]
  · have h := Int32.le_iff_toInt_le.mp (h7 rfl)
    simp only [show ¬ (7 : Int32) = 5 by decide, if_false, if_true]
    by_cases h1 : v < o
    · rw [if_pos h1]
      have h2 := Int32.lt_iff_toInt_lt.mp h1
      rw [show max o.toInt (min f.toInt v.toInt) = o.toInt by omega]
      exact fitI_id ho.1 ho.2
    · rw [if_neg h1]
      have h2 : ¬ v.toInt < o.toInt := fun z => h1 (Int32.lt_iff_toInt_lt.mpr z)
      by_cases h3 : f < v
      · rw [if_pos h3]
        have h4 := Int32.lt_iff_toInt_lt.mp h3
        rw [show max o.toInt (min f.toInt v.toInt) = f.toInt by omega]
        exact fitI_id hf.1 hf.2
      · rw [if_neg h3]
        have h4 : ¬ f.toInt < v.toInt := fun z => h3 (Int32.lt_iff_toInt_lt.mpr z)
        rw [show max o.toInt (min f.toInt v.toInt) = v.toInt by omega]
        exact fitI_id hv.1 hv.2
/-- Math's max and min of longs, as whole numbers -/
theorem lmx {x y : Int64} : (if y < x then x else y).toInt = max x.toInt y.toInt := by
  by_cases h : y < x
  · rw [if_pos h]; have := Int64.lt_iff_toInt_lt.mp h; omega
  · rw [if_neg h]; have : ¬ y.toInt < x.toInt := fun z => h (Int64.lt_iff_toInt_lt.mpr z); omega
theorem lmn {x y : Int64} : (if y < x then y else x).toInt = min x.toInt y.toInt := by
  by_cases h : y < x
  · rw [if_pos h]; have := Int64.lt_iff_toInt_lt.mp h; omega
  · rw [if_neg h]; have : ¬ y.toInt < x.toInt := fun z => h (Int64.lt_iff_toInt_lt.mpr z); omega
end
section
set_option maxHeartbeats 4000000 in
set_option maxRecDepth 100000 in
theorem cMa_floorDiv (l : Launch) (x y : Int64) (hx1 : -1152921504606846976 ≤ x.toInt) (hx2 : x.toInt ≤ 1152921504606846976) (hy0 : y.toInt ≠ 0)  : Met l yMa_floorDiv (kMa_floorDiv :: CW) ({ frames := 0, cells := 0, slots := 0, locals := 0 }) (va_Pc [.long x, .long y] (fun _ => True)) (vp_Sl (fun r => r.toInt = Int.fdiv x.toInt y.toInt)) 0 0 (fun _ => False) := by
  refine va_MetF (cc := bMa_floorDiv) (maxL := 6) (ret := (some .long)) (by decide +kernel) rfl ?_
  intro p e s m args below meth c s₁ B hml hv
  obtain ⟨rfl, -⟩ := hv
  have hx := B.exec
  have hb := B.bytes
  have hr := B.returns
  have hts := atoms_spec (ws := kMa_floorDiv :: CW) B.pre
  have hc : ∀ w ∈ CW, w.before _ s = true := fun w h => hts w (List.mem_cons_of_mem _ h)
  have hown : s.vm.findClass RMa = some m.cls := findClass_of_methodNamed B.named
  have hlocks := B.notSynchronized
  have hl := lv_entry ([.long x, .long y]) (n := 6) (Nat.le_of_ble_eq_true rfl)
  rw [lg_entry_eq]
  generalize (lg_sl ([.long x, .long y]) ++ List.replicate (6 - (lg_sl ([.long x, .long y])).length) Slot.unset).toArray = ls at hl ⊢
  have hl : lv_has ls 6 [(0, .long x), (2, .long y)] := hl
  refine lv_lload_n hx hb dMa_floorDiv_0 rfl (lv_at hl 0 rfl) ?_
  refine lv_lload_n hx hb dMa_floorDiv_1 rfl (lv_at hl 1 rfl) ?_
  refine lv_ldiv hx hb dMa_floorDiv_2 (fun h => hy0 (by rw [h]; rfl)) ?_
  refine lv_topl (fun v_1 ev_1 => ?_)
  refine lv_lstore (lv' := [(4, .long v_1), (0, .long x), (2, .long y)]) hx hb dMa_floorDiv_3 hl (by decide) rfl (fun ls hl => ?_)
  refine lv_lload_n hx hb dMa_floorDiv_5 rfl (lv_at hl 1 rfl) ?_
  refine lv_lload_n hx hb dMa_floorDiv_6 rfl (lv_at hl 2 rfl) ?_
  refine lv_lxor hx hb dMa_floorDiv_7 ?_
  refine lv_lconst (v := 0) hx hb dMa_floorDiv_8 (by decide +kernel) ?_
  refine W.lcmp hx hb dMa_floorDiv_9 ?_
  refine lv_if_ge (tgt := 27) hx hb dMa_floorDiv_10 (by decide) (fun c_1 => ?_) (fun c_1 => ?_)
  · refine lv_lload hx hb dMa_floorDiv_27 (lv_at hl 0 rfl) ?_
    exact W.lret (v := v_1) hx hb hr (fun t ht hW => ⟨_, rfl, (by (try dsimp only); exact (by rw [ev_1, lT_div (by omega)]; exact fd_same hy0 ((lT_xor x y).mp ((lg_cmp_ge _ _).mp c_1)))), ht⟩) (fun _ h => nomatch h) dMa_floorDiv_29
  · refine lv_lload hx hb dMa_floorDiv_13 (lv_at hl 0 rfl) ?_
    refine lv_lload_n hx hb dMa_floorDiv_15 rfl (lv_at hl 2 rfl) ?_
    refine lv_lmul hx hb dMa_floorDiv_16 ?_
    refine lv_lload_n hx hb dMa_floorDiv_17 rfl (lv_at hl 1 rfl) ?_
    refine W.lcmp hx hb dMa_floorDiv_18 ?_
    refine lv_if_eq (tgt := 27) hx hb dMa_floorDiv_19 (by decide) (fun c_2 => ?_) (fun c_2 => ?_)
    · refine lv_lload hx hb dMa_floorDiv_27 (lv_at hl 0 rfl) ?_
      exact W.lret (v := v_1) hx hb hr (fun t ht hW => ⟨_, rfl, (by (try dsimp only); exact (by have h1 : v_1.toInt = x.toInt.tdiv y.toInt := (by rw [ev_1]; exact lT_div (by omega)); have h3 := tdm_le x.toInt y.toInt; have h5 : v_1.toInt.natAbs ≤ x.toInt.natAbs := (by rw [h1]; exact fd_abs _ _); have h2 : v_1.toInt * y.toInt = x.toInt := (by rw [← lT_mul (by rw [h1]; omega) (by rw [h1]; omega), (lg_cmp_eq _ _).mp c_2]); rw [h1]; exact fd_dvd (tdm_dvd.mp (by rw [← h1]; exact h2)))), ht⟩) (fun _ h => nomatch h) dMa_floorDiv_29
    · refine lv_lload hx hb dMa_floorDiv_22 (lv_at hl 0 rfl) ?_
      refine lv_lconst (v := 1) hx hb dMa_floorDiv_24 (by decide +kernel) ?_
      refine lv_lsub hx hb dMa_floorDiv_25 ?_
      exact W.lret (v := (v_1 - 1)) hx hb hr (fun t ht hW => ⟨_, rfl, (by (try dsimp only); exact (by have h1 : v_1.toInt = x.toInt.tdiv y.toInt := (by rw [ev_1]; exact lT_div (by omega)); have h3 := tdm_le x.toInt y.toInt; have h5 : v_1.toInt.natAbs ≤ x.toInt.natAbs := (by rw [h1]; exact fd_abs _ _); have h2 : ¬ y.toInt ∣ x.toInt := fun hd => c_2 ((lg_cmp_eq _ _).mpr (Int64.toInt_inj.mp (by rw [lT_mul (by rw [h1]; omega) (by rw [h1]; omega), h1]; exact tdm_dvd.mpr hd))); have e1 : (1 : Int64).toInt = 1 := rfl; rw [lT_sub (by rw [e1]; omega) (by rw [e1]; omega), e1, h1]; exact fd_diff hy0 (fun h => c_1 ((lg_cmp_ge _ _).mpr ((lT_xor x y).mpr h))) h2)), ht⟩) (fun _ h => nomatch h) dMa_floorDiv_26

set_option maxHeartbeats 4000000 in
set_option maxRecDepth 100000 in
theorem cBl_reckon (l : Launch) (dC : Nat → ClassId) (dI : Nat → Nat → Nat) (ad : Nat → Nat) (ca : Nat → ClassId) (sz : Nat) (S : Ss) (j : Nat) (hj : j < 10) (v : Int32) (hv : rng v) (hf : rng (S 17 j)) (ho : rng (S 18 j)) : Met l yBl_reckon (kBl_reckon :: CW) ({ frames := 1, cells := 0, slots := 0, locals := 25 }) (va_Pc [.ref (ad (18 + j)), .long v.toInt64] (gPre (dC, dI) (xT ca) (XW ad ca S) sz)) (vp_Sl (fun r => r.toInt = rkn (S 14 j) v (S 17 j) (S 18 j))) 0 0 (fun _ => False) := by
  refine Met.ofW (cc := bBl_reckon) (maxL := 3) (ret := (some .long)) (by decide +kernel) rfl ?_
  intro p e s m args below meth c s₁ B hml hv
  obtain ⟨rfl, hsz, hP, hK, hD0⟩ := hv
  have hx := B.exec
  have hb := B.bytes
  have hr := B.returns
  have hts := atoms_spec (ws := kBl_reckon :: CW) B.pre
  have hc : ∀ w ∈ CW, w.before _ s = true := fun w h => hts w (List.mem_cons_of_mem _ h)
  have hown : s.vm.findClass RBl = some m.cls := findClass_of_methodNamed B.named
  have hlocks := B.notSynchronized
  subst hsz
  have hD := hD0
  have hl := lv_entry ([.ref (ad (18 + j)), .long v.toInt64]) (n := 3) (Nat.le_of_ble_eq_true rfl)
  rw [lg_entry_eq]
  generalize (lg_sl ([.ref (ad (18 + j)), .long v.toInt64]) ++ List.replicate (3 - (lg_sl ([.ref (ad (18 + j)), .long v.toInt64])).length) Slot.unset).toArray = ls at hl ⊢
  have hl : lv_has ls 3 [(0, .ref (ad (18 + j))), (1, .long v.toInt64)] := hl
  refine lv_aload_n hx hb dBl_reckon_0 rfl (lv_at hl 0 rfl) ?_
  refine va_get (D := (dC, dI)) (ci := 2) (v := .int (S 14 j)) (C := RBl) (T := TBl) (N := 8) hx hb hc inBl hown hK hP (18 + j) (xb_cell (by omega)) rfl 0 (by decide) (hc _ w81) (fun _ h9 => h9) rfl dBl_reckon_1 ?_
  refine lv_iconst (v := 5) hx hb dBl_reckon_4 (by decide +kernel) ?_
  refine lv_icmp_ne (tgt := 28) hx hb dBl_reckon_5 (by decide) (fun c_0 => ?_) (fun c_0 => ?_)
  · refine lv_aload_n hx hb dBl_reckon_28 rfl (lv_at hl 0 rfl) ?_
    refine va_get (D := (dC, dI)) (ci := 2) (v := .int (S 14 j)) (C := RBl) (T := TBl) (N := 8) hx hb hc inBl hown hK hP (18 + j) (xb_cell (by omega)) rfl 0 (by decide) (hc _ w81) (fun _ h9 => h9) rfl dBl_reckon_29 ?_
    refine lv_bipush (v := 7) hx hb dBl_reckon_32 (by decide +kernel) ?_
    refine lv_icmp_ne (tgt := 55) hx hb dBl_reckon_34 (by decide) (fun c_1 => ?_) (fun c_1 => ?_)
    · refine lv_aload_n hx hb dBl_reckon_55 rfl (lv_at hl 0 rfl) ?_
      refine va_get (D := (dC, dI)) (ci := 2) (v := .int (S 17 j)) (C := RBl) (T := TBl) (N := 8) hx hb hc inBl hown hK hP (18 + j) (xb_cell (by omega)) rfl 3 (by decide) (hc _ w85) (fun _ h9 => h9) rfl dBl_reckon_56 ?_
      refine lv_if_ne (tgt := 66) hx hb dBl_reckon_59 (by decide) (fun c_2 => ?_) (fun c_2 => ?_)
      · refine lv_lload_n hx hb dBl_reckon_66 rfl (lv_at hl 1 rfl) ?_
        refine lv_ldc2 (v := 8) hx hb hown (hc _ w458) dBl_reckon_67 ?_
        refine lv_lmul hx hb dBl_reckon_70 ?_
        refine lv_aload_n hx hb dBl_reckon_71 rfl (lv_at hl 0 rfl) ?_
        refine va_get (D := (dC, dI)) (ci := 2) (v := .int (S 17 j)) (C := RBl) (T := TBl) (N := 8) hx hb hc inBl hown hK hP (18 + j) (xb_cell (by omega)) rfl 3 (by decide) (hc _ w85) (fun _ h9 => h9) rfl dBl_reckon_72 ?_
        refine lv_i2l (v := (S 17 j).toInt64) hx hb dBl_reckon_75 rfl ?_
        refine vp_callSl (va_Run.run (va_runS (As := [.long (v.toInt64 * 8), .long ((S 17 j).toInt64)]) (rest := []) ⟨hx, hb, hml, hown, hc⟩ (cMa_floorDiv l (v.toInt64 * 8) ((S 17 j).toInt64) (by rw [lm_mul8 hv]; omega) (by rw [lm_mul8 hv]; omega) (by rw [Int32.toInt_toInt64]; exact fun h => c_2 (Int32.toInt_inj.mp h))) (va_cwS 2 hc (g_S w459 w460 w14 qMa_floorDiv) rfl rfl rfl (by decide +kernel) ⟨Nat.le_of_ble_eq_true rfl, Nat.le_of_ble_eq_true rfl⟩) ⟨tPre_blind, tPre_in⟩ rfl rfl hl.1 rfl (lv_room (Nat.le_of_ble_eq_true rfl)) dBl_reckon_76 ⟨Nat.zero_le _, Nat.zero_le _⟩)) (fun r_4 hr_4 => ?_)
        exact W.lret (v := r_4) hx hb hr (fun t ht hW => ⟨_, rfl, (by (try dsimp only); exact (by unfold rkn; rw [if_neg c_0, if_neg c_1, if_neg c_2]; rw [lm_mul8 hv, Int32.toInt_toInt64] at hr_4; exact hr_4)), ht⟩) (fun _ h => nomatch h) dBl_reckon_79
      · refine lv_lconst (v := 0) hx hb dBl_reckon_62 (by decide +kernel) ?_
        refine lv_goto (tgt := 79) hx hb dBl_reckon_63 (by decide) ?_
        exact W.lret (v := 0) hx hb hr (fun t ht hW => ⟨_, rfl, (by (try dsimp only); exact (by unfold rkn; rw [if_neg c_0, if_neg c_1, if_pos c_2]; rfl)), ht⟩) (fun _ h => nomatch h) dBl_reckon_79
    · refine lv_aload_n hx hb dBl_reckon_37 rfl (lv_at hl 0 rfl) ?_
      refine va_get (D := (dC, dI)) (ci := 2) (v := .int (S 18 j)) (C := RBl) (T := TBl) (N := 8) hx hb hc inBl hown hK hP (18 + j) (xb_cell (by omega)) rfl 4 (by decide) (hc _ w87) (fun _ h9 => h9) rfl dBl_reckon_38 ?_
      refine lv_i2l (v := (S 18 j).toInt64) hx hb dBl_reckon_41 rfl ?_
      refine lv_aload_n hx hb dBl_reckon_42 rfl (lv_at hl 0 rfl) ?_
      refine va_get (D := (dC, dI)) (ci := 2) (v := .int (S 17 j)) (C := RBl) (T := TBl) (N := 8) hx hb hc inBl hown hK hP (18 + j) (xb_cell (by omega)) rfl 3 (by decide) (hc _ w85) (fun _ h9 => h9) rfl dBl_reckon_43 ?_
      refine lv_i2l (v := (S 17 j).toInt64) hx hb dBl_reckon_46 rfl ?_
      refine lv_lload_n hx hb dBl_reckon_47 rfl (lv_at hl 1 rfl) ?_
      refine va_mmin_long hx hb (by rw [hml]; exact hl.1.symm) hown (hc _ w462) (hc _ w463) (hc _ w14) (hc _ w464) (Nat.le_of_ble_eq_true rfl) (Nat.le_of_ble_eq_true rfl) (Nat.zero_le _) (Nat.zero_le _) dBl_reckon_48 ?_
      refine lv_topl (fun v_5 ev_5 => ?_)
      refine va_mmax_long hx hb (by rw [hml]; exact hl.1.symm) hown (hc _ w465) (hc _ w466) (hc _ w14) (hc _ w467) (Nat.le_of_ble_eq_true rfl) (Nat.le_of_ble_eq_true rfl) (Nat.zero_le _) (Nat.zero_le _) dBl_reckon_51 ?_
      refine lv_topl (fun v_6 ev_6 => ?_)
      exact W.lret (v := v_6) hx hb hr (fun t ht hW => ⟨_, rfl, (by (try dsimp only); exact (by unfold rkn; rw [if_neg c_0, if_pos c_1, ev_6, lmx, ev_5, lmn, Int32.toInt_toInt64, Int32.toInt_toInt64, Int32.toInt_toInt64])), ht⟩) (fun _ h => nomatch h) dBl_reckon_54
  · refine lv_lload_n hx hb dBl_reckon_8 rfl (lv_at hl 1 rfl) ?_
    refine lv_aload_n hx hb dBl_reckon_9 rfl (lv_at hl 0 rfl) ?_
    refine va_get (D := (dC, dI)) (ci := 2) (v := .int (S 17 j)) (C := RBl) (T := TBl) (N := 8) hx hb hc inBl hown hK hP (18 + j) (xb_cell (by omega)) rfl 3 (by decide) (hc _ w85) (fun _ h9 => h9) rfl dBl_reckon_10 ?_
    refine lv_i2l (v := (S 17 j).toInt64) hx hb dBl_reckon_13 rfl ?_
    refine lv_lmul hx hb dBl_reckon_14 ?_
    refine lv_ldc2 (v := 8) hx hb hown (hc _ w458) dBl_reckon_15 ?_
    refine vp_callSl (va_Run.run (va_runS (As := [.long (v.toInt64 * ((S 17 j).toInt64)), .long 8]) (rest := []) ⟨hx, hb, hml, hown, hc⟩ (cMa_floorDiv l (v.toInt64 * ((S 17 j).toInt64)) 8 (by rw [(lm_mul hv hf).1]; have := (lm_mul hv hf).2; omega) (by rw [(lm_mul hv hf).1]; have := (lm_mul hv hf).2; omega) (by decide)) (va_cwS 2 hc (g_S w459 w460 w14 qMa_floorDiv) rfl rfl rfl (by decide +kernel) ⟨Nat.le_of_ble_eq_true rfl, Nat.le_of_ble_eq_true rfl⟩) ⟨tPre_blind, tPre_in⟩ rfl rfl hl.1 rfl (lv_room (Nat.le_of_ble_eq_true rfl)) dBl_reckon_18 ⟨Nat.zero_le _, Nat.zero_le _⟩)) (fun r_7 hr_7 => ?_)
    refine lv_aload_n hx hb dBl_reckon_21 rfl (lv_at hl 0 rfl) ?_
    refine va_get (D := (dC, dI)) (ci := 2) (v := .int (S 18 j)) (C := RBl) (T := TBl) (N := 8) hx hb hc inBl hown hK hP (18 + j) (xb_cell (by omega)) rfl 4 (by decide) (hc _ w87) (fun _ h9 => h9) rfl dBl_reckon_22 ?_
    refine lv_i2l (v := (S 18 j).toInt64) hx hb dBl_reckon_25 rfl ?_
    refine lv_ladd hx hb dBl_reckon_26 ?_
    exact W.lret (v := (r_7 + ((S 18 j).toInt64))) hx hb hr (fun t ht hW => ⟨_, rfl, (by (try dsimp only); exact (by unfold rkn; rw [if_pos c_0]; rw [(lm_mul hv hf).1] at hr_7; have h8 : (8 : Int64).toInt = 8 := rfl; rw [h8] at hr_7; have hb := fd_bound (a := v.toInt * (S 17 j).toInt) (b := 8) (by decide); have hm := (lm_mul hv hf).2; rw [lT_add, Int32.toInt_toInt64, hr_7] <;> (try rw [Int32.toInt_toInt64, hr_7]) <;> omega)), ht⟩) (fun _ h => nomatch h) dBl_reckon_27

set_option maxHeartbeats 4000000 in
set_option maxRecDepth 100000 in
theorem cMe_store (l : Launch) (dC : Nat → ClassId) (dI : Nat → Nat → Nat) (ad : Nat → Nat) (ca : Nat → ClassId) (sz : Nat) (S : Ss) (k : Nat) (x : Int64) (hk : k < 8) : Met l yMe_store (kMe_store :: CW) ({ frames := 1, cells := 0, slots := 0, locals := 23 }) (va_Pc [.ref (ad 1), .int (nI k), .long x] (gPre (dC, dI) (xT ca) (XW ad ca S) sz)) (va_Qv (fun (u : Ss) => u = row S 5 (upd (S 5) k (fitI x.toInt))) (fun u => gAt (dC, dI) (xT ca) (va_A (XW ad ca S) sz) (XW ad ca u)) (va_A (XW ad ca S) sz)) 0 0 (va_A (XW ad ca S) sz) := by
  refine Met.ofW (cc := bMe_store) (maxL := 4) (ret := none) (by decide +kernel) rfl ?_
  intro p e s m args below meth c s₁ B hml hv
  obtain ⟨rfl, hsz, hP, hK, hD0⟩ := hv
  have hx := B.exec
  have hb := B.bytes
  have hr := B.returns
  have hts := atoms_spec (ws := kMe_store :: CW) B.pre
  have hc : ∀ w ∈ CW, w.before _ s = true := fun w h => hts w (List.mem_cons_of_mem _ h)
  have hown : s.vm.findClass RMe = some m.cls := findClass_of_methodNamed B.named
  have hlocks := B.notSynchronized
  subst hsz
  have hD := hD0.self (sz := s.heap.size)
  generalize hAe : va_A (XW ad ca S) s.heap.size = A at hD ⊢
  have hA : ∀ q : Nat, s.heap.size ≤ q → A q := fun q h => by rw [← hAe]; exact Or.inr h
  have hS : va_S A s.heap s.heap [] := va_S.rf
  have hl := lv_entry ([.ref (ad 1), .int (nI k), .long x]) (n := 4) (Nat.le_of_ble_eq_true rfl)
  rw [lg_entry_eq]
  generalize (lg_sl ([.ref (ad 1), .int (nI k), .long x]) ++ List.replicate (4 - (lg_sl ([.ref (ad 1), .int (nI k), .long x])).length) Slot.unset).toArray = ls at hl ⊢
  have hl : lv_has ls 4 [(0, .ref (ad 1)), (1, .int (nI k)), (2, .long x)] := hl
  refine lv_aload_n hx hb dMe_store_0 rfl (lv_at hl 0 rfl) ?_
  refine va_get (D := (dC, dI)) (ci := 1) (v := .ref (ad 6)) (C := RMe) (T := TMe) (N := 5) hx hb hc inMe hown hK hP 1 rfl rfl 4 (by decide) (hc _ w37) (fun _ h9 => h9) rfl dMe_store_1 ?_
  refine lv_iload_n hx hb dMe_store_4 rfl (lv_at hl 1 rfl) ?_
  refine lv_ldc2 (v := (-65536)) hx hb hown (hc _ w472) dMe_store_5 ?_
  refine lv_ldc2 (v := 65536) hx hb hown (hc _ w473) dMe_store_8 ?_
  refine lv_lload_n hx hb dMe_store_11 rfl (lv_at hl 2 rfl) ?_
  refine va_mmin_long hx hb (by rw [hml]; exact hl.1.symm) hown (hc _ w474) (hc _ w463) (hc _ w14) (hc _ w464) (Nat.le_of_ble_eq_true rfl) (Nat.le_of_ble_eq_true rfl) (Nat.zero_le _) (Nat.zero_le _) dMe_store_12 ?_
  refine lv_topl (fun v_1 ev_1 => ?_)
  refine va_mmax_long hx hb (by rw [hml]; exact hl.1.symm) hown (hc _ w475) (hc _ w466) (hc _ w14) (hc _ w467) (Nat.le_of_ble_eq_true rfl) (Nat.le_of_ble_eq_true rfl) (Nat.zero_le _) (Nat.zero_le _) dMe_store_15 ?_
  refine lv_topl (fun v_2 ev_2 => ?_)
  refine lv_l2i (v := v_2.toInt32) hx hb dMe_store_18 rfl ?_
  refine va_iast hx hb hK hP hD hS 6 4 rfl rfl (vp_in_nI (by omega) (by decide)) dMe_store_19 (fun H locs hP hD hS => ?_)
  rw [nI_clamp (by omega)] at hP hD
  obtain ⟨S_3, eS_3⟩ : ∃ z9 : Ss, z9 = row S 5 (upd (S 5) k v_2.toInt32) := ⟨_, rfl⟩
  have hP : va_P (dC, dI) vwCl (XW ad ca S_3) H := by rw [eS_3]; exact hP
  have hD : va_D A (XW ad ca S_3) := by rw [eS_3]; exact hD
  exact W.vret hx hb hr (fun t ht hW => ⟨⟨S_3, rfl, (by (try dsimp only); exact (by rw [eS_3]; congr 2; exact fitI_l (by rw [ev_2, lmx, ev_1, lmn]; rfl))), by rw [ht]; exact hP, va_K.moved hW.alike hK, hD⟩, hS.F ht⟩) hS.2.2 dMe_store_20
end
section
/-! rows filled from their beginning on -/
def fillN (f h : Nat → Int32) (i : Nat) : Nat → Int32 := fun k => if k < i then h k else f k
theorem fill_0 (f h : Nat → Int32) : fillN f h 0 = f := by
  funext k
  simp [fillN]
theorem fill_s (f h : Nat → Int32) (i : Nat) : upd (fillN f h i) i (h i) = fillN f h (i + 1) := by
  funext k
  unfold upd fillN
  by_cases h1 : k = i
  · subst h1; simp
  · by_cases h2 : k < i
    · rw [if_neg h1, if_pos h2, if_pos (by omega)]
    · rw [if_neg h1, if_neg h2, if_neg (by omega)]
theorem fill_cpy (f h : Nat → Int32) (n : Nat) : va_cpy h f 0 0 n = fillN f h n := by
  funext k
  simp [va_cpy, fillN]
theorem frow_0 (S : Ss) (r : Nat) (h : Nat → Int32) : row S r (fillN (S r) h 0) = S := by rw [fill_0, row_self]
theorem frow_s {S : Ss} {r i : Nat} {h : Nat → Int32} {v : Int32} (e : v = h i) : row (row S r (fillN (S r) h i)) r (upd (row S r (fillN (S r) h i) r) i v) = row S r (fillN (S r) h (i + 1)) := by
  rw [row_row, row_s, e, fill_s]
theorem rd_row {S : Ss} {r : Nat} {f : Nat → Int32} (h1 : r ≠ 1) (h2 : r ≠ 2) (k : Nat) : rd (row S r f) k = rd S k := by
  unfold rd
  rw [row_n (Ne.symm h1), row_n (Ne.symm h2)]
def grw (a : Int32) : Int32 := if psh a then 1 else if jns a then -1 else 0
/-- a step added to rung k, which has n -/
def addW (S : Ss) (k n : Nat) (op a : Int32) : Ss := row (row (row (row S 6 (upd (S 6) (10 * k + n) op)) 7 (upd (S 7) (10 * k + n) a)) 8 (upd (S 8) k (S 8 k + 1))) 9 (upd (S 9) k (S 9 k + grw op))
def eraW (S : Ss) (k : Nat) : Ss := row (row S 8 (upd (S 8) k 0)) 9 (upd (S 9) k 0)
def dwn (S : Ss) : Ss := row (row (row S 10 (fillN (S 10) (S 6) 120)) 11 (fillN (S 11) (S 7) 120)) 12 (fillN (S 12) (S 8) 12)
def lpM (S : Ss) : Ss := cout (row S 1 (fillN (S 1) (fun _ => 0) 24))
theorem cout_fill (S : Ss) : cout S = row S 4 (fillN (S 4) (fun _ => 0) 8) := rfl
theorem tin_fill (S : Ss) : tin S = row S 1 (fillN (S 1) (S 3) 8) := rfl
theorem sout_fill (S : Ss) : sout S = row S 4 (fillN (S 4) (fun k => rd S (8 + k)) 8) := rfl
end
section
set_option maxHeartbeats 4000000 in
set_option maxRecDepth 100000 in
theorem cMe_takeInputs (l : Launch) (dC : Nat → ClassId) (dI : Nat → Nat → Nat) (ad : Nat → Nat) (ca : Nat → ClassId) (sz : Nat) (S : Ss) : Met l yMe_takeInputs (kMe_takeInputs :: CW) ({ frames := 0, cells := 0, slots := 0, locals := 0 }) (va_Pc [.ref (ad 1)] (gPre (dC, dI) (xT ca) (XW ad ca S) sz)) (va_Qv (fun (u : Ss) => u = tin S) (fun u => gAt (dC, dI) (xT ca) (va_A (XW ad ca S) sz) (XW ad ca u)) (va_A (XW ad ca S) sz)) 0 0 (va_A (XW ad ca S) sz) := by
  refine Met.ofW (cc := bMe_takeInputs) (maxL := 2) (ret := none) (by decide +kernel) rfl ?_
  intro p e s m args below meth c s₁ B hml hv
  obtain ⟨rfl, hsz, hP, hK, hD0⟩ := hv
  have hx := B.exec
  have hb := B.bytes
  have hr := B.returns
  have hts := atoms_spec (ws := kMe_takeInputs :: CW) B.pre
  have hc : ∀ w ∈ CW, w.before _ s = true := fun w h => hts w (List.mem_cons_of_mem _ h)
  have hown : s.vm.findClass RMe = some m.cls := findClass_of_methodNamed B.named
  have hlocks := B.notSynchronized
  subst hsz
  have hD := hD0.self (sz := s.heap.size)
  generalize hAe : va_A (XW ad ca S) s.heap.size = A at hD ⊢
  have hA : ∀ q : Nat, s.heap.size ≤ q → A q := fun q h => by rw [← hAe]; exact Or.inr h
  have hS : va_S A s.heap s.heap [] := va_S.rf
  have hl := lv_entry ([.ref (ad 1)]) (n := 2) (Nat.le_of_ble_eq_true rfl)
  rw [lg_entry_eq]
  generalize (lg_sl ([.ref (ad 1)]) ++ List.replicate (2 - (lg_sl ([.ref (ad 1)])).length) Slot.unset).toArray = ls at hl ⊢
  have hl : lv_has ls 2 [(0, .ref (ad 1))] := hl
  refine lv_iconst (v := 0) hx hb dMe_takeInputs_0 (by decide +kernel) ?_
  refine lv_istore_n (lv' := [(1, .int 0), (0, .ref (ad 1))]) hx hb dMe_takeInputs_1 rfl hl (by decide) rfl (fun ls hl => ?_)
  refine g_loop (fun n H locs ls => ∃ (i : Nat), ∃ (S1 : Ss), n = 8 - i ∧ i ≤ 8 ∧ S1 = row S 1 (fillN (S 1) (S 3) i) ∧ va_P (dC, dI) vwCl (XW ad ca S1) H ∧ va_D A (XW ad ca S1) ∧ va_S A s.heap H locs ∧ lv_has ls 2 [(0, .ref (ad 1)), (1, .int (nI i))]) ?_ _ _ _ _ ⟨0, S, rfl, Nat.zero_le _, (frow_0 S 1 (S 3)).symm, hP, hD, hS, lv_sub hl [1, 0] rfl⟩
  clear hP hD hS
  rintro n H locs ls ⟨i, S1, en_2, hi, eS1, hP, hD, hS, hl⟩ ih_2
  refine lv_iload_n hx hb dMe_takeInputs_2 rfl (lv_at hl 1 rfl) ?_
  refine lv_bipush (v := 8) hx hb dMe_takeInputs_3 (by decide +kernel) ?_
  refine lv_icmp_ge (tgt := 26) hx hb dMe_takeInputs_5 (by decide) (fun c_0 => ?_) (fun c_0 => ?_)
  · have p_5 : 8 ≤ i := (nI_leI (a := 8) (b := i) (by omega) (by omega)).mp c_0
    exact W.vret hx hb hr (fun t ht hW => ⟨⟨S1, rfl, (by (try dsimp only); exact (by rw [eS1, tin_fill, show i = 8 by omega])), by rw [ht]; exact hP, va_K.moved hW.alike hK, hD⟩, hS.F ht⟩) hS.2.2 dMe_takeInputs_26
  · have p_5 : i < 8 := by have := mt (nI_leI (a := 8) (b := i) (by omega) (by omega)).mpr c_0; omega
    refine lv_aload_n hx hb dMe_takeInputs_8 rfl (lv_at hl 0 rfl) ?_
    refine va_get (D := (dC, dI)) (ci := 1) (v := .ref (ad 2)) (C := RMe) (T := TMe) (N := 5) hx hb hc inMe hown hK hP 1 rfl rfl 0 (by decide) (hc _ w30) (fun _ h9 => h9) rfl dMe_takeInputs_9 ?_
    refine lv_iload_n hx hb dMe_takeInputs_12 rfl (lv_at hl 1 rfl) ?_
    refine lv_aload_n hx hb dMe_takeInputs_13 rfl (lv_at hl 0 rfl) ?_
    refine va_get (D := (dC, dI)) (ci := 1) (v := .ref (ad 4)) (C := RMe) (T := TMe) (N := 5) hx hb hc inMe hown hK hP 1 rfl rfl 2 (by decide) (hc _ w33) (fun _ h9 => h9) rfl dMe_takeInputs_14 ?_
    refine lv_iload_n hx hb dMe_takeInputs_17 rfl (lv_at hl 1 rfl) ?_
    refine va_iald hx hb hK hP 4 2 rfl rfl (vp_in_nI (by omega) (by decide)) dMe_takeInputs_18 ?_
    refine lv_topi (fun v_2 ev_2 => ?_)
    rw [nI_clamp (by omega)] at ev_2
    subst v_2
    refine va_iast hx hb hK hP hD hS 2 0 rfl rfl (vp_in_nI (by omega) (by decide)) dMe_takeInputs_19 (fun H locs hP hD hS => ?_)
    rw [nI_clamp (by omega)] at hP hD
    obtain ⟨S_3, eS_3⟩ : ∃ z9 : Ss, z9 = row S1 1 (upd (S1 1) i (S1 3 i)) := ⟨_, rfl⟩
    have hP : va_P (dC, dI) vwCl (XW ad ca S_3) H := by rw [eS_3]; exact hP
    have hD : va_D A (XW ad ca S_3) := by rw [eS_3]; exact hD
    obtain ⟨v_4, ev_4⟩ : ∃ y : Int32, y = (nI i) + 1 := ⟨_, rfl⟩
    refine lv_iinc (v := v_4) (lv' := [(1, .int v_4), (0, .ref (ad 1))]) hx hb dMe_takeInputs_20 hl (k := 1) rfl (by rw [ev_4]; rfl) (by decide) rfl (fun ls hl => ?_)
    refine lv_goto (tgt := 2) hx hb dMe_takeInputs_23 (by decide) ?_
    have gv_4 : v_4 = nI (i + 1) := (by rw [ev_4]; exact nI_1 i)
    clear ev_4
    subst v_4
    exact ih_2 _ _ _ _ (by omega) ⟨(i + 1), S_3, rfl, (by omega), (by rw [eS_3, eS1]; exact frow_s (by rw [row_n (by decide)])), hP, hD, hS, lv_sub hl [1, 0] rfl⟩

set_option maxHeartbeats 4000000 in
set_option maxRecDepth 100000 in
theorem cMe_sendOutputs (l : Launch) (dC : Nat → ClassId) (dI : Nat → Nat → Nat) (ad : Nat → Nat) (ca : Nat → ClassId) (sz : Nat) (S : Ss) : Met l yMe_sendOutputs (kMe_sendOutputs :: CW) ({ frames := 1, cells := 0, slots := 0, locals := 21 }) (va_Pc [.ref (ad 1)] (gPre (dC, dI) (xT ca) (XW ad ca S) sz)) (va_Qv (fun (u : Ss) => u = sout S) (fun u => gAt (dC, dI) (xT ca) (va_A (XW ad ca S) sz) (XW ad ca u)) (va_A (XW ad ca S) sz)) 0 0 (va_A (XW ad ca S) sz) := by
  refine Met.ofW (cc := bMe_sendOutputs) (maxL := 2) (ret := none) (by decide +kernel) rfl ?_
  intro p e s m args below meth c s₁ B hml hv
  obtain ⟨rfl, hsz, hP, hK, hD0⟩ := hv
  have hx := B.exec
  have hb := B.bytes
  have hr := B.returns
  have hts := atoms_spec (ws := kMe_sendOutputs :: CW) B.pre
  have hc : ∀ w ∈ CW, w.before _ s = true := fun w h => hts w (List.mem_cons_of_mem _ h)
  have hown : s.vm.findClass RMe = some m.cls := findClass_of_methodNamed B.named
  have hlocks := B.notSynchronized
  subst hsz
  have hD := hD0.self (sz := s.heap.size)
  generalize hAe : va_A (XW ad ca S) s.heap.size = A at hD ⊢
  have hA : ∀ q : Nat, s.heap.size ≤ q → A q := fun q h => by rw [← hAe]; exact Or.inr h
  have hS : va_S A s.heap s.heap [] := va_S.rf
  have hl := lv_entry ([.ref (ad 1)]) (n := 2) (Nat.le_of_ble_eq_true rfl)
  rw [lg_entry_eq]
  generalize (lg_sl ([.ref (ad 1)]) ++ List.replicate (2 - (lg_sl ([.ref (ad 1)])).length) Slot.unset).toArray = ls at hl ⊢
  have hl : lv_has ls 2 [(0, .ref (ad 1))] := hl
  refine lv_iconst (v := 0) hx hb dMe_sendOutputs_0 (by decide +kernel) ?_
  refine lv_istore_n (lv' := [(1, .int 0), (0, .ref (ad 1))]) hx hb dMe_sendOutputs_1 rfl hl (by decide) rfl (fun ls hl => ?_)
  refine g_loop (fun n H locs ls => ∃ (i : Nat), ∃ (S1 : Ss), n = 8 - i ∧ i ≤ 8 ∧ S1 = row S 4 (fillN (S 4) (fun k => rd S (8 + k)) i) ∧ va_P (dC, dI) vwCl (XW ad ca S1) H ∧ va_D A (XW ad ca S1) ∧ va_S A s.heap H locs ∧ lv_has ls 2 [(0, .ref (ad 1)), (1, .int (nI i))]) ?_ _ _ _ _ ⟨0, S, rfl, Nat.zero_le _, (frow_0 S 4 (fun k => rd S (8 + k))).symm, hP, hD, hS, lv_sub hl [1, 0] rfl⟩
  clear hP hD hS
  rintro n H locs ls ⟨i, S1, en_2, hi, eS1, hP, hD, hS, hl⟩ ih_2
  refine lv_iload_n hx hb dMe_sendOutputs_2 rfl (lv_at hl 1 rfl) ?_
  refine lv_bipush (v := 8) hx hb dMe_sendOutputs_3 (by decide +kernel) ?_
  refine lv_icmp_ge (tgt := 28) hx hb dMe_sendOutputs_5 (by decide) (fun c_0 => ?_) (fun c_0 => ?_)
  · have p_5 : 8 ≤ i := (nI_leI (a := 8) (b := i) (by omega) (by omega)).mp c_0
    exact W.vret hx hb hr (fun t ht hW => ⟨⟨S1, rfl, (by (try dsimp only); exact (by rw [eS1, sout_fill, show i = 8 by omega])), by rw [ht]; exact hP, va_K.moved hW.alike hK, hD⟩, hS.F ht⟩) hS.2.2 dMe_sendOutputs_28
  · have p_5 : i < 8 := by have := mt (nI_leI (a := 8) (b := i) (by omega) (by omega)).mpr c_0; omega
    refine lv_aload_n hx hb dMe_sendOutputs_8 rfl (lv_at hl 0 rfl) ?_
    refine va_get (D := (dC, dI)) (ci := 1) (v := .ref (ad 5)) (C := RMe) (T := TMe) (N := 5) hx hb hc inMe hown hK hP 1 rfl rfl 3 (by decide) (hc _ w35) (fun _ h9 => h9) rfl dMe_sendOutputs_9 ?_
    refine lv_iload_n hx hb dMe_sendOutputs_12 rfl (lv_at hl 1 rfl) ?_
    refine lv_aload_n hx hb dMe_sendOutputs_13 rfl (lv_at hl 0 rfl) ?_
    refine lv_bipush (v := 8) hx hb dMe_sendOutputs_14 (by decide +kernel) ?_
    refine lv_iload_n hx hb dMe_sendOutputs_16 rfl (lv_at hl 1 rfl) ?_
    refine lv_iadd hx hb dMe_sendOutputs_17 ?_
    refine lv_topi (fun v_2 ev_2 => ?_)
    rw [show (8 : Int32) + nI i = nI (8 + i) from nI_add 8 i] at ev_2
    subst v_2
    refine vp_callSi (va_Run.run (va_runV (As := [.int (nI (8 + i))]) (rest := [.int (nI i), .ref (ad 5)]) ⟨hx, hb, hml, hown, hc⟩ (cMe_read l dC dI ad ca H.size S1 (8 + i) (by omega)) (cwV 1 hc (gV w500 w447 w448 w2 qMe_read) rfl rfl rfl (by decide +kernel) ⟨Nat.le_of_ble_eq_true rfl, Nat.le_of_ble_eq_true rfl⟩) ⟨gPre_blind, va_recv hK hP (ci := 1) (q0 := 1) rfl rfl, (gPre_in hP hK hD)⟩ rfl rfl hl.1 rfl (lv_room (Nat.le_of_ble_eq_true rfl)) dMe_sendOutputs_18 ⟨Nat.zero_le _, Nat.zero_le _⟩)) (fun r_3 hr_3 => ?_)
    refine va_iast hx hb hK hP hD hS 5 3 rfl rfl (vp_in_nI (by omega) (by decide)) dMe_sendOutputs_21 (fun H locs hP hD hS => ?_)
    rw [nI_clamp (by omega)] at hP hD
    obtain ⟨S_4, eS_4⟩ : ∃ z9 : Ss, z9 = row S1 4 (upd (S1 4) i r_3) := ⟨_, rfl⟩
    have hP : va_P (dC, dI) vwCl (XW ad ca S_4) H := by rw [eS_4]; exact hP
    have hD : va_D A (XW ad ca S_4) := by rw [eS_4]; exact hD
    obtain ⟨v_5, ev_5⟩ : ∃ y : Int32, y = (nI i) + 1 := ⟨_, rfl⟩
    refine lv_iinc (v := v_5) (lv' := [(1, .int v_5), (0, .ref (ad 1))]) hx hb dMe_sendOutputs_22 hl (k := 1) rfl (by rw [ev_5]; rfl) (by decide) rfl (fun ls hl => ?_)
    refine lv_goto (tgt := 2) hx hb dMe_sendOutputs_25 (by decide) ?_
    have gv_5 : v_5 = nI (i + 1) := (by rw [ev_5]; exact nI_1 i)
    clear ev_5
    subst v_5
    exact ih_2 _ _ _ _ (by omega) ⟨(i + 1), S_4, rfl, (by omega), (by rw [eS_4, eS1]; exact frow_s (by rw [hr_3, eS1, rd_row (by decide) (by decide)])), hP, hD, hS, lv_sub hl [1, 0] rfl⟩

set_option maxHeartbeats 4000000 in
set_option maxRecDepth 100000 in
theorem cMe_clearOutputWires (l : Launch) (dC : Nat → ClassId) (dI : Nat → Nat → Nat) (ad : Nat → Nat) (ca : Nat → ClassId) (sz : Nat) (S : Ss) : Met l yMe_clearOutputWires (kMe_clearOutputWires :: CW) ({ frames := 0, cells := 0, slots := 0, locals := 0 }) (va_Pc [.ref (ad 1)] (gPre (dC, dI) (xT ca) (XW ad ca S) sz)) (va_Qv (fun (u : Ss) => u = cout S) (fun u => gAt (dC, dI) (xT ca) (va_A (XW ad ca S) sz) (XW ad ca u)) (va_A (XW ad ca S) sz)) 0 0 (va_A (XW ad ca S) sz) := by
  refine Met.ofW (cc := bMe_clearOutputWires) (maxL := 2) (ret := none) (by decide +kernel) rfl ?_
  intro p e s m args below meth c s₁ B hml hv
  obtain ⟨rfl, hsz, hP, hK, hD0⟩ := hv
  have hx := B.exec
  have hb := B.bytes
  have hr := B.returns
  have hts := atoms_spec (ws := kMe_clearOutputWires :: CW) B.pre
  have hc : ∀ w ∈ CW, w.before _ s = true := fun w h => hts w (List.mem_cons_of_mem _ h)
  have hown : s.vm.findClass RMe = some m.cls := findClass_of_methodNamed B.named
  have hlocks := B.notSynchronized
  subst hsz
  have hD := hD0.self (sz := s.heap.size)
  generalize hAe : va_A (XW ad ca S) s.heap.size = A at hD ⊢
  have hA : ∀ q : Nat, s.heap.size ≤ q → A q := fun q h => by rw [← hAe]; exact Or.inr h
  have hS : va_S A s.heap s.heap [] := va_S.rf
  have hl := lv_entry ([.ref (ad 1)]) (n := 2) (Nat.le_of_ble_eq_true rfl)
  rw [lg_entry_eq]
  generalize (lg_sl ([.ref (ad 1)]) ++ List.replicate (2 - (lg_sl ([.ref (ad 1)])).length) Slot.unset).toArray = ls at hl ⊢
  have hl : lv_has ls 2 [(0, .ref (ad 1))] := hl
  refine lv_iconst (v := 0) hx hb dMe_clearOutputWires_0 (by decide +kernel) ?_
  refine lv_istore_n (lv' := [(1, .int 0), (0, .ref (ad 1))]) hx hb dMe_clearOutputWires_1 rfl hl (by decide) rfl (fun ls hl => ?_)
  refine g_loop (fun n H locs ls => ∃ (i : Nat), ∃ (S1 : Ss), n = 8 - i ∧ i ≤ 8 ∧ S1 = row S 4 (fillN (S 4) (fun _ => 0) i) ∧ va_P (dC, dI) vwCl (XW ad ca S1) H ∧ va_D A (XW ad ca S1) ∧ va_S A s.heap H locs ∧ lv_has ls 2 [(0, .ref (ad 1)), (1, .int (nI i))]) ?_ _ _ _ _ ⟨0, S, rfl, Nat.zero_le _, (frow_0 S 4 (fun _ => 0)).symm, hP, hD, hS, lv_sub hl [1, 0] rfl⟩
  clear hP hD hS
  rintro n H locs ls ⟨i, S1, en_2, hi, eS1, hP, hD, hS, hl⟩ ih_2
  refine lv_iload_n hx hb dMe_clearOutputWires_2 rfl (lv_at hl 1 rfl) ?_
  refine lv_bipush (v := 8) hx hb dMe_clearOutputWires_3 (by decide +kernel) ?_
  refine lv_icmp_ge (tgt := 21) hx hb dMe_clearOutputWires_5 (by decide) (fun c_0 => ?_) (fun c_0 => ?_)
  · have p_5 : 8 ≤ i := (nI_leI (a := 8) (b := i) (by omega) (by omega)).mp c_0
    exact W.vret hx hb hr (fun t ht hW => ⟨⟨S1, rfl, (by (try dsimp only); exact (by rw [eS1, cout_fill, show i = 8 by omega])), by rw [ht]; exact hP, va_K.moved hW.alike hK, hD⟩, hS.F ht⟩) hS.2.2 dMe_clearOutputWires_21
  · have p_5 : i < 8 := by have := mt (nI_leI (a := 8) (b := i) (by omega) (by omega)).mpr c_0; omega
    refine lv_aload_n hx hb dMe_clearOutputWires_8 rfl (lv_at hl 0 rfl) ?_
    refine va_get (D := (dC, dI)) (ci := 1) (v := .ref (ad 5)) (C := RMe) (T := TMe) (N := 5) hx hb hc inMe hown hK hP 1 rfl rfl 3 (by decide) (hc _ w35) (fun _ h9 => h9) rfl dMe_clearOutputWires_9 ?_
    refine lv_iload_n hx hb dMe_clearOutputWires_12 rfl (lv_at hl 1 rfl) ?_
    refine lv_iconst (v := 0) hx hb dMe_clearOutputWires_13 (by decide +kernel) ?_
    refine va_iast hx hb hK hP hD hS 5 3 rfl rfl (vp_in_nI (by omega) (by decide)) dMe_clearOutputWires_14 (fun H locs hP hD hS => ?_)
    rw [nI_clamp (by omega)] at hP hD
    obtain ⟨S_2, eS_2⟩ : ∃ z9 : Ss, z9 = row S1 4 (upd (S1 4) i 0) := ⟨_, rfl⟩
    have hP : va_P (dC, dI) vwCl (XW ad ca S_2) H := by rw [eS_2]; exact hP
    have hD : va_D A (XW ad ca S_2) := by rw [eS_2]; exact hD
    obtain ⟨v_3, ev_3⟩ : ∃ y : Int32, y = (nI i) + 1 := ⟨_, rfl⟩
    refine lv_iinc (v := v_3) (lv' := [(1, .int v_3), (0, .ref (ad 1))]) hx hb dMe_clearOutputWires_15 hl (k := 1) rfl (by rw [ev_3]; rfl) (by decide) rfl (fun ls hl => ?_)
    refine lv_goto (tgt := 2) hx hb dMe_clearOutputWires_18 (by decide) ?_
    have gv_3 : v_3 = nI (i + 1) := (by rw [ev_3]; exact nI_1 i)
    clear ev_3
    subst v_3
    exact ih_2 _ _ _ _ (by omega) ⟨(i + 1), S_2, rfl, (by omega), (by rw [eS_2, eS1]; exact frow_s rfl), hP, hD, hS, lv_sub hl [1, 0] rfl⟩

set_option maxHeartbeats 4000000 in
set_option maxRecDepth 100000 in
theorem cMe_losePower (l : Launch) (dC : Nat → ClassId) (dI : Nat → Nat → Nat) (ad : Nat → Nat) (ca : Nat → ClassId) (sz : Nat) (S : Ss) : Met l yMe_losePower (kMe_losePower :: CW) ({ frames := 1, cells := 0, slots := 0, locals := 21 }) (va_Pc [.ref (ad 1)] (gPre (dC, dI) (xT ca) (XW ad ca S) sz)) (va_Qv (fun (u : Ss) => u = lpM S) (fun u => gAt (dC, dI) (xT ca) (va_A (XW ad ca S) sz) (XW ad ca u)) (va_A (XW ad ca S) sz)) 0 0 (va_A (XW ad ca S) sz) := by
  refine Met.ofW (cc := bMe_losePower) (maxL := 2) (ret := none) (by decide +kernel) rfl ?_
  intro p e s m args below meth c s₁ B hml hv
  obtain ⟨rfl, hsz, hP, hK, hD0⟩ := hv
  have hx := B.exec
  have hb := B.bytes
  have hr := B.returns
  have hts := atoms_spec (ws := kMe_losePower :: CW) B.pre
  have hc : ∀ w ∈ CW, w.before _ s = true := fun w h => hts w (List.mem_cons_of_mem _ h)
  have hown : s.vm.findClass RMe = some m.cls := findClass_of_methodNamed B.named
  have hlocks := B.notSynchronized
  subst hsz
  have hD := hD0.self (sz := s.heap.size)
  generalize hAe : va_A (XW ad ca S) s.heap.size = A at hD ⊢
  have hA : ∀ q : Nat, s.heap.size ≤ q → A q := fun q h => by rw [← hAe]; exact Or.inr h
  have hS : va_S A s.heap s.heap [] := va_S.rf
  have hl := lv_entry ([.ref (ad 1)]) (n := 2) (Nat.le_of_ble_eq_true rfl)
  rw [lg_entry_eq]
  generalize (lg_sl ([.ref (ad 1)]) ++ List.replicate (2 - (lg_sl ([.ref (ad 1)])).length) Slot.unset).toArray = ls at hl ⊢
  have hl : lv_has ls 2 [(0, .ref (ad 1))] := hl
  refine lv_iconst (v := 0) hx hb dMe_losePower_0 (by decide +kernel) ?_
  refine lv_istore_n (lv' := [(1, .int 0), (0, .ref (ad 1))]) hx hb dMe_losePower_1 rfl hl (by decide) rfl (fun ls hl => ?_)
  refine g_loop (fun n H locs ls => ∃ (i : Nat), ∃ (S1 : Ss), n = 24 - i ∧ i ≤ 24 ∧ S1 = row S 1 (fillN (S 1) (fun _ => 0) i) ∧ va_P (dC, dI) vwCl (XW ad ca S1) H ∧ va_D A (XW ad ca S1) ∧ va_S A s.heap H locs ∧ lv_has ls 2 [(0, .ref (ad 1)), (1, .int (nI i))]) ?_ _ _ _ _ ⟨0, S, rfl, Nat.zero_le _, (frow_0 S 1 (fun _ => 0)).symm, hP, hD, hS, lv_sub hl [1, 0] rfl⟩
  clear hP hD hS
  rintro n H locs ls ⟨i, S1, en_2, hi, eS1, hP, hD, hS, hl⟩ ih_2
  refine lv_iload_n hx hb dMe_losePower_2 rfl (lv_at hl 1 rfl) ?_
  refine lv_bipush (v := 24) hx hb dMe_losePower_3 (by decide +kernel) ?_
  refine lv_icmp_ge (tgt := 21) hx hb dMe_losePower_5 (by decide) (fun c_0 => ?_) (fun c_0 => ?_)
  · have p_5 : 24 ≤ i := (nI_leI (a := 24) (b := i) (by omega) (by omega)).mp c_0
    refine lv_aload_n hx hb dMe_losePower_21 rfl (lv_at hl 0 rfl) ?_
    refine g_callv (va_runV (As := []) (rest := []) ⟨hx, hb, hml, hown, hc⟩ (cMe_clearOutputWires l dC dI ad ca H.size S1 ) (cwV 0 hc (gV w163 w164 w165 w2 qMe_clearOutputWires) rfl rfl rfl (by decide +kernel) ⟨Nat.le_of_ble_eq_true rfl, Nat.le_of_ble_eq_true rfl⟩) ⟨gPre_blind, va_recv hK hP (ci := 1) (q0 := 1) rfl rfl, (gPre_in hP hK hD)⟩ rfl rfl hl.1 rfl (lv_room (Nat.le_of_ble_eq_true rfl)) dMe_losePower_22 ⟨Nat.zero_le _, Nat.zero_le _⟩) hD hS hA (fun u_2 H locs hu_2 hP hD hS => ?_)
    exact W.vret hx hb hr (fun t ht hW => ⟨⟨u_2, rfl, (by (try dsimp only); exact (by rw [hu_2, eS1, show i = 24 by omega]; rfl)), by rw [ht]; exact hP, va_K.moved hW.alike hK, hD⟩, hS.F ht⟩) hS.2.2 dMe_losePower_25
  · have p_5 : i < 24 := by have := mt (nI_leI (a := 24) (b := i) (by omega) (by omega)).mpr c_0; omega
    refine lv_aload_n hx hb dMe_losePower_8 rfl (lv_at hl 0 rfl) ?_
    refine va_get (D := (dC, dI)) (ci := 1) (v := .ref (ad 2)) (C := RMe) (T := TMe) (N := 5) hx hb hc inMe hown hK hP 1 rfl rfl 0 (by decide) (hc _ w30) (fun _ h9 => h9) rfl dMe_losePower_9 ?_
    refine lv_iload_n hx hb dMe_losePower_12 rfl (lv_at hl 1 rfl) ?_
    refine lv_iconst (v := 0) hx hb dMe_losePower_13 (by decide +kernel) ?_
    refine va_iast hx hb hK hP hD hS 2 0 rfl rfl (vp_in_nI (by omega) (by decide)) dMe_losePower_14 (fun H locs hP hD hS => ?_)
    rw [nI_clamp (by omega)] at hP hD
    obtain ⟨S_3, eS_3⟩ : ∃ z9 : Ss, z9 = row S1 1 (upd (S1 1) i 0) := ⟨_, rfl⟩
    have hP : va_P (dC, dI) vwCl (XW ad ca S_3) H := by rw [eS_3]; exact hP
    have hD : va_D A (XW ad ca S_3) := by rw [eS_3]; exact hD
    obtain ⟨v_4, ev_4⟩ : ∃ y : Int32, y = (nI i) + 1 := ⟨_, rfl⟩
    refine lv_iinc (v := v_4) (lv' := [(1, .int v_4), (0, .ref (ad 1))]) hx hb dMe_losePower_15 hl (k := 1) rfl (by rw [ev_4]; rfl) (by decide) rfl (fun ls hl => ?_)
    refine lv_goto (tgt := 2) hx hb dMe_losePower_18 (by decide) ?_
    have gv_4 : v_4 = nI (i + 1) := (by rw [ev_4]; exact nI_1 i)
    clear ev_4
    subst v_4
    exact ih_2 _ _ _ _ (by omega) ⟨(i + 1), S_3, rfl, (by omega), (by rw [eS_3, eS1]; exact frow_s rfl), hP, hD, hS, lv_sub hl [1, 0] rfl⟩

set_option maxHeartbeats 4000000 in
set_option maxRecDepth 100000 in
theorem cMe_assign (l : Launch) (dC : Nat → ClassId) (dI : Nat → Nat → Nat) (ad : Nat → Nat) (ca : Nat → ClassId) (sz : Nat) (S : Ss) (a x : Int32) (k : Nat) (hk : k < 32) : Met l yMe_assign (kMe_assign :: CW) ({ frames := 0, cells := 0, slots := 0, locals := 0 }) (va_Pc [.ref (ad 1), .int a, .int (nI k), .int x] (gPre (dC, dI) (xT ca) (XW ad ca S) sz)) (va_Qv (fun (u : Ss) => u = asg S a k x) (fun u => gAt (dC, dI) (xT ca) (va_A (XW ad ca S) sz) (XW ad ca u)) (va_A (XW ad ca S) sz)) 0 0 (va_A (XW ad ca S) sz) := by
  refine Met.ofW (cc := bMe_assign) (maxL := 4) (ret := none) (by decide +kernel) rfl ?_
  intro p e s m args below meth c s₁ B hml hv
  obtain ⟨rfl, hsz, hP, hK, hD0⟩ := hv
  have hx := B.exec
  have hb := B.bytes
  have hr := B.returns
  have hts := atoms_spec (ws := kMe_assign :: CW) B.pre
  have hc : ∀ w ∈ CW, w.before _ s = true := fun w h => hts w (List.mem_cons_of_mem _ h)
  have hown : s.vm.findClass RMe = some m.cls := findClass_of_methodNamed B.named
  have hlocks := B.notSynchronized
  subst hsz
  have hD := hD0.self (sz := s.heap.size)
  generalize hAe : va_A (XW ad ca S) s.heap.size = A at hD ⊢
  have hA : ∀ q : Nat, s.heap.size ≤ q → A q := fun q h => by rw [← hAe]; exact Or.inr h
  have hS : va_S A s.heap s.heap [] := va_S.rf
  have hl := lv_entry ([.ref (ad 1), .int a, .int (nI k), .int x]) (n := 4) (Nat.le_of_ble_eq_true rfl)
  rw [lg_entry_eq]
  generalize (lg_sl ([.ref (ad 1), .int a, .int (nI k), .int x]) ++ List.replicate (4 - (lg_sl ([.ref (ad 1), .int a, .int (nI k), .int x])).length) Slot.unset).toArray = ls at hl ⊢
  have hl : lv_has ls 4 [(0, .ref (ad 1)), (1, .int a), (2, .int (nI k)), (3, .int x)] := hl
  refine lv_iload_n hx hb dMe_assign_0 rfl (lv_at hl 1 rfl) ?_
  refine lv_bipush (v := 10) hx hb dMe_assign_1 (by decide +kernel) ?_
  refine lv_icmp_ne (tgt := 16) hx hb dMe_assign_3 (by decide) (fun c_0 => ?_) (fun c_0 => ?_)
  · refine lv_iload_n hx hb dMe_assign_16 rfl (lv_at hl 3 rfl) ?_
    refine lv_iconst (v := 1) hx hb dMe_assign_17 (by decide +kernel) ?_
    refine lv_icmp_ne (tgt := 38) hx hb dMe_assign_18 (by decide) (fun c_1 => ?_) (fun c_1 => ?_)
    · exact W.vret hx hb hr (fun t ht hW => ⟨⟨S, rfl, (by (try dsimp only); exact (by unfold asg; rw [if_neg c_0, if_neg c_1])), by rw [ht]; exact hP, va_K.moved hW.alike hK, hD⟩, hS.F ht⟩) hS.2.2 dMe_assign_38
    · refine lv_aload_n hx hb dMe_assign_21 rfl (lv_at hl 0 rfl) ?_
      refine va_get (D := (dC, dI)) (ci := 1) (v := .ref (ad 2)) (C := RMe) (T := TMe) (N := 5) hx hb hc inMe hown hK hP 1 rfl rfl 0 (by decide) (hc _ w30) (fun _ h9 => h9) rfl dMe_assign_22 ?_
      refine lv_iload_n hx hb dMe_assign_25 rfl (lv_at hl 2 rfl) ?_
      refine lv_iload_n hx hb dMe_assign_26 rfl (lv_at hl 1 rfl) ?_
      refine lv_bipush (v := 11) hx hb dMe_assign_27 (by decide +kernel) ?_
      refine lv_icmp_ne (tgt := 36) hx hb dMe_assign_29 (by decide) (fun c_2 => ?_) (fun c_2 => ?_)
      · refine lv_iconst (v := 0) hx hb dMe_assign_36 (by decide +kernel) ?_
        refine va_iast hx hb hK hP hD hS 2 0 rfl rfl (vp_in_nI (by omega) (by decide)) dMe_assign_37 (fun H locs hP hD hS => ?_)
        rw [nI_clamp (by omega)] at hP hD
        obtain ⟨S_4, eS_4⟩ : ∃ z9 : Ss, z9 = row S 1 (upd (S 1) k 0) := ⟨_, rfl⟩
        have hP : va_P (dC, dI) vwCl (XW ad ca S_4) H := by rw [eS_4]; exact hP
        have hD : va_D A (XW ad ca S_4) := by rw [eS_4]; exact hD
        exact W.vret hx hb hr (fun t ht hW => ⟨⟨S_4, rfl, (by (try dsimp only); exact (by rw [eS_4]; unfold asg; rw [if_neg c_0, if_pos c_1]; first | rw [b2_t c_2] | rw [b2_f c_2])), by rw [ht]; exact hP, va_K.moved hW.alike hK, hD⟩, hS.F ht⟩) hS.2.2 dMe_assign_38
      · refine lv_iconst (v := 1) hx hb dMe_assign_32 (by decide +kernel) ?_
        refine lv_goto (tgt := 37) hx hb dMe_assign_33 (by decide) ?_
        refine va_iast hx hb hK hP hD hS 2 0 rfl rfl (vp_in_nI (by omega) (by decide)) dMe_assign_37 (fun H locs hP hD hS => ?_)
        rw [nI_clamp (by omega)] at hP hD
        obtain ⟨S_5, eS_5⟩ : ∃ z9 : Ss, z9 = row S 1 (upd (S 1) k 1) := ⟨_, rfl⟩
        have hP : va_P (dC, dI) vwCl (XW ad ca S_5) H := by rw [eS_5]; exact hP
        have hD : va_D A (XW ad ca S_5) := by rw [eS_5]; exact hD
        exact W.vret hx hb hr (fun t ht hW => ⟨⟨S_5, rfl, (by (try dsimp only); exact (by rw [eS_5]; unfold asg; rw [if_neg c_0, if_pos c_1]; first | rw [b2_t c_2] | rw [b2_f c_2])), by rw [ht]; exact hP, va_K.moved hW.alike hK, hD⟩, hS.F ht⟩) hS.2.2 dMe_assign_38
  · refine lv_aload_n hx hb dMe_assign_6 rfl (lv_at hl 0 rfl) ?_
    refine va_get (D := (dC, dI)) (ci := 1) (v := .ref (ad 2)) (C := RMe) (T := TMe) (N := 5) hx hb hc inMe hown hK hP 1 rfl rfl 0 (by decide) (hc _ w30) (fun _ h9 => h9) rfl dMe_assign_7 ?_
    refine lv_iload_n hx hb dMe_assign_10 rfl (lv_at hl 2 rfl) ?_
    refine lv_iload_n hx hb dMe_assign_11 rfl (lv_at hl 3 rfl) ?_
    refine va_iast hx hb hK hP hD hS 2 0 rfl rfl (vp_in_nI (by omega) (by decide)) dMe_assign_12 (fun H locs hP hD hS => ?_)
    rw [nI_clamp (by omega)] at hP hD
    obtain ⟨S_6, eS_6⟩ : ∃ z9 : Ss, z9 = row S 1 (upd (S 1) k x) := ⟨_, rfl⟩
    have hP : va_P (dC, dI) vwCl (XW ad ca S_6) H := by rw [eS_6]; exact hP
    have hD : va_D A (XW ad ca S_6) := by rw [eS_6]; exact hD
    refine lv_goto (tgt := 38) hx hb dMe_assign_13 (by decide) ?_
    exact W.vret hx hb hr (fun t ht hW => ⟨⟨S_6, rfl, (by (try dsimp only); exact (by rw [eS_6]; unfold asg; rw [if_pos c_0])), by rw [ht]; exact hP, va_K.moved hW.alike hK, hD⟩, hS.F ht⟩) hS.2.2 dMe_assign_38

set_option maxHeartbeats 4000000 in
set_option maxRecDepth 100000 in
theorem cBl_become (l : Launch) (dC : Nat → ClassId) (dI : Nat → Nat → Nat) (ad : Nat → Nat) (ca : Nat → ClassId) (sz : Nat) (S : Ss) (j : Nat) (hj : j < 10) (x y z : Int32) : Met l yBl_become (kBl_become :: CW) ({ frames := 0, cells := 0, slots := 0, locals := 0 }) (va_Pc [.ref (ad (18 + j)), .int x, .int y, .int z] (gPre (dC, dI) (xT ca) (XW ad ca S) sz)) (va_Qv (fun (u : Ss) => u = row (row (row S 14 (upd (S 14) j x)) 15 (upd (S 15) j y)) 16 (upd (S 16) j z)) (fun u => gAt (dC, dI) (xT ca) (va_A (XW ad ca S) sz) (XW ad ca u)) (va_A (XW ad ca S) sz)) 0 0 (va_A (XW ad ca S) sz) := by
  refine Met.ofW (cc := bBl_become) (maxL := 4) (ret := none) (by decide +kernel) rfl ?_
  intro p e s m args below meth c s₁ B hml hv
  obtain ⟨rfl, hsz, hP, hK, hD0⟩ := hv
  have hx := B.exec
  have hb := B.bytes
  have hr := B.returns
  have hts := atoms_spec (ws := kBl_become :: CW) B.pre
  have hc : ∀ w ∈ CW, w.before _ s = true := fun w h => hts w (List.mem_cons_of_mem _ h)
  have hown : s.vm.findClass RBl = some m.cls := findClass_of_methodNamed B.named
  have hlocks := B.notSynchronized
  subst hsz
  have hD := hD0.self (sz := s.heap.size)
  generalize hAe : va_A (XW ad ca S) s.heap.size = A at hD ⊢
  have hA : ∀ q : Nat, s.heap.size ≤ q → A q := fun q h => by rw [← hAe]; exact Or.inr h
  have hS : va_S A s.heap s.heap [] := va_S.rf
  have hl := lv_entry ([.ref (ad (18 + j)), .int x, .int y, .int z]) (n := 4) (Nat.le_of_ble_eq_true rfl)
  rw [lg_entry_eq]
  generalize (lg_sl ([.ref (ad (18 + j)), .int x, .int y, .int z]) ++ List.replicate (4 - (lg_sl ([.ref (ad (18 + j)), .int x, .int y, .int z])).length) Slot.unset).toArray = ls at hl ⊢
  have hl : lv_has ls 4 [(0, .ref (ad (18 + j))), (1, .int x), (2, .int y), (3, .int z)] := hl
  refine lv_aload_n hx hb dBl_become_0 rfl (lv_at hl 0 rfl) ?_
  refine lv_iload_n hx hb dBl_become_1 rfl (lv_at hl 1 rfl) ?_
  refine va_put (D := (dC, dI)) (ci := 2) (v := .int x) (ty := .int) (C := RBl) (T := TBl) (N := 8) hx hb hc inBl tyBl tyBl_ok nmBl hown hK hP hD hS (18 + j) (xb_cell (by omega)) rfl 0 (by decide) (hc _ w81) (fun _ h9 => h9) rfl (by decide +kernel) rfl rfl (Nat.le_of_ble_eq_true rfl) dBl_become_2 (fun H locs hP hD hS => ?_)
  obtain ⟨S_1, eS_1⟩ : ∃ z9 : Ss, z9 = row S 14 (upd (S 14) j x) := ⟨_, rfl⟩
  rw [xb_set (by omega) 0 (by decide)] at hP hD
  have hP : va_P (dC, dI) vwCl (XW ad ca S_1) H := by rw [eS_1]; exact hP
  have hD : va_D A (XW ad ca S_1) := by rw [eS_1]; exact hD
  refine lv_aload_n hx hb dBl_become_5 rfl (lv_at hl 0 rfl) ?_
  refine lv_iload_n hx hb dBl_become_6 rfl (lv_at hl 2 rfl) ?_
  refine va_put (D := (dC, dI)) (ci := 2) (v := .int y) (ty := .int) (C := RBl) (T := TBl) (N := 8) hx hb hc inBl tyBl tyBl_ok nmBl hown hK hP hD hS (18 + j) (xb_cell (by omega)) rfl 1 (by decide) (hc _ w83) (fun _ h9 => h9) rfl (by decide +kernel) rfl rfl (Nat.le_of_ble_eq_true rfl) dBl_become_7 (fun H locs hP hD hS => ?_)
  obtain ⟨S_2, eS_2⟩ : ∃ z9 : Ss, z9 = row S_1 15 (upd (S_1 15) j y) := ⟨_, rfl⟩
  rw [xb_set (by omega) 1 (by decide)] at hP hD
  have hP : va_P (dC, dI) vwCl (XW ad ca S_2) H := by rw [eS_2]; exact hP
  have hD : va_D A (XW ad ca S_2) := by rw [eS_2]; exact hD
  refine lv_aload_n hx hb dBl_become_10 rfl (lv_at hl 0 rfl) ?_
  refine lv_iload_n hx hb dBl_become_11 rfl (lv_at hl 3 rfl) ?_
  refine va_put (D := (dC, dI)) (ci := 2) (v := .int z) (ty := .int) (C := RBl) (T := TBl) (N := 8) hx hb hc inBl tyBl tyBl_ok nmBl hown hK hP hD hS (18 + j) (xb_cell (by omega)) rfl 2 (by decide) (hc _ w84) (fun _ h9 => h9) rfl (by decide +kernel) rfl rfl (Nat.le_of_ble_eq_true rfl) dBl_become_12 (fun H locs hP hD hS => ?_)
  obtain ⟨S_3, eS_3⟩ : ∃ z9 : Ss, z9 = row S_2 16 (upd (S_2 16) j z) := ⟨_, rfl⟩
  rw [xb_set (by omega) 2 (by decide)] at hP hD
  have hP : va_P (dC, dI) vwCl (XW ad ca S_3) H := by rw [eS_3]; exact hP
  have hD : va_D A (XW ad ca S_3) := by rw [eS_3]; exact hD
  exact W.vret hx hb hr (fun t ht hW => ⟨⟨S_3, rfl, (by (try dsimp only); exact (by rw [eS_3, eS_2, eS_1]; rfl)), by rw [ht]; exact hP, va_K.moved hW.alike hK, hD⟩, hS.F ht⟩) hS.2.2 dBl_become_15

set_option maxHeartbeats 4000000 in
set_option maxRecDepth 100000 in
theorem cBl_losePower (l : Launch) (dC : Nat → ClassId) (dI : Nat → Nat → Nat) (ad : Nat → Nat) (ca : Nat → ClassId) (sz : Nat) (S : Ss) (j : Nat) (hj : j < 10) : Met l yBl_losePower (kBl_losePower :: CW) ({ frames := 0, cells := 0, slots := 0, locals := 0 }) (va_Pc [.ref (ad (18 + j))] (gPre (dC, dI) (xT ca) (XW ad ca S) sz)) (va_Qv (fun (u : Ss) => u = row (row (row S 19 (upd (S 19) j 0)) 20 (upd (S 20) j 0)) 21 (upd (S 21) j 0)) (fun u => gAt (dC, dI) (xT ca) (va_A (XW ad ca S) sz) (XW ad ca u)) (va_A (XW ad ca S) sz)) 0 0 (va_A (XW ad ca S) sz) := by
  refine Met.ofW (cc := bBl_losePower) (maxL := 1) (ret := none) (by decide +kernel) rfl ?_
  intro p e s m args below meth c s₁ B hml hv
  obtain ⟨rfl, hsz, hP, hK, hD0⟩ := hv
  have hx := B.exec
  have hb := B.bytes
  have hr := B.returns
  have hts := atoms_spec (ws := kBl_losePower :: CW) B.pre
  have hc : ∀ w ∈ CW, w.before _ s = true := fun w h => hts w (List.mem_cons_of_mem _ h)
  have hown : s.vm.findClass RBl = some m.cls := findClass_of_methodNamed B.named
  have hlocks := B.notSynchronized
  subst hsz
  have hD := hD0.self (sz := s.heap.size)
  generalize hAe : va_A (XW ad ca S) s.heap.size = A at hD ⊢
  have hA : ∀ q : Nat, s.heap.size ≤ q → A q := fun q h => by rw [← hAe]; exact Or.inr h
  have hS : va_S A s.heap s.heap [] := va_S.rf
  have hl := lv_entry ([.ref (ad (18 + j))]) (n := 1) (Nat.le_of_ble_eq_true rfl)
  rw [lg_entry_eq]
  generalize (lg_sl ([.ref (ad (18 + j))]) ++ List.replicate (1 - (lg_sl ([.ref (ad (18 + j))])).length) Slot.unset).toArray = ls at hl ⊢
  have hl : lv_has ls 1 [(0, .ref (ad (18 + j)))] := hl
  refine lv_aload_n hx hb dBl_losePower_0 rfl (lv_at hl 0 rfl) ?_
  refine lv_iconst (v := 0) hx hb dBl_losePower_1 (by decide +kernel) ?_
  refine va_put (D := (dC, dI)) (ci := 2) (v := .int 0) (ty := .int) (C := RBl) (T := TBl) (N := 8) hx hb hc inBl tyBl tyBl_ok nmBl hown hK hP hD hS (18 + j) (xb_cell (by omega)) rfl 5 (by decide) (hc _ w89) (fun _ h9 => h9) rfl (by decide +kernel) rfl rfl (Nat.le_of_ble_eq_true rfl) dBl_losePower_2 (fun H locs hP hD hS => ?_)
  obtain ⟨S_1, eS_1⟩ : ∃ z9 : Ss, z9 = row S 19 (upd (S 19) j 0) := ⟨_, rfl⟩
  rw [xb_set (by omega) 5 (by decide)] at hP hD
  have hP : va_P (dC, dI) vwCl (XW ad ca S_1) H := by rw [eS_1]; exact hP
  have hD : va_D A (XW ad ca S_1) := by rw [eS_1]; exact hD
  refine lv_aload_n hx hb dBl_losePower_5 rfl (lv_at hl 0 rfl) ?_
  refine lv_iconst (v := 0) hx hb dBl_losePower_6 (by decide +kernel) ?_
  refine va_put (D := (dC, dI)) (ci := 2) (v := .int 0) (ty := .int) (C := RBl) (T := TBl) (N := 8) hx hb hc inBl tyBl tyBl_ok nmBl hown hK hP hD hS (18 + j) (xb_cell (by omega)) rfl 6 (by decide) (hc _ w91) (fun _ h9 => h9) rfl (by decide +kernel) rfl rfl (Nat.le_of_ble_eq_true rfl) dBl_losePower_7 (fun H locs hP hD hS => ?_)
  obtain ⟨S_2, eS_2⟩ : ∃ z9 : Ss, z9 = row S_1 20 (upd (S_1 20) j 0) := ⟨_, rfl⟩
  rw [xb_set (by omega) 6 (by decide)] at hP hD
  have hP : va_P (dC, dI) vwCl (XW ad ca S_2) H := by rw [eS_2]; exact hP
  have hD : va_D A (XW ad ca S_2) := by rw [eS_2]; exact hD
  refine lv_aload_n hx hb dBl_losePower_10 rfl (lv_at hl 0 rfl) ?_
  refine lv_iconst (v := 0) hx hb dBl_losePower_11 (by decide +kernel) ?_
  refine va_put (D := (dC, dI)) (ci := 2) (v := .int 0) (ty := .int) (C := RBl) (T := TBl) (N := 8) hx hb hc inBl tyBl tyBl_ok nmBl hown hK hP hD hS (18 + j) (xb_cell (by omega)) rfl 7 (by decide) (hc _ w93) (fun _ h9 => h9) rfl (by decide +kernel) rfl rfl (Nat.le_of_ble_eq_true rfl) dBl_losePower_12 (fun H locs hP hD hS => ?_)
  obtain ⟨S_3, eS_3⟩ : ∃ z9 : Ss, z9 = row S_2 21 (upd (S_2 21) j 0) := ⟨_, rfl⟩
  rw [xb_set (by omega) 7 (by decide)] at hP hD
  have hP : va_P (dC, dI) vwCl (XW ad ca S_3) H := by rw [eS_3]; exact hP
  have hD : va_D A (XW ad ca S_3) := by rw [eS_3]; exact hD
  exact W.vret hx hb hr (fun t ht hW => ⟨⟨S_3, rfl, (by (try dsimp only); exact (by rw [eS_3, eS_2, eS_1]; rfl)), by rw [ht]; exact hP, va_K.moved hW.alike hK, hD⟩, hS.F ht⟩) hS.2.2 dBl_losePower_15

set_option maxHeartbeats 4000000 in
set_option maxRecDepth 100000 in
theorem cLa_add (l : Launch) (dC : Nat → ClassId) (dI : Nat → Nat → Nat) (ad : Nat → Nat) (ca : Nat → ClassId) (sz : Nat) (S : Ss) (k n : Nat) (x y : Int32) (hk : k < 12) (hn : n < 10) (en : S 8 k = nI n) : Met l yLa_add (kLa_add :: CW) ({ frames := 2, cells := 0, slots := 0, locals := 40 }) (va_Pc [.ref (ad 8), .int (nI k), .int x, .int y] (gPre (dC, dI) (xT ca) (XW ad ca S) sz)) (va_Qi (fun (r : Int32) (u : Ss) => r = S 9 k + grw x ∧ u = addW S k n x y) (fun u => gAt (dC, dI) (xT ca) (va_A (XW ad ca S) sz) (XW ad ca u)) (va_A (XW ad ca S) sz)) 0 0 (va_A (XW ad ca S) sz) := by
  refine Met.ofW (cc := bLa_add) (maxL := 5) (ret := (some .int)) (by decide +kernel) rfl ?_
  intro p e s m args below meth c s₁ B hml hv
  obtain ⟨rfl, hsz, hP, hK, hD0⟩ := hv
  have hx := B.exec
  have hb := B.bytes
  have hr := B.returns
  have hts := atoms_spec (ws := kLa_add :: CW) B.pre
  have hc : ∀ w ∈ CW, w.before _ s = true := fun w h => hts w (List.mem_cons_of_mem _ h)
  have hown : s.vm.findClass RLa = some m.cls := findClass_of_methodNamed B.named
  have hlocks := B.notSynchronized
  subst hsz
  have hD := hD0.self (sz := s.heap.size)
  generalize hAe : va_A (XW ad ca S) s.heap.size = A at hD ⊢
  have hA : ∀ q : Nat, s.heap.size ≤ q → A q := fun q h => by rw [← hAe]; exact Or.inr h
  have hS : va_S A s.heap s.heap [] := va_S.rf
  have hl := lv_entry ([.ref (ad 8), .int (nI k), .int x, .int y]) (n := 5) (Nat.le_of_ble_eq_true rfl)
  rw [lg_entry_eq]
  generalize (lg_sl ([.ref (ad 8), .int (nI k), .int x, .int y]) ++ List.replicate (5 - (lg_sl ([.ref (ad 8), .int (nI k), .int x, .int y])).length) Slot.unset).toArray = ls at hl ⊢
  have hl : lv_has ls 5 [(0, .ref (ad 8)), (1, .int (nI k)), (2, .int x), (3, .int y)] := hl
  have hpl : nI k * 10 + S 8 k = nI (10 * k + n) := by rw [en, show (10 : Int32) = nI 10 from rfl, pk_mul, nI_add, Nat.mul_comm]
  refine lv_iload_n hx hb dLa_add_0 rfl (lv_at hl 1 rfl) ?_
  refine lv_bipush (v := 10) hx hb dLa_add_1 (by decide +kernel) ?_
  refine lv_imul hx hb dLa_add_3 ?_
  refine lv_aload_n hx hb dLa_add_4 rfl (lv_at hl 0 rfl) ?_
  refine va_get (D := (dC, dI)) (ci := 3) (v := .ref (ad 11)) (C := RLa) (T := TLa) (N := 4) hx hb hc inLa hown hK hP 8 rfl rfl 2 (by decide) (hc _ w64) (fun _ h9 => h9) rfl dLa_add_5 ?_
  refine lv_iload_n hx hb dLa_add_8 rfl (lv_at hl 1 rfl) ?_
  refine va_iald hx hb hK hP 11 8 rfl rfl (vp_in_nI (by omega) (by decide)) dLa_add_9 ?_
  refine lv_topi (fun v_1 ev_1 => ?_)
  rw [nI_clamp (by omega)] at ev_1
  subst v_1
  refine lv_iadd hx hb dLa_add_10 ?_
  refine lv_topi (fun v_2 ev_2 => ?_)
  rw [hpl] at ev_2
  subst v_2
  refine lv_istore (lv' := [(4, .int (nI (10 * k + n))), (0, .ref (ad 8)), (1, .int (nI k)), (2, .int x), (3, .int y)]) hx hb dLa_add_11 hl (by decide) rfl (fun ls hl => ?_)
  refine lv_aload_n hx hb dLa_add_13 rfl (lv_at hl 1 rfl) ?_
  refine va_get (D := (dC, dI)) (ci := 3) (v := .ref (ad 9)) (C := RLa) (T := TLa) (N := 4) hx hb hc inLa hown hK hP 8 rfl rfl 0 (by decide) (hc _ w60) (fun _ h9 => h9) rfl dLa_add_14 ?_
  refine lv_iload hx hb dLa_add_17 (lv_at hl 0 rfl) ?_
  refine lv_iload_n hx hb dLa_add_19 rfl (lv_at hl 3 rfl) ?_
  refine va_iast hx hb hK hP hD hS 9 6 rfl rfl (vp_in_nI (by omega) (by decide)) dLa_add_20 (fun H locs hP hD hS => ?_)
  rw [nI_clamp (by omega)] at hP hD
  obtain ⟨S_3, eS_3⟩ : ∃ z9 : Ss, z9 = row S 6 (upd (S 6) (10 * k + n) x) := ⟨_, rfl⟩
  have hP : va_P (dC, dI) vwCl (XW ad ca S_3) H := by rw [eS_3]; exact hP
  have hD : va_D A (XW ad ca S_3) := by rw [eS_3]; exact hD
  refine lv_aload_n hx hb dLa_add_21 rfl (lv_at hl 1 rfl) ?_
  refine va_get (D := (dC, dI)) (ci := 3) (v := .ref (ad 10)) (C := RLa) (T := TLa) (N := 4) hx hb hc inLa hown hK hP 8 rfl rfl 1 (by decide) (hc _ w62) (fun _ h9 => h9) rfl dLa_add_22 ?_
  refine lv_iload hx hb dLa_add_25 (lv_at hl 0 rfl) ?_
  refine lv_iload_n hx hb dLa_add_27 rfl (lv_at hl 4 rfl) ?_
  refine va_iast hx hb hK hP hD hS 10 7 rfl rfl (vp_in_nI (by omega) (by decide)) dLa_add_28 (fun H locs hP hD hS => ?_)
  rw [nI_clamp (by omega)] at hP hD
  obtain ⟨S_4, eS_4⟩ : ∃ z9 : Ss, z9 = row S_3 7 (upd (S_3 7) (10 * k + n) y) := ⟨_, rfl⟩
  have hP : va_P (dC, dI) vwCl (XW ad ca S_4) H := by rw [eS_4]; exact hP
  have hD : va_D A (XW ad ca S_4) := by rw [eS_4]; exact hD
  refine lv_aload_n hx hb dLa_add_29 rfl (lv_at hl 1 rfl) ?_
  refine va_get (D := (dC, dI)) (ci := 3) (v := .ref (ad 11)) (C := RLa) (T := TLa) (N := 4) hx hb hc inLa hown hK hP 8 rfl rfl 2 (by decide) (hc _ w64) (fun _ h9 => h9) rfl dLa_add_30 ?_
  refine lv_iload_n hx hb dLa_add_33 rfl (lv_at hl 2 rfl) ?_
  refine lv_dup2_11 hx hb dLa_add_34 rfl rfl ?_
  refine va_iald hx hb hK hP 11 8 rfl rfl (vp_in_nI (by omega) (by decide)) dLa_add_35 ?_
  refine lv_topi (fun v_5 ev_5 => ?_)
  rw [nI_clamp (by omega)] at ev_5
  subst v_5
  refine lv_iconst (v := 1) hx hb dLa_add_36 (by decide +kernel) ?_
  refine lv_iadd hx hb dLa_add_37 ?_
  refine lv_topi (fun v_6 ev_6 => ?_)
  refine va_iast hx hb hK hP hD hS 11 8 rfl rfl (vp_in_nI (by omega) (by decide)) dLa_add_38 (fun H locs hP hD hS => ?_)
  rw [nI_clamp (by omega)] at hP hD
  obtain ⟨S_7, eS_7⟩ : ∃ z9 : Ss, z9 = row S_4 8 (upd (S_4 8) k v_6) := ⟨_, rfl⟩
  have hP : va_P (dC, dI) vwCl (XW ad ca S_7) H := by rw [eS_7]; exact hP
  have hD : va_D A (XW ad ca S_7) := by rw [eS_7]; exact hD
  refine lv_aload_n hx hb dLa_add_39 rfl (lv_at hl 1 rfl) ?_
  refine va_get (D := (dC, dI)) (ci := 3) (v := .ref (ad 12)) (C := RLa) (T := TLa) (N := 4) hx hb hc inLa hown hK hP 8 rfl rfl 3 (by decide) (hc _ w66) (fun _ h9 => h9) rfl dLa_add_40 ?_
  refine lv_iload_n hx hb dLa_add_43 rfl (lv_at hl 2 rfl) ?_
  refine lv_dup2_11 hx hb dLa_add_44 rfl rfl ?_
  refine va_iald hx hb hK hP 12 9 rfl rfl (vp_in_nI (by omega) (by decide)) dLa_add_45 ?_
  refine lv_topi (fun v_8 ev_8 => ?_)
  rw [nI_clamp (by omega)] at ev_8
  subst v_8
  refine lv_iload_n hx hb dLa_add_46 rfl (lv_at hl 3 rfl) ?_
  refine vp_callSi (va_Run.run (va_runS (As := [.int x]) (rest := [.int (S_7 9 k), .int (nI k), .ref (ad 12)]) ⟨hx, hb, hml, hown, hc⟩ (cLa_growth l x) (va_cwS 1 hc (g_S w365 w366 w3 qLa_growth) rfl rfl rfl (by decide +kernel) ⟨Nat.le_of_ble_eq_true rfl, Nat.le_of_ble_eq_true rfl⟩) ⟨tPre_blind, tPre_in⟩ rfl rfl hl.1 rfl (lv_room (Nat.le_of_ble_eq_true rfl)) dLa_add_47 ⟨Nat.zero_le _, Nat.zero_le _⟩)) (fun r_9 hr_9 => ?_)
  refine lv_iadd hx hb dLa_add_50 ?_
  refine lv_topi (fun v_10 ev_10 => ?_)
  refine va_iast hx hb hK hP hD hS 12 9 rfl rfl (vp_in_nI (by omega) (by decide)) dLa_add_51 (fun H locs hP hD hS => ?_)
  rw [nI_clamp (by omega)] at hP hD
  obtain ⟨S_11, eS_11⟩ : ∃ z9 : Ss, z9 = row S_7 9 (upd (S_7 9) k v_10) := ⟨_, rfl⟩
  have hP : va_P (dC, dI) vwCl (XW ad ca S_11) H := by rw [eS_11]; exact hP
  have hD : va_D A (XW ad ca S_11) := by rw [eS_11]; exact hD
  refine lv_aload_n hx hb dLa_add_52 rfl (lv_at hl 1 rfl) ?_
  refine va_get (D := (dC, dI)) (ci := 3) (v := .ref (ad 12)) (C := RLa) (T := TLa) (N := 4) hx hb hc inLa hown hK hP 8 rfl rfl 3 (by decide) (hc _ w66) (fun _ h9 => h9) rfl dLa_add_53 ?_
  refine lv_iload_n hx hb dLa_add_56 rfl (lv_at hl 2 rfl) ?_
  refine va_iald hx hb hK hP 12 9 rfl rfl (vp_in_nI (by omega) (by decide)) dLa_add_57 ?_
  refine lv_topi (fun v_12 ev_12 => ?_)
  rw [nI_clamp (by omega)] at ev_12
  subst v_12
  exact W.iret (v := (S_11 9 k)) hx hb hr (fun t ht hW => ⟨⟨_, S_11, rfl, (by (try dsimp only); exact ⟨by subst S_11; subst v_10; subst r_9; subst S_7; subst v_6; subst S_4; subst S_3; simp [row, upd, grw], by subst S_11; subst v_10; subst r_9; subst S_7; subst v_6; subst S_4; subst S_3; rfl⟩), by rw [ht]; exact hP, va_K.moved hW.alike hK, hD⟩, hS.F ht⟩) hS.2.2 dLa_add_58

set_option maxHeartbeats 4000000 in
set_option maxRecDepth 100000 in
theorem cLa_empty (l : Launch) (dC : Nat → ClassId) (dI : Nat → Nat → Nat) (ad : Nat → Nat) (ca : Nat → ClassId) (sz : Nat) (S : Ss) (k : Nat) (hk : k < 12) : Met l yLa_empty (kLa_empty :: CW) ({ frames := 0, cells := 0, slots := 0, locals := 0 }) (va_Pc [.ref (ad 8), .int (nI k)] (gPre (dC, dI) (xT ca) (XW ad ca S) sz)) (va_Qi (fun (r : Int32) (u : Ss) => r = S 8 k ∧ u = eraW S k) (fun u => gAt (dC, dI) (xT ca) (va_A (XW ad ca S) sz) (XW ad ca u)) (va_A (XW ad ca S) sz)) 0 0 (va_A (XW ad ca S) sz) := by
  refine Met.ofW (cc := bLa_empty) (maxL := 3) (ret := (some .int)) (by decide +kernel) rfl ?_
  intro p e s m args below meth c s₁ B hml hv
  obtain ⟨rfl, hsz, hP, hK, hD0⟩ := hv
  have hx := B.exec
  have hb := B.bytes
  have hr := B.returns
  have hts := atoms_spec (ws := kLa_empty :: CW) B.pre
  have hc : ∀ w ∈ CW, w.before _ s = true := fun w h => hts w (List.mem_cons_of_mem _ h)
  have hown : s.vm.findClass RLa = some m.cls := findClass_of_methodNamed B.named
  have hlocks := B.notSynchronized
  subst hsz
  have hD := hD0.self (sz := s.heap.size)
  generalize hAe : va_A (XW ad ca S) s.heap.size = A at hD ⊢
  have hA : ∀ q : Nat, s.heap.size ≤ q → A q := fun q h => by rw [← hAe]; exact Or.inr h
  have hS : va_S A s.heap s.heap [] := va_S.rf
  have hl := lv_entry ([.ref (ad 8), .int (nI k)]) (n := 3) (Nat.le_of_ble_eq_true rfl)
  rw [lg_entry_eq]
  generalize (lg_sl ([.ref (ad 8), .int (nI k)]) ++ List.replicate (3 - (lg_sl ([.ref (ad 8), .int (nI k)])).length) Slot.unset).toArray = ls at hl ⊢
  have hl : lv_has ls 3 [(0, .ref (ad 8)), (1, .int (nI k))] := hl
  refine lv_aload_n hx hb dLa_empty_0 rfl (lv_at hl 0 rfl) ?_
  refine va_get (D := (dC, dI)) (ci := 3) (v := .ref (ad 11)) (C := RLa) (T := TLa) (N := 4) hx hb hc inLa hown hK hP 8 rfl rfl 2 (by decide) (hc _ w64) (fun _ h9 => h9) rfl dLa_empty_1 ?_
  refine lv_iload_n hx hb dLa_empty_4 rfl (lv_at hl 1 rfl) ?_
  refine va_iald hx hb hK hP 11 8 rfl rfl (vp_in_nI (by omega) (by decide)) dLa_empty_5 ?_
  refine lv_topi (fun v_1 ev_1 => ?_)
  rw [nI_clamp (by omega)] at ev_1
  subst v_1
  refine lv_istore_n (lv' := [(2, .int (S 8 k)), (0, .ref (ad 8)), (1, .int (nI k))]) hx hb dLa_empty_6 rfl hl (by decide) rfl (fun ls hl => ?_)
  refine lv_aload_n hx hb dLa_empty_7 rfl (lv_at hl 1 rfl) ?_
  refine va_get (D := (dC, dI)) (ci := 3) (v := .ref (ad 11)) (C := RLa) (T := TLa) (N := 4) hx hb hc inLa hown hK hP 8 rfl rfl 2 (by decide) (hc _ w64) (fun _ h9 => h9) rfl dLa_empty_8 ?_
  refine lv_iload_n hx hb dLa_empty_11 rfl (lv_at hl 2 rfl) ?_
  refine lv_iconst (v := 0) hx hb dLa_empty_12 (by decide +kernel) ?_
  refine va_iast hx hb hK hP hD hS 11 8 rfl rfl (vp_in_nI (by omega) (by decide)) dLa_empty_13 (fun H locs hP hD hS => ?_)
  rw [nI_clamp (by omega)] at hP hD
  obtain ⟨S_2, eS_2⟩ : ∃ z9 : Ss, z9 = row S 8 (upd (S 8) k 0) := ⟨_, rfl⟩
  have hP : va_P (dC, dI) vwCl (XW ad ca S_2) H := by rw [eS_2]; exact hP
  have hD : va_D A (XW ad ca S_2) := by rw [eS_2]; exact hD
  refine lv_aload_n hx hb dLa_empty_14 rfl (lv_at hl 1 rfl) ?_
  refine va_get (D := (dC, dI)) (ci := 3) (v := .ref (ad 12)) (C := RLa) (T := TLa) (N := 4) hx hb hc inLa hown hK hP 8 rfl rfl 3 (by decide) (hc _ w66) (fun _ h9 => h9) rfl dLa_empty_15 ?_
  refine lv_iload_n hx hb dLa_empty_18 rfl (lv_at hl 2 rfl) ?_
  refine lv_iconst (v := 0) hx hb dLa_empty_19 (by decide +kernel) ?_
  refine va_iast hx hb hK hP hD hS 12 9 rfl rfl (vp_in_nI (by omega) (by decide)) dLa_empty_20 (fun H locs hP hD hS => ?_)
  rw [nI_clamp (by omega)] at hP hD
  obtain ⟨S_3, eS_3⟩ : ∃ z9 : Ss, z9 = row S_2 9 (upd (S_2 9) k 0) := ⟨_, rfl⟩
  have hP : va_P (dC, dI) vwCl (XW ad ca S_3) H := by rw [eS_3]; exact hP
  have hD : va_D A (XW ad ca S_3) := by rw [eS_3]; exact hD
  refine lv_iload_n hx hb dLa_empty_21 rfl (lv_at hl 0 rfl) ?_
  exact W.iret (v := (S 8 k)) hx hb hr (fun t ht hW => ⟨⟨_, S_3, rfl, (by (try dsimp only); exact ⟨rfl, by rw [eS_3, eS_2]; rfl⟩), by rw [ht]; exact hP, va_K.moved hW.alike hK, hD⟩, hS.F ht⟩) hS.2.2 dLa_empty_22

set_option maxHeartbeats 4000000 in
set_option maxRecDepth 100000 in
theorem cLa_copyFrom (l : Launch) (dC : Nat → ClassId) (dI : Nat → Nat → Nat) (ad : Nat → Nat) (ca : Nat → ClassId) (sz : Nat) (S : Ss) : Met l yLa_copyFrom (kLa_copyFrom :: CW) ({ frames := 1, cells := 0, slots := 0, locals := 24 }) (va_Pc [.ref (ad 13), .ref (ad 8)] (gPre (dC, dI) (xT ca) (XW ad ca S) sz)) (va_Qv (fun (u : Ss) => u = dwn S) (fun u => gAt (dC, dI) (xT ca) (va_A (XW ad ca S) sz) (XW ad ca u)) (va_A (XW ad ca S) sz)) 0 0 (va_A (XW ad ca S) sz) := by
  refine Met.ofW (cc := bLa_copyFrom) (maxL := 2) (ret := none) (by decide +kernel) rfl ?_
  intro p e s m args below meth c s₁ B hml hv
  obtain ⟨rfl, hsz, hP, hK, hD0⟩ := hv
  have hx := B.exec
  have hb := B.bytes
  have hr := B.returns
  have hts := atoms_spec (ws := kLa_copyFrom :: CW) B.pre
  have hc : ∀ w ∈ CW, w.before _ s = true := fun w h => hts w (List.mem_cons_of_mem _ h)
  have hown : s.vm.findClass RLa = some m.cls := findClass_of_methodNamed B.named
  have hlocks := B.notSynchronized
  subst hsz
  have hD := hD0.self (sz := s.heap.size)
  generalize hAe : va_A (XW ad ca S) s.heap.size = A at hD ⊢
  have hA : ∀ q : Nat, s.heap.size ≤ q → A q := fun q h => by rw [← hAe]; exact Or.inr h
  have hS : va_S A s.heap s.heap [] := va_S.rf
  have hl := lv_entry ([.ref (ad 13), .ref (ad 8)]) (n := 2) (Nat.le_of_ble_eq_true rfl)
  rw [lg_entry_eq]
  generalize (lg_sl ([.ref (ad 13), .ref (ad 8)]) ++ List.replicate (2 - (lg_sl ([.ref (ad 13), .ref (ad 8)])).length) Slot.unset).toArray = ls at hl ⊢
  have hl : lv_has ls 2 [(0, .ref (ad 13)), (1, .ref (ad 8))] := hl
  refine lv_aload_n hx hb dLa_copyFrom_0 rfl (lv_at hl 1 rfl) ?_
  refine va_get (D := (dC, dI)) (ci := 3) (v := .ref (ad 9)) (C := RLa) (T := TLa) (N := 4) hx hb hc inLa hown hK hP 8 rfl rfl 0 (by decide) (hc _ w60) (fun _ h9 => h9) rfl dLa_copyFrom_1 ?_
  refine lv_iconst (v := 0) hx hb dLa_copyFrom_4 (by decide +kernel) ?_
  refine lv_aload_n hx hb dLa_copyFrom_5 rfl (lv_at hl 0 rfl) ?_
  refine va_get (D := (dC, dI)) (ci := 3) (v := .ref (ad 14)) (C := RLa) (T := TLa) (N := 4) hx hb hc inLa hown hK hP 13 rfl rfl 0 (by decide) (hc _ w60) (fun _ h9 => h9) rfl dLa_copyFrom_6 ?_
  refine lv_iconst (v := 0) hx hb dLa_copyFrom_9 (by decide +kernel) ?_
  refine lv_bipush (v := 120) hx hb dLa_copyFrom_10 (by decide +kernel) ?_
  refine va_copyi hx hb (by rw [hml]; exact hl.1.symm) hown (hc _ w144) (hc _ w146) (hc _ w145) (hc _ w13) hK hP hD hS 9 14 6 10 rfl rfl rfl rfl rfl (by decide) (by decide) (by decide) (by decide) (by decide) (fun _ _ => rfl) (Nat.le_of_ble_eq_true rfl) (by decide +kernel) dLa_copyFrom_12 (fun H locs hP hD hS => ?_)
  obtain ⟨S_1, eS_1⟩ : ∃ z9 : Ss, z9 = row S 10 (va_cpy (S 6) (S 10) 0 0 120) := ⟨_, rfl⟩
  have hP : va_P (dC, dI) vwCl (XW ad ca S_1) H := by rw [eS_1]; exact hP
  have hD : va_D A (XW ad ca S_1) := by rw [eS_1]; exact hD
  refine lv_aload_n hx hb dLa_copyFrom_15 rfl (lv_at hl 1 rfl) ?_
  refine va_get (D := (dC, dI)) (ci := 3) (v := .ref (ad 10)) (C := RLa) (T := TLa) (N := 4) hx hb hc inLa hown hK hP 8 rfl rfl 1 (by decide) (hc _ w62) (fun _ h9 => h9) rfl dLa_copyFrom_16 ?_
  refine lv_iconst (v := 0) hx hb dLa_copyFrom_19 (by decide +kernel) ?_
  refine lv_aload_n hx hb dLa_copyFrom_20 rfl (lv_at hl 0 rfl) ?_
  refine va_get (D := (dC, dI)) (ci := 3) (v := .ref (ad 15)) (C := RLa) (T := TLa) (N := 4) hx hb hc inLa hown hK hP 13 rfl rfl 1 (by decide) (hc _ w62) (fun _ h9 => h9) rfl dLa_copyFrom_21 ?_
  refine lv_iconst (v := 0) hx hb dLa_copyFrom_24 (by decide +kernel) ?_
  refine lv_bipush (v := 120) hx hb dLa_copyFrom_25 (by decide +kernel) ?_
  refine va_copyi hx hb (by rw [hml]; exact hl.1.symm) hown (hc _ w144) (hc _ w146) (hc _ w145) (hc _ w13) hK hP hD hS 10 15 7 11 rfl rfl rfl rfl rfl (by decide) (by decide) (by decide) (by decide) (by decide) (fun _ _ => rfl) (Nat.le_of_ble_eq_true rfl) (by decide +kernel) dLa_copyFrom_27 (fun H locs hP hD hS => ?_)
  obtain ⟨S_2, eS_2⟩ : ∃ z9 : Ss, z9 = row S_1 11 (va_cpy (S_1 7) (S_1 11) 0 0 120) := ⟨_, rfl⟩
  have hP : va_P (dC, dI) vwCl (XW ad ca S_2) H := by rw [eS_2]; exact hP
  have hD : va_D A (XW ad ca S_2) := by rw [eS_2]; exact hD
  refine lv_aload_n hx hb dLa_copyFrom_30 rfl (lv_at hl 1 rfl) ?_
  refine va_get (D := (dC, dI)) (ci := 3) (v := .ref (ad 11)) (C := RLa) (T := TLa) (N := 4) hx hb hc inLa hown hK hP 8 rfl rfl 2 (by decide) (hc _ w64) (fun _ h9 => h9) rfl dLa_copyFrom_31 ?_
  refine lv_iconst (v := 0) hx hb dLa_copyFrom_34 (by decide +kernel) ?_
  refine lv_aload_n hx hb dLa_copyFrom_35 rfl (lv_at hl 0 rfl) ?_
  refine va_get (D := (dC, dI)) (ci := 3) (v := .ref (ad 16)) (C := RLa) (T := TLa) (N := 4) hx hb hc inLa hown hK hP 13 rfl rfl 2 (by decide) (hc _ w64) (fun _ h9 => h9) rfl dLa_copyFrom_36 ?_
  refine lv_iconst (v := 0) hx hb dLa_copyFrom_39 (by decide +kernel) ?_
  refine lv_bipush (v := 12) hx hb dLa_copyFrom_40 (by decide +kernel) ?_
  refine va_copyi hx hb (by rw [hml]; exact hl.1.symm) hown (hc _ w144) (hc _ w146) (hc _ w145) (hc _ w13) hK hP hD hS 11 16 8 12 rfl rfl rfl rfl rfl (by decide) (by decide) (by decide) (by decide) (by decide) (fun _ _ => rfl) (Nat.le_of_ble_eq_true rfl) (by decide +kernel) dLa_copyFrom_42 (fun H locs hP hD hS => ?_)
  obtain ⟨S_3, eS_3⟩ : ∃ z9 : Ss, z9 = row S_2 12 (va_cpy (S_2 8) (S_2 12) 0 0 12) := ⟨_, rfl⟩
  have hP : va_P (dC, dI) vwCl (XW ad ca S_3) H := by rw [eS_3]; exact hP
  have hD : va_D A (XW ad ca S_3) := by rw [eS_3]; exact hD
  exact W.vret hx hb hr (fun t ht hW => ⟨⟨S_3, rfl, (by (try dsimp only); exact (by rw [eS_3, eS_2, eS_1]; unfold dwn; rw [← fill_cpy, ← fill_cpy, ← fill_cpy]; rfl)), by rw [ht]; exact hP, va_K.moved hW.alike hK, hD⟩, hS.F ht⟩) hS.2.2 dLa_copyFrom_45
end
section
/-- what a block that works must be -/
def okW (S : Ss) (j : Nat) (x : Int32) (q0 p0 : Nat) : Prop :=
  (x = 0 ∨ x = 1) ∧ wi (S 14 j) 0 7 ∧ (S 14 j = 0 ∨ S 14 j = 1 ∨ S 14 j = 2 → wi (S 15 j) 1 100) ∧ wi (S 20 j) 0 100 ∧ (S 14 j = 2 → q0 < 32 ∧ S 16 j = nI q0) ∧ (5 ≤ S 14 j → p0 < 8 ∧ S 15 j = nI p0) ∧ (5 ≤ S 14 j → q0 < 8 ∧ S 16 j = nI q0) ∧ (∀ k, k < 8 → rng (S 5 k)) ∧ rng (S 17 j) ∧ rng (S 18 j) ∧ (S 14 j = 7 → S 18 j ≤ S 17 j) ∧ ¬ failB S j x
theorem kk5 {k : Int32} (h : wi k 0 7) (h0 : ¬ k = 0) (h1 : ¬ k = 1) (h2 : ¬ k = 2) (h3 : ¬ k = 3) (h4 : ¬ k = 4) : 5 ≤ k := by
  simp only [wi, Int32.le_iff_toInt_le, ← Int32.toInt_inj, Int32.reduceToInt] at *
  omega
theorem k567 {k : Int32} (h : wi k 0 7) (h5 : 5 ≤ k) : k = 5 ∨ k = 6 ∨ k = 7 := by
  simp only [wi, Int32.le_iff_toInt_le, ← Int32.toInt_inj, Int32.reduceToInt] at *
  omega
theorem i32_add {a b : Int32} (h1 : -2147483648 ≤ a.toInt + b.toInt) (h2 : a.toInt + b.toInt < 2147483648) : (a + b).toInt = a.toInt + b.toInt := by
  have e : (a + b).toInt = (a.toInt + b.toInt).bmod (2 ^ 32) := BitVec.toInt_add a.toBitVec b.toBitVec
  rw [e]
  exact Int.bmod_eq_of_le (by omega) (by omega)
theorem i32_sub {a b : Int32} (h1 : -2147483648 ≤ a.toInt - b.toInt) (h2 : a.toInt - b.toInt < 2147483648) : (a - b).toInt = a.toInt - b.toInt := by
  have e : (a - b).toInt = (a.toInt - b.toInt).bmod (2 ^ 32) := by exact BitVec.toInt_sub
  rw [e]
  exact Int.bmod_eq_of_le (by omega) (by omega)
theorem mn_eq {c p : Int32} (hc : wi c 0 100) (hp : wi p 1 100) : (if p < c + 1 then p else c + 1) = (if c < p then c + 1 else p) := by
  obtain ⟨h1, h2⟩ := hc
  obtain ⟨h3, h4⟩ := hp
  simp only [Int32.le_iff_toInt_le, Int32.reduceToInt] at h1 h2 h3 h4
  have e1 : (1 : Int32).toInt = 1 := rfl
  have e : (c + 1).toInt = c.toInt + 1 := by rw [i32_add, e1] <;> rw [e1] <;> omega
  by_cases h : c < p
  · have h5 := Int32.lt_iff_toInt_lt.mp h
    rw [if_pos h, if_neg]
    intro h6
    have h7 := Int32.lt_iff_toInt_lt.mp h6
    omega
  · have h5 : ¬ c.toInt < p.toInt := fun z => h (Int32.lt_iff_toInt_lt.mpr z)
    rw [if_neg h, if_pos]
    rw [Int32.lt_iff_toInt_lt]
    omega
theorem mx_eq {c : Int32} (hc : wi c 0 100) : (if c - 1 < 0 then 0 else c - 1) = (if 0 < c then c - 1 else 0) := by
  obtain ⟨h1, h2⟩ := hc
  simp only [Int32.le_iff_toInt_le, Int32.reduceToInt] at h1 h2
  have e1 : (1 : Int32).toInt = 1 := rfl
  have e0 : (0 : Int32).toInt = 0 := rfl
  have e : (c - 1).toInt = c.toInt - 1 := by rw [i32_sub, e1] <;> rw [e1] <;> omega
  by_cases h : 0 < c
  · have h5 := Int32.lt_iff_toInt_lt.mp h
    rw [if_pos h, if_neg]
    intro h6
    have h7 := Int32.lt_iff_toInt_lt.mp h6
    omega
  · have h5 : ¬ (0 : Int32).toInt < c.toInt := fun z => h (Int32.lt_iff_toInt_lt.mpr z)
    rw [if_neg h, if_pos]
    rw [Int32.lt_iff_toInt_lt]
    omega
theorem upd_self (f : Nat → Int32) (k : Nat) : upd f k (f k) = f := by
  funext i
  unfold upd
  by_cases h : i = k
  · rw [if_pos h, h]
  · rw [if_neg h]
theorem reg_no {S : Ss} {j : Nat} {x : Int32} (h : ¬ (5 ≤ S 14 j ∧ x = 1)) : regB S j x = S 5 := by
  unfold regB
  rw [if_neg h]
theorem bw_0 {S : Ss} {j : Nat} {x c o : Int32} (hk : ¬ 5 ≤ S 14 j) (hc : c = cntB S j x) (ho : o = outB S j x) : row (row (row S 20 (upd (S 20) j c)) 19 (upd (S 19) j o)) 21 (upd (S 21) j x) = bw S j x := by
  unfold bw
  rw [reg_no (fun h => hk h.1), row_self, hc, ho]
theorem bw_3 {S : Ss} {j : Nat} {x o : Int32} (hk : ¬ (5 ≤ S 14 j ∧ x = 1)) (hc : S 20 j = cntB S j x) (ho : o = outB S j x) : row (row S 19 (upd (S 19) j o)) 21 (upd (S 21) j x) = bw S j x := by
  unfold bw
  rw [reg_no hk, row_self, ← hc, upd_self, row_self, ho]
theorem bw_5 {S : Ss} {j q0 : Nat} {x o v : Int32} (hk : 5 ≤ S 14 j ∧ x = 1) (hq : S 16 j = nI q0) (hq8 : q0 < 8) (hv : v = clc (S 14 j) (S 5 (S 15 j).toNatClampNeg) (S 17 j) (S 18 j)) (hc : S 20 j = cntB S j x) (ho : o = outB S j x) : row (row (row S 5 (upd (S 5) q0 v)) 19 (upd (S 19) j o)) 21 (upd (S 21) j x) = bw S j x := by
  unfold bw regB
  rw [if_pos hk, hq, nI_clamp (by omega), ← hv, ← hc, upd_self]
  rw [show row (row S 5 (upd (S 5) q0 v)) 20 (S 20) = row S 5 (upd (S 5) q0 v) from row_self (row S 5 (upd (S 5) q0 v)) 20, ho]
theorem n5 {k : Int32} (h : k = 0 ∨ k = 1 ∨ k = 2 ∨ k = 3 ∨ k = 4) : ¬ 5 ≤ k := by
  rcases h with rfl | rfl | rfl | rfl | rfl <;> decide
theorem le_of_eq_of_le9 {a b c : Int32} (h : a = b) (h2 : b ≤ c) : a ≤ c := by rw [h]; exact h2
end
section
set_option maxHeartbeats 4000000 in
set_option maxRecDepth 100000 in
theorem cBl_work (l : Launch) (dC : Nat → ClassId) (dI : Nat → Nat → Nat) (ad : Nat → Nat) (ca : Nat → ClassId) (sz : Nat) (S : Ss) (j : Nat) (hj : j < 10) (x : Int32) (q0 p0 : Nat) (hb9 : okW S j x q0 p0) : Met l yBl_work (kBl_work :: CW) ({ frames := 2, cells := 0, slots := 0, locals := 47 }) (va_Pc [.ref (ad (18 + j)), .int x, .ref (ad 1)] (gPre (dC, dI) (xT ca) (XW ad ca S) sz)) (va_Qi (fun (r : Int32) (u : Ss) => r = outB S j x ∧ u = bw S j x) (fun u => gAt (dC, dI) (xT ca) (va_A (XW ad ca S) sz) (XW ad ca u)) (va_A (XW ad ca S) sz)) 0 0 (va_A (XW ad ca S) sz) := by
  refine Met.ofW (cc := bBl_work) (maxL := 3) (ret := (some .int)) (by decide +kernel) rfl ?_
  intro p e s m args below meth c s₁ B hml hv
  obtain ⟨rfl, hsz, hP, hK, hD0⟩ := hv
  have hx := B.exec
  have hb := B.bytes
  have hr := B.returns
  have hts := atoms_spec (ws := kBl_work :: CW) B.pre
  have hc : ∀ w ∈ CW, w.before _ s = true := fun w h => hts w (List.mem_cons_of_mem _ h)
  have hown : s.vm.findClass RBl = some m.cls := findClass_of_methodNamed B.named
  have hlocks := B.notSynchronized
  subst hsz
  have hD := hD0.self (sz := s.heap.size)
  generalize hAe : va_A (XW ad ca S) s.heap.size = A at hD ⊢
  have hA : ∀ q : Nat, s.heap.size ≤ q → A q := fun q h => by rw [← hAe]; exact Or.inr h
  have hS : va_S A s.heap s.heap [] := va_S.rf
  have hl := lv_entry ([.ref (ad (18 + j)), .int x, .ref (ad 1)]) (n := 3) (Nat.le_of_ble_eq_true rfl)
  rw [lg_entry_eq]
  generalize (lg_sl ([.ref (ad (18 + j)), .int x, .ref (ad 1)]) ++ List.replicate (3 - (lg_sl ([.ref (ad (18 + j)), .int x, .ref (ad 1)])).length) Slot.unset).toArray = ls at hl ⊢
  have hl : lv_has ls 3 [(0, .ref (ad (18 + j))), (1, .int x), (2, .ref (ad 1))] := hl
  obtain ⟨hx01, hk7, hp9, hc9, hq2, hp5, hq5, hr9, hf9, ho9, h79, h69⟩ := hb9
  refine lv_aload_n hx hb dBl_work_0 rfl (lv_at hl 0 rfl) ?_
  refine va_get (D := (dC, dI)) (ci := 2) (v := .int (S 14 j)) (C := RBl) (T := TBl) (N := 8) hx hb hc inBl hown hK hP (18 + j) (xb_cell (by omega)) rfl 0 (by decide) (hc _ w81) (fun _ h9 => h9) rfl dBl_work_1 ?_
  by_cases w_0 : S 14 j = 0
  · refine lv_tableIn (tgt := 40) hx hb dBl_work_4 (by rw [w_0]; decide) (by rw [w_0]; decide) (by rw [w_0]; rfl) (by decide) ?_
    refine lv_aload_n hx hb dBl_work_40 rfl (lv_at hl 0 rfl) ?_
    refine lv_iload_n hx hb dBl_work_41 rfl (lv_at hl 1 rfl) ?_
    refine lv_iconst (v := 1) hx hb dBl_work_42 (by decide +kernel) ?_
    refine lv_icmp_ne (tgt := 62) hx hb dBl_work_43 (by decide) (fun c_1 => ?_) (fun c_1 => ?_)
    · refine lv_iconst (v := 0) hx hb dBl_work_62 (by decide +kernel) ?_
      refine va_put (D := (dC, dI)) (ci := 2) (v := .int 0) (ty := .int) (C := RBl) (T := TBl) (N := 8) hx hb hc inBl tyBl tyBl_ok nmBl hown hK hP hD hS (18 + j) (xb_cell (by omega)) rfl 6 (by decide) (hc _ w91) (fun _ h9 => h9) rfl (by decide +kernel) rfl rfl (Nat.le_of_ble_eq_true rfl) dBl_work_63 (fun H locs hP hD hS => ?_)
      obtain ⟨S_3, eS_3⟩ : ∃ z9 : Ss, z9 = row S 20 (upd (S 20) j 0) := ⟨_, rfl⟩
      rw [xb_set (by omega) 6 (by decide)] at hP hD
      have hP : va_P (dC, dI) vwCl (XW ad ca S_3) H := by rw [eS_3]; exact hP
      have hD : va_D A (XW ad ca S_3) := by rw [eS_3]; exact hD
      refine lv_aload_n hx hb dBl_work_66 rfl (lv_at hl 0 rfl) ?_
      refine lv_iload_n hx hb dBl_work_67 rfl (lv_at hl 1 rfl) ?_
      refine lv_iconst (v := 1) hx hb dBl_work_68 (by decide +kernel) ?_
      refine lv_icmp_ne (tgt := 87) hx hb dBl_work_69 (by decide) (fun c_3 => ?_) (fun c_3 => ?_)
      · refine lv_iconst (v := 0) hx hb dBl_work_87 (by decide +kernel) ?_
        refine va_put (D := (dC, dI)) (ci := 2) (v := .int 0) (ty := .int) (C := RBl) (T := TBl) (N := 8) hx hb hc inBl tyBl tyBl_ok nmBl hown hK hP hD hS (18 + j) (xb_cell (by omega)) rfl 5 (by decide) (hc _ w89) (fun _ h9 => h9) rfl (by decide +kernel) rfl rfl (Nat.le_of_ble_eq_true rfl) dBl_work_88 (fun H locs hP hD hS => ?_)
        obtain ⟨S_5, eS_5⟩ : ∃ z9 : Ss, z9 = row S_3 19 (upd (S_3 19) j 0) := ⟨_, rfl⟩
        rw [xb_set (by omega) 5 (by decide)] at hP hD
        have hP : va_P (dC, dI) vwCl (XW ad ca S_5) H := by rw [eS_5]; exact hP
        have hD : va_D A (XW ad ca S_5) := by rw [eS_5]; exact hD
        refine lv_goto (tgt := 259) hx hb dBl_work_91 (by decide) ?_
        refine lv_aload_n hx hb dBl_work_259 rfl (lv_at hl 0 rfl) ?_
        refine lv_iload_n hx hb dBl_work_260 rfl (lv_at hl 1 rfl) ?_
        refine va_put (D := (dC, dI)) (ci := 2) (v := .int x) (ty := .int) (C := RBl) (T := TBl) (N := 8) hx hb hc inBl tyBl tyBl_ok nmBl hown hK hP hD hS (18 + j) (xb_cell (by omega)) rfl 7 (by decide) (hc _ w93) (fun _ h9 => h9) rfl (by decide +kernel) rfl rfl (Nat.le_of_ble_eq_true rfl) dBl_work_261 (fun H locs hP hD hS => ?_)
        obtain ⟨S_6, eS_6⟩ : ∃ z9 : Ss, z9 = row S_5 21 (upd (S_5 21) j x) := ⟨_, rfl⟩
        rw [xb_set (by omega) 7 (by decide)] at hP hD
        have hP : va_P (dC, dI) vwCl (XW ad ca S_6) H := by rw [eS_6]; exact hP
        have hD : va_D A (XW ad ca S_6) := by rw [eS_6]; exact hD
        refine lv_aload_n hx hb dBl_work_264 rfl (lv_at hl 0 rfl) ?_
        refine va_get (D := (dC, dI)) (ci := 2) (v := .int (S_6 19 j)) (C := RBl) (T := TBl) (N := 8) hx hb hc inBl hown hK hP (18 + j) (xb_cell (by omega)) rfl 5 (by decide) (hc _ w89) (fun _ h9 => h9) rfl dBl_work_265 ?_
        exact W.iret (v := (S_6 19 j)) hx hb hr (fun t ht hW => ⟨⟨_, S_6, rfl, (by (try dsimp only); exact (by subst S_6; subst S_5; subst S_3; have hC : 0 = cntB S j x := (by unfold cntB; rw [if_pos w_0, if_neg c_1]); have hO : (0 : Int32) = outB S j x := (by unfold outB; rw [if_pos w_0]; exact (b2_f (fun h => c_1 h.1)).symm); exact ⟨(show upd (S 19) j 0 j = outB S j x from pk_us.trans hO), bw_0 (n5 (Or.inl w_0)) hC hO⟩)), by rw [ht]; exact hP, va_K.moved hW.alike hK, hD⟩, hS.F ht⟩) hS.2.2 dBl_work_268
      · exact absurd c_3 c_1
    · refine lv_aload_n hx hb dBl_work_46 rfl (lv_at hl 0 rfl) ?_
      refine va_get (D := (dC, dI)) (ci := 2) (v := .int (S 20 j)) (C := RBl) (T := TBl) (N := 8) hx hb hc inBl hown hK hP (18 + j) (xb_cell (by omega)) rfl 6 (by decide) (hc _ w91) (fun _ h9 => h9) rfl dBl_work_47 ?_
      refine lv_iconst (v := 1) hx hb dBl_work_50 (by decide +kernel) ?_
      refine lv_iadd hx hb dBl_work_51 ?_
      refine lv_aload_n hx hb dBl_work_52 rfl (lv_at hl 0 rfl) ?_
      refine va_get (D := (dC, dI)) (ci := 2) (v := .int (S 15 j)) (C := RBl) (T := TBl) (N := 8) hx hb hc inBl hown hK hP (18 + j) (xb_cell (by omega)) rfl 1 (by decide) (hc _ w83) (fun _ h9 => h9) rfl dBl_work_53 ?_
      refine va_mmin hx hb (by rw [hml]; exact hl.1.symm) hown (hc _ w440) (hc _ w441) (hc _ w14) (hc _ w442) (Nat.le_of_ble_eq_true rfl) (Nat.le_of_ble_eq_true rfl) (Nat.zero_le _) (Nat.zero_le _) dBl_work_56 ?_
      refine lv_topi (fun v_7 ev_7 => ?_)
      refine lv_goto (tgt := 63) hx hb dBl_work_59 (by decide) ?_
      refine va_put (D := (dC, dI)) (ci := 2) (v := .int v_7) (ty := .int) (C := RBl) (T := TBl) (N := 8) hx hb hc inBl tyBl tyBl_ok nmBl hown hK hP hD hS (18 + j) (xb_cell (by omega)) rfl 6 (by decide) (hc _ w91) (fun _ h9 => h9) rfl (by decide +kernel) rfl rfl (Nat.le_of_ble_eq_true rfl) dBl_work_63 (fun H locs hP hD hS => ?_)
      obtain ⟨S_8, eS_8⟩ : ∃ z9 : Ss, z9 = row S 20 (upd (S 20) j v_7) := ⟨_, rfl⟩
      rw [xb_set (by omega) 6 (by decide)] at hP hD
      have hP : va_P (dC, dI) vwCl (XW ad ca S_8) H := by rw [eS_8]; exact hP
      have hD : va_D A (XW ad ca S_8) := by rw [eS_8]; exact hD
      refine lv_aload_n hx hb dBl_work_66 rfl (lv_at hl 0 rfl) ?_
      refine lv_iload_n hx hb dBl_work_67 rfl (lv_at hl 1 rfl) ?_
      refine lv_iconst (v := 1) hx hb dBl_work_68 (by decide +kernel) ?_
      refine lv_icmp_ne (tgt := 87) hx hb dBl_work_69 (by decide) (fun c_8 => ?_) (fun c_8 => ?_)
      · exact absurd c_1 c_8
      · refine lv_aload_n hx hb dBl_work_72 rfl (lv_at hl 0 rfl) ?_
        refine va_get (D := (dC, dI)) (ci := 2) (v := .int (S_8 20 j)) (C := RBl) (T := TBl) (N := 8) hx hb hc inBl hown hK hP (18 + j) (xb_cell (by omega)) rfl 6 (by decide) (hc _ w91) (fun _ h9 => h9) rfl dBl_work_73 ?_
        refine lv_aload_n hx hb dBl_work_76 rfl (lv_at hl 0 rfl) ?_
        refine va_get (D := (dC, dI)) (ci := 2) (v := .int (S_8 15 j)) (C := RBl) (T := TBl) (N := 8) hx hb hc inBl hown hK hP (18 + j) (xb_cell (by omega)) rfl 1 (by decide) (hc _ w83) (fun _ h9 => h9) rfl dBl_work_77 ?_
        refine lv_icmp_ne (tgt := 87) hx hb dBl_work_80 (by decide) (fun c_9 => ?_) (fun c_9 => ?_)
        · refine lv_iconst (v := 0) hx hb dBl_work_87 (by decide +kernel) ?_
          refine va_put (D := (dC, dI)) (ci := 2) (v := .int 0) (ty := .int) (C := RBl) (T := TBl) (N := 8) hx hb hc inBl tyBl tyBl_ok nmBl hown hK hP hD hS (18 + j) (xb_cell (by omega)) rfl 5 (by decide) (hc _ w89) (fun _ h9 => h9) rfl (by decide +kernel) rfl rfl (Nat.le_of_ble_eq_true rfl) dBl_work_88 (fun H locs hP hD hS => ?_)
          obtain ⟨S_11, eS_11⟩ : ∃ z9 : Ss, z9 = row S_8 19 (upd (S_8 19) j 0) := ⟨_, rfl⟩
          rw [xb_set (by omega) 5 (by decide)] at hP hD
          have hP : va_P (dC, dI) vwCl (XW ad ca S_11) H := by rw [eS_11]; exact hP
          have hD : va_D A (XW ad ca S_11) := by rw [eS_11]; exact hD
          refine lv_goto (tgt := 259) hx hb dBl_work_91 (by decide) ?_
          refine lv_aload_n hx hb dBl_work_259 rfl (lv_at hl 0 rfl) ?_
          refine lv_iload_n hx hb dBl_work_260 rfl (lv_at hl 1 rfl) ?_
          refine va_put (D := (dC, dI)) (ci := 2) (v := .int x) (ty := .int) (C := RBl) (T := TBl) (N := 8) hx hb hc inBl tyBl tyBl_ok nmBl hown hK hP hD hS (18 + j) (xb_cell (by omega)) rfl 7 (by decide) (hc _ w93) (fun _ h9 => h9) rfl (by decide +kernel) rfl rfl (Nat.le_of_ble_eq_true rfl) dBl_work_261 (fun H locs hP hD hS => ?_)
          obtain ⟨S_12, eS_12⟩ : ∃ z9 : Ss, z9 = row S_11 21 (upd (S_11 21) j x) := ⟨_, rfl⟩
          rw [xb_set (by omega) 7 (by decide)] at hP hD
          have hP : va_P (dC, dI) vwCl (XW ad ca S_12) H := by rw [eS_12]; exact hP
          have hD : va_D A (XW ad ca S_12) := by rw [eS_12]; exact hD
          refine lv_aload_n hx hb dBl_work_264 rfl (lv_at hl 0 rfl) ?_
          refine va_get (D := (dC, dI)) (ci := 2) (v := .int (S_12 19 j)) (C := RBl) (T := TBl) (N := 8) hx hb hc inBl hown hK hP (18 + j) (xb_cell (by omega)) rfl 5 (by decide) (hc _ w89) (fun _ h9 => h9) rfl dBl_work_265 ?_
          exact W.iret (v := (S_12 19 j)) hx hb hr (fun t ht hW => ⟨⟨_, S_12, rfl, (by (try dsimp only); exact (by subst S_12; subst S_11; subst S_8; subst v_7; have hC : (if S 15 j < S 20 j + 1 then S 15 j else S 20 j + 1) = cntB S j x := (by unfold cntB; rw [if_pos w_0, if_pos c_1]; exact mn_eq hc9 (hp9 (Or.inl w_0))); have hO : (0 : Int32) = outB S j x := (by unfold outB; rw [if_pos w_0, ← hC]; exact (b2_f (fun h => c_9 ((pk_us (f := S 20) (k := j) (x := (if S 15 j < S 20 j + 1 then S 15 j else S 20 j + 1))).trans h.2))).symm); exact ⟨(show upd (S 19) j 0 j = outB S j x from pk_us.trans hO), bw_0 (n5 (Or.inl w_0)) hC hO⟩)), by rw [ht]; exact hP, va_K.moved hW.alike hK, hD⟩, hS.F ht⟩) hS.2.2 dBl_work_268
        · refine lv_iconst (v := 1) hx hb dBl_work_83 (by decide +kernel) ?_
          refine lv_goto (tgt := 88) hx hb dBl_work_84 (by decide) ?_
          refine va_put (D := (dC, dI)) (ci := 2) (v := .int 1) (ty := .int) (C := RBl) (T := TBl) (N := 8) hx hb hc inBl tyBl tyBl_ok nmBl hown hK hP hD hS (18 + j) (xb_cell (by omega)) rfl 5 (by decide) (hc _ w89) (fun _ h9 => h9) rfl (by decide +kernel) rfl rfl (Nat.le_of_ble_eq_true rfl) dBl_work_88 (fun H locs hP hD hS => ?_)
          obtain ⟨S_13, eS_13⟩ : ∃ z9 : Ss, z9 = row S_8 19 (upd (S_8 19) j 1) := ⟨_, rfl⟩
          rw [xb_set (by omega) 5 (by decide)] at hP hD
          have hP : va_P (dC, dI) vwCl (XW ad ca S_13) H := by rw [eS_13]; exact hP
          have hD : va_D A (XW ad ca S_13) := by rw [eS_13]; exact hD
          refine lv_goto (tgt := 259) hx hb dBl_work_91 (by decide) ?_
          refine lv_aload_n hx hb dBl_work_259 rfl (lv_at hl 0 rfl) ?_
          refine lv_iload_n hx hb dBl_work_260 rfl (lv_at hl 1 rfl) ?_
          refine va_put (D := (dC, dI)) (ci := 2) (v := .int x) (ty := .int) (C := RBl) (T := TBl) (N := 8) hx hb hc inBl tyBl tyBl_ok nmBl hown hK hP hD hS (18 + j) (xb_cell (by omega)) rfl 7 (by decide) (hc _ w93) (fun _ h9 => h9) rfl (by decide +kernel) rfl rfl (Nat.le_of_ble_eq_true rfl) dBl_work_261 (fun H locs hP hD hS => ?_)
          obtain ⟨S_14, eS_14⟩ : ∃ z9 : Ss, z9 = row S_13 21 (upd (S_13 21) j x) := ⟨_, rfl⟩
          rw [xb_set (by omega) 7 (by decide)] at hP hD
          have hP : va_P (dC, dI) vwCl (XW ad ca S_14) H := by rw [eS_14]; exact hP
          have hD : va_D A (XW ad ca S_14) := by rw [eS_14]; exact hD
          refine lv_aload_n hx hb dBl_work_264 rfl (lv_at hl 0 rfl) ?_
          refine va_get (D := (dC, dI)) (ci := 2) (v := .int (S_14 19 j)) (C := RBl) (T := TBl) (N := 8) hx hb hc inBl hown hK hP (18 + j) (xb_cell (by omega)) rfl 5 (by decide) (hc _ w89) (fun _ h9 => h9) rfl dBl_work_265 ?_
          exact W.iret (v := (S_14 19 j)) hx hb hr (fun t ht hW => ⟨⟨_, S_14, rfl, (by (try dsimp only); exact (by subst S_14; subst S_13; subst S_8; subst v_7; have hC : (if S 15 j < S 20 j + 1 then S 15 j else S 20 j + 1) = cntB S j x := (by unfold cntB; rw [if_pos w_0, if_pos c_1]; exact mn_eq hc9 (hp9 (Or.inl w_0))); have hO : (1 : Int32) = outB S j x := (by unfold outB; rw [if_pos w_0, ← hC]; exact (b2_t ⟨c_1, (pk_us (f := S 20) (k := j) (x := (if S 15 j < S 20 j + 1 then S 15 j else S 20 j + 1))).symm.trans c_9⟩).symm); exact ⟨(show upd (S 19) j 1 j = outB S j x from pk_us.trans hO), bw_0 (n5 (Or.inl w_0)) hC hO⟩)), by rw [ht]; exact hP, va_K.moved hW.alike hK, hD⟩, hS.F ht⟩) hS.2.2 dBl_work_268
  by_cases w_14 : S 14 j = 1
  · refine lv_tableIn (tgt := 94) hx hb dBl_work_4 (by rw [w_14]; decide) (by rw [w_14]; decide) (by rw [w_14]; rfl) (by decide) ?_
    refine lv_aload_n hx hb dBl_work_94 rfl (lv_at hl 0 rfl) ?_
    refine lv_iload_n hx hb dBl_work_95 rfl (lv_at hl 1 rfl) ?_
    refine lv_iconst (v := 1) hx hb dBl_work_96 (by decide +kernel) ?_
    refine lv_icmp_ne (tgt := 107) hx hb dBl_work_97 (by decide) (fun c_15 => ?_) (fun c_15 => ?_)
    · refine lv_aload_n hx hb dBl_work_107 rfl (lv_at hl 0 rfl) ?_
      refine va_get (D := (dC, dI)) (ci := 2) (v := .int (S 20 j)) (C := RBl) (T := TBl) (N := 8) hx hb hc inBl hown hK hP (18 + j) (xb_cell (by omega)) rfl 6 (by decide) (hc _ w91) (fun _ h9 => h9) rfl dBl_work_108 ?_
      refine lv_iconst (v := 1) hx hb dBl_work_111 (by decide +kernel) ?_
      refine lv_isub hx hb dBl_work_112 ?_
      refine lv_iconst (v := 0) hx hb dBl_work_113 (by decide +kernel) ?_
      refine va_mmax hx hb (by rw [hml]; exact hl.1.symm) hown (hc _ w443) (hc _ w444) (hc _ w14) (hc _ w445) (Nat.le_of_ble_eq_true rfl) (Nat.le_of_ble_eq_true rfl) (Nat.zero_le _) (Nat.zero_le _) dBl_work_114 ?_
      refine lv_topi (fun v_17 ev_17 => ?_)
      refine va_put (D := (dC, dI)) (ci := 2) (v := .int v_17) (ty := .int) (C := RBl) (T := TBl) (N := 8) hx hb hc inBl tyBl tyBl_ok nmBl hown hK hP hD hS (18 + j) (xb_cell (by omega)) rfl 6 (by decide) (hc _ w91) (fun _ h9 => h9) rfl (by decide +kernel) rfl rfl (Nat.le_of_ble_eq_true rfl) dBl_work_117 (fun H locs hP hD hS => ?_)
      obtain ⟨S_18, eS_18⟩ : ∃ z9 : Ss, z9 = row S 20 (upd (S 20) j v_17) := ⟨_, rfl⟩
      rw [xb_set (by omega) 6 (by decide)] at hP hD
      have hP : va_P (dC, dI) vwCl (XW ad ca S_18) H := by rw [eS_18]; exact hP
      have hD : va_D A (XW ad ca S_18) := by rw [eS_18]; exact hD
      refine lv_aload_n hx hb dBl_work_120 rfl (lv_at hl 0 rfl) ?_
      refine lv_aload_n hx hb dBl_work_121 rfl (lv_at hl 0 rfl) ?_
      refine va_get (D := (dC, dI)) (ci := 2) (v := .int (S_18 20 j)) (C := RBl) (T := TBl) (N := 8) hx hb hc inBl hown hK hP (18 + j) (xb_cell (by omega)) rfl 6 (by decide) (hc _ w91) (fun _ h9 => h9) rfl dBl_work_122 ?_
      refine lv_if_le (tgt := 132) hx hb dBl_work_125 (by decide) (fun c_18 => ?_) (fun c_18 => ?_)
      · refine lv_iconst (v := 0) hx hb dBl_work_132 (by decide +kernel) ?_
        refine va_put (D := (dC, dI)) (ci := 2) (v := .int 0) (ty := .int) (C := RBl) (T := TBl) (N := 8) hx hb hc inBl tyBl tyBl_ok nmBl hown hK hP hD hS (18 + j) (xb_cell (by omega)) rfl 5 (by decide) (hc _ w89) (fun _ h9 => h9) rfl (by decide +kernel) rfl rfl (Nat.le_of_ble_eq_true rfl) dBl_work_133 (fun H locs hP hD hS => ?_)
        obtain ⟨S_20, eS_20⟩ : ∃ z9 : Ss, z9 = row S_18 19 (upd (S_18 19) j 0) := ⟨_, rfl⟩
        rw [xb_set (by omega) 5 (by decide)] at hP hD
        have hP : va_P (dC, dI) vwCl (XW ad ca S_20) H := by rw [eS_20]; exact hP
        have hD : va_D A (XW ad ca S_20) := by rw [eS_20]; exact hD
        refine lv_goto (tgt := 259) hx hb dBl_work_136 (by decide) ?_
        refine lv_aload_n hx hb dBl_work_259 rfl (lv_at hl 0 rfl) ?_
        refine lv_iload_n hx hb dBl_work_260 rfl (lv_at hl 1 rfl) ?_
        refine va_put (D := (dC, dI)) (ci := 2) (v := .int x) (ty := .int) (C := RBl) (T := TBl) (N := 8) hx hb hc inBl tyBl tyBl_ok nmBl hown hK hP hD hS (18 + j) (xb_cell (by omega)) rfl 7 (by decide) (hc _ w93) (fun _ h9 => h9) rfl (by decide +kernel) rfl rfl (Nat.le_of_ble_eq_true rfl) dBl_work_261 (fun H locs hP hD hS => ?_)
        obtain ⟨S_21, eS_21⟩ : ∃ z9 : Ss, z9 = row S_20 21 (upd (S_20 21) j x) := ⟨_, rfl⟩
        rw [xb_set (by omega) 7 (by decide)] at hP hD
        have hP : va_P (dC, dI) vwCl (XW ad ca S_21) H := by rw [eS_21]; exact hP
        have hD : va_D A (XW ad ca S_21) := by rw [eS_21]; exact hD
        refine lv_aload_n hx hb dBl_work_264 rfl (lv_at hl 0 rfl) ?_
        refine va_get (D := (dC, dI)) (ci := 2) (v := .int (S_21 19 j)) (C := RBl) (T := TBl) (N := 8) hx hb hc inBl hown hK hP (18 + j) (xb_cell (by omega)) rfl 5 (by decide) (hc _ w89) (fun _ h9 => h9) rfl dBl_work_265 ?_
        exact W.iret (v := (S_21 19 j)) hx hb hr (fun t ht hW => ⟨⟨_, S_21, rfl, (by (try dsimp only); exact (by subst S_21; subst S_20; subst S_18; subst v_17; have hC : (if S 20 j - 1 < 0 then 0 else S 20 j - 1) = cntB S j x := (by unfold cntB; rw [if_neg w_0, if_pos w_14, if_neg c_15]; exact mx_eq hc9); have hO : (0 : Int32) = outB S j x := (by unfold outB; rw [if_neg w_0, if_pos w_14, ← hC]; exact (b2_f (Int32.not_lt.mpr (le_of_eq_of_le9 (pk_us (f := S 20) (k := j) (x := (if S 20 j - 1 < 0 then 0 else S 20 j - 1))).symm c_18))).symm); exact ⟨(show upd (S 19) j 0 j = outB S j x from pk_us.trans hO), bw_0 (n5 (Or.inr (Or.inl w_14))) hC hO⟩)), by rw [ht]; exact hP, va_K.moved hW.alike hK, hD⟩, hS.F ht⟩) hS.2.2 dBl_work_268
      · refine lv_iconst (v := 1) hx hb dBl_work_128 (by decide +kernel) ?_
        refine lv_goto (tgt := 133) hx hb dBl_work_129 (by decide) ?_
        refine va_put (D := (dC, dI)) (ci := 2) (v := .int 1) (ty := .int) (C := RBl) (T := TBl) (N := 8) hx hb hc inBl tyBl tyBl_ok nmBl hown hK hP hD hS (18 + j) (xb_cell (by omega)) rfl 5 (by decide) (hc _ w89) (fun _ h9 => h9) rfl (by decide +kernel) rfl rfl (Nat.le_of_ble_eq_true rfl) dBl_work_133 (fun H locs hP hD hS => ?_)
        obtain ⟨S_22, eS_22⟩ : ∃ z9 : Ss, z9 = row S_18 19 (upd (S_18 19) j 1) := ⟨_, rfl⟩
        rw [xb_set (by omega) 5 (by decide)] at hP hD
        have hP : va_P (dC, dI) vwCl (XW ad ca S_22) H := by rw [eS_22]; exact hP
        have hD : va_D A (XW ad ca S_22) := by rw [eS_22]; exact hD
        refine lv_goto (tgt := 259) hx hb dBl_work_136 (by decide) ?_
        refine lv_aload_n hx hb dBl_work_259 rfl (lv_at hl 0 rfl) ?_
        refine lv_iload_n hx hb dBl_work_260 rfl (lv_at hl 1 rfl) ?_
        refine va_put (D := (dC, dI)) (ci := 2) (v := .int x) (ty := .int) (C := RBl) (T := TBl) (N := 8) hx hb hc inBl tyBl tyBl_ok nmBl hown hK hP hD hS (18 + j) (xb_cell (by omega)) rfl 7 (by decide) (hc _ w93) (fun _ h9 => h9) rfl (by decide +kernel) rfl rfl (Nat.le_of_ble_eq_true rfl) dBl_work_261 (fun H locs hP hD hS => ?_)
        obtain ⟨S_23, eS_23⟩ : ∃ z9 : Ss, z9 = row S_22 21 (upd (S_22 21) j x) := ⟨_, rfl⟩
        rw [xb_set (by omega) 7 (by decide)] at hP hD
        have hP : va_P (dC, dI) vwCl (XW ad ca S_23) H := by rw [eS_23]; exact hP
        have hD : va_D A (XW ad ca S_23) := by rw [eS_23]; exact hD
        refine lv_aload_n hx hb dBl_work_264 rfl (lv_at hl 0 rfl) ?_
        refine va_get (D := (dC, dI)) (ci := 2) (v := .int (S_23 19 j)) (C := RBl) (T := TBl) (N := 8) hx hb hc inBl hown hK hP (18 + j) (xb_cell (by omega)) rfl 5 (by decide) (hc _ w89) (fun _ h9 => h9) rfl dBl_work_265 ?_
        exact W.iret (v := (S_23 19 j)) hx hb hr (fun t ht hW => ⟨⟨_, S_23, rfl, (by (try dsimp only); exact (by subst S_23; subst S_22; subst S_18; subst v_17; have hC : (if S 20 j - 1 < 0 then 0 else S 20 j - 1) = cntB S j x := (by unfold cntB; rw [if_neg w_0, if_pos w_14, if_neg c_15]; exact mx_eq hc9); have hO : (1 : Int32) = outB S j x := (by unfold outB; rw [if_neg w_0, if_pos w_14, ← hC]; exact (b2_t (Int32.not_le.mp (fun h => c_18 (le_of_eq_of_le9 (pk_us (f := S 20) (k := j) (x := (if S 20 j - 1 < 0 then 0 else S 20 j - 1))) h)))).symm); exact ⟨(show upd (S 19) j 1 j = outB S j x from pk_us.trans hO), bw_0 (n5 (Or.inr (Or.inl w_14))) hC hO⟩)), by rw [ht]; exact hP, va_K.moved hW.alike hK, hD⟩, hS.F ht⟩) hS.2.2 dBl_work_268
    · refine lv_aload_n hx hb dBl_work_100 rfl (lv_at hl 0 rfl) ?_
      refine va_get (D := (dC, dI)) (ci := 2) (v := .int (S 15 j)) (C := RBl) (T := TBl) (N := 8) hx hb hc inBl hown hK hP (18 + j) (xb_cell (by omega)) rfl 1 (by decide) (hc _ w83) (fun _ h9 => h9) rfl dBl_work_101 ?_
      refine lv_goto (tgt := 117) hx hb dBl_work_104 (by decide) ?_
      refine va_put (D := (dC, dI)) (ci := 2) (v := .int (S 15 j)) (ty := .int) (C := RBl) (T := TBl) (N := 8) hx hb hc inBl tyBl tyBl_ok nmBl hown hK hP hD hS (18 + j) (xb_cell (by omega)) rfl 6 (by decide) (hc _ w91) (fun _ h9 => h9) rfl (by decide +kernel) rfl rfl (Nat.le_of_ble_eq_true rfl) dBl_work_117 (fun H locs hP hD hS => ?_)
      obtain ⟨S_24, eS_24⟩ : ∃ z9 : Ss, z9 = row S 20 (upd (S 20) j (S 15 j)) := ⟨_, rfl⟩
      rw [xb_set (by omega) 6 (by decide)] at hP hD
      have hP : va_P (dC, dI) vwCl (XW ad ca S_24) H := by rw [eS_24]; exact hP
      have hD : va_D A (XW ad ca S_24) := by rw [eS_24]; exact hD
      refine lv_aload_n hx hb dBl_work_120 rfl (lv_at hl 0 rfl) ?_
      refine lv_aload_n hx hb dBl_work_121 rfl (lv_at hl 0 rfl) ?_
      refine va_get (D := (dC, dI)) (ci := 2) (v := .int (S_24 20 j)) (C := RBl) (T := TBl) (N := 8) hx hb hc inBl hown hK hP (18 + j) (xb_cell (by omega)) rfl 6 (by decide) (hc _ w91) (fun _ h9 => h9) rfl dBl_work_122 ?_
      refine lv_if_le (tgt := 132) hx hb dBl_work_125 (by decide) (fun c_24 => ?_) (fun c_24 => ?_)
      · refine lv_iconst (v := 0) hx hb dBl_work_132 (by decide +kernel) ?_
        refine va_put (D := (dC, dI)) (ci := 2) (v := .int 0) (ty := .int) (C := RBl) (T := TBl) (N := 8) hx hb hc inBl tyBl tyBl_ok nmBl hown hK hP hD hS (18 + j) (xb_cell (by omega)) rfl 5 (by decide) (hc _ w89) (fun _ h9 => h9) rfl (by decide +kernel) rfl rfl (Nat.le_of_ble_eq_true rfl) dBl_work_133 (fun H locs hP hD hS => ?_)
        obtain ⟨S_26, eS_26⟩ : ∃ z9 : Ss, z9 = row S_24 19 (upd (S_24 19) j 0) := ⟨_, rfl⟩
        rw [xb_set (by omega) 5 (by decide)] at hP hD
        have hP : va_P (dC, dI) vwCl (XW ad ca S_26) H := by rw [eS_26]; exact hP
        have hD : va_D A (XW ad ca S_26) := by rw [eS_26]; exact hD
        refine lv_goto (tgt := 259) hx hb dBl_work_136 (by decide) ?_
        refine lv_aload_n hx hb dBl_work_259 rfl (lv_at hl 0 rfl) ?_
        refine lv_iload_n hx hb dBl_work_260 rfl (lv_at hl 1 rfl) ?_
        refine va_put (D := (dC, dI)) (ci := 2) (v := .int x) (ty := .int) (C := RBl) (T := TBl) (N := 8) hx hb hc inBl tyBl tyBl_ok nmBl hown hK hP hD hS (18 + j) (xb_cell (by omega)) rfl 7 (by decide) (hc _ w93) (fun _ h9 => h9) rfl (by decide +kernel) rfl rfl (Nat.le_of_ble_eq_true rfl) dBl_work_261 (fun H locs hP hD hS => ?_)
        obtain ⟨S_27, eS_27⟩ : ∃ z9 : Ss, z9 = row S_26 21 (upd (S_26 21) j x) := ⟨_, rfl⟩
        rw [xb_set (by omega) 7 (by decide)] at hP hD
        have hP : va_P (dC, dI) vwCl (XW ad ca S_27) H := by rw [eS_27]; exact hP
        have hD : va_D A (XW ad ca S_27) := by rw [eS_27]; exact hD
        refine lv_aload_n hx hb dBl_work_264 rfl (lv_at hl 0 rfl) ?_
        refine va_get (D := (dC, dI)) (ci := 2) (v := .int (S_27 19 j)) (C := RBl) (T := TBl) (N := 8) hx hb hc inBl hown hK hP (18 + j) (xb_cell (by omega)) rfl 5 (by decide) (hc _ w89) (fun _ h9 => h9) rfl dBl_work_265 ?_
        exact W.iret (v := (S_27 19 j)) hx hb hr (fun t ht hW => ⟨⟨_, S_27, rfl, (by (try dsimp only); exact (by subst S_27; subst S_26; subst S_24; have hC : (S 15 j) = cntB S j x := (by unfold cntB; rw [if_neg w_0, if_pos w_14, if_pos c_15]); have hO : (0 : Int32) = outB S j x := (by unfold outB; rw [if_neg w_0, if_pos w_14, ← hC]; exact (b2_f (Int32.not_lt.mpr (le_of_eq_of_le9 (pk_us (f := S 20) (k := j) (x := (S 15 j))).symm c_24))).symm); exact ⟨(show upd (S 19) j 0 j = outB S j x from pk_us.trans hO), bw_0 (n5 (Or.inr (Or.inl w_14))) hC hO⟩)), by rw [ht]; exact hP, va_K.moved hW.alike hK, hD⟩, hS.F ht⟩) hS.2.2 dBl_work_268
      · refine lv_iconst (v := 1) hx hb dBl_work_128 (by decide +kernel) ?_
        refine lv_goto (tgt := 133) hx hb dBl_work_129 (by decide) ?_
        refine va_put (D := (dC, dI)) (ci := 2) (v := .int 1) (ty := .int) (C := RBl) (T := TBl) (N := 8) hx hb hc inBl tyBl tyBl_ok nmBl hown hK hP hD hS (18 + j) (xb_cell (by omega)) rfl 5 (by decide) (hc _ w89) (fun _ h9 => h9) rfl (by decide +kernel) rfl rfl (Nat.le_of_ble_eq_true rfl) dBl_work_133 (fun H locs hP hD hS => ?_)
        obtain ⟨S_28, eS_28⟩ : ∃ z9 : Ss, z9 = row S_24 19 (upd (S_24 19) j 1) := ⟨_, rfl⟩
        rw [xb_set (by omega) 5 (by decide)] at hP hD
        have hP : va_P (dC, dI) vwCl (XW ad ca S_28) H := by rw [eS_28]; exact hP
        have hD : va_D A (XW ad ca S_28) := by rw [eS_28]; exact hD
        refine lv_goto (tgt := 259) hx hb dBl_work_136 (by decide) ?_
        refine lv_aload_n hx hb dBl_work_259 rfl (lv_at hl 0 rfl) ?_
        refine lv_iload_n hx hb dBl_work_260 rfl (lv_at hl 1 rfl) ?_
        refine va_put (D := (dC, dI)) (ci := 2) (v := .int x) (ty := .int) (C := RBl) (T := TBl) (N := 8) hx hb hc inBl tyBl tyBl_ok nmBl hown hK hP hD hS (18 + j) (xb_cell (by omega)) rfl 7 (by decide) (hc _ w93) (fun _ h9 => h9) rfl (by decide +kernel) rfl rfl (Nat.le_of_ble_eq_true rfl) dBl_work_261 (fun H locs hP hD hS => ?_)
        obtain ⟨S_29, eS_29⟩ : ∃ z9 : Ss, z9 = row S_28 21 (upd (S_28 21) j x) := ⟨_, rfl⟩
        rw [xb_set (by omega) 7 (by decide)] at hP hD
        have hP : va_P (dC, dI) vwCl (XW ad ca S_29) H := by rw [eS_29]; exact hP
        have hD : va_D A (XW ad ca S_29) := by rw [eS_29]; exact hD
        refine lv_aload_n hx hb dBl_work_264 rfl (lv_at hl 0 rfl) ?_
        refine va_get (D := (dC, dI)) (ci := 2) (v := .int (S_29 19 j)) (C := RBl) (T := TBl) (N := 8) hx hb hc inBl hown hK hP (18 + j) (xb_cell (by omega)) rfl 5 (by decide) (hc _ w89) (fun _ h9 => h9) rfl dBl_work_265 ?_
        exact W.iret (v := (S_29 19 j)) hx hb hr (fun t ht hW => ⟨⟨_, S_29, rfl, (by (try dsimp only); exact (by subst S_29; subst S_28; subst S_24; have hC : (S 15 j) = cntB S j x := (by unfold cntB; rw [if_neg w_0, if_pos w_14, if_pos c_15]); have hO : (1 : Int32) = outB S j x := (by unfold outB; rw [if_neg w_0, if_pos w_14, ← hC]; exact (b2_t (Int32.not_le.mp (fun h => c_24 (le_of_eq_of_le9 (pk_us (f := S 20) (k := j) (x := (S 15 j))) h)))).symm); exact ⟨(show upd (S 19) j 1 j = outB S j x from pk_us.trans hO), bw_0 (n5 (Or.inr (Or.inl w_14))) hC hO⟩)), by rw [ht]; exact hP, va_K.moved hW.alike hK, hD⟩, hS.F ht⟩) hS.2.2 dBl_work_268
  by_cases w_29 : S 14 j = 2
  · refine lv_tableIn (tgt := 139) hx hb dBl_work_4 (by rw [w_29]; decide) (by rw [w_29]; decide) (by rw [w_29]; rfl) (by decide) ?_
    refine lv_aload_n hx hb dBl_work_139 rfl (lv_at hl 0 rfl) ?_
    refine lv_aload_n hx hb dBl_work_140 rfl (lv_at hl 0 rfl) ?_
    refine lv_iload_n hx hb dBl_work_141 rfl (lv_at hl 1 rfl) ?_
    refine lv_aload_n hx hb dBl_work_142 rfl (lv_at hl 2 rfl) ?_
    refine lv_aload_n hx hb dBl_work_143 rfl (lv_at hl 0 rfl) ?_
    refine va_get (D := (dC, dI)) (ci := 2) (v := .int (S 16 j)) (C := RBl) (T := TBl) (N := 8) hx hb hc inBl hown hK hP (18 + j) (xb_cell (by omega)) rfl 2 (by decide) (hc _ w84) (fun _ h9 => h9) rfl dBl_work_144 ?_
    obtain ⟨hq20, hq21⟩ := hq2 w_29
    refine W.eq (g2 := F0 m 147 ls [.int (nI q0), .ref (ad 1), .int x, .ref (ad (18 + j)), .ref (ad (18 + j))]) (by rw [hq21]) ?_
    refine vp_callSi (va_Run.run (va_runV (As := [.int (nI q0)]) (rest := [.int x, .ref (ad (18 + j)), .ref (ad (18 + j))]) ⟨hx, hb, hml, hown, hc⟩ (cMe_read l dC dI ad ca s.heap.size S q0 (by omega)) (cwV 1 hc (gV w446 w447 w448 w2 qMe_read) rfl rfl rfl (by decide +kernel) ⟨Nat.le_of_ble_eq_true rfl, Nat.le_of_ble_eq_true rfl⟩) ⟨gPre_blind, va_recv hK hP (ci := 1) (q0 := 1) rfl rfl, (gPre_in hP hK hD)⟩ rfl rfl hl.1 rfl (lv_room (Nat.le_of_ble_eq_true rfl)) dBl_work_147 ⟨Nat.zero_le _, Nat.zero_le _⟩)) (fun r_31 hr_31 => ?_)
    refine vp_callSi (va_Run.run (va_runV (As := [.int x, .int r_31]) (rest := [.ref (ad (18 + j))]) ⟨hx, hb, hml, hown, hc⟩ (cBl_countWith l dC dI ad ca s.heap.size S j (by omega) x r_31) (cwV 2 hc (gV w450 w452 s6 w4 qBl_countWith) rfl rfl rfl (by decide +kernel) ⟨Nat.le_of_ble_eq_true rfl, Nat.le_of_ble_eq_true rfl⟩) ⟨gPre_blind, va_recv hK hP (ci := 2) (q0 := (18 + j)) rfl (xb_cell (by omega)), (gPre_in hP hK hD)⟩ rfl rfl hl.1 rfl (lv_room (Nat.le_of_ble_eq_true rfl)) dBl_work_150 ⟨Nat.zero_le _, Nat.zero_le _⟩)) (fun r_32 hr_32 => ?_)
    refine va_put (D := (dC, dI)) (ci := 2) (v := .int r_32) (ty := .int) (C := RBl) (T := TBl) (N := 8) hx hb hc inBl tyBl tyBl_ok nmBl hown hK hP hD hS (18 + j) (xb_cell (by omega)) rfl 6 (by decide) (hc _ w91) (fun _ h9 => h9) rfl (by decide +kernel) rfl rfl (Nat.le_of_ble_eq_true rfl) dBl_work_153 (fun H locs hP hD hS => ?_)
    obtain ⟨S_33, eS_33⟩ : ∃ z9 : Ss, z9 = row S 20 (upd (S 20) j r_32) := ⟨_, rfl⟩
    rw [xb_set (by omega) 6 (by decide)] at hP hD
    have hP : va_P (dC, dI) vwCl (XW ad ca S_33) H := by rw [eS_33]; exact hP
    have hD : va_D A (XW ad ca S_33) := by rw [eS_33]; exact hD
    refine lv_aload_n hx hb dBl_work_156 rfl (lv_at hl 0 rfl) ?_
    refine lv_aload_n hx hb dBl_work_157 rfl (lv_at hl 0 rfl) ?_
    refine va_get (D := (dC, dI)) (ci := 2) (v := .int (S_33 20 j)) (C := RBl) (T := TBl) (N := 8) hx hb hc inBl hown hK hP (18 + j) (xb_cell (by omega)) rfl 6 (by decide) (hc _ w91) (fun _ h9 => h9) rfl dBl_work_158 ?_
    refine lv_aload_n hx hb dBl_work_161 rfl (lv_at hl 0 rfl) ?_
    refine va_get (D := (dC, dI)) (ci := 2) (v := .int (S_33 15 j)) (C := RBl) (T := TBl) (N := 8) hx hb hc inBl hown hK hP (18 + j) (xb_cell (by omega)) rfl 1 (by decide) (hc _ w83) (fun _ h9 => h9) rfl dBl_work_162 ?_
    refine lv_icmp_ne (tgt := 172) hx hb dBl_work_165 (by decide) (fun c_33 => ?_) (fun c_33 => ?_)
    · refine lv_iconst (v := 0) hx hb dBl_work_172 (by decide +kernel) ?_
      refine va_put (D := (dC, dI)) (ci := 2) (v := .int 0) (ty := .int) (C := RBl) (T := TBl) (N := 8) hx hb hc inBl tyBl tyBl_ok nmBl hown hK hP hD hS (18 + j) (xb_cell (by omega)) rfl 5 (by decide) (hc _ w89) (fun _ h9 => h9) rfl (by decide +kernel) rfl rfl (Nat.le_of_ble_eq_true rfl) dBl_work_173 (fun H locs hP hD hS => ?_)
      obtain ⟨S_35, eS_35⟩ : ∃ z9 : Ss, z9 = row S_33 19 (upd (S_33 19) j 0) := ⟨_, rfl⟩
      rw [xb_set (by omega) 5 (by decide)] at hP hD
      have hP : va_P (dC, dI) vwCl (XW ad ca S_35) H := by rw [eS_35]; exact hP
      have hD : va_D A (XW ad ca S_35) := by rw [eS_35]; exact hD
      refine lv_goto (tgt := 259) hx hb dBl_work_176 (by decide) ?_
      refine lv_aload_n hx hb dBl_work_259 rfl (lv_at hl 0 rfl) ?_
      refine lv_iload_n hx hb dBl_work_260 rfl (lv_at hl 1 rfl) ?_
      refine va_put (D := (dC, dI)) (ci := 2) (v := .int x) (ty := .int) (C := RBl) (T := TBl) (N := 8) hx hb hc inBl tyBl tyBl_ok nmBl hown hK hP hD hS (18 + j) (xb_cell (by omega)) rfl 7 (by decide) (hc _ w93) (fun _ h9 => h9) rfl (by decide +kernel) rfl rfl (Nat.le_of_ble_eq_true rfl) dBl_work_261 (fun H locs hP hD hS => ?_)
      obtain ⟨S_36, eS_36⟩ : ∃ z9 : Ss, z9 = row S_35 21 (upd (S_35 21) j x) := ⟨_, rfl⟩
      rw [xb_set (by omega) 7 (by decide)] at hP hD
      have hP : va_P (dC, dI) vwCl (XW ad ca S_36) H := by rw [eS_36]; exact hP
      have hD : va_D A (XW ad ca S_36) := by rw [eS_36]; exact hD
      refine lv_aload_n hx hb dBl_work_264 rfl (lv_at hl 0 rfl) ?_
      refine va_get (D := (dC, dI)) (ci := 2) (v := .int (S_36 19 j)) (C := RBl) (T := TBl) (N := 8) hx hb hc inBl hown hK hP (18 + j) (xb_cell (by omega)) rfl 5 (by decide) (hc _ w89) (fun _ h9 => h9) rfl dBl_work_265 ?_
      exact W.iret (v := (S_36 19 j)) hx hb hr (fun t ht hW => ⟨⟨_, S_36, rfl, (by (try dsimp only); exact (by subst S_36; subst S_35; subst S_33; subst r_32; subst r_31; have hC : (if rd S q0 = 1 then 0 else if x = 1 ∧ S 21 j = 0 then (if S 15 j < S 20 j + 1 then S 15 j else S 20 j + 1) else S 20 j) = cntB S j x := (by unfold cntB; rw [if_neg w_0, if_neg w_14, if_pos w_29, hq21, nI_clamp (by omega), mn_eq hc9 (hp9 (Or.inr (Or.inr w_29)))]); have hO : (0 : Int32) = outB S j x := (by unfold outB; rw [if_neg w_0, if_neg w_14, if_pos w_29, ← hC]; exact (b2_f (fun h => c_33 ((pk_us (f := S 20) (k := j) (x := (if rd S q0 = 1 then 0 else if x = 1 ∧ S 21 j = 0 then (if S 15 j < S 20 j + 1 then S 15 j else S 20 j + 1) else S 20 j))).trans h))).symm); exact ⟨(show upd (S 19) j 0 j = outB S j x from pk_us.trans hO), bw_0 (n5 (Or.inr (Or.inr (Or.inl w_29)))) hC hO⟩)), by rw [ht]; exact hP, va_K.moved hW.alike hK, hD⟩, hS.F ht⟩) hS.2.2 dBl_work_268
    · refine lv_iconst (v := 1) hx hb dBl_work_168 (by decide +kernel) ?_
      refine lv_goto (tgt := 173) hx hb dBl_work_169 (by decide) ?_
      refine va_put (D := (dC, dI)) (ci := 2) (v := .int 1) (ty := .int) (C := RBl) (T := TBl) (N := 8) hx hb hc inBl tyBl tyBl_ok nmBl hown hK hP hD hS (18 + j) (xb_cell (by omega)) rfl 5 (by decide) (hc _ w89) (fun _ h9 => h9) rfl (by decide +kernel) rfl rfl (Nat.le_of_ble_eq_true rfl) dBl_work_173 (fun H locs hP hD hS => ?_)
      obtain ⟨S_37, eS_37⟩ : ∃ z9 : Ss, z9 = row S_33 19 (upd (S_33 19) j 1) := ⟨_, rfl⟩
      rw [xb_set (by omega) 5 (by decide)] at hP hD
      have hP : va_P (dC, dI) vwCl (XW ad ca S_37) H := by rw [eS_37]; exact hP
      have hD : va_D A (XW ad ca S_37) := by rw [eS_37]; exact hD
      refine lv_goto (tgt := 259) hx hb dBl_work_176 (by decide) ?_
      refine lv_aload_n hx hb dBl_work_259 rfl (lv_at hl 0 rfl) ?_
      refine lv_iload_n hx hb dBl_work_260 rfl (lv_at hl 1 rfl) ?_
      refine va_put (D := (dC, dI)) (ci := 2) (v := .int x) (ty := .int) (C := RBl) (T := TBl) (N := 8) hx hb hc inBl tyBl tyBl_ok nmBl hown hK hP hD hS (18 + j) (xb_cell (by omega)) rfl 7 (by decide) (hc _ w93) (fun _ h9 => h9) rfl (by decide +kernel) rfl rfl (Nat.le_of_ble_eq_true rfl) dBl_work_261 (fun H locs hP hD hS => ?_)
      obtain ⟨S_38, eS_38⟩ : ∃ z9 : Ss, z9 = row S_37 21 (upd (S_37 21) j x) := ⟨_, rfl⟩
      rw [xb_set (by omega) 7 (by decide)] at hP hD
      have hP : va_P (dC, dI) vwCl (XW ad ca S_38) H := by rw [eS_38]; exact hP
      have hD : va_D A (XW ad ca S_38) := by rw [eS_38]; exact hD
      refine lv_aload_n hx hb dBl_work_264 rfl (lv_at hl 0 rfl) ?_
      refine va_get (D := (dC, dI)) (ci := 2) (v := .int (S_38 19 j)) (C := RBl) (T := TBl) (N := 8) hx hb hc inBl hown hK hP (18 + j) (xb_cell (by omega)) rfl 5 (by decide) (hc _ w89) (fun _ h9 => h9) rfl dBl_work_265 ?_
      exact W.iret (v := (S_38 19 j)) hx hb hr (fun t ht hW => ⟨⟨_, S_38, rfl, (by (try dsimp only); exact (by subst S_38; subst S_37; subst S_33; subst r_32; subst r_31; have hC : (if rd S q0 = 1 then 0 else if x = 1 ∧ S 21 j = 0 then (if S 15 j < S 20 j + 1 then S 15 j else S 20 j + 1) else S 20 j) = cntB S j x := (by unfold cntB; rw [if_neg w_0, if_neg w_14, if_pos w_29, hq21, nI_clamp (by omega), mn_eq hc9 (hp9 (Or.inr (Or.inr w_29)))]); have hO : (1 : Int32) = outB S j x := (by unfold outB; rw [if_neg w_0, if_neg w_14, if_pos w_29, ← hC]; exact (b2_t ((pk_us (f := S 20) (k := j) (x := (if rd S q0 = 1 then 0 else if x = 1 ∧ S 21 j = 0 then (if S 15 j < S 20 j + 1 then S 15 j else S 20 j + 1) else S 20 j))).symm.trans c_33)).symm); exact ⟨(show upd (S 19) j 1 j = outB S j x from pk_us.trans hO), bw_0 (n5 (Or.inr (Or.inr (Or.inl w_29)))) hC hO⟩)), by rw [ht]; exact hP, va_K.moved hW.alike hK, hD⟩, hS.F ht⟩) hS.2.2 dBl_work_268
  by_cases w_38 : S 14 j = 3
  · refine lv_tableIn (tgt := 179) hx hb dBl_work_4 (by rw [w_38]; decide) (by rw [w_38]; decide) (by rw [w_38]; rfl) (by decide) ?_
    refine lv_aload_n hx hb dBl_work_179 rfl (lv_at hl 0 rfl) ?_
    refine lv_iload_n hx hb dBl_work_180 rfl (lv_at hl 1 rfl) ?_
    refine lv_iconst (v := 1) hx hb dBl_work_181 (by decide +kernel) ?_
    refine lv_icmp_ne (tgt := 196) hx hb dBl_work_182 (by decide) (fun c_39 => ?_) (fun c_39 => ?_)
    · refine lv_iconst (v := 0) hx hb dBl_work_196 (by decide +kernel) ?_
      refine va_put (D := (dC, dI)) (ci := 2) (v := .int 0) (ty := .int) (C := RBl) (T := TBl) (N := 8) hx hb hc inBl tyBl tyBl_ok nmBl hown hK hP hD hS (18 + j) (xb_cell (by omega)) rfl 5 (by decide) (hc _ w89) (fun _ h9 => h9) rfl (by decide +kernel) rfl rfl (Nat.le_of_ble_eq_true rfl) dBl_work_197 (fun H locs hP hD hS => ?_)
      obtain ⟨S_41, eS_41⟩ : ∃ z9 : Ss, z9 = row S 19 (upd (S 19) j 0) := ⟨_, rfl⟩
      rw [xb_set (by omega) 5 (by decide)] at hP hD
      have hP : va_P (dC, dI) vwCl (XW ad ca S_41) H := by rw [eS_41]; exact hP
      have hD : va_D A (XW ad ca S_41) := by rw [eS_41]; exact hD
      refine lv_goto (tgt := 259) hx hb dBl_work_200 (by decide) ?_
      refine lv_aload_n hx hb dBl_work_259 rfl (lv_at hl 0 rfl) ?_
      refine lv_iload_n hx hb dBl_work_260 rfl (lv_at hl 1 rfl) ?_
      refine va_put (D := (dC, dI)) (ci := 2) (v := .int x) (ty := .int) (C := RBl) (T := TBl) (N := 8) hx hb hc inBl tyBl tyBl_ok nmBl hown hK hP hD hS (18 + j) (xb_cell (by omega)) rfl 7 (by decide) (hc _ w93) (fun _ h9 => h9) rfl (by decide +kernel) rfl rfl (Nat.le_of_ble_eq_true rfl) dBl_work_261 (fun H locs hP hD hS => ?_)
      obtain ⟨S_42, eS_42⟩ : ∃ z9 : Ss, z9 = row S_41 21 (upd (S_41 21) j x) := ⟨_, rfl⟩
      rw [xb_set (by omega) 7 (by decide)] at hP hD
      have hP : va_P (dC, dI) vwCl (XW ad ca S_42) H := by rw [eS_42]; exact hP
      have hD : va_D A (XW ad ca S_42) := by rw [eS_42]; exact hD
      refine lv_aload_n hx hb dBl_work_264 rfl (lv_at hl 0 rfl) ?_
      refine va_get (D := (dC, dI)) (ci := 2) (v := .int (S_42 19 j)) (C := RBl) (T := TBl) (N := 8) hx hb hc inBl hown hK hP (18 + j) (xb_cell (by omega)) rfl 5 (by decide) (hc _ w89) (fun _ h9 => h9) rfl dBl_work_265 ?_
      exact W.iret (v := (S_42 19 j)) hx hb hr (fun t ht hW => ⟨⟨_, S_42, rfl, (by (try dsimp only); exact (by subst S_42; subst S_41; have hC : S 20 j = cntB S j x := (by unfold cntB; rw [if_neg w_0, if_neg w_14, if_neg w_29]); have hO : (0 : Int32) = outB S j x := (by unfold outB; rw [if_neg w_0, if_neg w_14, if_neg w_29, if_pos w_38]; exact (b2_f (fun h => c_39 h.1)).symm); exact ⟨(show upd (S 19) j 0 j = outB S j x from pk_us.trans hO), bw_3 (fun h => n5 (Or.inr (Or.inr (Or.inr (Or.inl w_38)))) h.1) hC hO⟩)), by rw [ht]; exact hP, va_K.moved hW.alike hK, hD⟩, hS.F ht⟩) hS.2.2 dBl_work_268
    · refine lv_aload_n hx hb dBl_work_185 rfl (lv_at hl 0 rfl) ?_
      refine va_get (D := (dC, dI)) (ci := 2) (v := .int (S 21 j)) (C := RBl) (T := TBl) (N := 8) hx hb hc inBl hown hK hP (18 + j) (xb_cell (by omega)) rfl 7 (by decide) (hc _ w93) (fun _ h9 => h9) rfl dBl_work_186 ?_
      refine lv_if_ne (tgt := 196) hx hb dBl_work_189 (by decide) (fun c_42 => ?_) (fun c_42 => ?_)
      · refine lv_iconst (v := 0) hx hb dBl_work_196 (by decide +kernel) ?_
        refine va_put (D := (dC, dI)) (ci := 2) (v := .int 0) (ty := .int) (C := RBl) (T := TBl) (N := 8) hx hb hc inBl tyBl tyBl_ok nmBl hown hK hP hD hS (18 + j) (xb_cell (by omega)) rfl 5 (by decide) (hc _ w89) (fun _ h9 => h9) rfl (by decide +kernel) rfl rfl (Nat.le_of_ble_eq_true rfl) dBl_work_197 (fun H locs hP hD hS => ?_)
        obtain ⟨S_44, eS_44⟩ : ∃ z9 : Ss, z9 = row S 19 (upd (S 19) j 0) := ⟨_, rfl⟩
        rw [xb_set (by omega) 5 (by decide)] at hP hD
        have hP : va_P (dC, dI) vwCl (XW ad ca S_44) H := by rw [eS_44]; exact hP
        have hD : va_D A (XW ad ca S_44) := by rw [eS_44]; exact hD
        refine lv_goto (tgt := 259) hx hb dBl_work_200 (by decide) ?_
        refine lv_aload_n hx hb dBl_work_259 rfl (lv_at hl 0 rfl) ?_
        refine lv_iload_n hx hb dBl_work_260 rfl (lv_at hl 1 rfl) ?_
        refine va_put (D := (dC, dI)) (ci := 2) (v := .int x) (ty := .int) (C := RBl) (T := TBl) (N := 8) hx hb hc inBl tyBl tyBl_ok nmBl hown hK hP hD hS (18 + j) (xb_cell (by omega)) rfl 7 (by decide) (hc _ w93) (fun _ h9 => h9) rfl (by decide +kernel) rfl rfl (Nat.le_of_ble_eq_true rfl) dBl_work_261 (fun H locs hP hD hS => ?_)
        obtain ⟨S_45, eS_45⟩ : ∃ z9 : Ss, z9 = row S_44 21 (upd (S_44 21) j x) := ⟨_, rfl⟩
        rw [xb_set (by omega) 7 (by decide)] at hP hD
        have hP : va_P (dC, dI) vwCl (XW ad ca S_45) H := by rw [eS_45]; exact hP
        have hD : va_D A (XW ad ca S_45) := by rw [eS_45]; exact hD
        refine lv_aload_n hx hb dBl_work_264 rfl (lv_at hl 0 rfl) ?_
        refine va_get (D := (dC, dI)) (ci := 2) (v := .int (S_45 19 j)) (C := RBl) (T := TBl) (N := 8) hx hb hc inBl hown hK hP (18 + j) (xb_cell (by omega)) rfl 5 (by decide) (hc _ w89) (fun _ h9 => h9) rfl dBl_work_265 ?_
        exact W.iret (v := (S_45 19 j)) hx hb hr (fun t ht hW => ⟨⟨_, S_45, rfl, (by (try dsimp only); exact (by subst S_45; subst S_44; have hC : S 20 j = cntB S j x := (by unfold cntB; rw [if_neg w_0, if_neg w_14, if_neg w_29]); have hO : (0 : Int32) = outB S j x := (by unfold outB; rw [if_neg w_0, if_neg w_14, if_neg w_29, if_pos w_38]; exact (b2_f (fun h => c_42 h.2)).symm); exact ⟨(show upd (S 19) j 0 j = outB S j x from pk_us.trans hO), bw_3 (fun h => n5 (Or.inr (Or.inr (Or.inr (Or.inl w_38)))) h.1) hC hO⟩)), by rw [ht]; exact hP, va_K.moved hW.alike hK, hD⟩, hS.F ht⟩) hS.2.2 dBl_work_268
      · refine lv_iconst (v := 1) hx hb dBl_work_192 (by decide +kernel) ?_
        refine lv_goto (tgt := 197) hx hb dBl_work_193 (by decide) ?_
        refine va_put (D := (dC, dI)) (ci := 2) (v := .int 1) (ty := .int) (C := RBl) (T := TBl) (N := 8) hx hb hc inBl tyBl tyBl_ok nmBl hown hK hP hD hS (18 + j) (xb_cell (by omega)) rfl 5 (by decide) (hc _ w89) (fun _ h9 => h9) rfl (by decide +kernel) rfl rfl (Nat.le_of_ble_eq_true rfl) dBl_work_197 (fun H locs hP hD hS => ?_)
        obtain ⟨S_46, eS_46⟩ : ∃ z9 : Ss, z9 = row S 19 (upd (S 19) j 1) := ⟨_, rfl⟩
        rw [xb_set (by omega) 5 (by decide)] at hP hD
        have hP : va_P (dC, dI) vwCl (XW ad ca S_46) H := by rw [eS_46]; exact hP
        have hD : va_D A (XW ad ca S_46) := by rw [eS_46]; exact hD
        refine lv_goto (tgt := 259) hx hb dBl_work_200 (by decide) ?_
        refine lv_aload_n hx hb dBl_work_259 rfl (lv_at hl 0 rfl) ?_
        refine lv_iload_n hx hb dBl_work_260 rfl (lv_at hl 1 rfl) ?_
        refine va_put (D := (dC, dI)) (ci := 2) (v := .int x) (ty := .int) (C := RBl) (T := TBl) (N := 8) hx hb hc inBl tyBl tyBl_ok nmBl hown hK hP hD hS (18 + j) (xb_cell (by omega)) rfl 7 (by decide) (hc _ w93) (fun _ h9 => h9) rfl (by decide +kernel) rfl rfl (Nat.le_of_ble_eq_true rfl) dBl_work_261 (fun H locs hP hD hS => ?_)
        obtain ⟨S_47, eS_47⟩ : ∃ z9 : Ss, z9 = row S_46 21 (upd (S_46 21) j x) := ⟨_, rfl⟩
        rw [xb_set (by omega) 7 (by decide)] at hP hD
        have hP : va_P (dC, dI) vwCl (XW ad ca S_47) H := by rw [eS_47]; exact hP
        have hD : va_D A (XW ad ca S_47) := by rw [eS_47]; exact hD
        refine lv_aload_n hx hb dBl_work_264 rfl (lv_at hl 0 rfl) ?_
        refine va_get (D := (dC, dI)) (ci := 2) (v := .int (S_47 19 j)) (C := RBl) (T := TBl) (N := 8) hx hb hc inBl hown hK hP (18 + j) (xb_cell (by omega)) rfl 5 (by decide) (hc _ w89) (fun _ h9 => h9) rfl dBl_work_265 ?_
        exact W.iret (v := (S_47 19 j)) hx hb hr (fun t ht hW => ⟨⟨_, S_47, rfl, (by (try dsimp only); exact (by subst S_47; subst S_46; have hC : S 20 j = cntB S j x := (by unfold cntB; rw [if_neg w_0, if_neg w_14, if_neg w_29]); have hO : (1 : Int32) = outB S j x := (by unfold outB; rw [if_neg w_0, if_neg w_14, if_neg w_29, if_pos w_38]; exact (b2_t ⟨c_39, c_42⟩).symm); exact ⟨(show upd (S 19) j 1 j = outB S j x from pk_us.trans hO), bw_3 (fun h => n5 (Or.inr (Or.inr (Or.inr (Or.inl w_38)))) h.1) hC hO⟩)), by rw [ht]; exact hP, va_K.moved hW.alike hK, hD⟩, hS.F ht⟩) hS.2.2 dBl_work_268
  by_cases w_47 : S 14 j = 4
  · refine lv_tableIn (tgt := 203) hx hb dBl_work_4 (by rw [w_47]; decide) (by rw [w_47]; decide) (by rw [w_47]; rfl) (by decide) ?_
    refine lv_aload_n hx hb dBl_work_203 rfl (lv_at hl 0 rfl) ?_
    refine lv_iload_n hx hb dBl_work_204 rfl (lv_at hl 1 rfl) ?_
    refine lv_if_ne (tgt := 220) hx hb dBl_work_205 (by decide) (fun c_48 => ?_) (fun c_48 => ?_)
    · refine lv_iconst (v := 0) hx hb dBl_work_220 (by decide +kernel) ?_
      refine va_put (D := (dC, dI)) (ci := 2) (v := .int 0) (ty := .int) (C := RBl) (T := TBl) (N := 8) hx hb hc inBl tyBl tyBl_ok nmBl hown hK hP hD hS (18 + j) (xb_cell (by omega)) rfl 5 (by decide) (hc _ w89) (fun _ h9 => h9) rfl (by decide +kernel) rfl rfl (Nat.le_of_ble_eq_true rfl) dBl_work_221 (fun H locs hP hD hS => ?_)
      obtain ⟨S_50, eS_50⟩ : ∃ z9 : Ss, z9 = row S 19 (upd (S 19) j 0) := ⟨_, rfl⟩
      rw [xb_set (by omega) 5 (by decide)] at hP hD
      have hP : va_P (dC, dI) vwCl (XW ad ca S_50) H := by rw [eS_50]; exact hP
      have hD : va_D A (XW ad ca S_50) := by rw [eS_50]; exact hD
      refine lv_goto (tgt := 259) hx hb dBl_work_224 (by decide) ?_
      refine lv_aload_n hx hb dBl_work_259 rfl (lv_at hl 0 rfl) ?_
      refine lv_iload_n hx hb dBl_work_260 rfl (lv_at hl 1 rfl) ?_
      refine va_put (D := (dC, dI)) (ci := 2) (v := .int x) (ty := .int) (C := RBl) (T := TBl) (N := 8) hx hb hc inBl tyBl tyBl_ok nmBl hown hK hP hD hS (18 + j) (xb_cell (by omega)) rfl 7 (by decide) (hc _ w93) (fun _ h9 => h9) rfl (by decide +kernel) rfl rfl (Nat.le_of_ble_eq_true rfl) dBl_work_261 (fun H locs hP hD hS => ?_)
      obtain ⟨S_51, eS_51⟩ : ∃ z9 : Ss, z9 = row S_50 21 (upd (S_50 21) j x) := ⟨_, rfl⟩
      rw [xb_set (by omega) 7 (by decide)] at hP hD
      have hP : va_P (dC, dI) vwCl (XW ad ca S_51) H := by rw [eS_51]; exact hP
      have hD : va_D A (XW ad ca S_51) := by rw [eS_51]; exact hD
      refine lv_aload_n hx hb dBl_work_264 rfl (lv_at hl 0 rfl) ?_
      refine va_get (D := (dC, dI)) (ci := 2) (v := .int (S_51 19 j)) (C := RBl) (T := TBl) (N := 8) hx hb hc inBl hown hK hP (18 + j) (xb_cell (by omega)) rfl 5 (by decide) (hc _ w89) (fun _ h9 => h9) rfl dBl_work_265 ?_
      exact W.iret (v := (S_51 19 j)) hx hb hr (fun t ht hW => ⟨⟨_, S_51, rfl, (by (try dsimp only); exact (by subst S_51; subst S_50; have hC : S 20 j = cntB S j x := (by unfold cntB; rw [if_neg w_0, if_neg w_14, if_neg w_29]); have hO : (0 : Int32) = outB S j x := (by unfold outB; rw [if_neg w_0, if_neg w_14, if_neg w_29, if_neg w_38, if_pos w_47]; exact (b2_f (fun h => c_48 h.1)).symm); exact ⟨(show upd (S 19) j 0 j = outB S j x from pk_us.trans hO), bw_3 (fun h => n5 (Or.inr (Or.inr (Or.inr (Or.inr w_47)))) h.1) hC hO⟩)), by rw [ht]; exact hP, va_K.moved hW.alike hK, hD⟩, hS.F ht⟩) hS.2.2 dBl_work_268
    · refine lv_aload_n hx hb dBl_work_208 rfl (lv_at hl 0 rfl) ?_
      refine va_get (D := (dC, dI)) (ci := 2) (v := .int (S 21 j)) (C := RBl) (T := TBl) (N := 8) hx hb hc inBl hown hK hP (18 + j) (xb_cell (by omega)) rfl 7 (by decide) (hc _ w93) (fun _ h9 => h9) rfl dBl_work_209 ?_
      refine lv_iconst (v := 1) hx hb dBl_work_212 (by decide +kernel) ?_
      refine lv_icmp_ne (tgt := 220) hx hb dBl_work_213 (by decide) (fun c_51 => ?_) (fun c_51 => ?_)
      · refine lv_iconst (v := 0) hx hb dBl_work_220 (by decide +kernel) ?_
        refine va_put (D := (dC, dI)) (ci := 2) (v := .int 0) (ty := .int) (C := RBl) (T := TBl) (N := 8) hx hb hc inBl tyBl tyBl_ok nmBl hown hK hP hD hS (18 + j) (xb_cell (by omega)) rfl 5 (by decide) (hc _ w89) (fun _ h9 => h9) rfl (by decide +kernel) rfl rfl (Nat.le_of_ble_eq_true rfl) dBl_work_221 (fun H locs hP hD hS => ?_)
        obtain ⟨S_53, eS_53⟩ : ∃ z9 : Ss, z9 = row S 19 (upd (S 19) j 0) := ⟨_, rfl⟩
        rw [xb_set (by omega) 5 (by decide)] at hP hD
        have hP : va_P (dC, dI) vwCl (XW ad ca S_53) H := by rw [eS_53]; exact hP
        have hD : va_D A (XW ad ca S_53) := by rw [eS_53]; exact hD
        refine lv_goto (tgt := 259) hx hb dBl_work_224 (by decide) ?_
        refine lv_aload_n hx hb dBl_work_259 rfl (lv_at hl 0 rfl) ?_
        refine lv_iload_n hx hb dBl_work_260 rfl (lv_at hl 1 rfl) ?_
        refine va_put (D := (dC, dI)) (ci := 2) (v := .int x) (ty := .int) (C := RBl) (T := TBl) (N := 8) hx hb hc inBl tyBl tyBl_ok nmBl hown hK hP hD hS (18 + j) (xb_cell (by omega)) rfl 7 (by decide) (hc _ w93) (fun _ h9 => h9) rfl (by decide +kernel) rfl rfl (Nat.le_of_ble_eq_true rfl) dBl_work_261 (fun H locs hP hD hS => ?_)
        obtain ⟨S_54, eS_54⟩ : ∃ z9 : Ss, z9 = row S_53 21 (upd (S_53 21) j x) := ⟨_, rfl⟩
        rw [xb_set (by omega) 7 (by decide)] at hP hD
        have hP : va_P (dC, dI) vwCl (XW ad ca S_54) H := by rw [eS_54]; exact hP
        have hD : va_D A (XW ad ca S_54) := by rw [eS_54]; exact hD
        refine lv_aload_n hx hb dBl_work_264 rfl (lv_at hl 0 rfl) ?_
        refine va_get (D := (dC, dI)) (ci := 2) (v := .int (S_54 19 j)) (C := RBl) (T := TBl) (N := 8) hx hb hc inBl hown hK hP (18 + j) (xb_cell (by omega)) rfl 5 (by decide) (hc _ w89) (fun _ h9 => h9) rfl dBl_work_265 ?_
        exact W.iret (v := (S_54 19 j)) hx hb hr (fun t ht hW => ⟨⟨_, S_54, rfl, (by (try dsimp only); exact (by subst S_54; subst S_53; have hC : S 20 j = cntB S j x := (by unfold cntB; rw [if_neg w_0, if_neg w_14, if_neg w_29]); have hO : (0 : Int32) = outB S j x := (by unfold outB; rw [if_neg w_0, if_neg w_14, if_neg w_29, if_neg w_38, if_pos w_47]; exact (b2_f (fun h => c_51 h.2)).symm); exact ⟨(show upd (S 19) j 0 j = outB S j x from pk_us.trans hO), bw_3 (fun h => n5 (Or.inr (Or.inr (Or.inr (Or.inr w_47)))) h.1) hC hO⟩)), by rw [ht]; exact hP, va_K.moved hW.alike hK, hD⟩, hS.F ht⟩) hS.2.2 dBl_work_268
      · refine lv_iconst (v := 1) hx hb dBl_work_216 (by decide +kernel) ?_
        refine lv_goto (tgt := 221) hx hb dBl_work_217 (by decide) ?_
        refine va_put (D := (dC, dI)) (ci := 2) (v := .int 1) (ty := .int) (C := RBl) (T := TBl) (N := 8) hx hb hc inBl tyBl tyBl_ok nmBl hown hK hP hD hS (18 + j) (xb_cell (by omega)) rfl 5 (by decide) (hc _ w89) (fun _ h9 => h9) rfl (by decide +kernel) rfl rfl (Nat.le_of_ble_eq_true rfl) dBl_work_221 (fun H locs hP hD hS => ?_)
        obtain ⟨S_55, eS_55⟩ : ∃ z9 : Ss, z9 = row S 19 (upd (S 19) j 1) := ⟨_, rfl⟩
        rw [xb_set (by omega) 5 (by decide)] at hP hD
        have hP : va_P (dC, dI) vwCl (XW ad ca S_55) H := by rw [eS_55]; exact hP
        have hD : va_D A (XW ad ca S_55) := by rw [eS_55]; exact hD
        refine lv_goto (tgt := 259) hx hb dBl_work_224 (by decide) ?_
        refine lv_aload_n hx hb dBl_work_259 rfl (lv_at hl 0 rfl) ?_
        refine lv_iload_n hx hb dBl_work_260 rfl (lv_at hl 1 rfl) ?_
        refine va_put (D := (dC, dI)) (ci := 2) (v := .int x) (ty := .int) (C := RBl) (T := TBl) (N := 8) hx hb hc inBl tyBl tyBl_ok nmBl hown hK hP hD hS (18 + j) (xb_cell (by omega)) rfl 7 (by decide) (hc _ w93) (fun _ h9 => h9) rfl (by decide +kernel) rfl rfl (Nat.le_of_ble_eq_true rfl) dBl_work_261 (fun H locs hP hD hS => ?_)
        obtain ⟨S_56, eS_56⟩ : ∃ z9 : Ss, z9 = row S_55 21 (upd (S_55 21) j x) := ⟨_, rfl⟩
        rw [xb_set (by omega) 7 (by decide)] at hP hD
        have hP : va_P (dC, dI) vwCl (XW ad ca S_56) H := by rw [eS_56]; exact hP
        have hD : va_D A (XW ad ca S_56) := by rw [eS_56]; exact hD
        refine lv_aload_n hx hb dBl_work_264 rfl (lv_at hl 0 rfl) ?_
        refine va_get (D := (dC, dI)) (ci := 2) (v := .int (S_56 19 j)) (C := RBl) (T := TBl) (N := 8) hx hb hc inBl hown hK hP (18 + j) (xb_cell (by omega)) rfl 5 (by decide) (hc _ w89) (fun _ h9 => h9) rfl dBl_work_265 ?_
        exact W.iret (v := (S_56 19 j)) hx hb hr (fun t ht hW => ⟨⟨_, S_56, rfl, (by (try dsimp only); exact (by subst S_56; subst S_55; have hC : S 20 j = cntB S j x := (by unfold cntB; rw [if_neg w_0, if_neg w_14, if_neg w_29]); have hO : (1 : Int32) = outB S j x := (by unfold outB; rw [if_neg w_0, if_neg w_14, if_neg w_29, if_neg w_38, if_pos w_47]; exact (b2_t ⟨c_48, c_51⟩).symm); exact ⟨(show upd (S 19) j 1 j = outB S j x from pk_us.trans hO), bw_3 (fun h => n5 (Or.inr (Or.inr (Or.inr (Or.inr w_47)))) h.1) hC hO⟩)), by rw [ht]; exact hP, va_K.moved hW.alike hK, hD⟩, hS.F ht⟩) hS.2.2 dBl_work_268
  have iw_0 : (S 14 j : Int32).toInt ≠ 0 := fun z => w_0 (Int32.toInt_inj.mp (by rw [z]; rfl))
  have iw_14 : (S 14 j : Int32).toInt ≠ 1 := fun z => w_14 (Int32.toInt_inj.mp (by rw [z]; rfl))
  have iw_29 : (S 14 j : Int32).toInt ≠ 2 := fun z => w_29 (Int32.toInt_inj.mp (by rw [z]; rfl))
  have iw_38 : (S 14 j : Int32).toInt ≠ 3 := fun z => w_38 (Int32.toInt_inj.mp (by rw [z]; rfl))
  have iw_47 : (S 14 j : Int32).toInt ≠ 4 := fun z => w_47 (Int32.toInt_inj.mp (by rw [z]; rfl))
  refine lv_tableOut (tgt := 227) hx hb dBl_work_4 (by omega) (by decide) ?_
  refine lv_iload_n hx hb dBl_work_227 rfl (lv_at hl 1 rfl) ?_
  refine lv_iconst (v := 1) hx hb dBl_work_228 (by decide +kernel) ?_
  refine lv_icmp_ne (tgt := 254) hx hb dBl_work_229 (by decide) (fun c_56 => ?_) (fun c_56 => ?_)
  · refine lv_aload_n hx hb dBl_work_254 rfl (lv_at hl 0 rfl) ?_
    refine lv_iload_n hx hb dBl_work_255 rfl (lv_at hl 1 rfl) ?_
    refine va_put (D := (dC, dI)) (ci := 2) (v := .int x) (ty := .int) (C := RBl) (T := TBl) (N := 8) hx hb hc inBl tyBl tyBl_ok nmBl hown hK hP hD hS (18 + j) (xb_cell (by omega)) rfl 5 (by decide) (hc _ w89) (fun _ h9 => h9) rfl (by decide +kernel) rfl rfl (Nat.le_of_ble_eq_true rfl) dBl_work_256 (fun H locs hP hD hS => ?_)
    obtain ⟨S_58, eS_58⟩ : ∃ z9 : Ss, z9 = row S 19 (upd (S 19) j x) := ⟨_, rfl⟩
    rw [xb_set (by omega) 5 (by decide)] at hP hD
    have hP : va_P (dC, dI) vwCl (XW ad ca S_58) H := by rw [eS_58]; exact hP
    have hD : va_D A (XW ad ca S_58) := by rw [eS_58]; exact hD
    refine lv_aload_n hx hb dBl_work_259 rfl (lv_at hl 0 rfl) ?_
    refine lv_iload_n hx hb dBl_work_260 rfl (lv_at hl 1 rfl) ?_
    refine va_put (D := (dC, dI)) (ci := 2) (v := .int x) (ty := .int) (C := RBl) (T := TBl) (N := 8) hx hb hc inBl tyBl tyBl_ok nmBl hown hK hP hD hS (18 + j) (xb_cell (by omega)) rfl 7 (by decide) (hc _ w93) (fun _ h9 => h9) rfl (by decide +kernel) rfl rfl (Nat.le_of_ble_eq_true rfl) dBl_work_261 (fun H locs hP hD hS => ?_)
    obtain ⟨S_59, eS_59⟩ : ∃ z9 : Ss, z9 = row S_58 21 (upd (S_58 21) j x) := ⟨_, rfl⟩
    rw [xb_set (by omega) 7 (by decide)] at hP hD
    have hP : va_P (dC, dI) vwCl (XW ad ca S_59) H := by rw [eS_59]; exact hP
    have hD : va_D A (XW ad ca S_59) := by rw [eS_59]; exact hD
    refine lv_aload_n hx hb dBl_work_264 rfl (lv_at hl 0 rfl) ?_
    refine va_get (D := (dC, dI)) (ci := 2) (v := .int (S_59 19 j)) (C := RBl) (T := TBl) (N := 8) hx hb hc inBl hown hK hP (18 + j) (xb_cell (by omega)) rfl 5 (by decide) (hc _ w89) (fun _ h9 => h9) rfl dBl_work_265 ?_
    exact W.iret (v := (S_59 19 j)) hx hb hr (fun t ht hW => ⟨⟨_, S_59, rfl, (by (try dsimp only); exact (by subst S_59; subst S_58; have hC : S 20 j = cntB S j x := (by unfold cntB; rw [if_neg w_0, if_neg w_14, if_neg w_29]); have hO : x = outB S j x := (by unfold outB; rw [if_neg w_0, if_neg w_14, if_neg w_29, if_neg w_38, if_neg w_47]); exact ⟨(show upd (S 19) j x j = outB S j x from pk_us.trans hO), bw_3 (fun h => c_56 h.2) hC hO⟩)), by rw [ht]; exact hP, va_K.moved hW.alike hK, hD⟩, hS.F ht⟩) hS.2.2 dBl_work_268
  · refine lv_aload_n hx hb dBl_work_232 rfl (lv_at hl 2 rfl) ?_
    refine lv_aload_n hx hb dBl_work_233 rfl (lv_at hl 0 rfl) ?_
    refine va_get (D := (dC, dI)) (ci := 2) (v := .int (S 16 j)) (C := RBl) (T := TBl) (N := 8) hx hb hc inBl hown hK hP (18 + j) (xb_cell (by omega)) rfl 2 (by decide) (hc _ w84) (fun _ h9 => h9) rfl dBl_work_234 ?_
    obtain ⟨hq50, hq51⟩ := hq5 (kk5 hk7 w_0 w_14 w_29 w_38 w_47)
    refine W.eq (g2 := F0 m 237 ls [.int (nI q0), .ref (ad 1)]) (by rw [hq51]) ?_
    refine lv_aload_n hx hb dBl_work_237 rfl (lv_at hl 0 rfl) ?_
    refine lv_aload_n hx hb dBl_work_238 rfl (lv_at hl 2 rfl) ?_
    refine va_get (D := (dC, dI)) (ci := 1) (v := .ref (ad 6)) (C := RMe) (T := TMe) (N := 5) hx hb hc inMe hown hK hP 1 rfl rfl 4 (by decide) (hc _ w38) (fun _ h9 => h9) rfl dBl_work_239 ?_
    refine lv_aload_n hx hb dBl_work_242 rfl (lv_at hl 0 rfl) ?_
    refine va_get (D := (dC, dI)) (ci := 2) (v := .int (S 15 j)) (C := RBl) (T := TBl) (N := 8) hx hb hc inBl hown hK hP (18 + j) (xb_cell (by omega)) rfl 1 (by decide) (hc _ w83) (fun _ h9 => h9) rfl dBl_work_243 ?_
    obtain ⟨hp50, hp51⟩ := hp5 (kk5 hk7 w_0 w_14 w_29 w_38 w_47)
    refine W.eq (g2 := F0 m 246 ls [.int (nI p0), .ref (ad 6), .ref (ad (18 + j)), .int (nI q0), .ref (ad 1)]) (by rw [hp51]) ?_
    refine va_iald hx hb hK hP 6 4 rfl rfl (vp_in_nI (by omega) (by decide)) dBl_work_246 ?_
    refine lv_topi (fun v_60 ev_60 => ?_)
    rw [nI_clamp (by omega)] at ev_60
    subst v_60
    refine lv_i2l (v := (S 5 p0).toInt64) hx hb dBl_work_247 rfl ?_
    refine vp_callSl (va_Run.run (va_runV (As := [.long ((S 5 p0).toInt64)]) (rest := [.int (nI q0), .ref (ad 1)]) ⟨hx, hb, hml, hown, hc⟩ (cBl_reckon l dC dI ad ca s.heap.size S j (by omega) (S 5 p0) (hr9 _ hp50) hf9 ho9) (cwV 1 hc (gV w454 w456 s7 w4 qBl_reckon) rfl rfl rfl (by decide +kernel) ⟨Nat.le_of_ble_eq_true rfl, Nat.le_of_ble_eq_true rfl⟩) ⟨gPre_blind, va_recv hK hP (ci := 2) (q0 := (18 + j)) rfl (xb_cell (by omega)), (gPre_in hP hK hD)⟩ rfl rfl hl.1 rfl (lv_room (Nat.le_of_ble_eq_true rfl)) dBl_work_248 ⟨Nat.zero_le _, Nat.zero_le _⟩)) (fun r_61 hr_61 => ?_)
    refine g_callv (va_runV (As := [.int (nI q0), .long r_61]) (rest := []) ⟨hx, hb, hml, hown, hc⟩ (cMe_store l dC dI ad ca s.heap.size S q0 r_61 (by omega)) (cwV 2 hc (gV w468 w469 w470 w2 qMe_store) rfl rfl rfl (by decide +kernel) ⟨Nat.le_of_ble_eq_true rfl, Nat.le_of_ble_eq_true rfl⟩) ⟨gPre_blind, va_recv hK hP (ci := 1) (q0 := 1) rfl rfl, (gPre_in hP hK hD)⟩ rfl rfl hl.1 rfl (lv_room (Nat.le_of_ble_eq_true rfl)) dBl_work_251 ⟨Nat.zero_le _, Nat.zero_le _⟩) hD hS hA (fun u_62 H locs hu_62 hP hD hS => ?_)
    refine lv_aload_n hx hb dBl_work_254 rfl (lv_at hl 0 rfl) ?_
    refine lv_iload_n hx hb dBl_work_255 rfl (lv_at hl 1 rfl) ?_
    refine va_put (D := (dC, dI)) (ci := 2) (v := .int x) (ty := .int) (C := RBl) (T := TBl) (N := 8) hx hb hc inBl tyBl tyBl_ok nmBl hown hK hP hD hS (18 + j) (xb_cell (by omega)) rfl 5 (by decide) (hc _ w89) (fun _ h9 => h9) rfl (by decide +kernel) rfl rfl (Nat.le_of_ble_eq_true rfl) dBl_work_256 (fun H locs hP hD hS => ?_)
    obtain ⟨S_63, eS_63⟩ : ∃ z9 : Ss, z9 = row u_62 19 (upd (u_62 19) j x) := ⟨_, rfl⟩
    rw [xb_set (by omega) 5 (by decide)] at hP hD
    have hP : va_P (dC, dI) vwCl (XW ad ca S_63) H := by rw [eS_63]; exact hP
    have hD : va_D A (XW ad ca S_63) := by rw [eS_63]; exact hD
    refine lv_aload_n hx hb dBl_work_259 rfl (lv_at hl 0 rfl) ?_
    refine lv_iload_n hx hb dBl_work_260 rfl (lv_at hl 1 rfl) ?_
    refine va_put (D := (dC, dI)) (ci := 2) (v := .int x) (ty := .int) (C := RBl) (T := TBl) (N := 8) hx hb hc inBl tyBl tyBl_ok nmBl hown hK hP hD hS (18 + j) (xb_cell (by omega)) rfl 7 (by decide) (hc _ w93) (fun _ h9 => h9) rfl (by decide +kernel) rfl rfl (Nat.le_of_ble_eq_true rfl) dBl_work_261 (fun H locs hP hD hS => ?_)
    obtain ⟨S_64, eS_64⟩ : ∃ z9 : Ss, z9 = row S_63 21 (upd (S_63 21) j x) := ⟨_, rfl⟩
    rw [xb_set (by omega) 7 (by decide)] at hP hD
    have hP : va_P (dC, dI) vwCl (XW ad ca S_64) H := by rw [eS_64]; exact hP
    have hD : va_D A (XW ad ca S_64) := by rw [eS_64]; exact hD
    refine lv_aload_n hx hb dBl_work_264 rfl (lv_at hl 0 rfl) ?_
    refine va_get (D := (dC, dI)) (ci := 2) (v := .int (S_64 19 j)) (C := RBl) (T := TBl) (N := 8) hx hb hc inBl hown hK hP (18 + j) (xb_cell (by omega)) rfl 5 (by decide) (hc _ w89) (fun _ h9 => h9) rfl dBl_work_265 ?_
    exact W.iret (v := (S_64 19 j)) hx hb hr (fun t ht hW => ⟨⟨_, S_64, rfl, (by (try dsimp only); exact (by have hC : S 20 j = cntB S j x := (by unfold cntB; rw [if_neg w_0, if_neg w_14, if_neg w_29]); have hO : x = outB S j x := (by unfold outB; rw [if_neg w_0, if_neg w_14, if_neg w_29, if_neg w_38, if_neg w_47]); have hV : fitI (r_61).toInt = clc (S 14 j) (S 5 (S 15 j).toNatClampNeg) (S 17 j) (S 18 j) := (by rw [hr_61, hp51, nI_clamp (by omega)]; exact rk_clc (k567 hk7 (kk5 hk7 w_0 w_14 w_29 w_38 w_47)) (hr9 _ hp50) hf9 ho9 h79 (fun h e => h69 ⟨h, c_56, e⟩)); subst S_64; subst S_63; subst u_62; exact ⟨(show upd (S 19) j x j = outB S j x from pk_us.trans hO), bw_5 ⟨(kk5 hk7 w_0 w_14 w_29 w_38 w_47), c_56⟩ hq51 hq50 hV hC hO⟩)), by rw [ht]; exact hP, va_K.moved hW.alike hK, hD⟩, hS.F ht⟩) hS.2.2 dBl_work_268
end
section
/-! what holds of every state of a run -/
abbrev b01 (v : Int32) : Prop := v = 0 ∨ v = 1
abbrev stp (op : Int32) (d d' : Nat) : Prop := (psh op ∧ d' = d + 1 ∧ d ≤ 3) ∨ (jns op ∧ 2 ≤ d ∧ d' + 1 = d ∧ d ≤ 4) ∨ (¬ psh op ∧ ¬ jns op ∧ 1 ≤ d ∧ d' = d ∧ d ≤ 4)
/-- rung r of the rows b, b + 1, b + 2: its n steps, the stack's heights d -/
def okRg (S : Ss) (b r n : Nat) (d : Nat → Nat) : Prop := n ≤ 10 ∧ S (b + 2) r = nI n ∧ d 0 = 0 ∧ ∀ i, i < n → okO (S 0 0) (S b (10 * r + i)) (S (b + 1) (10 * r + i)) ∧ stp (S b (10 * r + i)) (d i) (d (i + 1))
def okBk (S : Ss) (j : Nat) : Prop :=
  wi (S 14 j) 0 7 ∧ (S 14 j = 0 ∨ S 14 j = 1 ∨ S 14 j = 2 → wi (S 15 j) 1 100) ∧ wi (S 20 j) 0 100 ∧ (S 14 j = 2 → wi (S 16 j) 0 31) ∧ (5 ≤ S 14 j → wi (S 15 j) 0 7 ∧ wi (S 16 j) 0 7) ∧ rng (S 17 j) ∧ rng (S 18 j) ∧ (S 14 j = 7 → S 18 j ≤ S 17 j) ∧ b01 (S 19 j) ∧ b01 (S 21 j)
/-- what a scan needs -/
def Pr (S : Ss) : Prop := (∃ m : Nat, m ≤ 10 ∧ S 0 0 = nI m ∧ ∀ j, j < m → okBk S j) ∧ (∀ i, i < 32 → b01 (S 1 i)) ∧ (∀ i, i < 32 → S 2 i = -1 ∨ b01 (S 2 i)) ∧ (∀ i, i < 8 → b01 (S 3 i)) ∧ (∀ i, i < 8 → rng (S 5 i)) ∧ ∀ r, r < 12 → ∃ (n : Nat) (d : Nat → Nat), okRg S 10 r n d
theorem ex_nat {a : Int32} {n : Nat} (h0 : 0 ≤ a.toInt) (h1 : a.toInt ≤ (n : Int)) (hn : n < 2 ^ 31) : ∃ k, k ≤ n ∧ a = nI k :=
  ⟨a.toInt.toNat, by omega, Int32.toInt_inj.mp (by rw [nI_toInt (by omega)]; omega)⟩
theorem wi_ex {a : Int32} {M : Int32} {n : Nat} (h : wi a 0 M) (hM : M.toInt = (n : Int)) (hn : n < 2 ^ 31) : ∃ k, k ≤ n ∧ a = nI k := by
  obtain ⟨h1, h2⟩ := h
  have h3 := Int32.le_iff_toInt_le.mp h1
  have h4 := Int32.le_iff_toInt_le.mp h2
  have e0 : (0 : Int32).toInt = 0 := rfl
  exact ex_nat (by omega) (by omega) hn
theorem wi_made {a : Int32} {m : Nat} (hm : m ≤ 10) (h : wi a 0 (nI m - 1)) : ∃ j, j < m ∧ a = nI j := by
  have e1 : (1 : Int32).toInt = 1 := rfl
  have e : (nI m - 1).toInt = (m : Int) - 1 := by
    have := nI_toInt (n := m) (by omega)
    rw [i32_sub, e1, this] <;> rw [e1, this] <;> omega
  obtain ⟨h1, h2⟩ := h
  have h3 := Int32.le_iff_toInt_le.mp h1
  have h4 := Int32.le_iff_toInt_le.mp h2
  have e0 : (0 : Int32).toInt = 0 := rfl
  obtain ⟨j, hj, ea⟩ := ex_nat (a := a) (n := m - 1) (by omega) (by omega) (by omega)
  exact ⟨j, by omega, ea⟩
theorem made_wi {j m : Nat} (hm : m ≤ 10) (h : j < m) : wi (nI j) 0 (nI m - 1) := by
  have e1 : (1 : Int32).toInt = 1 := rfl
  have h0 := nI_toInt (n := m) (by omega)
  have h2 := nI_toInt (n := j) (by omega)
  have e : (nI m - 1).toInt = (m : Int) - 1 := by
    rw [i32_sub, e1, h0] <;> rw [e1, h0] <;> omega
  have e0 : (0 : Int32).toInt = 0 := rfl
  exact ⟨Int32.le_iff_toInt_le.mpr (by omega), Int32.le_iff_toInt_le.mpr (by omega)⟩
theorem rd01 {S : Ss} (h1 : ∀ i, i < 32 → b01 (S 1 i)) (h2 : ∀ i, i < 32 → S 2 i = -1 ∨ b01 (S 2 i)) {k : Nat} (hk : k < 32) : b01 (rd S k) := by
  unfold rd
  by_cases h : S 2 k = -1
  · rw [if_pos h]; exact h1 k hk
  · rw [if_neg h]; exact (h2 k hk).resolve_left h
/-- the operands of the steps -/
theorem okO_13 {m op a : Int32} (h : okO m op a) (e : op = 13) : wi a 0 11 := by
  subst e
  simp only [okO, wi, Int32.le_iff_toInt_le, ← Int32.toInt_inj, Int32.reduceToInt] at h ⊢
  omega
theorem okO_9 {m op a : Int32} (h : okO m op a) (e : op = 9) : wi a 0 (m - 1) := by
  subst e
  simp only [okO, wi, Int32.le_iff_toInt_le, ← Int32.toInt_inj, Int32.reduceToInt] at h ⊢
  omega
theorem okO_10 {m op a : Int32} (h : okO m op a) (e : 10 ≤ op) (n : ¬ op = 13) : wi op 10 12 ∧ wi a 8 31 := by
  simp only [okO, wi, Int32.le_iff_toInt_le, ← Int32.toInt_inj, Int32.reduceToInt] at h e n ⊢
  omega
theorem okO_8 {m op a : Int32} (h : okO m op a) (e : ¬ 10 ≤ op) (n : ¬ op = 9) : wi op 0 8 ∧ (¬ op = 6 → ¬ op = 7 → wi a 0 63 ∧ (¬ op = 8 → wi a 0 31)) := by
  simp only [okO, wi, Int32.le_iff_toInt_le, ← Int32.toInt_inj, Int32.reduceToInt] at h e n ⊢
  omega
/-- all stacks -/
def bl : Nat → List (List Int32)
  | 0 => [[]]
  | n + 1 => (bl n).flatMap (fun l => [0 :: l, 1 :: l])
theorem bl_mem : ∀ (l : List Int32), (∀ v ∈ l, b01 v) → l ∈ bl l.length := by
  intro l
  induction l with
  | nil => intro _; exact List.mem_singleton.mpr rfl
  | cons v t ih =>
    intro h
    have ht := ih (fun w hw => h w (List.mem_cons_of_mem _ hw))
    refine List.mem_flatMap.mpr ⟨t, ht, ?_⟩
    rcases h v List.mem_cons_self with rfl | rfl
    · exact List.mem_cons_self
    · exact List.mem_cons_of_mem _ List.mem_cons_self
def bl4 : List (List Int32) := bl 0 ++ (bl 1 ++ (bl 2 ++ (bl 3 ++ bl 4)))
theorem bl4_mem {l : List Int32} (h : ∀ v ∈ l, b01 v) (hl : l.length ≤ 4) : l ∈ bl4 := by
  have h1 := bl_mem l h
  unfold bl4
  simp only [List.mem_append]
  match hn : l.length, hl with
  | 0, _ => rw [hn] at h1; exact Or.inl h1
  | 1, _ => rw [hn] at h1; exact Or.inr (Or.inl h1)
  | 2, _ => rw [hn] at h1; exact Or.inr (Or.inr (Or.inl h1))
  | 3, _ => rw [hn] at h1; exact Or.inr (Or.inr (Or.inr (Or.inl h1)))
  | 4, _ => rw [hn] at h1; exact Or.inr (Or.inr (Or.inr (Or.inr h1)))
theorem pk_top {l : List Int32} (h : ∀ v ∈ l, b01 v) (hl : l.length ≤ 4) : pk l &&& 1 = hd l := by
  have : ∀ l ∈ bl4, pk l &&& 1 = hd l := by decide +kernel
  exact this l (bl4_mem h hl)
theorem pk_with {l : List Int32} (h : ∀ v ∈ l, b01 v) (hl : l.length ≤ 4) {v : Int32} (hv : b01 v) : (pk l &&& (-2)) ||| v = pk (v :: l.tail) := by
  have : ∀ l ∈ bl4, ∀ v ∈ [(0 : Int32), 1], (pk l &&& (-2)) ||| v = pk (v :: l.tail) := by decide +kernel
  refine this l (bl4_mem h hl) v ?_
  rcases hv with rfl | rfl <;> simp
theorem pk_andv {l : List Int32} (h : ∀ v ∈ l, b01 v) (hl : l.length ≤ 4) {v : Int32} (hv : b01 v) : pk l &&& v = hd l &&& v := by
  have : ∀ l ∈ bl4, ∀ v ∈ [(0 : Int32), 1], pk l &&& v = hd l &&& v := by decide +kernel
  refine this l (bl4_mem h hl) v ?_
  rcases hv with rfl | rfl <;> simp
theorem pk_and2 {l : List Int32} (h : ∀ v ∈ l, b01 v) (hl : l.length ≤ 4) : ((pk l >>> ((1 : Int32) &&& 31)) &&& (-2)) ||| (((pk l >>> ((1 : Int32) &&& 31)) &&& pk l) &&& 1) = pk ((hd l.tail &&& hd l) :: l.tail.tail) := by
  have : ∀ l ∈ bl4, ((pk l >>> ((1 : Int32) &&& 31)) &&& (-2)) ||| (((pk l >>> ((1 : Int32) &&& 31)) &&& pk l) &&& 1) = pk ((hd l.tail &&& hd l) :: l.tail.tail) := by decide +kernel
  exact this l (bl4_mem h hl)
theorem pk_or2 {l : List Int32} (h : ∀ v ∈ l, b01 v) (hl : l.length ≤ 4) : ((pk l >>> ((1 : Int32) &&& 31)) &&& (-2)) ||| (((pk l >>> ((1 : Int32) &&& 31)) ||| pk l) &&& 1) = pk ((hd l.tail ||| hd l) :: l.tail.tail) := by
  have : ∀ l ∈ bl4, ((pk l >>> ((1 : Int32) &&& 31)) &&& (-2)) ||| (((pk l >>> ((1 : Int32) &&& 31)) ||| pk l) &&& 1) = pk ((hd l.tail ||| hd l) :: l.tail.tail) := by decide +kernel
  exact this l (bl4_mem h hl)
theorem hd01 {l : List Int32} (h : ∀ v ∈ l, b01 v) : b01 (hd l) := by
  cases l with
  | nil => exact Or.inl rfl
  | cons v t => exact h v List.mem_cons_self
theorem tl01 {l : List Int32} (h : ∀ v ∈ l, b01 v) : ∀ v ∈ l.tail, b01 v := fun v hv => h v (List.mem_of_mem_tail hv)
theorem and01 {a b : Int32} (ha : b01 a) (hb : b01 b) : b01 (a &&& b) := by
  rcases ha with rfl | rfl <;> rcases hb with rfl | rfl <;> decide
theorem or01 {a b : Int32} (ha : b01 a) (hb : b01 b) : b01 (a ||| b) := by
  rcases ha with rfl | rfl <;> rcases hb with rfl | rfl <;> decide
theorem not01 {a : Int32} (ha : b01 a) : b01 (1 - a) := by
  rcases ha with rfl | rfl <;> decide
theorem b2_b01 (P : Prop) [Decidable P] : b01 (b2 P) := b2_01 P
theorem k08 {k : Int32} (h : wi k 0 8) (h0 : ¬ k = 0) (h1 : ¬ k = 1) (h2 : ¬ k = 2) (h3 : ¬ k = 3) (h4 : ¬ k = 4) (h5 : ¬ k = 5) (h6 : ¬ k = 6) (h7 : ¬ k = 7) (h8 : ¬ k = 8) : False := by
  simp only [wi, Int32.le_iff_toInt_le, ← Int32.toInt_inj, Int32.reduceToInt] at *
  omega
end
section
set_option maxHeartbeats 4000000 in
set_option maxRecDepth 100000 in
theorem cX_stackAfter (l : Launch) (dC : Nat → ClassId) (dI : Nat → Nat → Nat) (ad : Nat → Nat) (ca : Nat → ClassId) (sz : Nat) (S : Ss) (L : List Int32) (k a : Int32) (q : Nat) (h01 : ∀ v ∈ L, b01 v) (h4 : L.length ≤ 4) (hb1 : ∀ i, i < 32 → b01 (S 1 i)) (hb2 : ∀ i, i < 32 → S 2 i = -1 ∨ b01 (S 2 i)) (hop : wi k 0 8) (ha : ¬ k = 6 → ¬ k = 7 → a = nI q ∧ q < 64 ∧ (¬ k = 8 → q < 32)) : Met l yX_stackAfter (kX_stackAfter :: CW) ({ frames := 1, cells := 0, slots := 0, locals := 22 }) (va_Pc [.ref (ad 0), .int (pk L), .int k, .int a] (gPre (dC, dI) (xT ca) (XW ad ca S) sz)) (vp_Si (fun r => r = pk (stA S L k q))) 0 0 (fun _ => False) := by
  refine Met.ofW (cc := bX_stackAfter) (maxL := 4) (ret := (some .int)) (by decide +kernel) rfl ?_
  intro p e s m args below meth c s₁ B hml hv
  obtain ⟨rfl, hsz, hP, hK, hD0⟩ := hv
  have hx := B.exec
  have hb := B.bytes
  have hr := B.returns
  have hts := atoms_spec (ws := kX_stackAfter :: CW) B.pre
  have hc : ∀ w ∈ CW, w.before _ s = true := fun w h => hts w (List.mem_cons_of_mem _ h)
  have hown : s.vm.findClass RX = some m.cls := findClass_of_methodNamed B.named
  have hlocks := B.notSynchronized
  subst hsz
  have hD := hD0
  have hl := lv_entry ([.ref (ad 0), .int (pk L), .int k, .int a]) (n := 4) (Nat.le_of_ble_eq_true rfl)
  rw [lg_entry_eq]
  generalize (lg_sl ([.ref (ad 0), .int (pk L), .int k, .int a]) ++ List.replicate (4 - (lg_sl ([.ref (ad 0), .int (pk L), .int k, .int a])).length) Slot.unset).toArray = ls at hl ⊢
  have hl : lv_has ls 4 [(0, .ref (ad 0)), (1, .int (pk L)), (2, .int k), (3, .int a)] := hl
  refine lv_iload_n hx hb dX_stackAfter_0 rfl (lv_at hl 2 rfl) ?_
  by_cases w_0 : k = 0
  · refine lv_tableIn (tgt := 52) hx hb dX_stackAfter_1 (by rw [w_0]; decide) (by rw [w_0]; decide) (by rw [w_0]; rfl) (by decide) ?_
    obtain ⟨ha1, ha2, ha3⟩ := ha (by rw [w_0]; decide) (by rw [w_0]; decide)
    have ha4 := ha3 (by rw [w_0]; decide)
    have hrd : b01 (rd S q) := rd01 hb1 hb2 ha4
    subst ha1
    refine lv_iload_n hx hb dX_stackAfter_52 rfl (lv_at hl 1 rfl) ?_
    refine lv_aload_n hx hb dX_stackAfter_53 rfl (lv_at hl 0 rfl) ?_
    refine va_get (D := (dC, dI)) (ci := 0) (v := .ref (ad 1)) (C := RX) (T := TX) (N := 8) hx hb hc inX hown hK hP 0 rfl rfl 0 (by decide) (hc _ w111) (fun _ h9 => h9) rfl dX_stackAfter_54 ?_
    refine lv_iload_n hx hb dX_stackAfter_57 rfl (lv_at hl 3 rfl) ?_
    refine vp_callSi (va_Run.run (va_runV (As := [.int (nI q)]) (rest := [.int (pk L)]) ⟨hx, hb, hml, hown, hc⟩ (cMe_read l dC dI ad ca s.heap.size S q (by omega)) (cwV 1 hc (gV w487 w447 w448 w2 qMe_read) rfl rfl rfl (by decide +kernel) ⟨Nat.le_of_ble_eq_true rfl, Nat.le_of_ble_eq_true rfl⟩) ⟨gPre_blind, va_recv hK hP (ci := 1) (q0 := 1) rfl rfl, (gPre_in hP hK hD)⟩ rfl rfl hl.1 rfl (lv_room (Nat.le_of_ble_eq_true rfl)) dX_stackAfter_58 ⟨Nat.zero_le _, Nat.zero_le _⟩)) (fun r_2 hr_2 => ?_)
    refine vp_callSi (va_Run.run (va_runS (As := [.int (pk L), .int r_2]) (rest := []) ⟨hx, hb, hml, hown, hc⟩ (cX_withPushed l (pk L) r_2) (va_cwS 2 hc (g_S w488 w489 w1 qX_withPushed) rfl rfl rfl (by decide +kernel) ⟨Nat.le_of_ble_eq_true rfl, Nat.le_of_ble_eq_true rfl⟩) ⟨tPre_blind, tPre_in⟩ rfl rfl hl.1 rfl (lv_room (Nat.le_of_ble_eq_true rfl)) dX_stackAfter_61 ⟨Nat.zero_le _, Nat.zero_le _⟩)) (fun r_3 hr_3 => ?_)
    exact W.iret (v := r_3) hx hb hr (fun t ht hW => ⟨_, rfl, (by (try dsimp only); exact (by rw [hr_3, hr_2]; unfold stA; rw [if_pos w_0]; rfl)), ht⟩) (fun _ h => nomatch h) dX_stackAfter_64
  by_cases w_3 : k = 1
  · refine lv_tableIn (tgt := 65) hx hb dX_stackAfter_1 (by rw [w_3]; decide) (by rw [w_3]; decide) (by rw [w_3]; rfl) (by decide) ?_
    obtain ⟨ha1, ha2, ha3⟩ := ha (by rw [w_3]; decide) (by rw [w_3]; decide)
    have ha4 := ha3 (by rw [w_3]; decide)
    have hrd : b01 (rd S q) := rd01 hb1 hb2 ha4
    subst ha1
    refine lv_iload_n hx hb dX_stackAfter_65 rfl (lv_at hl 1 rfl) ?_
    refine lv_iconst (v := 1) hx hb dX_stackAfter_66 (by decide +kernel) ?_
    refine lv_aload_n hx hb dX_stackAfter_67 rfl (lv_at hl 0 rfl) ?_
    refine va_get (D := (dC, dI)) (ci := 0) (v := .ref (ad 1)) (C := RX) (T := TX) (N := 8) hx hb hc inX hown hK hP 0 rfl rfl 0 (by decide) (hc _ w111) (fun _ h9 => h9) rfl dX_stackAfter_68 ?_
    refine lv_iload_n hx hb dX_stackAfter_71 rfl (lv_at hl 3 rfl) ?_
    refine vp_callSi (va_Run.run (va_runV (As := [.int (nI q)]) (rest := [.int 1, .int (pk L)]) ⟨hx, hb, hml, hown, hc⟩ (cMe_read l dC dI ad ca s.heap.size S q (by omega)) (cwV 1 hc (gV w487 w447 w448 w2 qMe_read) rfl rfl rfl (by decide +kernel) ⟨Nat.le_of_ble_eq_true rfl, Nat.le_of_ble_eq_true rfl⟩) ⟨gPre_blind, va_recv hK hP (ci := 1) (q0 := 1) rfl rfl, (gPre_in hP hK hD)⟩ rfl rfl hl.1 rfl (lv_room (Nat.le_of_ble_eq_true rfl)) dX_stackAfter_72 ⟨Nat.zero_le _, Nat.zero_le _⟩)) (fun r_5 hr_5 => ?_)
    refine lv_isub hx hb dX_stackAfter_75 ?_
    refine vp_callSi (va_Run.run (va_runS (As := [.int (pk L), .int (1 - r_5)]) (rest := []) ⟨hx, hb, hml, hown, hc⟩ (cX_withPushed l (pk L) (1 - r_5)) (va_cwS 2 hc (g_S w488 w489 w1 qX_withPushed) rfl rfl rfl (by decide +kernel) ⟨Nat.le_of_ble_eq_true rfl, Nat.le_of_ble_eq_true rfl⟩) ⟨tPre_blind, tPre_in⟩ rfl rfl hl.1 rfl (lv_room (Nat.le_of_ble_eq_true rfl)) dX_stackAfter_76 ⟨Nat.zero_le _, Nat.zero_le _⟩)) (fun r_6 hr_6 => ?_)
    exact W.iret (v := r_6) hx hb hr (fun t ht hW => ⟨_, rfl, (by (try dsimp only); exact (by rw [hr_6, hr_5]; unfold stA; rw [if_neg w_0, if_pos w_3]; rfl)), ht⟩) (fun _ h => nomatch h) dX_stackAfter_79
  by_cases w_6 : k = 2
  · refine lv_tableIn (tgt := 80) hx hb dX_stackAfter_1 (by rw [w_6]; decide) (by rw [w_6]; decide) (by rw [w_6]; rfl) (by decide) ?_
    obtain ⟨ha1, ha2, ha3⟩ := ha (by rw [w_6]; decide) (by rw [w_6]; decide)
    have ha4 := ha3 (by rw [w_6]; decide)
    have hrd : b01 (rd S q) := rd01 hb1 hb2 ha4
    subst ha1
    refine lv_iload_n hx hb dX_stackAfter_80 rfl (lv_at hl 1 rfl) ?_
    refine lv_iload_n hx hb dX_stackAfter_81 rfl (lv_at hl 1 rfl) ?_
    refine lv_aload_n hx hb dX_stackAfter_82 rfl (lv_at hl 0 rfl) ?_
    refine va_get (D := (dC, dI)) (ci := 0) (v := .ref (ad 1)) (C := RX) (T := TX) (N := 8) hx hb hc inX hown hK hP 0 rfl rfl 0 (by decide) (hc _ w111) (fun _ h9 => h9) rfl dX_stackAfter_83 ?_
    refine lv_iload_n hx hb dX_stackAfter_86 rfl (lv_at hl 3 rfl) ?_
    refine vp_callSi (va_Run.run (va_runV (As := [.int (nI q)]) (rest := [.int (pk L), .int (pk L)]) ⟨hx, hb, hml, hown, hc⟩ (cMe_read l dC dI ad ca s.heap.size S q (by omega)) (cwV 1 hc (gV w487 w447 w448 w2 qMe_read) rfl rfl rfl (by decide +kernel) ⟨Nat.le_of_ble_eq_true rfl, Nat.le_of_ble_eq_true rfl⟩) ⟨gPre_blind, va_recv hK hP (ci := 1) (q0 := 1) rfl rfl, (gPre_in hP hK hD)⟩ rfl rfl hl.1 rfl (lv_room (Nat.le_of_ble_eq_true rfl)) dX_stackAfter_87 ⟨Nat.zero_le _, Nat.zero_le _⟩)) (fun r_8 hr_8 => ?_)
    refine lv_iand hx hb dX_stackAfter_90 ?_
    refine vp_callSi (va_Run.run (va_runS (As := [.int (pk L), .int ((pk L) &&& r_8)]) (rest := []) ⟨hx, hb, hml, hown, hc⟩ (cX_withTop l (pk L) ((pk L) &&& r_8)) (va_cwS 2 hc (g_S w476 w477 w1 qX_withTop) rfl rfl rfl (by decide +kernel) ⟨Nat.le_of_ble_eq_true rfl, Nat.le_of_ble_eq_true rfl⟩) ⟨tPre_blind, tPre_in⟩ rfl rfl hl.1 rfl (lv_room (Nat.le_of_ble_eq_true rfl)) dX_stackAfter_91 ⟨Nat.zero_le _, Nat.zero_le _⟩)) (fun r_9 hr_9 => ?_)
    exact W.iret (v := r_9) hx hb hr (fun t ht hW => ⟨_, rfl, (by (try dsimp only); exact (by rw [hr_9, hr_8]; unfold stA; rw [if_neg w_0, if_neg w_3, if_pos w_6]; rw [pk_andv h01 h4 hrd]; exact pk_with h01 h4 (and01 (hd01 h01) hrd))), ht⟩) (fun _ h => nomatch h) dX_stackAfter_94
  by_cases w_9 : k = 3
  · refine lv_tableIn (tgt := 95) hx hb dX_stackAfter_1 (by rw [w_9]; decide) (by rw [w_9]; decide) (by rw [w_9]; rfl) (by decide) ?_
    obtain ⟨ha1, ha2, ha3⟩ := ha (by rw [w_9]; decide) (by rw [w_9]; decide)
    have ha4 := ha3 (by rw [w_9]; decide)
    have hrd : b01 (rd S q) := rd01 hb1 hb2 ha4
    subst ha1
    refine lv_iload_n hx hb dX_stackAfter_95 rfl (lv_at hl 1 rfl) ?_
    refine lv_iload_n hx hb dX_stackAfter_96 rfl (lv_at hl 1 rfl) ?_
    refine lv_iconst (v := 1) hx hb dX_stackAfter_97 (by decide +kernel) ?_
    refine lv_aload_n hx hb dX_stackAfter_98 rfl (lv_at hl 0 rfl) ?_
    refine va_get (D := (dC, dI)) (ci := 0) (v := .ref (ad 1)) (C := RX) (T := TX) (N := 8) hx hb hc inX hown hK hP 0 rfl rfl 0 (by decide) (hc _ w111) (fun _ h9 => h9) rfl dX_stackAfter_99 ?_
    refine lv_iload_n hx hb dX_stackAfter_102 rfl (lv_at hl 3 rfl) ?_
    refine vp_callSi (va_Run.run (va_runV (As := [.int (nI q)]) (rest := [.int 1, .int (pk L), .int (pk L)]) ⟨hx, hb, hml, hown, hc⟩ (cMe_read l dC dI ad ca s.heap.size S q (by omega)) (cwV 1 hc (gV w487 w447 w448 w2 qMe_read) rfl rfl rfl (by decide +kernel) ⟨Nat.le_of_ble_eq_true rfl, Nat.le_of_ble_eq_true rfl⟩) ⟨gPre_blind, va_recv hK hP (ci := 1) (q0 := 1) rfl rfl, (gPre_in hP hK hD)⟩ rfl rfl hl.1 rfl (lv_room (Nat.le_of_ble_eq_true rfl)) dX_stackAfter_103 ⟨Nat.zero_le _, Nat.zero_le _⟩)) (fun r_11 hr_11 => ?_)
    refine lv_isub hx hb dX_stackAfter_106 ?_
    refine lv_iand hx hb dX_stackAfter_107 ?_
    refine vp_callSi (va_Run.run (va_runS (As := [.int (pk L), .int ((pk L) &&& (1 - r_11))]) (rest := []) ⟨hx, hb, hml, hown, hc⟩ (cX_withTop l (pk L) ((pk L) &&& (1 - r_11))) (va_cwS 2 hc (g_S w476 w477 w1 qX_withTop) rfl rfl rfl (by decide +kernel) ⟨Nat.le_of_ble_eq_true rfl, Nat.le_of_ble_eq_true rfl⟩) ⟨tPre_blind, tPre_in⟩ rfl rfl hl.1 rfl (lv_room (Nat.le_of_ble_eq_true rfl)) dX_stackAfter_108 ⟨Nat.zero_le _, Nat.zero_le _⟩)) (fun r_12 hr_12 => ?_)
    exact W.iret (v := r_12) hx hb hr (fun t ht hW => ⟨_, rfl, (by (try dsimp only); exact (by rw [hr_12, hr_11]; unfold stA; rw [if_neg w_0, if_neg w_3, if_neg w_6, if_pos w_9]; rw [pk_andv h01 h4 (not01 hrd)]; exact pk_with h01 h4 (and01 (hd01 h01) (not01 hrd)))), ht⟩) (fun _ h => nomatch h) dX_stackAfter_111
  by_cases w_12 : k = 4
  · refine lv_tableIn (tgt := 112) hx hb dX_stackAfter_1 (by rw [w_12]; decide) (by rw [w_12]; decide) (by rw [w_12]; rfl) (by decide) ?_
    obtain ⟨ha1, ha2, ha3⟩ := ha (by rw [w_12]; decide) (by rw [w_12]; decide)
    have ha4 := ha3 (by rw [w_12]; decide)
    have hrd : b01 (rd S q) := rd01 hb1 hb2 ha4
    subst ha1
    refine lv_iload_n hx hb dX_stackAfter_112 rfl (lv_at hl 1 rfl) ?_
    refine lv_iload_n hx hb dX_stackAfter_113 rfl (lv_at hl 1 rfl) ?_
    refine lv_iconst (v := 1) hx hb dX_stackAfter_114 (by decide +kernel) ?_
    refine lv_iand hx hb dX_stackAfter_115 ?_
    refine lv_aload_n hx hb dX_stackAfter_116 rfl (lv_at hl 0 rfl) ?_
    refine va_get (D := (dC, dI)) (ci := 0) (v := .ref (ad 1)) (C := RX) (T := TX) (N := 8) hx hb hc inX hown hK hP 0 rfl rfl 0 (by decide) (hc _ w111) (fun _ h9 => h9) rfl dX_stackAfter_117 ?_
    refine lv_iload_n hx hb dX_stackAfter_120 rfl (lv_at hl 3 rfl) ?_
    refine vp_callSi (va_Run.run (va_runV (As := [.int (nI q)]) (rest := [.int ((pk L) &&& 1), .int (pk L)]) ⟨hx, hb, hml, hown, hc⟩ (cMe_read l dC dI ad ca s.heap.size S q (by omega)) (cwV 1 hc (gV w487 w447 w448 w2 qMe_read) rfl rfl rfl (by decide +kernel) ⟨Nat.le_of_ble_eq_true rfl, Nat.le_of_ble_eq_true rfl⟩) ⟨gPre_blind, va_recv hK hP (ci := 1) (q0 := 1) rfl rfl, (gPre_in hP hK hD)⟩ rfl rfl hl.1 rfl (lv_room (Nat.le_of_ble_eq_true rfl)) dX_stackAfter_121 ⟨Nat.zero_le _, Nat.zero_le _⟩)) (fun r_14 hr_14 => ?_)
    refine lv_ior hx hb dX_stackAfter_124 ?_
    refine vp_callSi (va_Run.run (va_runS (As := [.int (pk L), .int (((pk L) &&& 1) ||| r_14)]) (rest := []) ⟨hx, hb, hml, hown, hc⟩ (cX_withTop l (pk L) (((pk L) &&& 1) ||| r_14)) (va_cwS 2 hc (g_S w476 w477 w1 qX_withTop) rfl rfl rfl (by decide +kernel) ⟨Nat.le_of_ble_eq_true rfl, Nat.le_of_ble_eq_true rfl⟩) ⟨tPre_blind, tPre_in⟩ rfl rfl hl.1 rfl (lv_room (Nat.le_of_ble_eq_true rfl)) dX_stackAfter_125 ⟨Nat.zero_le _, Nat.zero_le _⟩)) (fun r_15 hr_15 => ?_)
    exact W.iret (v := r_15) hx hb hr (fun t ht hW => ⟨_, rfl, (by (try dsimp only); exact (by rw [hr_15, hr_14]; unfold stA; rw [if_neg w_0, if_neg w_3, if_neg w_6, if_neg w_9, if_pos w_12]; rw [pk_top h01 h4]; exact pk_with h01 h4 (or01 (hd01 h01) hrd))), ht⟩) (fun _ h => nomatch h) dX_stackAfter_128
  by_cases w_15 : k = 5
  · refine lv_tableIn (tgt := 129) hx hb dX_stackAfter_1 (by rw [w_15]; decide) (by rw [w_15]; decide) (by rw [w_15]; rfl) (by decide) ?_
    obtain ⟨ha1, ha2, ha3⟩ := ha (by rw [w_15]; decide) (by rw [w_15]; decide)
    have ha4 := ha3 (by rw [w_15]; decide)
    have hrd : b01 (rd S q) := rd01 hb1 hb2 ha4
    subst ha1
    refine lv_iload_n hx hb dX_stackAfter_129 rfl (lv_at hl 1 rfl) ?_
    refine lv_iload_n hx hb dX_stackAfter_130 rfl (lv_at hl 1 rfl) ?_
    refine lv_iconst (v := 1) hx hb dX_stackAfter_131 (by decide +kernel) ?_
    refine lv_iand hx hb dX_stackAfter_132 ?_
    refine lv_iconst (v := 1) hx hb dX_stackAfter_133 (by decide +kernel) ?_
    refine lv_aload_n hx hb dX_stackAfter_134 rfl (lv_at hl 0 rfl) ?_
    refine va_get (D := (dC, dI)) (ci := 0) (v := .ref (ad 1)) (C := RX) (T := TX) (N := 8) hx hb hc inX hown hK hP 0 rfl rfl 0 (by decide) (hc _ w111) (fun _ h9 => h9) rfl dX_stackAfter_135 ?_
    refine lv_iload_n hx hb dX_stackAfter_138 rfl (lv_at hl 3 rfl) ?_
    refine vp_callSi (va_Run.run (va_runV (As := [.int (nI q)]) (rest := [.int 1, .int ((pk L) &&& 1), .int (pk L)]) ⟨hx, hb, hml, hown, hc⟩ (cMe_read l dC dI ad ca s.heap.size S q (by omega)) (cwV 1 hc (gV w487 w447 w448 w2 qMe_read) rfl rfl rfl (by decide +kernel) ⟨Nat.le_of_ble_eq_true rfl, Nat.le_of_ble_eq_true rfl⟩) ⟨gPre_blind, va_recv hK hP (ci := 1) (q0 := 1) rfl rfl, (gPre_in hP hK hD)⟩ rfl rfl hl.1 rfl (lv_room (Nat.le_of_ble_eq_true rfl)) dX_stackAfter_139 ⟨Nat.zero_le _, Nat.zero_le _⟩)) (fun r_17 hr_17 => ?_)
    refine lv_isub hx hb dX_stackAfter_142 ?_
    refine lv_ior hx hb dX_stackAfter_143 ?_
    refine vp_callSi (va_Run.run (va_runS (As := [.int (pk L), .int (((pk L) &&& 1) ||| (1 - r_17))]) (rest := []) ⟨hx, hb, hml, hown, hc⟩ (cX_withTop l (pk L) (((pk L) &&& 1) ||| (1 - r_17))) (va_cwS 2 hc (g_S w476 w477 w1 qX_withTop) rfl rfl rfl (by decide +kernel) ⟨Nat.le_of_ble_eq_true rfl, Nat.le_of_ble_eq_true rfl⟩) ⟨tPre_blind, tPre_in⟩ rfl rfl hl.1 rfl (lv_room (Nat.le_of_ble_eq_true rfl)) dX_stackAfter_144 ⟨Nat.zero_le _, Nat.zero_le _⟩)) (fun r_18 hr_18 => ?_)
    exact W.iret (v := r_18) hx hb hr (fun t ht hW => ⟨_, rfl, (by (try dsimp only); exact (by rw [hr_18, hr_17]; unfold stA; rw [if_neg w_0, if_neg w_3, if_neg w_6, if_neg w_9, if_neg w_12, if_pos w_15]; rw [pk_top h01 h4]; exact pk_with h01 h4 (or01 (hd01 h01) (not01 hrd)))), ht⟩) (fun _ h => nomatch h) dX_stackAfter_147
  by_cases w_18 : k = 6
  · refine lv_tableIn (tgt := 148) hx hb dX_stackAfter_1 (by rw [w_18]; decide) (by rw [w_18]; decide) (by rw [w_18]; rfl) (by decide) ?_
    refine lv_iload_n hx hb dX_stackAfter_148 rfl (lv_at hl 1 rfl) ?_
    refine lv_iconst (v := 1) hx hb dX_stackAfter_149 (by decide +kernel) ?_
    refine lv_ishr hx hb dX_stackAfter_150 ?_
    refine lv_iload_n hx hb dX_stackAfter_151 rfl (lv_at hl 1 rfl) ?_
    refine lv_iconst (v := 1) hx hb dX_stackAfter_152 (by decide +kernel) ?_
    refine lv_ishr hx hb dX_stackAfter_153 ?_
    refine lv_iload_n hx hb dX_stackAfter_154 rfl (lv_at hl 1 rfl) ?_
    refine lv_iand hx hb dX_stackAfter_155 ?_
    refine lv_iconst (v := 1) hx hb dX_stackAfter_156 (by decide +kernel) ?_
    refine lv_iand hx hb dX_stackAfter_157 ?_
    refine vp_callSi (va_Run.run (va_runS (As := [.int ((pk L) >>> (1 &&& 31)), .int ((((pk L) >>> (1 &&& 31)) &&& (pk L)) &&& 1)]) (rest := []) ⟨hx, hb, hml, hown, hc⟩ (cX_withTop l ((pk L) >>> (1 &&& 31)) ((((pk L) >>> (1 &&& 31)) &&& (pk L)) &&& 1)) (va_cwS 2 hc (g_S w476 w477 w1 qX_withTop) rfl rfl rfl (by decide +kernel) ⟨Nat.le_of_ble_eq_true rfl, Nat.le_of_ble_eq_true rfl⟩) ⟨tPre_blind, tPre_in⟩ rfl rfl hl.1 rfl (lv_room (Nat.le_of_ble_eq_true rfl)) dX_stackAfter_158 ⟨Nat.zero_le _, Nat.zero_le _⟩)) (fun r_20 hr_20 => ?_)
    exact W.iret (v := r_20) hx hb hr (fun t ht hW => ⟨_, rfl, (by (try dsimp only); exact (by rw [hr_20]; unfold stA; rw [if_neg w_0, if_neg w_3, if_neg w_6, if_neg w_9, if_neg w_12, if_neg w_15, if_pos w_18]; exact pk_and2 h01 h4)), ht⟩) (fun _ h => nomatch h) dX_stackAfter_161
  by_cases w_20 : k = 7
  · refine lv_tableIn (tgt := 162) hx hb dX_stackAfter_1 (by rw [w_20]; decide) (by rw [w_20]; decide) (by rw [w_20]; rfl) (by decide) ?_
    refine lv_iload_n hx hb dX_stackAfter_162 rfl (lv_at hl 1 rfl) ?_
    refine lv_iconst (v := 1) hx hb dX_stackAfter_163 (by decide +kernel) ?_
    refine lv_ishr hx hb dX_stackAfter_164 ?_
    refine lv_iload_n hx hb dX_stackAfter_165 rfl (lv_at hl 1 rfl) ?_
    refine lv_iconst (v := 1) hx hb dX_stackAfter_166 (by decide +kernel) ?_
    refine lv_ishr hx hb dX_stackAfter_167 ?_
    refine lv_iload_n hx hb dX_stackAfter_168 rfl (lv_at hl 1 rfl) ?_
    refine lv_ior hx hb dX_stackAfter_169 ?_
    refine lv_iconst (v := 1) hx hb dX_stackAfter_170 (by decide +kernel) ?_
    refine lv_iand hx hb dX_stackAfter_171 ?_
    refine vp_callSi (va_Run.run (va_runS (As := [.int ((pk L) >>> (1 &&& 31)), .int ((((pk L) >>> (1 &&& 31)) ||| (pk L)) &&& 1)]) (rest := []) ⟨hx, hb, hml, hown, hc⟩ (cX_withTop l ((pk L) >>> (1 &&& 31)) ((((pk L) >>> (1 &&& 31)) ||| (pk L)) &&& 1)) (va_cwS 2 hc (g_S w476 w477 w1 qX_withTop) rfl rfl rfl (by decide +kernel) ⟨Nat.le_of_ble_eq_true rfl, Nat.le_of_ble_eq_true rfl⟩) ⟨tPre_blind, tPre_in⟩ rfl rfl hl.1 rfl (lv_room (Nat.le_of_ble_eq_true rfl)) dX_stackAfter_172 ⟨Nat.zero_le _, Nat.zero_le _⟩)) (fun r_22 hr_22 => ?_)
    exact W.iret (v := r_22) hx hb hr (fun t ht hW => ⟨_, rfl, (by (try dsimp only); exact (by rw [hr_22]; unfold stA; rw [if_neg w_0, if_neg w_3, if_neg w_6, if_neg w_9, if_neg w_12, if_neg w_15, if_neg w_18, if_pos w_20]; exact pk_or2 h01 h4)), ht⟩) (fun _ h => nomatch h) dX_stackAfter_175
  by_cases w_22 : k = 8
  · refine lv_tableIn (tgt := 176) hx hb dX_stackAfter_1 (by rw [w_22]; decide) (by rw [w_22]; decide) (by rw [w_22]; rfl) (by decide) ?_
    obtain ⟨ha1, ha2, ha3⟩ := ha (by rw [w_22]; decide) (by rw [w_22]; decide)
    subst ha1
    refine lv_iload_n hx hb dX_stackAfter_176 rfl (lv_at hl 1 rfl) ?_
    refine lv_aload_n hx hb dX_stackAfter_177 rfl (lv_at hl 0 rfl) ?_
    refine va_get (D := (dC, dI)) (ci := 0) (v := .ref (ad 1)) (C := RX) (T := TX) (N := 8) hx hb hc inX hown hK hP 0 rfl rfl 0 (by decide) (hc _ w111) (fun _ h9 => h9) rfl dX_stackAfter_178 ?_
    refine lv_iload_n hx hb dX_stackAfter_181 rfl (lv_at hl 3 rfl) ?_
    refine lv_bipush (v := 8) hx hb dX_stackAfter_182 (by decide +kernel) ?_
    refine lv_idiv hx hb dX_stackAfter_184 (by decide) ?_
    refine lv_topi (fun v_24 ev_24 => ?_)
    rw [show nI q / 8 = nI (q / 8) from pk_div (d := 8) (by omega) (by decide) (by decide)] at ev_24
    subst v_24
    refine lv_iload_n hx hb dX_stackAfter_185 rfl (lv_at hl 3 rfl) ?_
    refine lv_bipush (v := 8) hx hb dX_stackAfter_186 (by decide +kernel) ?_
    refine lv_irem hx hb dX_stackAfter_188 (by decide) ?_
    refine lv_topi (fun v_25 ev_25 => ?_)
    rw [show nI q - nI q / 8 * 8 = nI (q % 8) from pk_rem (d := 8) (by omega) (by decide) (by decide)] at ev_25
    subst v_25
    refine vp_callSi (va_Run.run (va_runV (As := [.int (nI (q / 8)), .int (nI (q % 8))]) (rest := [.int (pk L)]) ⟨hx, hb, hml, hown, hc⟩ (cMe_isAbove l dC dI ad ca s.heap.size S (q / 8) (q % 8) (by omega) (by omega)) (cwV 2 hc (gV w491 w492 w493 w2 qMe_isAbove) rfl rfl rfl (by decide +kernel) ⟨Nat.le_of_ble_eq_true rfl, Nat.le_of_ble_eq_true rfl⟩) ⟨gPre_blind, va_recv hK hP (ci := 1) (q0 := 1) rfl rfl, (gPre_in hP hK hD)⟩ rfl rfl hl.1 rfl (lv_room (Nat.le_of_ble_eq_true rfl)) dX_stackAfter_189 ⟨Nat.zero_le _, Nat.zero_le _⟩)) (fun r_26 hr_26 => ?_)
    refine lv_if_eq (tgt := 199) hx hb dX_stackAfter_192 (by decide) (fun c_26 => ?_) (fun c_26 => ?_)
    · refine lv_iconst (v := 0) hx hb dX_stackAfter_199 (by decide +kernel) ?_
      refine vp_callSi (va_Run.run (va_runS (As := [.int (pk L), .int 0]) (rest := []) ⟨hx, hb, hml, hown, hc⟩ (cX_withPushed l (pk L) 0) (va_cwS 2 hc (g_S w488 w489 w1 qX_withPushed) rfl rfl rfl (by decide +kernel) ⟨Nat.le_of_ble_eq_true rfl, Nat.le_of_ble_eq_true rfl⟩) ⟨tPre_blind, tPre_in⟩ rfl rfl hl.1 rfl (lv_room (Nat.le_of_ble_eq_true rfl)) dX_stackAfter_200 ⟨Nat.zero_le _, Nat.zero_le _⟩)) (fun r_28 hr_28 => ?_)
      exact W.iret (v := r_28) hx hb hr (fun t ht hW => ⟨_, rfl, (by (try dsimp only); exact (by rw [hr_26] at c_26; rw [hr_28]; unfold stA; rw [if_neg w_0, if_neg w_3, if_neg w_6, if_neg w_9, if_neg w_12, if_neg w_15, if_neg w_18, if_neg w_20]; first | rw [b2_t (b2_n.mp c_26)]; rfl | rw [b2_f (b2_0.mp c_26)]; rfl)), ht⟩) (fun _ h => nomatch h) dX_stackAfter_203
    · refine lv_iconst (v := 1) hx hb dX_stackAfter_195 (by decide +kernel) ?_
      refine lv_goto (tgt := 200) hx hb dX_stackAfter_196 (by decide) ?_
      refine vp_callSi (va_Run.run (va_runS (As := [.int (pk L), .int 1]) (rest := []) ⟨hx, hb, hml, hown, hc⟩ (cX_withPushed l (pk L) 1) (va_cwS 2 hc (g_S w488 w489 w1 qX_withPushed) rfl rfl rfl (by decide +kernel) ⟨Nat.le_of_ble_eq_true rfl, Nat.le_of_ble_eq_true rfl⟩) ⟨tPre_blind, tPre_in⟩ rfl rfl hl.1 rfl (lv_room (Nat.le_of_ble_eq_true rfl)) dX_stackAfter_200 ⟨Nat.zero_le _, Nat.zero_le _⟩)) (fun r_29 hr_29 => ?_)
      exact W.iret (v := r_29) hx hb hr (fun t ht hW => ⟨_, rfl, (by (try dsimp only); exact (by rw [hr_26] at c_26; rw [hr_29]; unfold stA; rw [if_neg w_0, if_neg w_3, if_neg w_6, if_neg w_9, if_neg w_12, if_neg w_15, if_neg w_18, if_neg w_20]; first | rw [b2_t (b2_n.mp c_26)]; rfl | rw [b2_f (b2_0.mp c_26)]; rfl)), ht⟩) (fun _ h => nomatch h) dX_stackAfter_203
  exact absurd (k08 hop w_0 w_3 w_6 w_9 w_12 w_15 w_18 w_20 w_22) id
end
section
/-! the invariant is kept -/
theorem wi_cl {a M : Int32} {n : Nat} (h : wi a 0 M) (hM : M.toInt = (n : Int)) (hn : n < 2 ^ 31) : a.toNatClampNeg ≤ n ∧ a = nI a.toNatClampNeg := by
  obtain ⟨k, hk, e⟩ := wi_ex h hM hn
  subst e
  rw [nI_clamp (by omega)]
  exact ⟨hk, rfl⟩
theorem Pr_bits {S : Ss} {f : Nat → Int32} (h : Pr S) (hf : ∀ i, i < 32 → b01 (f i)) : Pr (row S 1 f) := ⟨h.1, hf, h.2.2.1, h.2.2.2.1, h.2.2.2.2.1, h.2.2.2.2.2⟩
theorem Pr_regs {S : Ss} {f : Nat → Int32} (h : Pr S) (hf : ∀ i, i < 8 → rng (f i)) : Pr (row S 5 f) := ⟨h.1, h.2.1, h.2.2.1, h.2.2.2.1, hf, h.2.2.2.2.2⟩
theorem Pr_outs {S : Ss} {f : Nat → Int32} (h : Pr S) : Pr (row S 4 f) := ⟨h.1, h.2.1, h.2.2.1, h.2.2.2.1, h.2.2.2.2.1, h.2.2.2.2.2⟩
theorem upd_all {P : Int32 → Prop} {f : Nat → Int32} {n k : Nat} {v : Int32} (h : ∀ i, i < n → P (f i)) (hv : P v) : ∀ i, i < n → P (upd f k v i) := by
  intro i hi
  by_cases e : i = k
  · subst e; rw [pk_us]; exact hv
  · rw [pk_un e]; exact h i hi
theorem upd_at {P : Int32 → Prop} {f : Nat → Int32} {k i : Nat} {v : Int32} (h : P (f i)) (hv : i = k → P v) : P (upd f k v i) := by
  by_cases e : i = k
  · rw [e, pk_us]; exact hv e
  · rw [pk_un e]; exact h
theorem okBk_19 {S : Ss} {j i : Nat} {v : Int32} (h : okBk S i) (hv : b01 v) : okBk (row S 19 (upd (S 19) j v)) i := by
  obtain ⟨h1, h2, h3, h4, h5, h6, h7, h8, h9, h10⟩ := h
  exact ⟨h1, h2, h3, h4, h5, h6, h7, h8, upd_at (P := b01) h9 (fun _ => hv), h10⟩
theorem okBk_20 {S : Ss} {j i : Nat} {v : Int32} (h : okBk S i) (hv : wi v 0 100) : okBk (row S 20 (upd (S 20) j v)) i := by
  obtain ⟨h1, h2, h3, h4, h5, h6, h7, h8, h9, h10⟩ := h
  exact ⟨h1, h2, upd_at (P := fun z => wi z 0 100) h3 (fun _ => hv), h4, h5, h6, h7, h8, h9, h10⟩
theorem okBk_21 {S : Ss} {j i : Nat} {v : Int32} (h : okBk S i) (hv : b01 v) : okBk (row S 21 (upd (S 21) j v)) i := by
  obtain ⟨h1, h2, h3, h4, h5, h6, h7, h8, h9, h10⟩ := h
  exact ⟨h1, h2, h3, h4, h5, h6, h7, h8, h9, upd_at (P := b01) h10 (fun _ => hv)⟩
theorem Pr_19 {S : Ss} {j : Nat} {v : Int32} (h : Pr S) (hv : b01 v) : Pr (row S 19 (upd (S 19) j v)) := by
  obtain ⟨⟨m, hm, e, hB⟩, h2⟩ := h
  exact ⟨⟨m, hm, e, fun i hi => okBk_19 (hB i hi) hv⟩, h2⟩
theorem Pr_20 {S : Ss} {j : Nat} {v : Int32} (h : Pr S) (hv : wi v 0 100) : Pr (row S 20 (upd (S 20) j v)) := by
  obtain ⟨⟨m, hm, e, hB⟩, h2⟩ := h
  exact ⟨⟨m, hm, e, fun i hi => okBk_20 (hB i hi) hv⟩, h2⟩
theorem Pr_21 {S : Ss} {j : Nat} {v : Int32} (h : Pr S) (hv : b01 v) : Pr (row S 21 (upd (S 21) j v)) := by
  obtain ⟨⟨m, hm, e, hB⟩, h2⟩ := h
  exact ⟨⟨m, hm, e, fun i hi => okBk_21 (hB i hi) hv⟩, h2⟩
theorem inc_rng {c p : Int32} (hc : wi c 0 100) (hp : wi p 1 100) : wi (if c < p then c + 1 else p) 0 100 := by
  obtain ⟨h1, h2⟩ := hc
  obtain ⟨h3, h4⟩ := hp
  by_cases h : c < p
  · rw [if_pos h]
    simp only [Int32.le_iff_toInt_le, Int32.lt_iff_toInt_lt, Int32.reduceToInt, wi] at *
    have e1 : (1 : Int32).toInt = 1 := rfl
    have e : (c + 1).toInt = c.toInt + 1 := by rw [i32_add, e1] <;> rw [e1] <;> omega
    omega
  · rw [if_neg h]
    simp only [Int32.le_iff_toInt_le, Int32.lt_iff_toInt_lt, Int32.reduceToInt, wi] at *
    omega
theorem dec_rng {c : Int32} (hc : wi c 0 100) : wi (if 0 < c then c - 1 else 0) 0 100 := by
  obtain ⟨h1, h2⟩ := hc
  by_cases h : 0 < c
  · rw [if_pos h]
    simp only [Int32.le_iff_toInt_le, Int32.lt_iff_toInt_lt, Int32.reduceToInt, wi] at *
    have e1 : (1 : Int32).toInt = 1 := rfl
    have e : (c - 1).toInt = c.toInt - 1 := by rw [i32_sub, e1] <;> rw [e1] <;> omega
    omega
  · rw [if_neg h]; decide
theorem p_rng {p : Int32} (hp : wi p 1 100) : wi p 0 100 := by
  simp only [Int32.le_iff_toInt_le, Int32.reduceToInt, wi] at *
  omega
theorem cnt_rng {S : Ss} {j : Nat} {x : Int32} (h : okBk S j) : wi (cntB S j x) 0 100 := by
  obtain ⟨h1, h2, h3, h4, h5, h6, h7, h8, h9, h10⟩ := h
  unfold cntB
  by_cases k0 : S 14 j = 0
  · rw [if_pos k0]
    by_cases hx : x = 1
    · rw [if_pos hx]; exact inc_rng h3 (h2 (Or.inl k0))
    · rw [if_neg hx]; decide
  · rw [if_neg k0]
    by_cases k1 : S 14 j = 1
    · rw [if_pos k1]
      by_cases hx : x = 1
      · rw [if_pos hx]; exact p_rng (h2 (Or.inr (Or.inl k1)))
      · rw [if_neg hx]; exact dec_rng h3
    · rw [if_neg k1]
      by_cases k2 : S 14 j = 2
      · rw [if_pos k2]
        by_cases hr : rd S (S 16 j).toNatClampNeg = 1
        · rw [if_pos hr]; decide
        · rw [if_neg hr]
          by_cases hx : x = 1 ∧ S 21 j = 0
          · rw [if_pos hx]; exact inc_rng h3 (h2 (Or.inr (Or.inr k2)))
          · rw [if_neg hx]; exact h3
      · rw [if_neg k2]; exact h3
theorem out_01 {S : Ss} {j : Nat} {x : Int32} (hx : b01 x) : b01 (outB S j x) := by
  unfold outB
  by_cases k0 : S 14 j = 0
  · rw [if_pos k0]; exact b2_b01 _
  · rw [if_neg k0]
    by_cases k1 : S 14 j = 1
    · rw [if_pos k1]; exact b2_b01 _
    · rw [if_neg k1]
      by_cases k2 : S 14 j = 2
      · rw [if_pos k2]; exact b2_b01 _
      · rw [if_neg k2]
        by_cases k3 : S 14 j = 3
        · rw [if_pos k3]; exact b2_b01 _
        · rw [if_neg k3]
          by_cases k4 : S 14 j = 4
          · rw [if_pos k4]; exact b2_b01 _
          · rw [if_neg k4]; exact hx
theorem clc_rng {k v f o : Int32} (hv : rng v) (hf : rng f) (ho : rng o) : rng (clc k v f o) := by
  unfold clc
  by_cases h5 : k = 5
  · rw [if_pos h5]; exact fitI_rng _
  · rw [if_neg h5]
    by_cases h7 : k = 7
    · rw [if_pos h7]
      by_cases h1 : v < o
      · rw [if_pos h1]; exact ho
      · rw [if_neg h1]
        by_cases h2 : f < v
        · rw [if_pos h2]; exact hf
        · rw [if_neg h2]; exact hv
    · rw [if_neg h7]; exact fitI_rng _
theorem reg_rng {S : Ss} {j : Nat} {x : Int32} (h : okBk S j) (hr : ∀ i, i < 8 → rng (S 5 i)) : ∀ i, i < 8 → rng (regB S j x i) := by
  obtain ⟨h1, h2, h3, h4, h5, h6, h7, h8, h9, h10⟩ := h
  unfold regB
  by_cases hx : 5 ≤ S 14 j ∧ x = 1
  · rw [if_pos hx]
    have hp := wi_cl (h5 hx.1).1 (n := 7) rfl (by decide)
    exact upd_all (P := rng) hr (clc_rng (hr _ (by omega)) h6 h7)
  · rw [if_neg hx]; exact hr
theorem Pr_bw {S : Ss} {j m : Nat} {x : Int32} (h : Pr S) (hm : m ≤ 10) (em : S 0 0 = nI m) (hj : j < m) (hx : b01 x) : Pr (bw S j x) := by
  have hB : okBk S j := by
    obtain ⟨⟨m', hm', em', hB⟩, -⟩ := h
    rw [em] at em'
    have : m = m' := (nI_eq (by omega) (by omega)).mp em'
    exact hB j (by omega)
  have a1 : Pr (row S 5 (regB S j x)) := Pr_regs h (reg_rng hB h.2.2.2.2.1)
  have a2 := Pr_20 (j := j) a1 (cnt_rng (x := x) hB)
  have a3 := Pr_19 (j := j) a2 (out_01 (S := S) (j := j) hx)
  exact Pr_21 (j := j) a3 hx
theorem okW_of {S : Ss} {j : Nat} {x : Int32} (h : okBk S j) (hr : ∀ i, i < 8 → rng (S 5 i)) (hx : b01 x) (hf : ¬ failB S j x) : okW S j x (S 16 j).toNatClampNeg (S 15 j).toNatClampNeg := by
  obtain ⟨h1, h2, h3, h4, h5, h6, h7, h8, h9, h10⟩ := h
  refine ⟨hx, h1, h2, h3, fun k2 => ?_, fun k5 => ?_, fun k5 => ?_, hr, h6, h7, h8, hf⟩
  · have := wi_cl (h4 k2) (n := 31) rfl (by decide)
    exact ⟨by omega, this.2⟩
  · have := wi_cl (h5 k5).1 (n := 7) rfl (by decide)
    exact ⟨by omega, this.2⟩
  · have := wi_cl (h5 k5).2 (n := 7) rfl (by decide)
    exact ⟨by omega, this.2⟩
theorem Pr_asg {S : Ss} {op t : Int32} {a : Nat} (h : Pr S) (ht : b01 t) : Pr (asg S op a t) := by
  unfold asg
  by_cases h1 : op = 10
  · rw [if_pos h1]; exact Pr_bits h (upd_all (P := b01) h.2.1 ht)
  · rw [if_neg h1]
    by_cases h2 : t = 1
    · rw [if_pos h2]; exact Pr_bits h (upd_all (P := b01) h.2.1 (b2_b01 _))
    · rw [if_neg h2]; exact h
theorem Pr_tin {S : Ss} (h : Pr S) : Pr (tin S) := by
  refine Pr_bits h (fun i hi => ?_)
  by_cases h8 : i < 8
  · rw [if_pos h8]; exact h.2.2.2.1 i h8
  · rw [if_neg h8]; exact h.2.1 i hi
/-- a good point of a rung's walk: S the state at its beginning, d its heights, i steps done -/
def Gd (S : Ss) (d : Nat → Nat) (i : Nat) (S1 : Ss) (l : List Int32) : Prop := Pr S1 ∧ S1 10 = S 10 ∧ S1 11 = S 11 ∧ S1 12 = S 12 ∧ S1 0 = S 0 ∧ l.length = d i ∧ ∀ v ∈ l, b01 v
theorem sta_01 {S : Ss} {l : List Int32} {op : Int32} {q : Nat} (h : ∀ v ∈ l, b01 v) (hr : ¬ op = 6 → ¬ op = 7 → ¬ op = 8 → b01 (rd S q)) (ho : wi op 0 8) : ∀ v ∈ stA S l op q, b01 v := by
  have c1 : ∀ {v : Int32} {t : List Int32}, b01 v → (∀ w ∈ t, b01 w) → ∀ w ∈ v :: t, b01 w := fun hv ht w hw => (List.mem_cons.mp hw).elim (fun e => by rw [e]; exact hv) (ht w)
  unfold stA
  by_cases k0 : op = 0
  · rw [if_pos k0]; exact c1 (hr (by rw [k0]; decide) (by rw [k0]; decide) (by rw [k0]; decide)) h
  rw [if_neg k0]
  by_cases k1 : op = 1
  · rw [if_pos k1]; exact c1 (not01 (hr (by rw [k1]; decide) (by rw [k1]; decide) (by rw [k1]; decide))) h
  rw [if_neg k1]
  by_cases k2 : op = 2
  · rw [if_pos k2]; exact c1 (and01 (hd01 h) (hr (by rw [k2]; decide) (by rw [k2]; decide) (by rw [k2]; decide))) (tl01 h)
  rw [if_neg k2]
  by_cases k3 : op = 3
  · rw [if_pos k3]; exact c1 (and01 (hd01 h) (not01 (hr (by rw [k3]; decide) (by rw [k3]; decide) (by rw [k3]; decide)))) (tl01 h)
  rw [if_neg k3]
  by_cases k4 : op = 4
  · rw [if_pos k4]; exact c1 (or01 (hd01 h) (hr (by rw [k4]; decide) (by rw [k4]; decide) (by rw [k4]; decide))) (tl01 h)
  rw [if_neg k4]
  by_cases k5 : op = 5
  · rw [if_pos k5]; exact c1 (or01 (hd01 h) (not01 (hr (by rw [k5]; decide) (by rw [k5]; decide) (by rw [k5]; decide)))) (tl01 h)
  rw [if_neg k5]
  by_cases k6 : op = 6
  · rw [if_pos k6]; exact c1 (and01 (hd01 (tl01 h)) (hd01 h)) (tl01 (tl01 h))
  rw [if_neg k6]
  by_cases k7 : op = 7
  · rw [if_pos k7]; exact c1 (or01 (hd01 (tl01 h)) (hd01 h)) (tl01 (tl01 h))
  rw [if_neg k7]
  exact c1 (b2_b01 _) h
theorem sta_len {S : Ss} {l : List Int32} {op : Int32} {q d d' : Nat} (ho : wi op 0 8) (hl : l.length = d) (hs : stp op d d') : (stA S l op q).length = d' := by
  have ho' : op = 0 ∨ op = 1 ∨ op = 2 ∨ op = 3 ∨ op = 4 ∨ op = 5 ∨ op = 6 ∨ op = 7 ∨ op = 8 := by
    simp only [wi, Int32.le_iff_toInt_le, ← Int32.toInt_inj, Int32.reduceToInt] at ho ⊢
    omega
  rcases ho' with rfl | rfl | rfl | rfl | rfl | rfl | rfl | rfl | rfl <;> simp [stp, psh, jns] at hs <;> simp [stA] <;> omega
end
section
/-! a rung's steps keep the good points -/
theorem ix10 (r i : Nat) : nI r * 10 + nI i = nI (10 * r + i) := by rw [show (10 : Int32) = nI 10 from rfl, pk_mul, nI_add, Nat.mul_comm]
theorem stp_keep {op : Int32} {d d' : Nat} (h : stp op d d') (h1 : ¬ psh op) (h2 : ¬ jns op) : 1 ≤ d ∧ d' = d ∧ d ≤ 4 := by
  rcases h with h | h | h
  · exact absurd h.1 h1
  · exact absurd h.1 h2
  · exact h.2.2
theorem stp_4 {op : Int32} {d d' : Nat} (h : stp op d d') : d ≤ 4 := by
  rcases h with h | h | h <;> omega
theorem big_no {op : Int32} (h : 9 ≤ op) : ¬ psh op ∧ ¬ jns op := by
  simp only [psh, jns, Int32.le_iff_toInt_le, ← Int32.toInt_inj, Int32.reduceToInt] at *
  omega
theorem Gd_13 {S S1 : Ss} {d : Nat → Nat} {i : Nat} {l : List Int32} {op : Int32} (h : Gd S d i S1 l) (hs : stp op (d i) (d (i + 1))) (e : op = 13) : Gd S d (i + 1) S1 l := by
  obtain ⟨a1, a2, a3, a4, a5, a6, a7⟩ := h
  have h9 := big_no (op := op) (by rw [e]; decide)
  exact ⟨a1, a2, a3, a4, a5, by rw [a6]; exact (stp_keep hs h9.1 h9.2).2.1.symm, a7⟩
theorem Gd_9 {S S1 : Ss} {d : Nat → Nat} {i j m : Nat} {l : List Int32} {op : Int32} (h : Gd S d i S1 l) (hs : stp op (d i) (d (i + 1))) (e : op = 9) (hm : m ≤ 10) (em : S1 0 0 = nI m) (hj : j < m) : Gd S d (i + 1) (bw S1 j (hd l)) (outB S1 j (hd l) :: l.tail) := by
  obtain ⟨a1, a2, a3, a4, a5, a6, a7⟩ := h
  have h9 := big_no (op := op) (by rw [e]; decide)
  have hk := stp_keep hs h9.1 h9.2
  refine ⟨Pr_bw a1 hm em hj (hd01 a7), a2, a3, a4, a5, ?_, ?_⟩
  · rw [List.length_cons, List.length_tail]; omega
  · intro v hv
    rcases List.mem_cons.mp hv with rfl | hv
    · exact out_01 (hd01 a7)
    · exact tl01 a7 v hv
theorem asg_row {S : Ss} {op t : Int32} {a r : Nat} (h : r ≠ 1) : asg S op a t r = S r := by
  unfold asg
  by_cases h1 : op = 10
  · rw [if_pos h1]; exact row_n h
  · rw [if_neg h1]
    by_cases h2 : t = 1
    · rw [if_pos h2]; exact row_n h
    · rw [if_neg h2]
theorem Gd_10 {S S1 : Ss} {d : Nat → Nat} {i a : Nat} {l : List Int32} {op : Int32} (h : Gd S d i S1 l) (hs : stp op (d i) (d (i + 1))) (e : 10 ≤ op) : Gd S d (i + 1) (asg S1 op a (hd l)) l := by
  obtain ⟨a1, a2, a3, a4, a5, a6, a7⟩ := h
  have h9 := big_no (op := op) (Int32.le_trans (by decide) e)
  refine ⟨Pr_asg a1 (hd01 a7), ?_, ?_, ?_, ?_, by rw [a6]; exact (stp_keep hs h9.1 h9.2).2.1.symm, a7⟩
  · rw [asg_row (by decide)]; exact a2
  · rw [asg_row (by decide)]; exact a3
  · rw [asg_row (by decide)]; exact a4
  · rw [asg_row (by decide)]; exact a5
theorem okO_8q {m op a : Int32} (h : okO m op a) (e : ¬ 10 ≤ op) (n : ¬ op = 9) : ¬ op = 6 → ¬ op = 7 → a = nI a.toNatClampNeg ∧ a.toNatClampNeg < 64 ∧ (¬ op = 8 → a.toNatClampNeg < 32) := by
  intro h6 h7
  obtain ⟨h1, h2⟩ := (okO_8 h e n).2 h6 h7
  have h3 := wi_cl h1 (n := 63) rfl (by decide)
  refine ⟨h3.2, by omega, fun h8 => ?_⟩
  have h4 := wi_cl (h2 h8) (n := 31) rfl (by decide)
  omega
theorem Gd_8 {S S1 : Ss} {d : Nat → Nat} {i : Nat} {l : List Int32} {m op a : Int32} (h : Gd S d i S1 l) (hs : stp op (d i) (d (i + 1))) (hO : okO m op a) (e : ¬ 10 ≤ op) (n : ¬ op = 9) : Gd S d (i + 1) S1 (stA S1 l op a.toNatClampNeg) := by
  obtain ⟨a1, a2, a3, a4, a5, a6, a7⟩ := h
  have h8 := okO_8 hO e n
  refine ⟨a1, a2, a3, a4, a5, sta_len h8.1 a6 hs, sta_01 a7 (fun k6 k7 k8 => rd01 a1.2.1 a1.2.2.1 ((okO_8q hO e n k6 k7).2.2 k8)) h8.1⟩
/-- what a rung leaves -/
def Aft (S S2 : Ss) : Prop := Pr S2 ∧ S2 10 = S 10 ∧ S2 11 = S 11 ∧ S2 12 = S 12 ∧ S2 0 = S 0
theorem rgo_ok {S : Ss} {r n : Nat} {d : Nat → Nat} (hr : r < 12) (hR : okRg S 10 r n d) : ∀ (k i : Nat) (S1 : Ss) (l : List Int32), i + k = n → Gd S d i S1 l → Aft S (rgo r k i S1 l).2 ∧ ((rgo r k i S1 l).1 = -2 ∨ ∃ q, q ≤ 12 ∧ (rgo r k i S1 l).1 = nI q) := by
  intro k
  induction k with
  | zero =>
    intro i S1 l _ h
    obtain ⟨a1, a2, a3, a4, a5, a6, a7⟩ := h
    exact ⟨⟨a1, a2, a3, a4, a5⟩, Or.inr ⟨r + 1, by omega, rfl⟩⟩
  | succ k ih =>
    intro i S1 l hik h
    obtain ⟨hO, hs⟩ := hR.2.2.2 i (by omega)
    obtain ⟨a1, a2, a3, a4, a5, a6, a7⟩ := id h
    have hO : okO (S 0 0) (S1 10 (10 * r + i)) (S1 11 (10 * r + i)) := by rw [a2, a3]; exact hO
    have hs : stp (S1 10 (10 * r + i)) (d i) (d (i + 1)) := by rw [a2]; exact hs
    rw [rgo]
    by_cases h13 : S1 10 (10 * r + i) = 13
    · rw [if_pos h13]
      by_cases ht : hd l = 1
      · rw [if_pos ht]
        obtain ⟨q, hq, e⟩ := wi_ex (okO_13 hO h13) (n := 11) rfl (by decide)
        exact ⟨⟨a1, a2, a3, a4, a5⟩, Or.inr ⟨q, by omega, e⟩⟩
      · rw [if_neg ht]
        exact ih (i + 1) S1 l (by omega) (Gd_13 h hs h13)
    · rw [if_neg h13]
      by_cases h9 : S1 10 (10 * r + i) = 9
      · rw [if_pos h9]
        by_cases hf : failB S1 (S1 11 (10 * r + i)).toNatClampNeg (hd l)
        · rw [if_pos hf]
          exact ⟨⟨a1, a2, a3, a4, a5⟩, Or.inl rfl⟩
        · rw [if_neg hf]
          obtain ⟨m, hm, em, hB⟩ := a1.1
          obtain ⟨j, hj, ej⟩ := wi_made hm (by rw [← em, a5]; exact okO_9 hO h9)
          rw [ej, nI_clamp (by omega)]
          exact ih (i + 1) _ _ (by omega) (Gd_9 h hs h9 hm em hj)
      · rw [if_neg h9]
        by_cases h10 : 10 ≤ S1 10 (10 * r + i)
        · rw [if_pos h10]
          exact ih (i + 1) _ _ (by omega) (Gd_10 h hs h10)
        · rw [if_neg h10]
          exact ih (i + 1) _ _ (by omega) (Gd_8 h hs hO h10 h9)
theorem Gd_0 {S : Ss} {d : Nat → Nat} (h : Pr S) (hd0 : d 0 = 0) : Gd S d 0 S [] := ⟨h, rfl, rfl, rfl, rfl, hd0.symm, fun v hv => absurd hv List.not_mem_nil⟩
theorem rgr_n {S : Ss} {r n : Nat} {d : Nat → Nat} (hR : okRg S 10 r n d) : rgr S r = rgo r n 0 S [] := by
  unfold rgr
  have e : S 12 r = nI n := hR.2.1
  have h := hR.1
  rw [e, nI_clamp (by omega)]
theorem rgr_ok {S : Ss} {r : Nat} (h : Pr S) (hr : r < 12) : Aft S (rgr S r).2 ∧ ((rgr S r).1 = -2 ∨ ∃ q, q ≤ 12 ∧ (rgr S r).1 = nI q) := by
  obtain ⟨n, d, hR⟩ := h.2.2.2.2.2 r hr
  rw [rgr_n hR]
  exact rgo_ok hr hR n 0 S [] (by omega) (Gd_0 h hR.2.2.1)
theorem wi_831 {a : Int32} (h : wi a 8 31) : ∃ k, k < 32 ∧ a = nI k := by
  obtain ⟨k, hk, e⟩ := wi_ex (a := a) (M := 31) (n := 31) ⟨Int32.le_trans (by decide) h.1, h.2⟩ rfl (by decide)
  exact ⟨k, by omega, e⟩
end
section
set_option maxHeartbeats 4000000 in
set_option maxRecDepth 100000 in
theorem cX_runRung (l : Launch) (dC : Nat → ClassId) (dI : Nat → Nat → Nat) (ad : Nat → Nat) (ca : Nat → ClassId) (sz : Nat) (S : Ss) (r n : Nat) (d : Nat → Nat) (hr9 : r < 12) (hPr : Pr S) (hR : okRg S 10 r n d) : Met l yX_runRung (kX_runRung :: CW) ({ frames := 3, cells := 0, slots := 0, locals := 69 }) (va_Pc [.ref (ad 0), .int (nI r)] (gPre (dC, dI) (xT ca) (XW ad ca S) sz)) (va_Qi (fun (r9 : Int32) (u : Ss) => r9 = (rgr S r).1 ∧ u = (rgr S r).2) (fun u => gAt (dC, dI) (xT ca) (va_A (XW ad ca S) sz) (XW ad ca u)) (va_A (XW ad ca S) sz)) 0 0 (va_A (XW ad ca S) sz) := by
  refine Met.ofW (cc := bX_runRung) (maxL := 8) (ret := (some .int)) (by decide +kernel) rfl ?_
  intro p e s m args below meth c s₁ B hml hv
  obtain ⟨rfl, hsz, hP, hK, hD0⟩ := hv
  have hx := B.exec
  have hb := B.bytes
  have hr := B.returns
  have hts := atoms_spec (ws := kX_runRung :: CW) B.pre
  have hc : ∀ w ∈ CW, w.before _ s = true := fun w h => hts w (List.mem_cons_of_mem _ h)
  have hown : s.vm.findClass RX = some m.cls := findClass_of_methodNamed B.named
  have hlocks := B.notSynchronized
  subst hsz
  have hD := hD0.self (sz := s.heap.size)
  generalize hAe : va_A (XW ad ca S) s.heap.size = A at hD ⊢
  have hA : ∀ q : Nat, s.heap.size ≤ q → A q := fun q h => by rw [← hAe]; exact Or.inr h
  have hS : va_S A s.heap s.heap [] := va_S.rf
  have hl := lv_entry ([.ref (ad 0), .int (nI r)]) (n := 8) (Nat.le_of_ble_eq_true rfl)
  rw [lg_entry_eq]
  generalize (lg_sl ([.ref (ad 0), .int (nI r)]) ++ List.replicate (8 - (lg_sl ([.ref (ad 0), .int (nI r)])).length) Slot.unset).toArray = ls at hl ⊢
  have hl : lv_has ls 8 [(0, .ref (ad 0)), (1, .int (nI r))] := hl
  have hRn : S 12 r = nI n := hR.2.1
  have hn10 := hR.1
  refine lv_iconst (v := 0) hx hb dX_runRung_0 (by decide +kernel) ?_
  refine lv_istore_n (lv' := [(2, .int 0), (0, .ref (ad 0)), (1, .int (nI r))]) hx hb dX_runRung_1 rfl hl (by decide) rfl (fun ls hl => ?_)
  refine lv_aload_n hx hb dX_runRung_2 rfl (lv_at hl 1 rfl) ?_
  refine va_get (D := (dC, dI)) (ci := 0) (v := .ref (ad 13)) (C := RX) (T := TX) (N := 8) hx hb hc inX hown hK hP 0 rfl rfl 3 (by decide) (hc _ w114) (fun _ h9 => h9) rfl dX_runRung_3 ?_
  refine va_get (D := (dC, dI)) (ci := 3) (v := .ref (ad 16)) (C := RLa) (T := TLa) (N := 4) hx hb hc inLa hown hK hP 13 rfl rfl 2 (by decide) (hc _ w65) (fun _ h9 => h9) rfl dX_runRung_6 ?_
  refine lv_iload_n hx hb dX_runRung_9 rfl (lv_at hl 2 rfl) ?_
  refine va_iald hx hb hK hP 16 12 rfl rfl (vp_in_nI (by omega) (by decide)) dX_runRung_10 ?_
  refine lv_topi (fun v_1 ev_1 => ?_)
  rw [nI_clamp (by omega)] at ev_1
  subst v_1
  refine W.eq (g2 := F0 m 11 ls [.int (nI n)]) (by rw [hRn]) ?_
  refine lv_istore_n (lv' := [(3, .int (nI n)), (2, .int 0), (0, .ref (ad 0)), (1, .int (nI r))]) hx hb dX_runRung_11 rfl hl (by decide) rfl (fun ls hl => ?_)
  refine lv_iconst (v := 0) hx hb dX_runRung_12 (by decide +kernel) ?_
  refine lv_istore (lv' := [(4, .int 0), (3, .int (nI n)), (2, .int 0), (0, .ref (ad 0)), (1, .int (nI r))]) hx hb dX_runRung_13 hl (by decide) rfl (fun ls hl => ?_)
  refine g_loop (fun mu9 H locs ls => ∃ (i : Nat), ∃ (S1 : Ss), ∃ (L : List Int32), mu9 = n - i ∧ i ≤ n ∧ Gd S d i S1 L ∧ rgo r (n - i) i S1 L = rgr S r ∧ va_P (dC, dI) vwCl (XW ad ca S1) H ∧ va_D A (XW ad ca S1) ∧ va_S A s.heap H locs ∧ lv_has ls 8 [(0, .ref (ad 0)), (1, .int (nI r)), (2, .int (pk L)), (3, .int (nI n)), (4, .int (nI i))]) ?_ _ _ _ _ ⟨0, S, [], rfl, Nat.zero_le _, (Gd_0 hPr hR.2.2.1), (rgr_n hR).symm, hP, hD, hS, lv_sub hl [3, 4, 2, 1, 0] rfl⟩
  clear hP hD hS
  rintro mu9 H locs ls ⟨i, S1, L, en_15, hi, hG, hE, hP, hD, hS, hl⟩ ih_15
  obtain ⟨gP, g10, g11, g12, g0, gL, g01⟩ := id hG
  have gd4 : i < n → d i ≤ 4 := fun h => stp_4 (hR.2.2.2 i h).2
  refine lv_iload hx hb dX_runRung_15 (lv_at hl 4 rfl) ?_
  refine lv_iload_n hx hb dX_runRung_17 rfl (lv_at hl 3 rfl) ?_
  refine lv_icmp_ge (tgt := 164) hx hb dX_runRung_18 (by decide) (fun c_1 => ?_) (fun c_1 => ?_)
  · have p_18 : n ≤ i := (nI_leI (a := n) (b := i) (by omega) (by omega)).mp c_1
    refine lv_iload_n hx hb dX_runRung_164 rfl (lv_at hl 1 rfl) ?_
    refine lv_iconst (v := 1) hx hb dX_runRung_165 (by decide +kernel) ?_
    refine lv_iadd hx hb dX_runRung_166 ?_
    exact W.iret (v := ((nI r) + 1)) hx hb hr (fun t ht hW => ⟨⟨_, S1, rfl, (by (try dsimp only); exact (by rw [show n - i = 0 by omega] at hE; rw [← hE]; exact ⟨nI_1 r, rfl⟩)), by rw [ht]; exact hP, va_K.moved hW.alike hK, hD⟩, hS.F ht⟩) hS.2.2 dX_runRung_167
  · have p_18 : i < n := by have := mt (nI_leI (a := n) (b := i) (by omega) (by omega)).mpr c_1; omega
    refine lv_aload_n hx hb dX_runRung_21 rfl (lv_at hl 0 rfl) ?_
    refine va_get (D := (dC, dI)) (ci := 0) (v := .ref (ad 13)) (C := RX) (T := TX) (N := 8) hx hb hc inX hown hK hP 0 rfl rfl 3 (by decide) (hc _ w114) (fun _ h9 => h9) rfl dX_runRung_22 ?_
    refine va_get (D := (dC, dI)) (ci := 3) (v := .ref (ad 14)) (C := RLa) (T := TLa) (N := 4) hx hb hc inLa hown hK hP 13 rfl rfl 0 (by decide) (hc _ w61) (fun _ h9 => h9) rfl dX_runRung_25 ?_
    refine lv_iload_n hx hb dX_runRung_28 rfl (lv_at hl 1 rfl) ?_
    refine lv_bipush (v := 10) hx hb dX_runRung_29 (by decide +kernel) ?_
    refine lv_imul hx hb dX_runRung_31 ?_
    refine lv_iload hx hb dX_runRung_32 (lv_at hl 4 rfl) ?_
    refine lv_iadd hx hb dX_runRung_34 ?_
    refine lv_topi (fun v_3 ev_3 => ?_)
    rw [ix10] at ev_3
    subst v_3
    refine va_iald hx hb hK hP 14 10 rfl rfl (vp_in_nI (by omega) (by decide)) dX_runRung_35 ?_
    refine lv_topi (fun v_4 ev_4 => ?_)
    rw [nI_clamp (by omega)] at ev_4
    subst v_4
    refine lv_topi (fun v_5 ev_5 => ?_)
    refine lv_istore (lv' := [(5, .int v_5), (0, .ref (ad 0)), (1, .int (nI r)), (2, .int (pk L)), (3, .int (nI n)), (4, .int (nI i))]) hx hb dX_runRung_36 hl (by decide) rfl (fun ls hl => ?_)
    refine lv_aload_n hx hb dX_runRung_38 rfl (lv_at hl 1 rfl) ?_
    refine va_get (D := (dC, dI)) (ci := 0) (v := .ref (ad 13)) (C := RX) (T := TX) (N := 8) hx hb hc inX hown hK hP 0 rfl rfl 3 (by decide) (hc _ w114) (fun _ h9 => h9) rfl dX_runRung_39 ?_
    refine va_get (D := (dC, dI)) (ci := 3) (v := .ref (ad 15)) (C := RLa) (T := TLa) (N := 4) hx hb hc inLa hown hK hP 13 rfl rfl 1 (by decide) (hc _ w63) (fun _ h9 => h9) rfl dX_runRung_42 ?_
    refine lv_iload_n hx hb dX_runRung_45 rfl (lv_at hl 2 rfl) ?_
    refine lv_bipush (v := 10) hx hb dX_runRung_46 (by decide +kernel) ?_
    refine lv_imul hx hb dX_runRung_48 ?_
    refine lv_iload hx hb dX_runRung_49 (lv_at hl 5 rfl) ?_
    refine lv_iadd hx hb dX_runRung_51 ?_
    refine lv_topi (fun v_6 ev_6 => ?_)
    rw [ix10] at ev_6
    subst v_6
    refine va_iald hx hb hK hP 15 11 rfl rfl (vp_in_nI (by omega) (by decide)) dX_runRung_52 ?_
    refine lv_topi (fun v_7 ev_7 => ?_)
    rw [nI_clamp (by omega)] at ev_7
    subst v_7
    refine lv_topi (fun v_8 ev_8 => ?_)
    refine lv_istore (lv' := [(6, .int v_8), (5, .int v_5), (0, .ref (ad 0)), (1, .int (nI r)), (2, .int (pk L)), (3, .int (nI n)), (4, .int (nI i))]) hx hb dX_runRung_53 hl (by decide) rfl (fun ls hl => ?_)
    refine lv_iload_n hx hb dX_runRung_55 rfl (lv_at hl 4 rfl) ?_
    refine lv_iconst (v := 1) hx hb dX_runRung_56 (by decide +kernel) ?_
    refine lv_iand hx hb dX_runRung_57 ?_
    refine lv_topi (fun v_9 ev_9 => ?_)
    rw [pk_top g01 (by omega)] at ev_9
    subst v_9
    refine lv_istore (lv' := [(7, .int (hd L)), (6, .int v_8), (5, .int v_5), (0, .ref (ad 0)), (1, .int (nI r)), (2, .int (pk L)), (3, .int (nI n)), (4, .int (nI i))]) hx hb dX_runRung_58 hl (by decide) rfl (fun ls hl => ?_)
    obtain ⟨hO, hs⟩ := hR.2.2.2 i (by omega)
    have hO : okO (S 0 0) v_5 v_8 := by rw [ev_5, ev_8, g10, g11]; exact hO
    have hs : stp v_5 (d i) (d (i + 1)) := by rw [ev_5, g10]; exact hs
    have hE : rgo r (n - (i + 1) + 1) i S1 L = rgr S r := by rw [show n - (i + 1) + 1 = n - i by omega]; exact hE
    rw [rgo, ← ev_5, ← ev_8] at hE
    refine lv_iload hx hb dX_runRung_60 (lv_at hl 2 rfl) ?_
    refine lv_bipush (v := 13) hx hb dX_runRung_62 (by decide +kernel) ?_
    refine lv_icmp_ne (tgt := 76) hx hb dX_runRung_64 (by decide) (fun c_9 => ?_) (fun c_9 => ?_)
    · rw [if_neg c_9] at hE
      refine lv_iload hx hb dX_runRung_76 (lv_at hl 2 rfl) ?_
      refine lv_bipush (v := 9) hx hb dX_runRung_78 (by decide +kernel) ?_
      refine lv_icmp_ne (tgt := 125) hx hb dX_runRung_80 (by decide) (fun c_10 => ?_) (fun c_10 => ?_)
      · rw [if_neg c_10] at hE
        refine lv_iload hx hb dX_runRung_125 (lv_at hl 2 rfl) ?_
        refine lv_bipush (v := 10) hx hb dX_runRung_127 (by decide +kernel) ?_
        refine lv_icmp_lt (tgt := 148) hx hb dX_runRung_129 (by decide) (fun c_11 => ?_) (fun c_11 => ?_)
        · rw [if_neg (Int32.not_le.mpr c_11)] at hE
          refine lv_aload_n hx hb dX_runRung_148 rfl (lv_at hl 3 rfl) ?_
          refine lv_iload_n hx hb dX_runRung_149 rfl (lv_at hl 5 rfl) ?_
          refine lv_iload hx hb dX_runRung_150 (lv_at hl 2 rfl) ?_
          refine lv_iload hx hb dX_runRung_152 (lv_at hl 1 rfl) ?_
          refine vp_callSi (va_Run.run (va_runV (As := [.int (pk L), .int v_5, .int v_8]) (rest := []) ⟨hx, hb, hml, hown, hc⟩ (cX_stackAfter l dC dI ad ca H.size S1 L v_5 v_8 v_8.toNatClampNeg g01 (by omega) gP.2.1 gP.2.2.1 (okO_8 hO (Int32.not_le.mpr c_11) c_10).1 (okO_8q hO (Int32.not_le.mpr c_11) c_10)) (cwV 3 hc (gV w483 w485 s8 w1 qX_stackAfter) rfl rfl rfl (by decide +kernel) ⟨Nat.le_of_ble_eq_true rfl, Nat.le_of_ble_eq_true rfl⟩) ⟨gPre_blind, va_recv hK hP (ci := 0) (q0 := 0) rfl rfl, (gPre_in hP hK hD)⟩ rfl rfl hl.1 rfl (lv_room (Nat.le_of_ble_eq_true rfl)) dX_runRung_154 ⟨Nat.zero_le _, Nat.zero_le _⟩)) (fun r_13 hr_13 => ?_)
          refine lv_istore_n (lv' := [(2, .int r_13), (7, .int (hd L)), (6, .int v_8), (5, .int v_5), (0, .ref (ad 0)), (1, .int (nI r)), (3, .int (nI n)), (4, .int (nI i))]) hx hb dX_runRung_157 rfl hl (by decide) rfl (fun ls hl => ?_)
          obtain ⟨v_14, ev_14⟩ : ∃ y : Int32, y = (nI i) + 1 := ⟨_, rfl⟩
          refine lv_iinc (v := v_14) (lv' := [(4, .int v_14), (2, .int r_13), (7, .int (hd L)), (6, .int v_8), (5, .int v_5), (0, .ref (ad 0)), (1, .int (nI r)), (3, .int (nI n))]) hx hb dX_runRung_158 hl (k := 7) rfl (by rw [ev_14]; rfl) (by decide) rfl (fun ls hl => ?_)
          refine lv_goto (tgt := 15) hx hb dX_runRung_161 (by decide) ?_
          have gr_13 : r_13 = pk (stA S1 L v_5 v_8.toNatClampNeg) := hr_13
          clear hr_13
          subst r_13
          have gv_14 : v_14 = nI (i + 1) := (by rw [ev_14]; exact nI_1 i)
          clear ev_14
          subst v_14
          exact ih_15 _ _ _ _ (by omega) ⟨(i + 1), S1, (stA S1 L v_5 v_8.toNatClampNeg), rfl, (by omega), (Gd_8 hG hs hO (Int32.not_le.mpr c_11) c_10), hE, hP, hD, hS, lv_sub hl [5, 6, 1, 7, 0] rfl⟩
        · rw [if_pos (Int32.not_lt.mp c_11)] at hE
          obtain ⟨k, hk32, ek⟩ := wi_831 (okO_10 hO (Int32.not_lt.mp c_11) c_9).2
          clear ev_8
          subst v_8
          rw [nI_clamp (by omega)] at hE
          refine lv_aload_n hx hb dX_runRung_132 rfl (lv_at hl 3 rfl) ?_
          refine va_get (D := (dC, dI)) (ci := 0) (v := .ref (ad 1)) (C := RX) (T := TX) (N := 8) hx hb hc inX hown hK hP 0 rfl rfl 0 (by decide) (hc _ w111) (fun _ h9 => h9) rfl dX_runRung_133 ?_
          refine lv_iload hx hb dX_runRung_136 (lv_at hl 2 rfl) ?_
          refine lv_iload hx hb dX_runRung_138 (lv_at hl 1 rfl) ?_
          refine lv_iload hx hb dX_runRung_140 (lv_at hl 0 rfl) ?_
          refine g_callv (va_runV (As := [.int v_5, .int (nI k), .int (hd L)]) (rest := []) ⟨hx, hb, hml, hown, hc⟩ (cMe_assign l dC dI ad ca H.size S1 v_5 (hd L) k (by omega)) (cwV 3 hc (gV w479 w480 w481 w2 qMe_assign) rfl rfl rfl (by decide +kernel) ⟨Nat.le_of_ble_eq_true rfl, Nat.le_of_ble_eq_true rfl⟩) ⟨gPre_blind, va_recv hK hP (ci := 1) (q0 := 1) rfl rfl, (gPre_in hP hK hD)⟩ rfl rfl hl.1 rfl (lv_room (Nat.le_of_ble_eq_true rfl)) dX_runRung_142 ⟨Nat.zero_le _, Nat.zero_le _⟩) hD hS hA (fun u_15 H locs hu_15 hP hD hS => ?_)
          subst u_15
          refine lv_goto (tgt := 158) hx hb dX_runRung_145 (by decide) ?_
          obtain ⟨v_16, ev_16⟩ : ∃ y : Int32, y = (nI i) + 1 := ⟨_, rfl⟩
          refine lv_iinc (v := v_16) (lv' := [(4, .int v_16), (7, .int (hd L)), (6, .int (nI k)), (5, .int v_5), (0, .ref (ad 0)), (1, .int (nI r)), (2, .int (pk L)), (3, .int (nI n))]) hx hb dX_runRung_158 hl (k := 7) rfl (by rw [ev_16]; rfl) (by decide) rfl (fun ls hl => ?_)
          refine lv_goto (tgt := 15) hx hb dX_runRung_161 (by decide) ?_
          have gv_16 : v_16 = nI (i + 1) := (by rw [ev_16]; exact nI_1 i)
          clear ev_16
          subst v_16
          exact ih_15 _ _ _ _ (by omega) ⟨(i + 1), (asg S1 v_5 k (hd L)), L, rfl, (by omega), (Gd_10 hG hs (Int32.not_lt.mp c_11)), hE, hP, hD, hS, lv_sub hl [4, 5, 6, 7, 0] rfl⟩
      · rw [if_pos c_10] at hE
        obtain ⟨m0, hm10, em, hB⟩ := gP.1
        obtain ⟨j, hj, ej⟩ := wi_made hm10 (by rw [← em, g0]; exact okO_9 hO c_10)
        clear ev_8
        subst v_8
        rw [nI_clamp (by omega)] at hE
        refine lv_aload_n hx hb dX_runRung_83 rfl (lv_at hl 3 rfl) ?_
        refine va_get (D := (dC, dI)) (ci := 0) (v := .ref (ad 7)) (C := RX) (T := TX) (N := 8) hx hb hc inX hown hK hP 0 rfl rfl 1 (by decide) (hc _ w112) (fun _ h9 => h9) rfl dX_runRung_84 ?_
        refine lv_iload hx hb dX_runRung_87 (lv_at hl 1 rfl) ?_
        refine va_aldq hx hb hK hP 7 5 rfl rfl (vp_in_nI (by omega) (by decide)) dX_runRung_89 ?_
        refine W.eq (g2 := F0 m 90 ls [.ref (ad (18 + j))]) (by rw [xb_at (by omega)]) ?_
        refine lv_iload hx hb dX_runRung_90 (lv_at hl 0 rfl) ?_
        refine vp_callSi (va_Run.run (va_runV (As := [.int (hd L)]) (rest := []) ⟨hx, hb, hml, hown, hc⟩ (cBl_failsWith l dC dI ad ca H.size S1 j (by omega) (hd L)) (cwV 1 hc (gV w432 w433 w434 w4 qBl_failsWith) rfl rfl rfl (by decide +kernel) ⟨Nat.le_of_ble_eq_true rfl, Nat.le_of_ble_eq_true rfl⟩) ⟨gPre_blind, va_recv hK hP (ci := 2) (q0 := (18 + j)) rfl (xb_cell (by omega)), (gPre_in hP hK hD)⟩ rfl rfl hl.1 rfl (lv_room (Nat.le_of_ble_eq_true rfl)) dX_runRung_92 ⟨Nat.zero_le _, Nat.zero_le _⟩)) (fun r_17 hr_17 => ?_)
        refine lv_if_eq (tgt := 101) hx hb dX_runRung_95 (by decide) (fun c_17 => ?_) (fun c_17 => ?_)
        · rw [hr_17] at c_17
          rw [if_neg (b2_0.mp c_17)] at hE
          refine lv_iload_n hx hb dX_runRung_101 rfl (lv_at hl 5 rfl) ?_
          refine lv_aload_n hx hb dX_runRung_102 rfl (lv_at hl 3 rfl) ?_
          refine va_get (D := (dC, dI)) (ci := 0) (v := .ref (ad 7)) (C := RX) (T := TX) (N := 8) hx hb hc inX hown hK hP 0 rfl rfl 1 (by decide) (hc _ w112) (fun _ h9 => h9) rfl dX_runRung_103 ?_
          refine lv_iload hx hb dX_runRung_106 (lv_at hl 1 rfl) ?_
          refine va_aldq hx hb hK hP 7 5 rfl rfl (vp_in_nI (by omega) (by decide)) dX_runRung_108 ?_
          refine W.eq (g2 := F0 m 109 ls [.ref (ad (18 + j)), .int (pk L)]) (by rw [xb_at (by omega)]) ?_
          refine lv_iload hx hb dX_runRung_109 (lv_at hl 0 rfl) ?_
          refine lv_aload_n hx hb dX_runRung_111 rfl (lv_at hl 3 rfl) ?_
          refine va_get (D := (dC, dI)) (ci := 0) (v := .ref (ad 1)) (C := RX) (T := TX) (N := 8) hx hb hc inX hown hK hP 0 rfl rfl 0 (by decide) (hc _ w111) (fun _ h9 => h9) rfl dX_runRung_112 ?_
          refine g_calli (va_runV (As := [.int (hd L), .ref (ad 1)]) (rest := [.int (pk L)]) ⟨hx, hb, hml, hown, hc⟩ (cBl_work l dC dI ad ca H.size S1 j (by omega) (hd L) (S1 16 j).toNatClampNeg (S1 15 j).toNatClampNeg (okW_of (hB j hj) gP.2.2.2.2.1 (hd01 g01) (b2_0.mp c_17))) (cwV 2 hc (gV w436 w437 w438 w4 qBl_work) rfl rfl rfl (by decide +kernel) ⟨Nat.le_of_ble_eq_true rfl, Nat.le_of_ble_eq_true rfl⟩) ⟨gPre_blind, va_recv hK hP (ci := 2) (q0 := (18 + j)) rfl (xb_cell (by omega)), (gPre_in hP hK hD)⟩ rfl rfl hl.1 rfl (lv_room (Nat.le_of_ble_eq_true rfl)) dX_runRung_115 ⟨Nat.zero_le _, Nat.zero_le _⟩) hD hS hA (fun r_20 u_19 H locs hu_19 hP hD hS => ?_)
          obtain ⟨ho9, hu9⟩ := hu_19
          subst u_19
          subst r_20
          refine vp_callSi (va_Run.run (va_runS (As := [.int (pk L), .int (outB S1 j (hd L))]) (rest := []) ⟨hx, hb, hml, hown, hc⟩ (cX_withTop l (pk L) (outB S1 j (hd L))) (va_cwS 2 hc (g_S w476 w477 w1 qX_withTop) rfl rfl rfl (by decide +kernel) ⟨Nat.le_of_ble_eq_true rfl, Nat.le_of_ble_eq_true rfl⟩) ⟨tPre_blind, tPre_in⟩ rfl rfl hl.1 rfl (lv_room (Nat.le_of_ble_eq_true rfl)) dX_runRung_118 ⟨Nat.zero_le _, Nat.zero_le _⟩)) (fun r_21 hr_21 => ?_)
          refine lv_istore_n (lv' := [(2, .int r_21), (7, .int (hd L)), (6, .int (nI j)), (5, .int v_5), (0, .ref (ad 0)), (1, .int (nI r)), (3, .int (nI n)), (4, .int (nI i))]) hx hb dX_runRung_121 rfl hl (by decide) rfl (fun ls hl => ?_)
          refine lv_goto (tgt := 158) hx hb dX_runRung_122 (by decide) ?_
          obtain ⟨v_22, ev_22⟩ : ∃ y : Int32, y = (nI i) + 1 := ⟨_, rfl⟩
          refine lv_iinc (v := v_22) (lv' := [(4, .int v_22), (2, .int r_21), (7, .int (hd L)), (6, .int (nI j)), (5, .int v_5), (0, .ref (ad 0)), (1, .int (nI r)), (3, .int (nI n))]) hx hb dX_runRung_158 hl (k := 7) rfl (by rw [ev_22]; rfl) (by decide) rfl (fun ls hl => ?_)
          refine lv_goto (tgt := 15) hx hb dX_runRung_161 (by decide) ?_
          have gr_21 : r_21 = pk (outB S1 j (hd L) :: L.tail) := (by rw [hr_21]; exact pk_with g01 (by omega) (out_01 (hd01 g01)))
          clear hr_21
          subst r_21
          have gv_22 : v_22 = nI (i + 1) := (by rw [ev_22]; exact nI_1 i)
          clear ev_22
          subst v_22
          exact ih_15 _ _ _ _ (by omega) ⟨(i + 1), (bw S1 j (hd L)), (outB S1 j (hd L) :: L.tail), rfl, (by omega), (Gd_9 hG hs c_10 hm10 em hj), hE, hP, hD, hS, lv_sub hl [5, 6, 1, 7, 0] rfl⟩
        · rw [hr_17] at c_17
          rw [if_pos (b2_n.mp c_17)] at hE
          refine lv_bipush (v := (-2)) hx hb dX_runRung_98 (by decide +kernel) ?_
          exact W.iret (v := (-2)) hx hb hr (fun t ht hW => ⟨⟨_, S1, rfl, (by (try dsimp only); exact (by rw [← hE]; exact ⟨rfl, rfl⟩)), by rw [ht]; exact hP, va_K.moved hW.alike hK, hD⟩, hS.F ht⟩) hS.2.2 dX_runRung_100
    · rw [if_pos c_9] at hE
      refine lv_iload hx hb dX_runRung_67 (lv_at hl 0 rfl) ?_
      refine lv_iconst (v := 1) hx hb dX_runRung_69 (by decide +kernel) ?_
      refine lv_icmp_ne (tgt := 158) hx hb dX_runRung_70 (by decide) (fun c_22 => ?_) (fun c_22 => ?_)
      · rw [if_neg c_22] at hE
        obtain ⟨v_24, ev_24⟩ : ∃ y : Int32, y = (nI i) + 1 := ⟨_, rfl⟩
        refine lv_iinc (v := v_24) (lv' := [(4, .int v_24), (7, .int (hd L)), (6, .int v_8), (5, .int v_5), (0, .ref (ad 0)), (1, .int (nI r)), (2, .int (pk L)), (3, .int (nI n))]) hx hb dX_runRung_158 hl (k := 7) rfl (by rw [ev_24]; rfl) (by decide) rfl (fun ls hl => ?_)
        refine lv_goto (tgt := 15) hx hb dX_runRung_161 (by decide) ?_
        have gv_24 : v_24 = nI (i + 1) := (by rw [ev_24]; exact nI_1 i)
        clear ev_24
        subst v_24
        exact ih_15 _ _ _ _ (by omega) ⟨(i + 1), S1, L, rfl, (by omega), (Gd_13 hG hs c_9), hE, hP, hD, hS, lv_sub hl [4, 5, 6, 7, 0] rfl⟩
      · rw [if_pos c_22] at hE
        refine lv_iload hx hb dX_runRung_73 (lv_at hl 1 rfl) ?_
        exact W.iret (v := v_8) hx hb hr (fun t ht hW => ⟨⟨_, S1, rfl, (by (try dsimp only); exact (by rw [← hE]; exact ⟨rfl, rfl⟩)), by rw [ht]; exact hP, va_K.moved hW.alike hK, hD⟩, hS.F ht⟩) hS.2.2 dX_runRung_75
end
section
/-! the program, purely -/
theorem pgo_12 {n b r : Nat} {S : Ss} (h : ¬ r < 12) : pgo n b r S = (nI b, S) := by
  cases n with
  | zero => rw [pgo, if_neg h]
  | succ n => rw [pgo, if_neg h]
theorem Aft_trans {S S1 S2 : Ss} (h1 : Aft S S1) (h2 : Aft S1 S2) : Aft S S2 := by
  obtain ⟨a1, a2, a3, a4, a5⟩ := h1
  obtain ⟨b1, b2, b3, b4, b5⟩ := h2
  exact ⟨b1, b2.trans a2, b3.trans a3, b4.trans a4, b5.trans a5⟩
theorem Aft_rf {S : Ss} (h : Pr S) : Aft S S := ⟨h, rfl, rfl, rfl, rfl⟩
theorem pgo_ok : ∀ (n b r : Nat) (S : Ss), Pr S → r ≤ 12 → Aft S (pgo n b r S).2 := by
  intro n
  induction n with
  | zero => intro b r S h _; exact Aft_rf h
  | succ n ih =>
    intro b r S h hr
    by_cases h12 : r < 12
    · rw [pgo, if_pos h12]
      obtain ⟨a1, a2⟩ := rgr_ok h h12
      by_cases hn : (rgr S r).1 < 0
      · rw [if_pos hn]; exact a1
      · rw [if_neg hn]
        obtain ⟨q, hq, e⟩ := a2.resolve_left (fun h => hn (by rw [h]; decide))
        rw [e, nI_clamp (by omega)]
        exact Aft_trans a1 (ih (b + 1) q _ a1.1 hq)
    · rw [pgo_12 h12]; exact Aft_rf h
end
section
set_option maxHeartbeats 4000000 in
set_option maxRecDepth 100000 in
theorem cX_runProgram (l : Launch) (dC : Nat → ClassId) (dI : Nat → Nat → Nat) (ad : Nat → Nat) (ca : Nat → ClassId) (sz : Nat) (S : Ss) (hPr : Pr S) : Met l yX_runProgram (kX_runProgram :: CW) ({ frames := 4, cells := 0, slots := 0, locals := 96 }) (va_Pc [.ref (ad 0)] (gPre (dC, dI) (xT ca) (XW ad ca S) sz)) (va_Qi (fun (r : Int32) (u : Ss) => r = (pgo 30 0 0 S).1 ∧ u = (pgo 30 0 0 S).2) (fun u => gAt (dC, dI) (xT ca) (va_A (XW ad ca S) sz) (XW ad ca u)) (va_A (XW ad ca S) sz)) 0 0 (va_A (XW ad ca S) sz) := by
  refine Met.ofW (cc := bX_runProgram) (maxL := 3) (ret := (some .int)) (by decide +kernel) rfl ?_
  intro p e s m args below meth c s₁ B hml hv
  obtain ⟨rfl, hsz, hP, hK, hD0⟩ := hv
  have hx := B.exec
  have hb := B.bytes
  have hr := B.returns
  have hts := atoms_spec (ws := kX_runProgram :: CW) B.pre
  have hc : ∀ w ∈ CW, w.before _ s = true := fun w h => hts w (List.mem_cons_of_mem _ h)
  have hown : s.vm.findClass RX = some m.cls := findClass_of_methodNamed B.named
  have hlocks := B.notSynchronized
  subst hsz
  have hD := hD0.self (sz := s.heap.size)
  generalize hAe : va_A (XW ad ca S) s.heap.size = A at hD ⊢
  have hA : ∀ q : Nat, s.heap.size ≤ q → A q := fun q h => by rw [← hAe]; exact Or.inr h
  have hS : va_S A s.heap s.heap [] := va_S.rf
  have hl := lv_entry ([.ref (ad 0)]) (n := 3) (Nat.le_of_ble_eq_true rfl)
  rw [lg_entry_eq]
  generalize (lg_sl ([.ref (ad 0)]) ++ List.replicate (3 - (lg_sl ([.ref (ad 0)])).length) Slot.unset).toArray = ls at hl ⊢
  have hl : lv_has ls 3 [(0, .ref (ad 0))] := hl
  refine lv_iconst (v := 0) hx hb dX_runProgram_0 (by decide +kernel) ?_
  refine lv_istore_n (lv' := [(1, .int 0), (0, .ref (ad 0))]) hx hb dX_runProgram_1 rfl hl (by decide) rfl (fun ls hl => ?_)
  refine lv_iconst (v := 0) hx hb dX_runProgram_2 (by decide +kernel) ?_
  refine lv_istore_n (lv' := [(2, .int 0), (1, .int 0), (0, .ref (ad 0))]) hx hb dX_runProgram_3 rfl hl (by decide) rfl (fun ls hl => ?_)
  refine g_loop (fun mu9 H locs ls => ∃ (b : Nat), ∃ (q : Nat), ∃ (S1 : Ss), mu9 = 30 - b ∧ b ≤ 30 ∧ q ≤ 12 ∧ Pr S1 ∧ pgo (30 - b) b q S1 = pgo 30 0 0 S ∧ va_P (dC, dI) vwCl (XW ad ca S1) H ∧ va_D A (XW ad ca S1) ∧ va_S A s.heap H locs ∧ lv_has ls 3 [(0, .ref (ad 0)), (1, .int (nI q)), (2, .int (nI b))]) ?_ _ _ _ _ ⟨0, 0, S, rfl, (by decide), (by decide), hPr, rfl, hP, hD, hS, lv_sub hl [2, 1, 0] rfl⟩
  clear hP hD hS
  rintro mu9 H locs ls ⟨b, q, S1, en_4, hb30, hq12, hP1, hE, hP, hD, hS, hl⟩ ih_4
  refine lv_iload_n hx hb dX_runProgram_4 rfl (lv_at hl 1 rfl) ?_
  refine lv_bipush (v := 12) hx hb dX_runProgram_5 (by decide +kernel) ?_
  refine lv_icmp_ge (tgt := 31) hx hb dX_runProgram_7 (by decide) (fun c_0 => ?_) (fun c_0 => ?_)
  · have p_7 : 12 ≤ q := (nI_leI (a := 12) (b := q) (by omega) (by omega)).mp c_0
    refine lv_iload_n hx hb dX_runProgram_31 rfl (lv_at hl 1 rfl) ?_
    refine lv_bipush (v := 12) hx hb dX_runProgram_32 (by decide +kernel) ?_
    refine lv_icmp_ge (tgt := 41) hx hb dX_runProgram_34 (by decide) (fun c_1 => ?_) (fun c_1 => ?_)
    · refine lv_iload_n hx hb dX_runProgram_41 rfl (lv_at hl 2 rfl) ?_
      exact W.iret (v := (nI b)) hx hb hr (fun t ht hW => ⟨⟨_, S1, rfl, (by (try dsimp only); exact (by rw [pgo_12 (show ¬ q < 12 by omega)] at hE; rw [← hE]; exact ⟨rfl, rfl⟩)), by rw [ht]; exact hP, va_K.moved hW.alike hK, hD⟩, hS.F ht⟩) hS.2.2 dX_runProgram_42
    · exact absurd (show (12 : Int32) ≤ nI q from (nI_leI (a := 12) (b := q) (by omega) (by omega)).mpr (by omega)) c_1
  · have p_7 : q < 12 := by have := mt (nI_leI (a := 12) (b := q) (by omega) (by omega)).mpr c_0; omega
    refine lv_iload_n hx hb dX_runProgram_10 rfl (lv_at hl 2 rfl) ?_
    refine lv_bipush (v := 30) hx hb dX_runProgram_11 (by decide +kernel) ?_
    refine lv_icmp_ge (tgt := 31) hx hb dX_runProgram_13 (by decide) (fun c_2 => ?_) (fun c_2 => ?_)
    · have p_13 : 30 ≤ b := (nI_leI (a := 30) (b := b) (by omega) (by omega)).mp c_2
      refine lv_iload_n hx hb dX_runProgram_31 rfl (lv_at hl 1 rfl) ?_
      refine lv_bipush (v := 12) hx hb dX_runProgram_32 (by decide +kernel) ?_
      refine lv_icmp_ge (tgt := 41) hx hb dX_runProgram_34 (by decide) (fun c_3 => ?_) (fun c_3 => ?_)
      · exact absurd ((nI_leI (a := 12) (b := q) (by omega) (by omega)).mp c_3) (by omega)
      · refine lv_iconst (v := (-1)) hx hb dX_runProgram_37 (by decide +kernel) ?_
        refine lv_goto (tgt := 42) hx hb dX_runProgram_38 (by decide) ?_
        exact W.iret (v := (-1)) hx hb hr (fun t ht hW => ⟨⟨_, S1, rfl, (by (try dsimp only); exact (by rw [show 30 - b = 0 by omega, pgo, if_pos (show q < 12 by omega)] at hE; rw [← hE]; exact ⟨rfl, rfl⟩)), by rw [ht]; exact hP, va_K.moved hW.alike hK, hD⟩, hS.F ht⟩) hS.2.2 dX_runProgram_42
    · have p_13 : b < 30 := by have := mt (nI_leI (a := 30) (b := b) (by omega) (by omega)).mpr c_2; omega
      obtain ⟨n, d, hR⟩ := hP1.2.2.2.2.2 q (by omega)
      have hE : pgo (30 - (b + 1) + 1) b q S1 = pgo 30 0 0 S := by rw [show 30 - (b + 1) + 1 = 30 - b by omega]; exact hE
      rw [pgo, if_pos (show q < 12 by omega)] at hE
      obtain ⟨v_5, ev_5⟩ : ∃ y : Int32, y = (nI b) + 1 := ⟨_, rfl⟩
      refine lv_iinc (v := v_5) (lv' := [(2, .int v_5), (0, .ref (ad 0)), (1, .int (nI q))]) hx hb dX_runProgram_16 hl (k := 2) rfl (by rw [ev_5]; rfl) (by decide) rfl (fun ls hl => ?_)
      refine lv_aload_n hx hb dX_runProgram_19 rfl (lv_at hl 1 rfl) ?_
      refine lv_iload_n hx hb dX_runProgram_20 rfl (lv_at hl 2 rfl) ?_
      refine g_calli (va_runV (As := [.int (nI q)]) (rest := []) ⟨hx, hb, hml, hown, hc⟩ (cX_runRung l dC dI ad ca H.size S1 q n d (by omega) hP1 hR) (cwV 1 hc (gV w428 w430 s5 w1 qX_runRung) rfl rfl rfl (by decide +kernel) ⟨Nat.le_of_ble_eq_true rfl, Nat.le_of_ble_eq_true rfl⟩) ⟨gPre_blind, va_recv hK hP (ci := 0) (q0 := 0) rfl rfl, (gPre_in hP hK hD)⟩ rfl rfl hl.1 rfl (lv_room (Nat.le_of_ble_eq_true rfl)) dX_runProgram_21 ⟨Nat.zero_le _, Nat.zero_le _⟩) hD hS hA (fun r_7 u_6 H locs hu_6 hP hD hS => ?_)
      obtain ⟨ho9, hu9⟩ := hu_6
      subst u_6
      subst r_7
      refine lv_istore_n (lv' := [(1, .int ((rgr S1 q).1)), (2, .int v_5), (0, .ref (ad 0))]) hx hb dX_runProgram_24 rfl hl (by decide) rfl (fun ls hl => ?_)
      refine lv_iload_n hx hb dX_runProgram_25 rfl (lv_at hl 0 rfl) ?_
      refine lv_if_ge (tgt := 4) hx hb dX_runProgram_26 (by decide) (fun c_7 => ?_) (fun c_7 => ?_)
      · have hk9 := rgr_ok hP1 (show q < 12 by omega)
        obtain ⟨q2, hq2, eq2⟩ : ∃ q2, q2 ≤ 12 ∧ (rgr S1 q).1 = nI q2 := hk9.2.resolve_left (fun h => by rw [h] at c_7; exact absurd c_7 (by decide))
        rw [if_neg (Int32.not_lt.mpr c_7), eq2, nI_clamp (by omega)] at hE
        rw [eq2] at hl
        have gv_5 : v_5 = nI (b + 1) := (by rw [ev_5]; exact nI_1 b)
        clear ev_5
        subst v_5
        exact ih_4 _ _ _ _ (by omega) ⟨(b + 1), q2, (rgr S1 q).2, rfl, (by omega), hq2, hk9.1.1, hE, hP, hD, hS, lv_sub hl [2, 0, 1] rfl⟩
      · rw [if_pos (Int32.not_le.mp c_7)] at hE
        refine lv_iload_n hx hb dX_runProgram_29 rfl (lv_at hl 0 rfl) ?_
        exact W.iret (v := ((rgr S1 q).1)) hx hb hr (fun t ht hW => ⟨⟨_, (rgr S1 q).2, rfl, (by (try dsimp only); exact (by rw [← hE]; exact ⟨rfl, rfl⟩)), by rw [ht]; exact hP, va_K.moved hW.alike hK, hD⟩, hS.F ht⟩) hS.2.2 dX_runProgram_30

set_option maxHeartbeats 4000000 in
set_option maxRecDepth 100000 in
theorem cX_scanOnce (l : Launch) (dC : Nat → ClassId) (dI : Nat → Nat → Nat) (ad : Nat → Nat) (ca : Nat → ClassId) (sz : Nat) (S : Ss) (hPr : Pr S) : Met l yX_scanOnce (kX_scanOnce :: CW) ({ frames := 5, cells := 0, slots := 0, locals := 118 }) (va_Pc [.ref (ad 0)] (gPre (dC, dI) (xT ca) (XW ad ca S) sz)) (va_Qi (fun (r : Int32) (u : Ss) => r = (sc1 S).1 ∧ u = (sc1 S).2) (fun u => gAt (dC, dI) (xT ca) (va_A (XW ad ca S) sz) (XW ad ca u)) (va_A (XW ad ca S) sz)) 0 0 (va_A (XW ad ca S) sz) := by
  refine Met.ofW (cc := bX_scanOnce) (maxL := 2) (ret := (some .int)) (by decide +kernel) rfl ?_
  intro p e s m args below meth c s₁ B hml hv
  obtain ⟨rfl, hsz, hP, hK, hD0⟩ := hv
  have hx := B.exec
  have hb := B.bytes
  have hr := B.returns
  have hts := atoms_spec (ws := kX_scanOnce :: CW) B.pre
  have hc : ∀ w ∈ CW, w.before _ s = true := fun w h => hts w (List.mem_cons_of_mem _ h)
  have hown : s.vm.findClass RX = some m.cls := findClass_of_methodNamed B.named
  have hlocks := B.notSynchronized
  subst hsz
  have hD := hD0.self (sz := s.heap.size)
  generalize hAe : va_A (XW ad ca S) s.heap.size = A at hD ⊢
  have hA : ∀ q : Nat, s.heap.size ≤ q → A q := fun q h => by rw [← hAe]; exact Or.inr h
  have hS : va_S A s.heap s.heap [] := va_S.rf
  have hl := lv_entry ([.ref (ad 0)]) (n := 2) (Nat.le_of_ble_eq_true rfl)
  rw [lg_entry_eq]
  generalize (lg_sl ([.ref (ad 0)]) ++ List.replicate (2 - (lg_sl ([.ref (ad 0)])).length) Slot.unset).toArray = ls at hl ⊢
  have hl : lv_has ls 2 [(0, .ref (ad 0))] := hl
  refine lv_aload_n hx hb dX_scanOnce_0 rfl (lv_at hl 0 rfl) ?_
  refine va_get (D := (dC, dI)) (ci := 0) (v := .ref (ad 1)) (C := RX) (T := TX) (N := 8) hx hb hc inX hown hK hP 0 rfl rfl 0 (by decide) (hc _ w111) (fun _ h9 => h9) rfl dX_scanOnce_1 ?_
  refine g_callv (va_runV (As := []) (rest := []) ⟨hx, hb, hml, hown, hc⟩ (cMe_takeInputs l dC dI ad ca s.heap.size S ) (cwV 0 hc (gV w420 w421 w422 w2 qMe_takeInputs) rfl rfl rfl (by decide +kernel) ⟨Nat.le_of_ble_eq_true rfl, Nat.le_of_ble_eq_true rfl⟩) ⟨gPre_blind, va_recv hK hP (ci := 1) (q0 := 1) rfl rfl, (gPre_in hP hK hD)⟩ rfl rfl hl.1 rfl (lv_room (Nat.le_of_ble_eq_true rfl)) dX_scanOnce_4 ⟨Nat.zero_le _, Nat.zero_le _⟩) hD hS hA (fun u_1 H locs hu_1 hP hD hS => ?_)
  subst u_1
  refine lv_aload_n hx hb dX_scanOnce_7 rfl (lv_at hl 0 rfl) ?_
  refine g_calli (va_runV (As := []) (rest := []) ⟨hx, hb, hml, hown, hc⟩ (cX_runProgram l dC dI ad ca H.size (tin S) (Pr_tin hPr)) (cwV 0 hc (gV w424 w426 s4 w1 qX_runProgram) rfl rfl rfl (by decide +kernel) ⟨Nat.le_of_ble_eq_true rfl, Nat.le_of_ble_eq_true rfl⟩) ⟨gPre_blind, va_recv hK hP (ci := 0) (q0 := 0) rfl rfl, (gPre_in hP hK hD)⟩ rfl rfl hl.1 rfl (lv_room (Nat.le_of_ble_eq_true rfl)) dX_scanOnce_8 ⟨Nat.zero_le _, Nat.zero_le _⟩) hD hS hA (fun r_3 u_2 H locs hu_2 hP hD hS => ?_)
  obtain ⟨ho9, hu9⟩ := hu_2
  subst u_2
  subst r_3
  refine lv_istore_n (lv' := [(1, .int ((pgo 30 0 0 (tin S)).1)), (0, .ref (ad 0))]) hx hb dX_scanOnce_11 rfl hl (by decide) rfl (fun ls hl => ?_)
  refine lv_iload_n hx hb dX_scanOnce_12 rfl (lv_at hl 0 rfl) ?_
  refine lv_if_ge (tgt := 41) hx hb dX_scanOnce_13 (by decide) (fun c_3 => ?_) (fun c_3 => ?_)
  · refine lv_aload_n hx hb dX_scanOnce_41 rfl (lv_at hl 1 rfl) ?_
    refine lv_dup hx hb dX_scanOnce_42 rfl ?_
    refine va_get (D := (dC, dI)) (ci := 0) (v := .int ((pgo 30 0 0 (tin S)).2 0 1)) (C := RX) (T := TX) (N := 8) hx hb hc inX hown hK hP 0 rfl rfl 5 (by decide) (hc _ w116) (fun _ h9 => h9) rfl dX_scanOnce_43 ?_
    refine lv_iconst (v := 1) hx hb dX_scanOnce_46 (by decide +kernel) ?_
    refine lv_iadd hx hb dX_scanOnce_47 ?_
    refine va_put (D := (dC, dI)) (ci := 0) (v := .int (((pgo 30 0 0 (tin S)).2 0 1) + 1)) (ty := .int) (C := RX) (T := TX) (N := 8) hx hb hc inX tyX tyX_ok nmX hown hK hP hD hS 0 rfl rfl 5 (by decide) (hc _ w116) (fun _ h9 => h9) rfl (by decide +kernel) rfl rfl (Nat.le_of_ble_eq_true rfl) dX_scanOnce_48 (fun H locs hP hD hS => ?_)
    obtain ⟨S_5, eS_5⟩ : ∃ z9 : Ss, z9 = row (pgo 30 0 0 (tin S)).2 0 (upd ((pgo 30 0 0 (tin S)).2 0) 1 (((pgo 30 0 0 (tin S)).2 0 1) + 1)) := ⟨_, rfl⟩
    have hP : va_P (dC, dI) vwCl (XW ad ca S_5) H := by rw [eS_5]; exact hP
    have hD : va_D A (XW ad ca S_5) := by rw [eS_5]; exact hD
    refine lv_aload_n hx hb dX_scanOnce_51 rfl (lv_at hl 1 rfl) ?_
    refine va_get (D := (dC, dI)) (ci := 0) (v := .ref (ad 1)) (C := RX) (T := TX) (N := 8) hx hb hc inX hown hK hP 0 rfl rfl 0 (by decide) (hc _ w111) (fun _ h9 => h9) rfl dX_scanOnce_52 ?_
    refine g_callv (va_runV (As := []) (rest := []) ⟨hx, hb, hml, hown, hc⟩ (cMe_sendOutputs l dC dI ad ca H.size S_5 ) (cwV 0 hc (gV w496 w497 w498 w2 qMe_sendOutputs) rfl rfl rfl (by decide +kernel) ⟨Nat.le_of_ble_eq_true rfl, Nat.le_of_ble_eq_true rfl⟩) ⟨gPre_blind, va_recv hK hP (ci := 1) (q0 := 1) rfl rfl, (gPre_in hP hK hD)⟩ rfl rfl hl.1 rfl (lv_room (Nat.le_of_ble_eq_true rfl)) dX_scanOnce_55 ⟨Nat.zero_le _, Nat.zero_le _⟩) hD hS hA (fun u_6 H locs hu_6 hP hD hS => ?_)
    refine lv_iload_n hx hb dX_scanOnce_58 rfl (lv_at hl 0 rfl) ?_
    exact W.iret (v := ((pgo 30 0 0 (tin S)).1)) hx hb hr (fun t ht hW => ⟨⟨_, u_6, rfl, (by (try dsimp only); exact (by subst u_6; subst S_5; unfold sc1; dsimp only; rw [if_neg (Int32.not_lt.mpr c_3)]; exact ⟨rfl, rfl⟩)), by rw [ht]; exact hP, va_K.moved hW.alike hK, hD⟩, hS.F ht⟩) hS.2.2 dX_scanOnce_59
  · refine lv_aload_n hx hb dX_scanOnce_16 rfl (lv_at hl 1 rfl) ?_
    refine lv_iconst (v := 1) hx hb dX_scanOnce_17 (by decide +kernel) ?_
    refine va_put (D := (dC, dI)) (ci := 0) (v := .int 1) (ty := .boolean) (C := RX) (T := TX) (N := 8) hx hb hc inX tyX tyX_ok nmX hown hK hP hD hS 0 rfl rfl 7 (by decide) (hc _ w118) (fun _ h9 => h9) rfl (by decide +kernel) rfl rfl (Nat.le_of_ble_eq_true rfl) dX_scanOnce_18 (fun H locs hP hD hS => ?_)
    obtain ⟨S_7, eS_7⟩ : ∃ z9 : Ss, z9 = row (pgo 30 0 0 (tin S)).2 0 (upd ((pgo 30 0 0 (tin S)).2 0) 3 1) := ⟨_, rfl⟩
    have hP : va_P (dC, dI) vwCl (XW ad ca S_7) H := by rw [eS_7]; exact hP
    have hD : va_D A (XW ad ca S_7) := by rw [eS_7]; exact hD
    refine lv_aload_n hx hb dX_scanOnce_21 rfl (lv_at hl 1 rfl) ?_
    refine lv_dup hx hb dX_scanOnce_22 rfl ?_
    refine va_get (D := (dC, dI)) (ci := 0) (v := .int (S_7 0 2)) (C := RX) (T := TX) (N := 8) hx hb hc inX hown hK hP 0 rfl rfl 6 (by decide) (hc _ w117) (fun _ h9 => h9) rfl dX_scanOnce_23 ?_
    refine lv_iconst (v := 1) hx hb dX_scanOnce_26 (by decide +kernel) ?_
    refine lv_iadd hx hb dX_scanOnce_27 ?_
    refine va_put (D := (dC, dI)) (ci := 0) (v := .int ((S_7 0 2) + 1)) (ty := .int) (C := RX) (T := TX) (N := 8) hx hb hc inX tyX tyX_ok nmX hown hK hP hD hS 0 rfl rfl 6 (by decide) (hc _ w117) (fun _ h9 => h9) rfl (by decide +kernel) rfl rfl (Nat.le_of_ble_eq_true rfl) dX_scanOnce_28 (fun H locs hP hD hS => ?_)
    obtain ⟨S_8, eS_8⟩ : ∃ z9 : Ss, z9 = row S_7 0 (upd (S_7 0) 2 ((S_7 0 2) + 1)) := ⟨_, rfl⟩
    have hP : va_P (dC, dI) vwCl (XW ad ca S_8) H := by rw [eS_8]; exact hP
    have hD : va_D A (XW ad ca S_8) := by rw [eS_8]; exact hD
    refine lv_aload_n hx hb dX_scanOnce_31 rfl (lv_at hl 1 rfl) ?_
    refine va_get (D := (dC, dI)) (ci := 0) (v := .ref (ad 1)) (C := RX) (T := TX) (N := 8) hx hb hc inX hown hK hP 0 rfl rfl 0 (by decide) (hc _ w111) (fun _ h9 => h9) rfl dX_scanOnce_32 ?_
    refine g_callv (va_runV (As := []) (rest := []) ⟨hx, hb, hml, hown, hc⟩ (cMe_clearOutputWires l dC dI ad ca H.size S_8 ) (cwV 0 hc (gV w495 w164 w165 w2 qMe_clearOutputWires) rfl rfl rfl (by decide +kernel) ⟨Nat.le_of_ble_eq_true rfl, Nat.le_of_ble_eq_true rfl⟩) ⟨gPre_blind, va_recv hK hP (ci := 1) (q0 := 1) rfl rfl, (gPre_in hP hK hD)⟩ rfl rfl hl.1 rfl (lv_room (Nat.le_of_ble_eq_true rfl)) dX_scanOnce_35 ⟨Nat.zero_le _, Nat.zero_le _⟩) hD hS hA (fun u_9 H locs hu_9 hP hD hS => ?_)
    refine lv_goto (tgt := 58) hx hb dX_scanOnce_38 (by decide) ?_
    refine lv_iload_n hx hb dX_scanOnce_58 rfl (lv_at hl 0 rfl) ?_
    exact W.iret (v := ((pgo 30 0 0 (tin S)).1)) hx hb hr (fun t ht hW => ⟨⟨_, u_9, rfl, (by (try dsimp only); exact (by subst u_9; subst S_8; subst S_7; unfold sc1; dsimp only; rw [if_pos (Int32.not_le.mp c_3)]; exact ⟨rfl, rfl⟩)), by rw [ht]; exact hP, va_K.moved hW.alike hK, hD⟩, hS.F ht⟩) hS.2.2 dX_scanOnce_59
end
section
/-! throwing: words that no list of good words holds, the two statics of Throwable -/
def nbw : Cond → Bool
  | .declares _ => true
  | .castable _ _ => true
  | .methodLinkNest _ _ _ _ => true
  | _ => false
def NB : List Cond := tables_1.filter nbw
def xN (U : State) : Prop := ∀ w ∈ NB, va_Nw w U
theorem xN.warm {s U : State} (hW : s.WarmedH U.vm) (h : xN s) : xN U := by
  intro w hw
  have h1 := h w hw
  have h2 := (List.mem_filter.mp hw).2
  cases w <;> first | exact va_Nw.warmD hW h1 | exact va_Nw.warmC hW h1 | exact va_Nw.warmM hW h1 | exact absurd h2 (by simp [nbw])
theorem xN.same {s U : State} (hv : s.vm = U.vm) (h : xN s) : xN U := by
  intro w hw
  have h1 := h w hw
  have h2 := (List.mem_filter.mp hw).2
  cases w <;> first | exact va_Nw.same rfl hv h1 | exact absurd h2 (by simp [nbw])
theorem xN.use {s : State} {A : Array Value} {w : Cond} (h : xN s) (hw : w ∈ tables_1) (hb : nbw w = true) : w.before A s = true := by
  have h1 := h w (List.mem_filter.mpr ⟨hw, hb⟩)
  cases w <;> first | exact va_Nw.use rfl h1 | exact absurd hb (by simp [nbw])
theorem xN.of {s : State} {A : Array Value} (h : ∀ w ∈ tables_1, w.before A s = true) : xN s := by
  intro w hw
  have h1 := h w (List.mem_filter.mp hw).1
  have h2 := (List.mem_filter.mp hw).2
  cases w <;> first | exact va_Nw.of rfl h1 | exact absurd h2 (by simp [nbw])
abbrev uS (A : Nat → Prop) (U : State) (H : Heap) : Prop := vx_Zq Bundle.tN "UNASSIGNED_STACK" Bundle.steD A U H ∧ vx_Zq Bundle.tN "SUPPRESSED_SENTINEL" Bundle.listD A U H
/-- what a method that may throw finds -/
def tPre (D : va_G) (tys : List (ClassId × FieldType)) (ws : va_W) (sz : Nat) : State → Prop := fun U => gPre D tys ws sz U ∧ uS (va_A ws sz) U U.heap ∧ xN U
theorem tPre2_blind {D : va_G} {tys : List (ClassId × FieldType)} {ws : va_W} {sz : Nat} {av : List Value} : FrameBlind (va_Pc av (tPre D tys ws sz)) := fun a U g mk q => by
  obtain ⟨q0, ⟨q1, qP, qK, qD⟩, qU, qN⟩ := q
  exact ⟨q0, ⟨q1, qP, va_K.moved (u := U) (U := U.calling g mk a) (Vm.Alike.refl U.vm) qK, qD⟩, ⟨vx_Zq.moved (u := U) (U := U.calling g mk a) (Vm.Alike.refl U.vm) qU.1, vx_Zq.moved (u := U) (U := U.calling g mk a) (Vm.Alike.refl U.vm) qU.2⟩, xN.same (s := U) (U := U.calling g mk a) rfl qN⟩
theorem tPre2_in {D : va_G} {tys : List (ClassId × FieldType)} {ws : va_W} {av : List Value} {H : Heap} {s : State} {A : Nat → Prop} {locs : List Loc} (hP : va_P D vwCl ws H) (hK : va_K D vwCl tys s) (hD : va_D A ws) (hS : va_S A s.heap H locs) (hF : ∀ q, va_A ws H.size q → A q) (hu : uS A s s.heap) (hn : xN s) : ∀ U : State, U.heap = H → s.WarmedH U.vm → va_Pc av (tPre D tys ws H.size) av.toArray U :=
  fun U hU hW => ⟨rfl, ⟨by rw [hU], by rw [hU]; exact hP, va_K.moved hW.alike hK, hD.weaken (fun _ _ _ _ => trivial)⟩, by
    rw [hU]
    exact ⟨((hu.1.kept hS.2.1).moved hW.alike).narrow hF, ((hu.2.kept hS.2.1).moved hW.alike).narrow hF⟩, hn.warm hW⟩
theorem x_thrown {D : va_G} {tys : List (ClassId × FieldType)} {ws : va_W} {H : Heap} {s t : State} {A : Nat → Prop} {locs : List Loc} (hP : va_P D vwCl ws H) (hK : va_K D vwCl tys s) (hD : va_D A ws) (hS : va_S A s.heap H locs) (ha : s.vm.Alike t.vm) (hz : H.size ≤ t.heap.size) (hk : ∀ q : Nat, q < H.size → t.heap[q]? = H[q]?) : gAt D tys A ws t ∧ va_F A s t := by
  refine ⟨⟨fun k q h => ?_, va_K.moved ha hK, hD⟩, Nat.le_trans hS.1 hz, fun q h1 h2 => ?_⟩
  · exact (hP k q h).kept (hk q.1 (hP k q h).lt)
  · rw [hk q (Nat.lt_of_lt_of_le h1 hS.1)]
    exact hS.2.1 q h1 h2
abbrev nms : List String := ["java/lang/RuntimeException", "java/lang/Exception"]
theorem th_hat {args : Array Value} {s : State} {own X : String} {ic : Nat} (h : ∀ w ∈ vx_at0 own ic X nms, w ∈ tables_1 ∧ (goodWord w || nbw w) = true) (hc : ∀ w ∈ CW, w.before args s = true) (hn : xN s) : ∀ w ∈ vx_at0 own ic X nms, w.before args s = true := by
  intro w hw
  obtain ⟨h1, h2⟩ := h w hw
  by_cases hg : goodWord w = true
  · exact hc w (wd_mem h1 hg)
  · rw [Bool.or_eq_true] at h2
    exact hn.use h1 (h2.resolve_left hg)
abbrev eA : String := "java/lang/IllegalArgumentException"
abbrev eS : String := "java/lang/IllegalStateException"
abbrev eU : String := "java/lang/UnsupportedOperationException"
abbrev eN : String := "java/util/NoSuchElementException"
abbrev eR : String := "java/lang/ArithmeticException"
theorem th_eA : ∀ w ∈ vx_at0 "LadderScan" 53 eA nms, w ∈ tables_1 ∧ (goodWord w || nbw w) = true := by decide +kernel
theorem tg_eA : ∀ w ∈ Cond.classLink "LadderScan" 51 eA :: Cond.initialized eA :: vx_at0 "LadderScan" 53 eA nms, vx_ot w = true := by decide +kernel
theorem th_eS : ∀ w ∈ vx_at0 "LadderScan" 56 eS nms, w ∈ tables_1 ∧ (goodWord w || nbw w) = true := by decide +kernel
theorem tg_eS : ∀ w ∈ Cond.classLink "LadderScan" 54 eS :: Cond.initialized eS :: vx_at0 "LadderScan" 56 eS nms, vx_ot w = true := by decide +kernel
theorem th_eU : ∀ w ∈ vx_at0 "LadderScan" 73 eU nms, w ∈ tables_1 ∧ (goodWord w || nbw w) = true := by decide +kernel
theorem tg_eU : ∀ w ∈ Cond.classLink "LadderScan" 71 eU :: Cond.initialized eU :: vx_at0 "LadderScan" 73 eU nms, vx_ot w = true := by decide +kernel
theorem th_eN : ∀ w ∈ vx_at0 "LadderScan" 67 eN nms, w ∈ tables_1 ∧ (goodWord w || nbw w) = true := by decide +kernel
theorem tg_eN : ∀ w ∈ Cond.classLink "LadderScan" 65 eN :: Cond.initialized eN :: vx_at0 "LadderScan" 67 eN nms, vx_ot w = true := by decide +kernel
theorem th_eR : ∀ w ∈ vx_at0 "LadderScan" 148 eR nms, w ∈ tables_1 ∧ (goodWord w || nbw w) = true := by decide +kernel
theorem tg_eR : ∀ w ∈ Cond.classLink "LadderScan" 146 eR :: Cond.initialized eR :: vx_at0 "LadderScan" 148 eR nms, vx_ot w = true := by decide +kernel
end
