def R_law : String := "LadderScanLaw"
def lw_P (b : Addr) (xs : List Int32) (args : Array Value) (s : State) : Prop := args = #[.ref b] ∧ s.IntsAt b xs ∧ xs.length ≤ 2048 ∧ (Jvm.Cond.and given_1 narrow_1).before args s = true
def lw_Q (_ : Array Value) (s : State) (o : Outcome) (t : State) : Prop := o = .returned (some (.int 1)) ∧ Framed s o t [] 601024 7293034
def lw_Z (below : List Frame) (a : Array Value) (s : State) : State → Prop := fun t => ∃ o, t.status = .running ∧ Ended t below o ∧ lw_Q a s o t
/-- the law's own end, with 1 on the stack, nothing written that was there before, its room as the claim has it -/
theorem lw_ret {p : Program} {l : Launch} {e : Env} {s : State} {m : MethodId} {below : List Frame} {meth : Method} {c : Code} {b : Nat} (hx : p.tables.exec = Jvm.exec) (hb : c.code = code) (hr : meth.sig.returnType = ret) (hlocks : meth.locks = false) {pc : Nat} {H : Heap} {ls : Array Slot} (hdg : decode code pc = .ok (.ireturn, 1)) : W p l e room_1 s m #[Value.ref b] below meth c H [] 601024 7293034 (lw_Z below #[Value.ref b] s) (F0 m pc ls [.int 1]) := by
  intro T hT X
  obtain ⟨fs, hret, hrun, hended, hW, hframe⟩ := X.leave (v := some (.int 1)) (hlocks := hlocks) (fun h => by rw [hr] at h; cases h)
  have hmeth' : T.vm.method? m = some meth := X.method'
  refine ⟨T.setFrames fs, ?_, .returned (some (.int 1)), hrun, hended, rfl, ⟨_, rfl⟩, hW, hframe⟩
  jvm_step X.here [X.here.top, hx, hb, hdg, hmeth', hr, ret, narrow_b1]
  (try refine ⟨rfl, ?_⟩); (try refine ⟨rfl, ?_⟩)
  first | (intro acts; rw [hret _ acts rfl rfl rfl]) | rw [hret _ _ rfl rfl rfl]
  exact Steps.refl _
/-- what holds at the law's entry: the machine, the code, the tables' words (any of lw_tbl by 'hts w (by decide +kernel)'), the script of L ints xs at the cell b, what the Statement gives of the start (any of its parts by flat_of_before) -/
def lw_At (p : Program) (s : State) (m : MethodId) (meth : Method) (c : Code) (b L : Nat) (xs : Nat → Int32) : Prop :=
  p.tables.exec = Jvm.exec ∧ c.code = code ∧ meth.sig.returnType = ret ∧ c.maxLocals = 9 ∧ s.vm.findClass R_law = some m.cls ∧ (∀ w ∈ lw_tbl, w.before #[Value.ref b] s = true) ∧ va_X b L xs s s.heap ∧ b < s.heap.size ∧ meth.locks = false ∧ (Jvm.Cond.and given_1 narrow_1).before #[Value.ref b] s = true

/-! the law's walk: what stands all along -/
def LC (p : Program) (s : State) (m : MethodId) (meth : Method) (c : Code) (b L : Nat) (xs : Nat → Int32) (A : Nat → Prop) (dC : Nat → ClassId) (dI : Nat → Nat → Nat) (cx cm : Nat → ClassId) (co cd : ClassId) : Prop :=
  lw_At p s m meth c b L xs ∧ L ≤ 2048 ∧ (∀ q : Nat, s.heap.size ≤ q → A q) ∧ ¬ A b ∧ uS A s s.heap ∧ xN s ∧ ncs s ∧ va_K (dC, dI) vwCl (xT cx ++ oT co cd) s ∧ va_K (dC, dI) vwCl (mT cm) s
abbrev lwW (ax : Nat → Nat) (cx : Nat → ClassId) (am : Nat → Nat) (cm : Nat → ClassId) (qo : Nat) (co : ClassId) (qd : Nat) (cd : ClassId) (S E : Ss) (fo : Nat → Int64) (fd : Nat → UInt64) : va_W := (XW ax cx S ++ oW qo co fo qd cd fd) ++ MW am cm S E
/-- the walk goes on at pc, whatever state of the two sides there is -/
def LK (p : Program) (l : Launch) (e : Env) (s : State) (m : MethodId) (below : List Frame) (meth : Method) (c : Code) (b : Nat) (A : Nat → Prop) (dC : Nat → ClassId) (dI : Nat → Nat → Nat) (ax : Nat → Nat) (cx : Nat → ClassId) (am : Nat → Nat) (cm : Nat → ClassId) (qo : Nat) (co : ClassId) (qd : Nat) (cd : ClassId) (cells slots pc : Nat) (x5 : Int32) : Prop :=
  ∀ (S E : Ss) (fo : Nat → Int64) (fd : Nat → UInt64) (H : Heap) (locs : List Loc) (ls : Array Slot), Inv S → va_P (dC, dI) vwCl (lwW ax cx am cm qo co qd cd S E fo fd) H → va_D A (lwW ax cx am cm qo co qd cd S E fo fd) → va_S A s.heap H locs → lv_has ls 9 [(0, .ref b), (1, .ref (ax 0)), (2, .ref (am 0)), (3, .ref qo), (4, .ref qd), (5, .int x5)] → W p l e room_1 s m #[Value.ref b] below meth c H locs cells slots (lw_Z below #[Value.ref b] s) (F0 m pc ls [])
theorem ad_2 (n : Nat) : nI n + 2 = nI (n + 2) := by rw [show (2 : Int32) = nI 2 from rfl, nI_add]
theorem ad_3 (n : Nat) : nI n + 3 = nI (n + 3) := by rw [show (3 : Int32) = nI 3 from rfl, nI_add]
theorem ad_4 (n : Nat) : nI n + 4 = nI (n + 4) := by rw [show (4 : Int32) = nI 4 from rfl, nI_add]
theorem le_L4 {L k : Nat} (hL : L ≤ 2048) (hk : k ≤ 4096) : nI k ≤ nI L - 4 ↔ k + 4 ≤ L := by
  have e4 : (4 : Int32).toInt = 4 := rfl
  have h1 := nI_toInt (n := L) (by omega)
  have h2 := nI_toInt (n := k) (by omega)
  have e : (nI L - 4).toInt = (L : Int) - 4 := by
    rw [i32_sub, e4, h1] <;> rw [e4, h1] <;> omega
  rw [Int32.le_iff_toInt_le, e, h2]
  omega
