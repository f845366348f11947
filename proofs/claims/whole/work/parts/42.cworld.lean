/-! what the constructors leave -/
def frc : Nat → Int32 := fillN (fun _ => 0) (fun _ => -1) 32
def S0 : Ss := fun r => if r = 2 then frc else fun _ => 0
def E0 : Ss := fun _ _ => 0
def MeW (q : Nat → Nat) (ca : Nat → ClassId) : va_W := [(q 0, .inr (1, [.ref (q 1), .ref (q 2), .ref (q 3), .ref (q 4), .ref (q 5)])), (q 1, .inl (ca 0, 32, .inl (fun _ => 0))), (q 2, .inl (ca 1, 32, .inl frc)), (q 3, .inl (ca 2, 8, .inl (fun _ => 0))), (q 4, .inl (ca 3, 8, .inl (fun _ => 0))), (q 5, .inl (ca 4, 8, .inl (fun _ => 0)))]
def meT (ca : Nat → ClassId) : List (ClassId × FieldType) := [(ca 0, .int), (ca 1, .int), (ca 2, .int), (ca 3, .int), (ca 4, .int)]
def LaW (q : Nat → Nat) (ca : Nat → ClassId) : va_W := [(q 0, .inr (3, [.ref (q 1), .ref (q 2), .ref (q 3), .ref (q 4)])), (q 1, .inl (ca 0, 120, .inl (fun _ => 0))), (q 2, .inl (ca 1, 120, .inl (fun _ => 0))), (q 3, .inl (ca 2, 12, .inl (fun _ => 0))), (q 4, .inl (ca 3, 12, .inl (fun _ => 0)))]
def laT (ca : Nat → ClassId) : List (ClassId × FieldType) := [(ca 0, .int), (ca 1, .int), (ca 2, .int), (ca 3, .int)]
theorem l6_0 : l6 (fun _ => 0) = fun _ => (0 : Int64) := by
  funext k
  show (0 : Int32).toInt64 = 0
  decide
def cPre (D : va_G) (tys : List (ClassId × FieldType)) (ws : va_W) (sz : Nat) : State → Prop := fun U => gPre D tys ws sz U ∧ xN U ∧ va_AO "LadderScan$Block" U
theorem cPre_blind {D : va_G} {tys : List (ClassId × FieldType)} {ws : va_W} {sz : Nat} {av : List Value} : FrameBlind (va_Pc av (cPre D tys ws sz)) := fun a U g mk q => by
  obtain ⟨q0, ⟨q1, qP, qK, qD⟩, qN, qO⟩ := q
  exact ⟨q0, ⟨q1, qP, va_K.moved (u := U) (U := U.calling g mk a) (Vm.Alike.refl U.vm) qK, qD⟩, xN.same (s := U) (U := U.calling g mk a) rfl qN, va_AO.moved (u := U) (U := U.calling g mk a) (Vm.Alike.refl U.vm) qO⟩
theorem cPre_in {D : va_G} {tys : List (ClassId × FieldType)} {ws : va_W} {av : List Value} {H : Heap} {s : State} {A : Nat → Prop} (hP : va_P D vwCl ws H) (hK : va_K D vwCl tys s) (hD : va_D A ws) (hn : xN s) (hO : va_AO "LadderScan$Block" s) : ∀ U : State, U.heap = H → s.WarmedH U.vm → va_Pc av (cPre D tys ws H.size) av.toArray U :=
  fun U hU hW => ⟨rfl, ⟨by rw [hU], by rw [hU]; exact hP, va_K.moved hW.alike hK, hD.weaken (fun _ _ _ _ => trivial)⟩, hn.warm hW, hO.moved hW.alike⟩
