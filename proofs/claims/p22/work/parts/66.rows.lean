abbrev hPc (D : va_G) (cs : Nat → ClassId) (zd : Nat → Nat) (b L : Nat) (xs : Nat → Int32) (sz : Nat) (av : List Value) : Array Value → State → Prop := va_Pc av (fun U => U.heap.size = sz ∧ kG D cs U ∧ gZ zd (fun q => sz ≤ q) U U.heap ∧ gM zd U ∧ va_X b L xs U U.heap ∧ b < sz)
theorem h_blind {D : va_G} {cs : Nat → ClassId} {zd : Nat → Nat} {b L : Nat} {xs : Nat → Int32} {sz : Nat} {av : List Value} : FrameBlind (hPc D cs zd b L xs sz av) := by
  intro a U g mk q
  obtain ⟨q0, q1, q2, q3, q4, q5, q6⟩ := q
  exact ⟨q0, q1, kG.moved (u := U) (U := U.calling g mk a) (Vm.Alike.refl U.vm) q2, gZ.moved (u := U) (U := U.calling g mk a) (Vm.Alike.refl U.vm) q3, gM.same (u := U) (U := U.calling g mk a) rfl q4, va_X.moved (u := U) (U := U.calling g mk a) (Vm.Alike.refl U.vm) q5, q6⟩
