def eW (k : Nat) : Int32 := [0, 1, 2, 3, 7, 8].getD k 0
theorem e_numbers : ∀ k, k < 6 → ([1, 1, 1, 2, 1, 1] : List Int32).getD k 0 = nI (if k = 3 then 2 else 1) := by decide
theorem e_least : ∀ k, k < 6 → ([0, 100, 0, 0, 0, 0] : List Int32).getD k 0 = qLo (eW k) := by decide
theorem e_most : ∀ k, k < 6 → ([100, 400, 1, 40, 9, 50] : List Int32).getD k 0 = qHi (eW k) := by decide
def cSet (V : gF) (k : Nat) (x : Int32) : gF := if k = 0 then gw V 1 0 x else if k = 1 then gw V 1 1 x else if k = 2 then gw V 1 2 (if x = 1 then 1 else 0) else if k = 4 then gw V 1 3 x else if k = 5 then gw V 1 4 x else V
/-- whether the numbers behind the word of part p are right -/
abbrev qRt (S : Nat → Int32) (n p k : Nat) : Prop := (k = 3 → gIdx (qN S n (p + 1)) 4 = true) ∧ qFit (eW k) (qN S n (p + (if k = 3 then 2 else 1)))
theorem e_le (k : Nat) : (if k = 3 then 2 else 1) ≤ 2 := by split <;> decide
