abbrev qHas (S : Nat → Int32) (n p : Nat) : Prop := qb S n p < qAt S n (p + 1)
def qN (S : Nat → Int32) (n p : Nat) : Int32 := if qHas S n p then qNum S (qb S n p) (qAt S n (p + 1) - qb S n p) else -1
def qW (S : Nat → Int32) (n p : Nat) : Int32 := qWh S (qb S n p) (qAt S n (p + 1) - qb S n p)
def qInk (S : Nat → Int32) (n p : Nat) : Int32 := if qW S n p = 3 then qN S n (p + 1) else 0
def qNp (S : Nat → Int32) (n p : Nat) : Nat := if qW S n p = 3 then p + 2 else p + 1
abbrev qOk (S : Nat → Int32) (n p : Nat) : Prop := qW S n p ≠ -1 ∧ gIdx (qInk S n p) 4 = true ∧ qN S n (qNp S n p) ≠ -1 ∧ qFit (qW S n p) (qN S n (qNp S n p))
theorem gIdx_m : gIdx (-1) 4 = false := by decide
theorem qNp_b {S : Nat → Int32} {n p : Nat} : p + 1 ≤ qNp S n p ∧ qNp S n p ≤ p + 2 := by
  unfold qNp
  split <;> omega
theorem qInk_b {S : Nat → Int32} {n p wn j : Nat} (h : nI wn = qW S n p) (h2 : wn ≤ 8) (hj : j < 4) (e : nI j = qInk S n p) : wn + j < 9 := by
  unfold qInk at e
  by_cases c : qW S n p = 3
  · rw [c] at h
    have := (nI_eq (b := 3) (by omega) (by decide)).mp h
    omega
  · rw [if_neg c] at e
    have := (nI_eq (b := 0) (by omega) (by decide)).mp e
    omega
theorem nI3 {wn : Nat} (h : wn ≤ 8) : nI wn = 3 ↔ wn = 3 := nI_eq (b := 3) (by omega) (by decide)
theorem nI_nm1 {wn : Nat} (h : wn ≤ 8) : ¬ nI wn = -1 := by
  intro z
  have h2 := nI_toInt (n := wn) (by omega)
  rw [z] at h2
  have h3 : (-1 : Int32).toInt = -1 := by decide
  omega
