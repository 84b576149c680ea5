def qRd (S : Nat → Int32) (b m i : Nat) : Bool := decide (m = gLen.getD i 0 ∧ ∀ v, v < m → S (b + v) = (gByt.getD i []).getD v 0)
def qFk (S : Nat → Int32) (b m : Nat) : Nat → Nat → Option Nat
  | 0, _ => none
  | f + 1, k => if qRd S b m k = true then some k else qFk S b m f (k + 1)
theorem qFk_lt {S : Nat → Int32} {b m j : Nat} : ∀ f k, qFk S b m f k = some j → j < k + f ∧ qRd S b m j = true
  | 0, k, h => by simp [qFk] at h
  | f + 1, k, h => by
    simp only [qFk] at h
    split at h
    · cases h
      exact ⟨by omega, by assumption⟩
    · have := qFk_lt f (k + 1) h
      exact ⟨by omega, this.2⟩
theorem qFk_no {S : Nat → Int32} {b m : Nat} : ∀ f k, qFk S b m f k = none → ∀ j, k ≤ j → j < k + f → ¬ qRd S b m j = true
  | 0, k, _, j, h1, h2 => by omega
  | f + 1, k, h, j, h1, h2 => by
    simp only [qFk] at h
    split at h
    · cases h
    · rename_i h3
      by_cases h4 : j = k
      · subst h4
        exact h3
      · exact qFk_no f (k + 1) h j (by omega) (by omega)
theorem qRd_len {S : Nat → Int32} {b m i : Nat} (h : qRd S b m i = true) : m = gLen.getD i 0 := (of_decide_eq_true h).1
theorem all4 {P : Nat → Prop} : (∀ v, v < 4 → P v) ↔ P 0 ∧ P 1 ∧ P 2 ∧ P 3 := ⟨fun h => ⟨h 0 (by decide), h 1 (by decide), h 2 (by decide), h 3 (by decide)⟩, fun h v hv => by
  have h2 : v = 0 ∨ v = 1 ∨ v = 2 ∨ v = 3 := by omega
  rcases h2 with rfl | rfl | rfl | rfl
  · exact h.1
  · exact h.2.1
  · exact h.2.2.1
  · exact h.2.2.2⟩
theorem all5 {P : Nat → Prop} : (∀ v, v < 5 → P v) ↔ P 0 ∧ P 1 ∧ P 2 ∧ P 3 ∧ P 4 := ⟨fun h => ⟨h 0 (by decide), h 1 (by decide), h 2 (by decide), h 3 (by decide), h 4 (by decide)⟩, fun h v hv => by
  have h2 : v = 0 ∨ v = 1 ∨ v = 2 ∨ v = 3 ∨ v = 4 := by omega
  rcases h2 with rfl | rfl | rfl | rfl | rfl
  · exact h.1
  · exact h.2.1
  · exact h.2.2.1
  · exact h.2.2.2.1
  · exact h.2.2.2.2⟩
theorem all9 {P : Nat → Prop} : (∀ v, v < 9 → P v) ↔ (P 0 ∧ P 1 ∧ P 2 ∧ P 3 ∧ P 4) ∧ P 5 ∧ P 6 ∧ P 7 ∧ P 8 := ⟨fun h => ⟨⟨h 0 (by decide), h 1 (by decide), h 2 (by decide), h 3 (by decide), h 4 (by decide)⟩, h 5 (by decide), h 6 (by decide), h 7 (by decide), h 8 (by decide)⟩, fun h v hv => by
  have h2 : v = 0 ∨ v = 1 ∨ v = 2 ∨ v = 3 ∨ v = 4 ∨ v = 5 ∨ v = 6 ∨ v = 7 ∨ v = 8 := by omega
  rcases h2 with rfl | rfl | rfl | rfl | rfl | rfl | rfl | rfl | rfl
  · exact h.1.1
  · exact h.1.2.1
  · exact h.1.2.2.1
  · exact h.1.2.2.2.1
  · exact h.1.2.2.2.2
  · exact h.2.1
  · exact h.2.2.1
  · exact h.2.2.2.1
  · exact h.2.2.2.2⟩
theorem qRd5 {S : Nat → Int32} {b m i : Nat} {x0 x1 x2 x3 x4 : Int32} (hl : gLen.getD i 0 = 5) (hb : gByt.getD i [] = [x0, x1, x2, x3, x4]) : qRd S b m i = true ↔ m = 5 ∧ qIs S b x0 x1 x2 x3 x4 = true := by
  unfold qRd qIs
  rw [decide_eq_true_iff, decide_eq_true_iff, hl, hb]
  refine and_congr_right (fun h => ?_)
  subst h
  rw [all5]
  exact Iff.rfl
theorem qRd4 {S : Nat → Int32} {b m i : Nat} {x0 x1 x2 x3 : Int32} (hl : gLen.getD i 0 = 4) (hb : gByt.getD i [] = [x0, x1, x2, x3]) : qRd S b m i = true ↔ m = 4 ∧ qI4 S b x0 x1 x2 x3 := by
  unfold qRd
  rw [decide_eq_true_iff, hl, hb]
  refine and_congr_right (fun h => ?_)
  subst h
  rw [all4]
  exact Iff.rfl
theorem qRd9 {S : Nat → Int32} {b m : Nat} : qRd S b m 4 = true ↔ m = 9 ∧ qIs S b 116 111 108 101 114 = true ∧ qIs S (b + 4) 114 97 110 99 101 = true := by
  unfold qRd qIs
  rw [decide_eq_true_iff, decide_eq_true_iff, decide_eq_true_iff]
  show (m = 9 ∧ _) ↔ _
  refine and_congr_right (fun h => ?_)
  subst h
  rw [all9]
  constructor
  · intro h
    exact ⟨h.1, h.1.2.2.2.2, h.2.1, h.2.2.1, h.2.2.2.1, h.2.2.2.2⟩
  · intro h
    exact ⟨h.1, h.2.2.1, h.2.2.2.1, h.2.2.2.2.1, h.2.2.2.2.2⟩
theorem qFk_w {S : Nat → Int32} {b m : Nat} : qWh S b m = match qFk S b m 6 0 with
    | none => -1
    | some k => eW k := by
  have h0 := qRd5 (S := S) (b := b) (m := m) (i := 0) (x0 := 98) (x1 := 108) (x2 := 97) (x3 := 99) (x4 := 107) rfl rfl
  have h1 := qRd5 (S := S) (b := b) (m := m) (i := 1) (x0 := 108) (x1 := 105) (x2 := 109) (x3 := 105) (x4 := 116) rfl rfl
  have h2 := qRd4 (S := S) (b := b) (m := m) (i := 2) (x0 := 116) (x1 := 114) (x2 := 97) (x3 := 112) rfl rfl
  have h3 := qRd4 (S := S) (b := b) (m := m) (i := 3) (x0 := 103) (x1 := 97) (x2 := 105) (x3 := 110) rfl rfl
  have h4 := qRd9 (S := S) (b := b) (m := m)
  have h5 := qRd5 (S := S) (b := b) (m := m) (i := 5) (x0 := 100) (x1 := 101) (x2 := 108) (x3 := 97) (x4 := 121) rfl rfl
  unfold qWh
  simp only [qFk, h0, h1, h2, h3, h4, h5]
  by_cases c4 : m = 4
  · subst c4
    simp only [show ¬ (4 = 5) by decide, show ¬ (4 = 9) by decide, false_and, if_false, if_true, true_and]
    split
    · rfl
    · split
      · rfl
      · rfl
  · by_cases c5 : m = 5
    · subst c5
      simp only [show ¬ (5 = 4) by decide, show ¬ (5 = 9) by decide, false_and, if_false, if_true, true_and]
      split
      · rfl
      · split
        · rfl
        · split
          · rfl
          · rfl
    · simp only [c4, c5, false_and, if_false]
      split
      · rfl
      · rfl
