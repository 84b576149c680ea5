theorem qRun_le0 {S : Nat → Int32} {n : Nat} {x : gF × gF} (h : qFine S n 64 0 = true) (h2 : qRun S n 64 0 0 ≤ 0) : qRuF S n 64 0 x = x := by
  obtain ⟨c', h3, h4, h5⟩ := qRun_fine (x := x) 64 0 0 h
  refine h5 ?_
  have h6 : qRun S n 64 0 0 = nI (0 + c') := h4
  rw [h6, Nat.zero_add] at h2
  by_cases h7 : c' = 0
  · exact h7
  · exact absurd h2 (nI_nle (by omega) (by omega))
theorem qRun_gt0 {S : Nat → Int32} {n : Nat} (hn : n ≤ 60) (h2 : ¬ qRun S n 64 0 0 ≤ 0) : qFine S n 64 0 = true := by
  cases h : qFine S n 64 0 with
  | true => rfl
  | false =>
    obtain ⟨q, hq, e⟩ := qRun_bad hn 64 0 0 h
    rw [e] at h2
    exact absurd (Int32.not_le.mp h2) (nI_negp hq)
def qApp (F V : gF) (o : gO) (n : Nat) (r : Int32) (u : gS) : Prop := u.2.2 = o ∧ r = qRun (F 4) n 64 0 0 ∧ ∃ (F1 : gF) (N : Nat), (∀ a, a ≠ 5 → a ≠ 6 → F1 a = F a) ∧ N ≤ n ∧ (qFine (F 4) n 64 0 = true → u.1 = (qRuF (F 4) n 64 0 (F1, gw V 3 4 (nI N))).1 ∧ u.2.1 = gw (qRuF (F 4) n 64 0 (F1, gw V 3 4 (nI N))).2 3 3 0) ∧ (qFine (F 4) n 64 0 = false → u.1 = F1 ∧ u.2.1 = gw (gw V 3 4 (nI N)) 3 3 0)
