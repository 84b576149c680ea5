/-- the rule of word p, laid -/
def qUp (S : Nat → Int32) (n p : Nat) (x : gF × gF) : gF × gF := if qW S n p = 3 then (gw x.1 2 (qInk S n p).toNatClampNeg (qN S n (qNp S n p)), x.2) else (x.1, gw x.2 1 (if qW S n p = 0 then 0 else if qW S n p = 1 then 1 else if qW S n p = 2 then 2 else if qW S n p = 7 then 3 else 4) (qN S n (qNp S n p)))
def qRun (S : Nat → Int32) (n : Nat) : Nat → Nat → Int32 → Int32
  | 0, _, c => c
  | f + 1, p, c => if qHas S n p then (if qOk S n p then qRun S n f (qNp S n p + 1) (c + 1) else -(nI (p + 1))) else c
def qFine (S : Nat → Int32) (n : Nat) : Nat → Nat → Bool
  | 0, _ => true
  | f + 1, p => if qHas S n p then (if qOk S n p then qFine S n f (qNp S n p + 1) else false) else true
def qRuF (S : Nat → Int32) (n : Nat) : Nat → Nat → gF × gF → gF × gF
  | 0, _, x => x
  | f + 1, p, x => if qHas S n p ∧ qOk S n p then qRuF S n f (qNp S n p + 1) (qUp S n p x) else x
def qRR (R : Nat → Int32) (x : gF × gF) : Prop := (∀ k, k < 4 → x.1 2 k = R (3 + k)) ∧ x.2 1 0 = R 0 ∧ x.2 1 1 = R 1 ∧ x.2 1 2 = R 2 ∧ x.2 1 3 = R 7 ∧ x.2 1 4 = R 8
def qFr (x y : gF × gF) : Prop := (∀ a b, a ≠ 2 ∨ 4 ≤ b → y.1 a b = x.1 a b) ∧ (∀ a b, a ≠ 1 ∨ 4 < b → y.2 a b = x.2 a b)
theorem qFr.rf {x : gF × gF} : qFr x x := ⟨fun _ _ _ => rfl, fun _ _ _ => rfl⟩
theorem qWh_n {S : Nat → Int32} {b m : Nat} (h : ¬ qWh S b m = -1) : ∃ j, (j = 0 ∨ j = 1 ∨ j = 2 ∨ j = 3 ∨ j = 7 ∨ j = 8) ∧ qWh S b m = nI j := by
  unfold qWh at h ⊢
  split
  · split
    · exact ⟨2, by omega, rfl⟩
    · split
      · exact ⟨3, by omega, rfl⟩
      · rename_i h1 h2 h3
        rw [if_pos h1, if_neg h2, if_neg h3] at h
        exact absurd rfl h
  · split
    · split
      · exact ⟨0, by omega, rfl⟩
      · split
        · exact ⟨1, by omega, rfl⟩
        · split
          · exact ⟨8, by omega, rfl⟩
          · rename_i h1 h2 h3 h4 h5
            rw [if_neg h1, if_pos h2, if_neg h3, if_neg h4, if_neg h5] at h
            exact absurd rfl h
    · split
      · exact ⟨7, by omega, rfl⟩
      · rename_i h1 h2 h3
        rw [if_neg h1, if_neg h2, if_neg h3] at h
        exact absurd rfl h
theorem qUp_fr {S : Nat → Int32} {n p : Nat} {x y : gF × gF} (h : qFr x y) (hok : qOk S n p) : qFr x (qUp S n p y) := by
  obtain ⟨j, hj, ej⟩ := gIdx_n 4 rfl (by decide) hok.2.1
  unfold qUp
  by_cases c : qW S n p = 3
  · rw [if_pos c]
    refine ⟨fun a b hab => ?_, h.2⟩
    rw [ej, nI_clamp (by omega)]
    rw [← h.1 a b hab]
    show gw y.1 2 j _ a b = _
    unfold gw
    by_cases h1 : a = 2
    · rw [if_pos h1, if_neg (by omega)]
    · rw [if_neg h1]
  · rw [if_neg c]
    refine ⟨h.1, fun a b hab => ?_⟩
    rw [← h.2 a b hab]
    have key : ∀ k z, k ≤ 4 → gw y.2 1 k z a b = y.2 a b := by
      intro k z hk
      unfold gw
      by_cases h1 : a = 1
      · rw [if_pos h1, if_neg (by omega)]
      · rw [if_neg h1]
    refine key _ _ ?_
    split
    · decide
    · split
      · decide
      · split
        · decide
        · split <;> decide
theorem qUp_rr {S : Nat → Int32} {n p wn : Nat} {x : gF × gF} {F1 : gF} (h : qRR (F1 48) x) (hok : qOk S n p) (hw : qW S n p = nI wn) (hwn : wn = 0 ∨ wn = 1 ∨ wn = 2 ∨ wn = 3 ∨ wn = 7 ∨ wn = 8) : qRR (gw F1 48 (wn + (qInk S n p).toNatClampNeg) (qN S n (qNp S n p)) 48) (qUp S n p x) := by
  obtain ⟨j, hj, ej⟩ := gIdx_n 4 rfl (by decide) hok.2.1
  obtain ⟨h1, h2, h3, h4, h5, h6⟩ := h
  have e3 : wn ≠ 3 → j = 0 := fun z => by
    have h9 : qInk S n p = 0 := by
      unfold qInk
      rw [if_neg (fun y => z ((nI3 (by omega)).mp (hw.symm.trans y)))]
    rw [ej] at h9
    exact (nI_eq (b := 0) (by omega) (by decide)).mp h9
  rw [ej, nI_clamp (by omega)]
  have hR : ∀ k, gw F1 48 (wn + j) (qN S n (qNp S n p)) 48 k = if k = wn + j then qN S n (qNp S n p) else F1 48 k := fun k => by
    unfold gw
    rw [if_pos rfl]
  unfold qUp
  rw [hw, ej, nI_clamp (by omega)]
  generalize qN S n (qNp S n p) = N at hR ⊢
  have g1 : ∀ y : gF, ∀ k z b, gw y 1 k z 1 b = if b = k then z else y 1 b := fun y k z b => by
    unfold gw
    rw [if_pos rfl]
  have g2 : ∀ y : gF, ∀ k z b, gw y 2 k z 2 b = if b = k then z else y 2 b := fun y k z b => by
    unfold gw
    rw [if_pos rfl]
  rcases hwn with rfl | rfl | rfl | rfl | rfl | rfl
  · have := e3 (by decide)
    subst this
    rw [if_neg (by decide), if_pos (by decide)]
    refine ⟨fun k hk => ?_, ?_, ?_, ?_, ?_, ?_⟩ <;> simp only [hR, g1]
    · rw [if_neg (by omega)]; exact h1 k hk
    · rfl
    · exact h3
    · exact h4
    · exact h5
    · exact h6
  · have := e3 (by decide)
    subst this
    rw [if_neg (by decide), if_neg (by decide), if_pos (by decide)]
    refine ⟨fun k hk => ?_, ?_, ?_, ?_, ?_, ?_⟩ <;> simp only [hR, g1]
    · rw [if_neg (by omega)]; exact h1 k hk
    · exact h2
    · rfl
    · exact h4
    · exact h5
    · exact h6
  · have := e3 (by decide)
    subst this
    rw [if_neg (by decide), if_neg (by decide), if_neg (by decide), if_pos (by decide)]
    refine ⟨fun k hk => ?_, ?_, ?_, ?_, ?_, ?_⟩ <;> simp only [hR, g1]
    · rw [if_neg (by omega)]; exact h1 k hk
    · exact h2
    · exact h3
    · rfl
    · exact h5
    · exact h6
  · rw [if_pos (by decide)]
    refine ⟨fun k hk => ?_, ?_, ?_, ?_, ?_, ?_⟩ <;> simp only [hR, g2]
    · by_cases c : k = j
      · rw [if_pos c, if_pos (by omega)]
      · rw [if_neg c, if_neg (by omega)]; exact h1 k hk
    · rw [if_neg (by omega)]; exact h2
    · rw [if_neg (by omega)]; exact h3
    · rw [if_neg (by omega)]; exact h4
    · rw [if_neg (by omega)]; exact h5
    · rw [if_neg (by omega)]; exact h6
  · have := e3 (by decide)
    subst this
    rw [if_neg (by decide), if_neg (by decide), if_neg (by decide), if_neg (by decide), if_pos (by decide)]
    refine ⟨fun k hk => ?_, ?_, ?_, ?_, ?_, ?_⟩ <;> simp only [hR, g1]
    · rw [if_neg (by omega)]; exact h1 k hk
    · exact h2
    · exact h3
    · exact h4
    · rfl
    · exact h6
  · have := e3 (by decide)
    subst this
    rw [if_neg (by decide), if_neg (by decide), if_neg (by decide), if_neg (by decide), if_neg (by decide)]
    refine ⟨fun k hk => ?_, ?_, ?_, ?_, ?_, ?_⟩ <;> simp only [hR, g1]
    · rw [if_neg (by omega)]; exact h1 k hk
    · exact h2
    · exact h3
    · exact h4
    · exact h5
    · rfl
theorem tF_ap {F F2 : gF} {a b : Nat} (h : ∀ i, i ≠ 47 → i ≠ 48 → ∀ j, F2 i j = F i j) (ha : a ≠ 2) (ha2 : a < 43) : tF F2 a b = tF F a b := by
  unfold tF
  split <;> first | (exact absurd rfl ha) | (rw [h _ (by decide) (by decide)]) | (rw [h _ (by decide) (by decide)]) | (exact h _ (by omega) (by omega) _)
theorem qW_has {S : Nat → Int32} {n p : Nat} (h : qHas S n p) (hn : n ≤ 60) : p < 60 := by
  have h1 := qAt_p p h
  have h2 := qb_b (S := S) (n := n) (p := p)
  have h3 : qb S n p < qAt S n (p + 1) := h
  omega
