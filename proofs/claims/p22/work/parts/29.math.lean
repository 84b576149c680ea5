def qBl (S : Nat → Int32) (n : Nat) (x : Int32) : Bool := decide (x < 0 ∨ nI n ≤ x ∨ S x.toNatClampNeg = 32)
theorem qBl_i {S : Nat → Int32} {n i : Nat} (hi : i < n) (hn : n ≤ 60) : qBl S n (nI i) = true ↔ S i = 32 := by
  unfold qBl
  rw [decide_eq_true_iff, nI_clamp (by omega), nI_leI (by omega) (by omega)]
  have h1 : ¬ nI i < 0 := nI_pos (by omega)
  exact ⟨fun h => h.elim (fun z => absurd z h1) (fun h => h.elim (fun z => absurd z (by omega)) id), fun h => Or.inr (Or.inr h)⟩
theorem qBl_n {S : Nat → Int32} {n i : Nat} (hi : n ≤ i) (hi2 : i ≤ 100) : qBl S n (nI i) = true := by
  unfold qBl
  rw [decide_eq_true_iff]
  exact Or.inr (Or.inl ((nI_leI (by omega) (by omega)).mpr hi))
theorem qBl_0 {S : Nat → Int32} {n : Nat} : qBl S n (nI 0 - 1) = true := by
  unfold qBl
  rw [decide_eq_true_iff]
  exact Or.inl (by decide)
theorem qSk_eq {S : Nat → Int32} : ∀ f i k, i ≤ k → k ≤ i + f → (∀ j, i ≤ j → j < k → S j = 32) → (k = i + f ∨ S k ≠ 32) → qSk S f i = k
  | 0, i, k, h1, h2, _, _ => by
    simp only [qSk]
    omega
  | f + 1, i, k, h1, h2, h3, h4 => by
    simp only [qSk]
    by_cases h5 : i = k
    · subst h5
      rw [if_neg (h4.resolve_left (by omega))]
    · rw [if_pos (h3 i (Nat.le_refl i) (by omega))]
      exact qSk_eq f (i + 1) k (by omega) (by omega) (fun j hj hk => h3 j (by omega) hk) (h4.imp (fun z => by omega) id)
theorem qSt_eq {S : Nat → Int32} : ∀ f i k, i ≤ k → k ≤ i + f → (∀ j, i ≤ j → j < k → S j ≠ 32) → (k = i + f ∨ S k = 32) → qSt S f i = k
  | 0, i, k, h1, h2, _, _ => by
    simp only [qSt]
    omega
  | f + 1, i, k, h1, h2, h3, h4 => by
    simp only [qSt]
    by_cases h5 : i = k
    · subst h5
      rw [if_pos (h4.resolve_left (by omega))]
    · rw [if_neg (h3 i (Nat.le_refl i) (by omega))]
      exact qSt_eq f (i + 1) k (by omega) (by omega) (fun j hj hk => h3 j (by omega) hk) (h4.imp (fun z => by omega) id)
theorem qSt_32 {S : Nat → Int32} : ∀ f i, qSt S f i < i + f → S (qSt S f i) = 32
  | 0, i, h => by
    simp only [qSt] at h
    omega
  | f + 1, i, h => by
    simp only [qSt] at h ⊢
    by_cases h5 : S i = 32
    · rw [if_pos h5]
      exact h5
    · rw [if_neg h5] at h ⊢
      exact qSt_32 f (i + 1) (by omega)
/-- the state of the walk over the signs: outside a word, or in one -/
def qA (S : Nat → Int32) (n i c : Nat) : Prop := qAt S n c ≤ i ∧ ∀ j, qAt S n c ≤ j → j < i → S j = 32
def qI (S : Nat → Int32) (n i c : Nat) (x : Int32) : Prop := qb S n c < i ∧ i < n ∧ x = nI (qb S n c) ∧ ∀ j, qb S n c ≤ j → j ≤ i → S j ≠ 32
theorem qA_prev {S : Nat → Int32} {n i c : Nat} (h : qA S n i c) (hi : i < n) (hn : n ≤ 60) (h2 : ¬ S i = 32) : qBl S n (nI i - 1) = true := by
  by_cases h0 : i = 0
  · subst h0
    exact qBl_0
  · obtain ⟨k, rfl⟩ : ∃ k, i = k + 1 := ⟨i - 1, by omega⟩
    rw [nI_pred, qBl_i (by omega) hn]
    refine h.2 k ?_ (by omega)
    by_cases h3 : qAt S n c = k + 1
    · exfalso
      cases c with
      | zero => exact absurd h3 (by show ¬ (0 = k + 1); omega)
      | succ c =>
        have h4 : qE S n (qb S n c) = k + 1 := h3
        have h5 := qb_b (S := S) (n := n) (p := c)
        unfold qE at h4
        have h6 := qSt_32 (S := S) (n - qb S n c) (qb S n c) (by omega)
        rw [h4] at h6
        exact h2 h6
    · have := h.1
      omega
theorem qI_prev {S : Nat → Int32} {n i c : Nat} {x : Int32} (h : qI S n i c x) (hn : n ≤ 60) : ¬ qBl S n (nI i - 1) = true := by
  obtain ⟨h1, h2, _, h3⟩ := h
  obtain ⟨k, rfl⟩ : ∃ k, i = k + 1 := ⟨i - 1, by omega⟩
  rw [nI_pred, qBl_i (by omega) hn]
  exact h3 k (by omega) (by omega)
theorem qA_b {S : Nat → Int32} {n i c : Nat} (h : qA S n i c) (hi : i < n) (h2 : ¬ S i = 32) : qb S n c = i := by
  show qSk S (n - qAt S n c) (qAt S n c) = i
  have := h.1
  exact qSk_eq _ _ _ h.1 (by omega) h.2 (Or.inr h2)
theorem qI_e {S : Nat → Int32} {n i c : Nat} (h1 : qb S n c ≤ i) (hi : i < n) (h2 : ∀ j, qb S n c ≤ j → j ≤ i → S j ≠ 32) (h3 : i + 1 = n ∨ S (i + 1) = 32) : qAt S n (c + 1) = i + 1 := by
  show qSt S (n - qb S n c) (qb S n c) = i + 1
  exact qSt_eq _ _ _ (by omega) (by omega) (fun j hj hk => h2 j hj (by omega)) (h3.imp (fun z => by omega) id)
theorem qA_end {S : Nat → Int32} {n c : Nat} (h : qA S n n c) : ¬ qHas S n c := by
  have h1 : qb S n c = n := by
    show qSk S (n - qAt S n c) (qAt S n c) = n
    have := h.1
    exact qSk_eq _ _ _ h.1 (by omega) h.2 (Or.inl (by omega))
  have h2 := qb_b (S := S) (n := n) (p := c)
  show ¬ (qb S n c < qAt S n (c + 1))
  omega
theorem qBl_s {S : Nat → Int32} {n i : Nat} (hi : i < n) (hn : n ≤ 60) : qBl S n (nI (i + 1)) = true ↔ (i + 1 = n ∨ S (i + 1) = 32) := by
  by_cases h : i + 1 = n
  · exact ⟨fun _ => Or.inl h, fun _ => qBl_n (by omega) (by omega)⟩
  · rw [qBl_i (by omega) hn]
    exact ⟨Or.inr, fun z => z.resolve_left h⟩
def qPar (F1 : gF) (S : Nat → Int32) (n c : Nat) : Prop := ∀ p, p < c → F1 5 p = nI (qb S n p) ∧ F1 6 p = nI (qAt S n (p + 1)) ∧ qHas S n p
theorem qPar_s {F1 : gF} {S : Nat → Int32} {n c i : Nat} (hP : qPar F1 S n c) (hb : F1 5 c = nI (qb S n c)) (he : qAt S n (c + 1) = i + 1) (h1 : qb S n c ≤ i) : qPar (gw F1 6 c (nI (i + 1))) S n (c + 1) := fun p hp => by
  by_cases h : p = c
  · subst h
    refine ⟨?_, ?_, ?_⟩
    · rw [gw_n _ _ _ (by decide)]
      exact hb
    · rw [gw_ss, he]
    · show qb S n p < qAt S n (p + 1)
      omega
  · refine ⟨?_, ?_, (hP p (by omega)).2.2⟩
    · rw [gw_n _ _ _ (by decide)]
      exact (hP p (by omega)).1
    · rw [gw_sn _ _ h]
      exact (hP p (by omega)).2.1
theorem qHas_n {S : Nat → Int32} {n p : Nat} (h : ¬ qHas S n p) : qAt S n (p + 1) = n := by
  have h1 := qb_b (S := S) (n := n) (p := p)
  have h0 : ¬ (qb S n p < qAt S n (p + 1)) := h
  by_cases h6 : qb S n p < n
  · exfalso
    have h7 : qAt S n (p + 1) = qE S n (qb S n p) := rfl
    unfold qE at h7
    obtain ⟨f, hf⟩ : ∃ f, n - qb S n p = f + 1 := ⟨n - qb S n p - 1, by omega⟩
    rw [hf] at h7
    simp only [qSt] at h7
    have key : ∀ g i, qSk S g i < i + g → S (qSk S g i) ≠ 32 := by
      intro g
      induction g with
      | zero => intro i hi; simp only [qSk] at hi; omega
      | succ g ih =>
        intro i hi
        simp only [qSk] at hi ⊢
        by_cases hc : S i = 32
        · rw [if_pos hc] at hi ⊢
          exact ih (i + 1) (by omega)
        · rw [if_neg hc]
          exact hc
    have h8 : S (qb S n p) ≠ 32 := key (n - qAt S n p) (qAt S n p) (by
      have := qAt_b (S := S) (n := n) p
      show qb S n p < _
      omega)
    rw [if_neg h8] at h7
    have := (qSt_b (S := S) f (qb S n p + 1)).1
    omega
  · omega
theorem qHas_ge {S : Nat → Int32} {n N p : Nat} (h : ¬ qHas S n N) (hp : N ≤ p) : ¬ qHas S n p := by
  have key : ∀ k, ¬ qHas S n (N + k) := by
    intro k
    induction k with
    | zero => exact h
    | succ k ih =>
      have h1 := qHas_n ih
      have h2 := qb_b (S := S) (n := n) (p := N + k + 1)
      show ¬ (qb S n (N + k + 1) < qAt S n (N + k + 1 + 1))
      omega
  have := key (p - N)
  rw [show N + (p - N) = p by omega] at this
  exact this
