def qSk (S : Nat → Int32) : Nat → Nat → Nat
  | 0, i => i
  | f + 1, i => if S i = 32 then qSk S f (i + 1) else i
def qSt (S : Nat → Int32) : Nat → Nat → Nat
  | 0, i => i
  | f + 1, i => if S i = 32 then i else qSt S f (i + 1)
/-- where the next word begins, where it ends -/
def qB (S : Nat → Int32) (n i : Nat) : Nat := qSk S (n - i) i
def qE (S : Nat → Int32) (n i : Nat) : Nat := qSt S (n - i) i
theorem qSk_b {S : Nat → Int32} : ∀ f i, i ≤ qSk S f i ∧ qSk S f i ≤ i + f
  | 0, i => ⟨Nat.le_refl _, Nat.le_refl _⟩
  | f + 1, i => by
    simp only [qSk]
    split
    · have := qSk_b (S := S) f (i + 1)
      omega
    · omega
theorem qSt_b {S : Nat → Int32} : ∀ f i, i ≤ qSt S f i ∧ qSt S f i ≤ i + f
  | 0, i => ⟨Nat.le_refl _, Nat.le_refl _⟩
  | f + 1, i => by
    simp only [qSt]
    split
    · omega
    · have := qSt_b (S := S) f (i + 1)
      omega
theorem qB_b {S : Nat → Int32} {n i : Nat} (h : i ≤ n) : i ≤ qB S n i ∧ qB S n i ≤ n := by
  have := qSk_b (S := S) (n - i) i
  unfold qB
  omega
theorem qE_b {S : Nat → Int32} {n i : Nat} (h : i ≤ n) : i ≤ qE S n i ∧ qE S n i ≤ n := by
  have := qSt_b (S := S) (n - i) i
  unfold qE
  omega
/-- behind p words -/
def qAt (S : Nat → Int32) (n : Nat) : Nat → Nat
  | 0 => 0
  | p + 1 => qE S n (qB S n (qAt S n p))
theorem qAt_b {S : Nat → Int32} {n : Nat} : ∀ p, qAt S n p ≤ n
  | 0 => Nat.zero_le _
  | p + 1 => (qE_b (qB_b (qAt_b p)).2).2
abbrev qb (S : Nat → Int32) (n p : Nat) : Nat := qB S n (qAt S n p)
theorem qb_b {S : Nat → Int32} {n p : Nat} : qAt S n p ≤ qb S n p ∧ qb S n p ≤ qAt S n (p + 1) ∧ qAt S n (p + 1) ≤ n := ⟨(qB_b (qAt_b p)).1, (qE_b (qB_b (qAt_b p)).2).1, qAt_b (p + 1)⟩
theorem qAt_p {S : Nat → Int32} {n : Nat} : ∀ p, qb S n p < qAt S n (p + 1) → p ≤ qAt S n p
  | 0, _ => Nat.zero_le _
  | p + 1, h => by
    have h1 := qb_b (S := S) (n := n) (p := p)
    have h2 := qb_b (S := S) (n := n) (p := p + 1)
    by_cases h3 : qb S n p < qAt S n (p + 1)
    · have := qAt_p p h3
      omega
    · have h4 : qb S n p = qAt S n (p + 1) := by omega
      exfalso
      have h5 : qb S n p = n := by
        by_cases h6 : qb S n p < n
        · exfalso
          have h7 : qAt S n (p + 1) = qE S n (qb S n p) := rfl
          unfold qE at h7
          obtain ⟨f, hf⟩ : ∃ f, n - qb S n p = f + 1 := ⟨n - qb S n p - 1, by omega⟩
          rw [hf] at h7
          simp only [qSt] at h7
          have h8 : S (qb S n p) ≠ 32 := by
            have key : ∀ g i, qSk S g i < i + g → S (qSk S g i) ≠ 32 := by
              intro g
              induction g with
              | zero => intro i hi; simp only [qSk] at hi; omega
              | succ g ih =>
                intro i hi
                simp only [qSk] at hi ⊢
                by_cases hc : S i = 32
                · rw [if_pos hc] at hi ⊢
                  exact ih (i + 1) (by omega)
                · rw [if_neg hc]
                  exact hc
            exact key (n - qAt S n p) (qAt S n p) (by
              have := qAt_b (S := S) (n := n) p
              show qb S n p < _
              omega)
          rw [if_neg h8] at h7
          have := (qSt_b (S := S) f (qb S n p + 1)).1
          omega
        · omega
      omega
def mRd (V : gF) (w b e : Nat) : gF := gw (gw (gw V 43 33 (nI b)) 43 32 (nI e)) 43 34 (nI (if b < e then w + 1 else w))
theorem mRd_o {V : gF} {w b e a k : Nat} (h : a ≠ 43 ∨ k < 32 ∨ 34 < k) : mRd V w b e a k = V a k := by
  unfold mRd gw
  by_cases h1 : a = 43
  · simp only [h1, if_true]
    rw [if_neg (by omega), if_neg (by omega), if_neg (by omega)]
  · simp only [h1, if_false]
theorem mRd_32 {V : gF} {w b e : Nat} : mRd V w b e 43 32 = nI e := rfl
theorem mRd_33 {V : gF} {w b e : Nat} : mRd V w b e 43 33 = nI b := rfl
theorem mRd_34 {V : gF} {w b e : Nat} (h : b < e) : mRd V w b e 43 34 = nI (w + 1) := by
  show nI (if b < e then w + 1 else w) = _
  rw [if_pos h]
abbrev qDg (S : Nat → Int32) (i : Nat) : Prop := gRng (S i) 48 57 = true
def qVl (S : Nat → Int32) (b : Nat) : Nat → Int32
  | 0 => 0
  | k + 1 => 10 * qVl S b k + (S (b + k) - 48)
def qNum (S : Nat → Int32) (b m : Nat) : Int32 := if ¬ 3 < m ∧ ∀ v, v < m → qDg S (b + v) then qVl S b m else -1
theorem qDg_n {S : Nat → Int32} {i : Nat} (h : qDg S i) : ∃ d, d < 10 ∧ S i - 48 = nI d := by
  obtain ⟨h1, h2⟩ := of_decide_eq_true h
  have h0 : ¬ S i < 0 := fun z => h1 (Int32.lt_trans z (by decide))
  obtain ⟨j, hj, hj2⟩ := nI_of h0
  rw [hj2] at h1 h2
  have h3 : 48 ≤ j := (nI_leI (a := 48) (by decide) hj).mp (Int32.not_lt.mp h1)
  have h4 : j ≤ 57 := (nI_leI (b := 57) hj (by decide)).mp (Int32.not_lt.mp h2)
  refine ⟨j - 48, by omega, ?_⟩
  rw [hj2]
  obtain ⟨d, rfl⟩ : ∃ d, j = d + 48 := ⟨j - 48, by omega⟩
  rw [Nat.add_sub_cancel, ← nI_add]
  show nI d + 48 - 48 = nI d
  grind
theorem qVl_n {S : Nat → Int32} {b : Nat} : ∀ k, (∀ v, v < k → qDg S (b + v)) → ∃ v, v < 10 ^ k ∧ qVl S b k = nI v
  | 0, _ => ⟨0, by decide, rfl⟩
  | k + 1, h => by
    obtain ⟨v, hv, ev⟩ := qVl_n k (fun w hw => h w (Nat.lt_succ_of_lt hw))
    obtain ⟨d, hd, ed⟩ := qDg_n (h k (Nat.lt_succ_self k))
    refine ⟨10 * v + d, ?_, ?_⟩
    · rw [Nat.pow_succ]
      omega
    · simp only [qVl]
      rw [ev, ed]
      show nI 10 * nI v + nI d = _
      rw [pk_mul, nI_add]
theorem qVl_ne {S : Nat → Int32} {b k : Nat} (hk : k ≤ 3) (h : ∀ v, v < k → qDg S (b + v)) : qVl S b k ≠ -1 := by
  obtain ⟨v, hv, ev⟩ := qVl_n k h
  have h1 : v < 1000 := Nat.lt_of_lt_of_le hv (Nat.pow_le_pow_right (by decide) hk)
  rw [ev]
  intro z
  have h2 := nI_toInt (n := v) (by omega)
  rw [z] at h2
  have h3 : (-1 : Int32).toInt = -1 := by decide
  omega
def qIs (S : Nat → Int32) (i : Nat) (a b c d e : Int32) : Bool := decide (S i = a ∧ S (i + 1) = b ∧ S (i + 2) = c ∧ S (i + 3) = d ∧ S (i + 4) = e)
abbrev qI4 (S : Nat → Int32) (i : Nat) (a b c d : Int32) : Prop := S i = a ∧ S (i + 1) = b ∧ S (i + 2) = c ∧ S (i + 3) = d
def qLo (w : Int32) : Int32 := if w = 1 then 100 else 0
def qHi (w : Int32) : Int32 := if w = 0 then 100 else if w = 1 then 400 else if w = 2 then 1 else if w = 3 then 40 else if w = 7 then 9 else 50
abbrev qFit (w n : Int32) : Prop := gRng n (qLo w) (qHi w) = true
def qWh (S : Nat → Int32) (b m : Nat) : Int32 := if m = 4 then (if qI4 S b 116 114 97 112 then 2 else if qI4 S b 103 97 105 110 then 3 else -1) else if m = 5 then (if qIs S b 98 108 97 99 107 = true then 0 else if qIs S b 108 105 109 105 116 = true then 1 else if qIs S b 100 101 108 97 121 = true then 8 else -1) else if m = 9 ∧ qIs S b 116 111 108 101 114 = true ∧ qIs S (b + 4) 114 97 110 99 101 = true then 7 else -1
theorem mNm_a {S : Nat → Int32} {b m k : Nat} {x : Int32} (e : x = if (¬ 3 < m ∧ ∀ v, v < k → qDg S (b + v)) then qVl S b k else -1) (h : x = -1) (hk : k ≤ m := by omega) : (-1 : Int32) = if (¬ 3 < m ∧ ∀ v, v < k + 1 → qDg S (b + v)) then qVl S b (k + 1) else -1 := by
  by_cases c : ¬ 3 < m ∧ ∀ v, v < k → qDg S (b + v)
  · rw [if_pos c, h] at e
    exact absurd e.symm (qVl_ne (by omega) c.2)
  · rw [if_neg (fun z => c ⟨z.1, fun v hv => z.2 v (by omega)⟩)]
theorem mNm_b {S : Nat → Int32} {b m k : Nat} (h : ¬ qDg S (b + k)) : (-1 : Int32) = if (¬ 3 < m ∧ ∀ v, v < k + 1 → qDg S (b + v)) then qVl S b (k + 1) else -1 := by
  rw [if_neg (fun z => h (z.2 k (by omega)))]
theorem mNm_c {S : Nat → Int32} {b m k : Nat} {x : Int32} (e : x = if (¬ 3 < m ∧ ∀ v, v < k → qDg S (b + v)) then qVl S b k else -1) (h : ¬ x = -1) (h2 : qDg S (b + k)) : 10 * x + (S (b + k) - 48) = if (¬ 3 < m ∧ ∀ v, v < k + 1 → qDg S (b + v)) then qVl S b (k + 1) else -1 := by
  by_cases c : ¬ 3 < m ∧ ∀ v, v < k → qDg S (b + v)
  · rw [if_pos c] at e
    rw [if_pos ⟨c.1, fun v hv => by
      by_cases hv2 : v = k
      · rw [hv2]; exact h2
      · exact c.2 v (by omega)⟩, e]
    rfl
  · rw [if_neg c] at e
    exact absurd e h
