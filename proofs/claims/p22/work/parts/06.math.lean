abbrev cOff (F : gF) (tol : Int32) (v : Nat) : Prop := tol < gabs (F 19 v - F 19 3) ∨ tol < gabs (F 20 v - F 20 3)
abbrev cRight (F : gF) (tol : Int32) : Prop := ∀ u, u < 4 → ¬ cOff F tol u
def cMove (F : gF) (u : Nat) (x y : Int32) : gF := gw (gw F 19 u (F 19 u + x)) 20 u (F 20 u + y)
def cKeep (F : gF) (k : Nat) (u x y d : Int32) : gF := gw (gw (gw (gw F 23 k d) 24 k u) 25 k x) 26 k y
def cDr (F : gF) : Nat → gF
  | 0 => F
  | n + 1 => cMove (cDr F n) n (cDr F n 21 n) (cDr F n 22 n)
def cDrift (F : gF) (pr : Nat) : gF := if pr % 10 = 0 then cDr F 4 else F
def cFol (pr : Nat) (F : gF) : Nat → gF × Nat
  | 0 => (F, 0)
  | n + 1 => if (cFol pr F n).1 23 n ≤ nI pr then (cMove (cFol pr F n).1 ((cFol pr F n).1 24 n).toNatClampNeg ((cFol pr F n).1 25 n) ((cFol pr F n).1 26 n), (cFol pr F n).2) else (cKeep (cFol pr F n).1 (cFol pr F n).2 ((cFol pr F n).1 24 n) ((cFol pr F n).1 25 n) ((cFol pr F n).1 26 n) ((cFol pr F n).1 23 n), (cFol pr F n).2 + 1)
theorem cMove_hi {F : gF} {u a : Nat} {x y : Int32} (h : a ≠ 19) (h2 : a ≠ 20) : cMove F u x y a = F a := by
  unfold cMove
  rw [gw_n _ _ _ h2, gw_n _ _ _ h]
theorem cDr_hi {F : gF} {a : Nat} (h : a ≠ 19) (h2 : a ≠ 20) : ∀ n, cDr F n a = F a
  | 0 => rfl
  | n + 1 => by
    show cMove _ _ _ _ a = _
    rw [cMove_hi h h2, cDr_hi h h2 n]
theorem cDrift_hi {F : gF} {pr a : Nat} (h : a ≠ 19) (h2 : a ≠ 20) : cDrift F pr a = F a := by
  unfold cDrift
  split
  · exact cDr_hi h h2 4
  · rfl
theorem cKeep_hi {F : gF} {k a b : Nat} {u x y d : Int32} (h : b ≠ k) : cKeep F k u x y d a b = F a b := by
  unfold cKeep gw
  simp only [h, if_false]
  split <;> split <;> split <;> split <;> rfl
theorem cKeep_o {F : gF} {k a : Nat} {u x y d : Int32} (h : a < 23 ∨ 26 < a) : cKeep F k u x y d a = F a := by
  unfold cKeep
  rw [gw_n _ _ _ (by omega), gw_n _ _ _ (by omega), gw_n _ _ _ (by omega), gw_n _ _ _ (by omega)]
theorem cFol_le {pr : Nat} {F : gF} : ∀ n, (cFol pr F n).2 ≤ n
  | 0 => Nat.le_refl _
  | n + 1 => by
    have h := cFol_le (pr := pr) (F := F) n
    simp only [cFol]
    split
    · show (cFol pr F n).2 ≤ _
      omega
    · show (cFol pr F n).2 + 1 ≤ _
      omega
theorem cFol_hi {pr : Nat} {F : gF} {a j : Nat} (h : a ≠ 19) (h2 : a ≠ 20) : ∀ n, n ≤ j → (cFol pr F n).1 a j = F a j
  | 0, _ => rfl
  | n + 1, hj => by
    have h3 := cFol_le (pr := pr) (F := F) n
    have h4 := cFol_hi (pr := pr) (F := F) (j := j) h h2 n (by omega)
    simp only [cFol]
    split
    · show cMove _ _ _ _ a j = _
      rw [cMove_hi h h2, h4]
    · show cKeep _ _ _ _ _ _ a j = _
      rw [cKeep_hi (by omega), h4]
theorem g_ix {x : Int32} {n : Nat} (hn : n < 2 ^ 31) (h : ∃ q, q < n ∧ x = nI q) : x = nI x.toNatClampNeg ∧ x.toNatClampNeg < n := by
  obtain ⟨q, h1, rfl⟩ := h
  rw [nI_clamp (Nat.lt_trans h1 hn)]
  exact ⟨rfl, h1⟩
def cDens (F : gF) (u q : Nat) : Int32 := 100 + F (29 + u) q - 50 - (cSum F u q 8 - 400) / 8 / 10
abbrev cBad (F : gF) (u q : Nat) : Prop := cDens F u q < 90 ∨ 110 < cDens F u q
abbrev cEven (F : gF) : Prop := ∀ u, u < 4 → ∀ q, q < 8 → ¬ cBad F u q
def cJudgeV (V : gF) (P K : Prop) [Decidable P] [Decidable K] : gF := if 0 < V 27 1 then gw V 27 1 (V 27 1 - 1) else if P then (if K then gw V 27 3 (V 27 3 + 1) else gw V 27 5 (V 27 5 + 1)) else gw V 27 4 (V 27 4 + 1)
abbrev cJudge (V : gF) (P K : Prop) : Prop := ¬ 0 < V 27 1 ∧ P ∧ K
theorem cJudgeV_o {V : gF} {P K : Prop} [Decidable P] [Decidable K] {a b : Nat} (h : a ≠ 27 ∨ b = 2) : cJudgeV V P K a b = V a b := by
  have key : ∀ k x, k ≠ 2 → gw V 27 k x a b = V a b := by
    intro k x hk
    unfold gw
    by_cases h1 : a = 27
    · rcases h with h | h
      · exact absurd h1 h
      · rw [if_pos h1, if_neg (by omega)]
    · rw [if_neg h1]
  unfold cJudgeV
  split
  · exact key 1 _ (by decide)
  · split
    · split
      · exact key 3 _ (by decide)
      · exact key 5 _ (by decide)
    · exact key 4 _ (by decide)
def cRunV (F V : gF) (tol : Int32) (K : Prop) [Decidable K] (pr t : Nat) : gF := gw (gw (cJudgeV V (cRight F tol) K) 27 2 (nI (pr + 1))) 18 8 (nI (cFol (pr + 1) (cDrift F (pr + 1)) t).2)
def cRunF (F : gF) (pr t : Nat) : gF := (cFol (pr + 1) (cDrift F (pr + 1)) t).1
def cBeg (F : gF) : Nat → gF
  | 0 => F
  | n + 1 => gw (gw (gw (cBeg F n) 34 n 0) 35 n 0) 36 n (nI n)
def cTakF (F : gF) (G : Prop) [Decidable G] (h w : Nat) : gF := if w = 0 then F else if G then gw (gw F 34 (F 36 h).toNatClampNeg (F 34 (F 36 h).toNatClampNeg + 1)) 35 (F 36 h).toNatClampNeg 1 else gw (gw F 34 (F 36 h).toNatClampNeg (F 34 (F 36 h).toNatClampNeg + 1)) 36 ((h + w) % 200) (nI (F 36 h).toNatClampNeg)
def cTakV (V : gF) (G : Prop) [Decidable G] (h w : Nat) : gF := if w = 0 then V else if G then gw (gw V 33 5 (nI (w - 1))) 33 4 (nI ((h + 1) % 200)) else gw V 33 4 (nI ((h + 1) % 200))
def cPrn (F : gF) (c k : Nat) : Int32 := cCurve (F (14 + k) c) (F 2 k)
def cTkF (F : gF) : Nat → gF
  | 0 => F
  | n + 1 => gw (cTkF F n) (39 + n / 64) (n % 64) (cPrn F (n % 64) (n / 64))
def cTkN (F : gF) : Nat → Int32
  | 0 => 0
  | n + 1 => cTkN F n + cPrn F (n % 64) (n / 64)
def cDif (F : gF) (c : Nat) : Nat → Int32
  | 0 => 0
  | n + 1 => cDif F c n + gabs (cPrn F c n - F (39 + n) c)
theorem cTkF_lo {F : gF} {a b : Nat} (h : a < 39) : ∀ {n : Nat}, cTkF F n a b = F a b := by
  intro n
  induction n with
  | zero => rfl
  | succ n ih =>
    simp only [cTkF]
    rw [gw_n _ _ _ (by omega)]
    exact ih
theorem cTkF_prn {F : gF} {c k n : Nat} (hk : k < 4) : cPrn (cTkF F n) c k = cPrn F c k := by
  unfold cPrn
  rw [cTkF_lo (by omega), cTkF_lo (by omega)]
theorem cTkF_s {F : gF} {k q : Nat} (hq : q < 64) : cTkF F (k * 64 + (q + 1)) = gw (cTkF F (k * 64 + q)) (39 + k) q (cPrn F q k) := by
  obtain ⟨h1, h2⟩ := cMk_div (k := k) hq
  rw [show k * 64 + (q + 1) = k * 64 + q + 1 by omega]
  simp only [cTkF, h1, h2]
theorem cTkN_s {F : gF} {k q : Nat} (hq : q < 64) : cTkN F (k * 64 + (q + 1)) = cTkN F (k * 64 + q) + cPrn F q k := by
  obtain ⟨h1, h2⟩ := cMk_div (k := k) hq
  rw [show k * 64 + (q + 1) = k * 64 + q + 1 by omega]
  simp only [cTkN, h1, h2]
