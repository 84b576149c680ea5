theorem cFol_pos {pr n : Nat} {F : gF} (h : (cFol pr F n).1 23 n ≤ nI pr) : cFol pr F (n + 1) = (cMove (cFol pr F n).1 ((cFol pr F n).1 24 n).toNatClampNeg ((cFol pr F n).1 25 n) ((cFol pr F n).1 26 n), (cFol pr F n).2) := by
  simp only [cFol]
  rw [if_pos h]
theorem cFol_neg {pr n : Nat} {F : gF} (h : ¬ (cFol pr F n).1 23 n ≤ nI pr) : cFol pr F (n + 1) = (cKeep (cFol pr F n).1 (cFol pr F n).2 ((cFol pr F n).1 24 n) ((cFol pr F n).1 25 n) ((cFol pr F n).1 26 n) ((cFol pr F n).1 23 n), (cFol pr F n).2 + 1) := by
  simp only [cFol]
  rw [if_neg h]
theorem sim_mv {F V F2 V2 C W : gF} {n : Nat} (hs : sim F V F2 V2 C W) : sim F V (gw (gw F2 51 (F2 56 n).toNatClampNeg (F2 51 (F2 56 n).toNatClampNeg + F2 57 n)) 52 (F2 56 n).toNatClampNeg (F2 52 (F2 56 n).toNatClampNeg + F2 58 n)) V2 (cMove C (C 24 n).toNatClampNeg (C 25 n) (C 26 n)) W := by
  unfold cMove
  rw [← hs.1 24 (by decide) n, ← hs.1 25 (by decide) n, ← hs.1 26 (by decide) n, ← hs.1 19 (by decide) _, ← hs.1 20 (by decide) _]
  exact hs.w51.w52
theorem sim_dr {F V F2 V2 C W : gF} {n : Nat} (hs : sim F V F2 V2 C W) : sim F V (gw (gw F2 51 n (F2 51 n + F2 53 n)) 52 n (F2 52 n + F2 54 n)) V2 (cMove C n (C 21 n) (C 22 n)) W := by
  unfold cMove
  rw [← hs.1 21 (by decide) n, ← hs.1 22 (by decide) n, ← hs.1 19 (by decide) _, ← hs.1 20 (by decide) _]
  exact hs.w51.w52
theorem sim_kp {F V F2 V2 C W : gF} {k n : Nat} (hs : sim F V F2 V2 C W) : sim F V (gw (gw (gw (gw F2 56 k (F2 56 n)) 57 k (F2 57 n)) 58 k (F2 58 n)) 59 k (F2 59 n)) V2 (cKeep C k (C 24 n) (C 25 n) (C 26 n) (C 23 n)) W := by
  rw [← mKeep, ← hs.1 24 (by decide) n, ← hs.1 25 (by decide) n, ← hs.1 26 (by decide) n, ← hs.1 23 (by decide) n]
  exact hs.w56.w57.w58.w59
theorem mFol_at {pr n a : Nat} {G : gF} (h : a ≠ 19) (h2 : a ≠ 20) : (cFol pr (cDrift G pr) n).1 a n = G a n := by
  rw [cFol_hi h h2 n (Nat.le_refl n), cDrift_hi h h2]
theorem cMove_gw {F : gF} {i k u : Nat} {x p q : Int32} (h : i < 19 ∨ 26 < i) : cMove (gw F i k x) u p q = gw (cMove F u p q) i k x := by
  unfold cMove
  rw [gw_n _ _ _ (show 19 ≠ i by omega), gw_n _ _ _ (show 20 ≠ i by omega), gw_comm (i := i) (j := 19) (by omega), gw_comm (i := i) (j := 20) (by omega)]
theorem cKeep_gw {F : gF} {i k n : Nat} {x u p q d : Int32} (h : i < 19 ∨ 26 < i) : cKeep (gw F i k x) n u p q d = gw (cKeep F n u p q d) i k x := by
  unfold cKeep
  rw [gw_comm (i := i) (j := 23) (by omega), gw_comm (i := i) (j := 24) (by omega), gw_comm (i := i) (j := 25) (by omega), gw_comm (i := i) (j := 26) (by omega)]
theorem cDr_gw {F : gF} {i k : Nat} {x : Int32} (h : i < 19 ∨ 26 < i) : ∀ n, cDr (gw F i k x) n = gw (cDr F n) i k x
  | 0 => rfl
  | n + 1 => by
    simp only [cDr]
    rw [cDr_gw h n, gw_n _ _ _ (show 21 ≠ i by omega), gw_n _ _ _ (show 22 ≠ i by omega), cMove_gw h]
theorem cDrift_gw {F : gF} {i k pr : Nat} {x : Int32} (h : i < 19 ∨ 26 < i) : cDrift (gw F i k x) pr = gw (cDrift F pr) i k x := by
  unfold cDrift
  split
  · exact cDr_gw h 4
  · rfl
theorem cFol_gw {F : gF} {i k pr : Nat} {x : Int32} (h : i < 19 ∨ 26 < i) : ∀ n, cFol pr (gw F i k x) n = (gw (cFol pr F n).1 i k x, (cFol pr F n).2)
  | 0 => rfl
  | n + 1 => by
    have ih := cFol_gw (F := F) (k := k) (pr := pr) (x := x) h n
    by_cases hc : (cFol pr F n).1 23 n ≤ nI pr
    · rw [cFol_pos hc, cFol_pos (by rw [ih]; dsimp only; rw [gw_n _ _ _ (show 23 ≠ i by omega)]; exact hc), ih]
      dsimp only
      rw [gw_n _ _ _ (show 24 ≠ i by omega), gw_n _ _ _ (show 25 ≠ i by omega), gw_n _ _ _ (show 26 ≠ i by omega), cMove_gw h]
    · rw [cFol_neg hc, cFol_neg (by rw [ih]; dsimp only; rw [gw_n _ _ _ (show 23 ≠ i by omega)]; exact hc), ih]
      dsimp only
      rw [gw_n _ _ _ (show 24 ≠ i by omega), gw_n _ _ _ (show 25 ≠ i by omega), gw_n _ _ _ (show 26 ≠ i by omega), gw_n _ _ _ (show 23 ≠ i by omega), cKeep_gw h]
theorem cRunF_gw {F : gF} {i k pr t : Nat} {x : Int32} (h : i < 19 ∨ 26 < i) : cRunF (gw F i k x) pr t = gw (cRunF F pr t) i k x := by
  unfold cRunF
  rw [cDrift_gw h, cFol_gw h]
theorem cTakF_run {F : gF} {G : Prop} [Decidable G] {h w pr t : Nat} : cTakF (cRunF F pr t) G h w = cRunF (cTakF F G h w) pr t := by
  unfold cTakF
  rw [cRunF_o (a := 36) (by decide) (by decide) (by decide), cRunF_o (a := 34) (by decide) (by decide) (by decide)]
  by_cases h0 : w = 0
  · rw [if_pos h0, if_pos h0]
  · rw [if_neg h0, if_neg h0]
    by_cases h1 : G
    · rw [if_pos h1, if_pos h1, cRunF_gw (by decide), cRunF_gw (by decide)]
    · rw [if_neg h1, if_neg h1, cRunF_gw (by decide), cRunF_gw (by decide)]
theorem cFol2_tak {F : gF} {G : Prop} [Decidable G] {h w p t : Nat} : (cFol p (cDrift (cTakF F G h w) p) t).2 = (cFol p (cDrift F p) t).2 := by
  unfold cTakF
  by_cases h0 : w = 0
  · rw [if_pos h0]
  · rw [if_neg h0]
    by_cases h1 : G
    · rw [if_pos h1, cDrift_gw (by decide), cDrift_gw (by decide), cFol_gw (by decide), cFol_gw (by decide)]
    · rw [if_neg h1, cDrift_gw (by decide), cDrift_gw (by decide), cFol_gw (by decide), cFol_gw (by decide)]
theorem cTakV_gw {V : gF} {G : Prop} [Decidable G] {h w k : Nat} {x : Int32} : cTakV (gw V 18 k x) G h w = gw (cTakV V G h w) 18 k x := by
  unfold cTakV
  by_cases h0 : w = 0
  · rw [if_pos h0, if_pos h0]
  · rw [if_neg h0, if_neg h0]
    by_cases h1 : G
    · rw [if_pos h1, if_pos h1, gw_comm (i := 18) (j := 33) (by decide), gw_comm (i := 18) (j := 33) (by decide)]
    · rw [if_neg h1, if_neg h1, gw_comm (i := 18) (j := 33) (by decide)]
theorem cRight_cong {F G : gF} {tol : Int32} (h : ∀ b, F 19 b = G 19 b) (h2 : ∀ b, F 20 b = G 20 b) : cRight F tol = cRight G tol := by
  simp only [cRight, cOff, h, h2]
theorem cEven_cong {F G : gF} (h : ∀ a, a < 43 → ∀ b, F a b = G a b) : cEven F = cEven G := by
  have h1 : ∀ u, u < 4 → ∀ q, cDens F u q = cDens G u q := by
    intro u hu q
    have h2 : ∀ n, cSum F u q n = cSum G u q n := by
      intro n
      induction n with
      | zero => rfl
      | succ n ih =>
        simp only [cSum]
        rw [ih, h _ (by omega)]
    unfold cDens
    rw [h2, h _ (by omega)]
  apply propext
  refine ⟨fun z u hu q hq y => z u hu q hq ?_, fun z u hu q hq y => z u hu q hq ?_⟩
  · rw [cBad, h1 u hu q]
    exact y
  · rw [cBad, ← h1 u hu q]
    exact y
