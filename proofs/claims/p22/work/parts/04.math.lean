theorem gC_r9 {ad : Nat → Nat} {cs : Nat → ClassId} {o : gO} {v : Nat → Int32} {k : Nat} (h : k < 3) (f : Nat → Int32) : gC ad cs o f v (9 + k) = .inl (cs 0, 64, .inl f) := by
  have h2 : k = 0 ∨ k = 1 ∨ k = 2 := by omega
  rcases h2 with h3 | h3 | h3 <;> subst h3 <;> rfl
theorem gC_r14 {ad : Nat → Nat} {cs : Nat → ClassId} {o : gO} {v : Nat → Int32} {k : Nat} (h : k < 4) (f : Nat → Int32) : gC ad cs o f v (14 + k) = .inl (cs 0, 64, .inl f) := by
  have h2 : k = 0 ∨ k = 1 ∨ k = 2 ∨ k = 3 := by omega
  rcases h2 with h3 | h3 | h3 | h3 <;> subst h3 <;> rfl
theorem gC_r29 {ad : Nat → Nat} {cs : Nat → ClassId} {o : gO} {v : Nat → Int32} {k : Nat} (h : k < 4) (f : Nat → Int32) : gC ad cs o f v (29 + k) = .inl (cs 0, 8, .inl f) := by
  have h2 : k = 0 ∨ k = 1 ∨ k = 2 ∨ k = 3 := by omega
  rcases h2 with h3 | h3 | h3 | h3 <;> subst h3 <;> rfl
theorem gC_r39 {ad : Nat → Nat} {cs : Nat → ClassId} {o : gO} {v : Nat → Int32} {k : Nat} (h : k < 4) (f : Nat → Int32) : gC ad cs o f v (39 + k) = .inl (cs 0, 64, .inl f) := by
  have h2 : k = 0 ∨ k = 1 ∨ k = 2 ∨ k = 3 := by omega
  rcases h2 with h3 | h3 | h3 | h3 <;> subst h3 <;> rfl
def gmin (x y : Int32) : Int32 := if y < x then y else x
def gmax (x y : Int32) : Int32 := if x < y then y else x
def gabs (x : Int32) : Int32 := if 0 ≤ x then x else 0 - x
def cBlk (F V : gF) (c : Nat) : Int32 := gmin (100 - F 9 c) (gmin (100 - F 10 c) (100 - F 11 c)) * V 1 0 / 100
def cThr (F V : gF) (c : Nat) : Int32 := 100 - F 9 c + (100 - F 10 c) + (100 - F 11 c) - 3 * cBlk F V c
def cOwn (F V : gF) (c k : Nat) : Int32 := 100 - F (9 + k) c - cBlk F V c
def cAhead (F V : gF) (c k : Nat) : Int32 := if k = 3 then cBlk F V c else if cThr F V c ≤ 0 then cOwn F V c k else if cThr F V c + cBlk F V c ≤ V 1 1 then cOwn F V c k else cOwn F V c k * (V 1 1 - cBlk F V c) / cThr F V c
def cLight (F : gF) (c : Nat) : Int32 := F 9 c + F 10 c + F 11 c
def cSide (F V : gF) (c q k : Nat) : Int32 := if cLight F c < cLight F q then cAhead F V q k else 0
def cW1 (F V : gF) (c k : Nat) : Int32 := if 8 ≤ c then gmax (cAhead F V c k) (cSide F V c (c - 8) k) else cAhead F V c k
def cW2 (F V : gF) (c k : Nat) : Int32 := if c < 56 then gmax (cW1 F V c k) (cSide F V c (c + 8) k) else cW1 F V c k
def cW3 (F V : gF) (c k : Nat) : Int32 := if 0 < c % 8 then gmax (cW2 F V c k) (cSide F V c (c - 1) k) else cW2 F V c k
def cW4 (F V : gF) (c k : Nat) : Int32 := if c % 8 < 7 then gmax (cW3 F V c k) (cSide F V c (c + 1) k) else cW3 F V c k
def cWant (F V : gF) (c k : Nat) : Int32 := if k = 3 then cAhead F V c k else if V 1 2 = 0 then cAhead F V c k else cW4 F V c k
def cCurve (t g : Int32) : Int32 := t + g * t * (100 - t) / 2500
def cLeast (w g : Int32) : Nat → Nat → Nat
  | 0, t => t
  | n + 1, t => if cCurve (nI t) g < w then cLeast w g n (t + 1) else t
def cTint (w g : Int32) : Nat := cLeast w g 100 0
def cSum (F : gF) (k q : Nat) : Nat → Int32
  | 0 => 0
  | n + 1 => cSum F k q n + F (14 + k) (n * 8 + q)
def cDot1 (F : gF) (k b : Nat) : Nat → Int32 × Bool
  | 0 => (0, false)
  | n + 1 => let e := (cDot1 F k b n).1 + F (14 + k) (b + n); if 50 ≤ e then (e + (-100), true) else (e, false)
def cPlate (F V : gF) (k c : Nat) : Nat := cTint (cWant F V c k) (F 2 k)
/-- the tints when n of the 256 are made, and how many are other -/
def cMkF (F V : gF) : Nat → gF
  | 0 => F
  | n + 1 => if nI (cPlate F V (n / 64) (n % 64)) = cMkF F V n (14 + n / 64) (n % 64) then cMkF F V n else gw (cMkF F V n) (14 + n / 64) (n % 64) (nI (cPlate F V (n / 64) (n % 64)))
def cMkN (F V : gF) : Nat → Int32
  | 0 => 0
  | n + 1 => if nI (cPlate F V (n / 64) (n % 64)) = cMkF F V n (14 + n / 64) (n % 64) then cMkN F V n else cMkN F V n + 1
theorem g_pos0 {x : Int32} (h : ¬ x ≤ 0) : ¬ x = 0 := fun z => h (by rw [z]; exact Int32.le_refl _)
theorem cMkF_lo {F V : gF} {a b : Nat} (h : a < 14) : ∀ {n : Nat}, cMkF F V n a b = F a b := by
  intro n
  induction n with
  | zero => rfl
  | succ n ih =>
    simp only [cMkF]
    split
    · exact ih
    · rw [gw_n _ _ _ (by omega)]
      exact ih
theorem cAhead_cong {F G V : gF} {c k : Nat} (hk : k < 4) (h : ∀ a, a < 14 → ∀ b, F a b = G a b) : cAhead F V c k = cAhead G V c k := by
  have hb : cBlk F V c = cBlk G V c := by
    unfold cBlk
    rw [h 9 (by decide), h 10 (by decide), h 11 (by decide)]
  have ht : cThr F V c = cThr G V c := by
    unfold cThr
    rw [hb, h 9 (by decide), h 10 (by decide), h 11 (by decide)]
  unfold cAhead
  by_cases h3 : k = 3
  · rw [if_pos h3, if_pos h3, hb]
  · have ho : cOwn F V c k = cOwn G V c k := by
      unfold cOwn
      rw [hb, h (9 + k) (by omega)]
    rw [hb, ht, ho]
theorem cSide_cong {F G V : gF} {c q k : Nat} (hk : k < 4) (h : ∀ a, a < 14 → ∀ b, F a b = G a b) : cSide F V c q k = cSide G V c q k := by
  unfold cSide cLight
  rw [cAhead_cong hk h, h 9 (by decide), h 10 (by decide), h 11 (by decide), h 9 (by decide), h 10 (by decide), h 11 (by decide)]
theorem cWant_cong {F G V : gF} {c k : Nat} (hk : k < 4) (h : ∀ a, a < 14 → ∀ b, F a b = G a b) : cWant F V c k = cWant G V c k := by
  unfold cWant cW4 cW3 cW2 cW1
  simp only [cAhead_cong hk h, cSide_cong hk h]
theorem cMkF_want {F V : gF} {c k n : Nat} (hk : k < 4) : cWant (cMkF F V n) V c k = cWant F V c k := cWant_cong hk (fun _ ha _ => cMkF_lo ha)
theorem cMk_div {k q : Nat} (hq : q < 64) : (k * 64 + q) / 64 = k ∧ (k * 64 + q) % 64 = q := by omega
theorem cMkF_eq {F V : gF} {k q : Nat} (hq : q < 64) (h : nI (cPlate F V k q) = cMkF F V (k * 64 + q) (14 + k) q) : cMkF F V (k * 64 + (q + 1)) = cMkF F V (k * 64 + q) := by
  obtain ⟨h1, h2⟩ := cMk_div (k := k) hq
  rw [show k * 64 + (q + 1) = k * 64 + q + 1 by omega]
  simp only [cMkF, h1, h2]
  rw [if_pos h]
theorem cMkF_ne {F V : gF} {k q : Nat} (hq : q < 64) (h : ¬ nI (cPlate F V k q) = cMkF F V (k * 64 + q) (14 + k) q) : cMkF F V (k * 64 + (q + 1)) = gw (cMkF F V (k * 64 + q)) (14 + k) q (nI (cPlate F V k q)) := by
  obtain ⟨h1, h2⟩ := cMk_div (k := k) hq
  rw [show k * 64 + (q + 1) = k * 64 + q + 1 by omega]
  simp only [cMkF, h1, h2]
  rw [if_neg h]
theorem cMkN_eq {F V : gF} {k q : Nat} (hq : q < 64) (h : nI (cPlate F V k q) = cMkF F V (k * 64 + q) (14 + k) q) : cMkN F V (k * 64 + (q + 1)) = cMkN F V (k * 64 + q) := by
  obtain ⟨h1, h2⟩ := cMk_div (k := k) hq
  rw [show k * 64 + (q + 1) = k * 64 + q + 1 by omega]
  simp only [cMkN, h1, h2]
  rw [if_pos h]
theorem cMkN_ne {F V : gF} {k q : Nat} (hq : q < 64) (h : ¬ nI (cPlate F V k q) = cMkF F V (k * 64 + q) (14 + k) q) : cMkN F V (k * 64 + (q + 1)) = cMkN F V (k * 64 + q) + 1 := by
  obtain ⟨h1, h2⟩ := cMk_div (k := k) hq
  rw [show k * 64 + (q + 1) = k * 64 + q + 1 by omega]
  simp only [cMkN, h1, h2]
  rw [if_neg h]
