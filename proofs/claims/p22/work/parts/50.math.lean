/-! what holds of a house and of the law's own arrays: r 43, k 44, t 45, c 46, d 47 -/
def PR (F V : gF) : Prop := F 43 0 = V 1 0 ∧ F 43 1 = V 1 1 ∧ F 43 2 = V 1 2 ∧ (∀ i, i < 4 → F 43 (3 + i) = F 2 i) ∧ F 43 7 = V 1 3 ∧ F 43 8 = V 1 4
def PK (F : gF) : Prop := ∀ u q, u < 4 → q < 8 → F 44 (8 * u + q) = F (29 + u) q
def PD (F : gF) : Prop := ∀ u, u < 4 → F 47 (2 * u) = F 21 u ∧ F 47 (2 * u + 1) = F 22 u
def PT (F : gF) (N b : Nat) : Prop := ∀ j, j < N → ∃ q g, q ≤ b ∧ g ≤ 1 ∧ F 34 j = nI q ∧ F 35 j = nI g ∧ F 45 j = nI (1000 * g + q)
def PL (F V : gF) (N : Nat) : Prop := ∀ h w, h < 200 → w ≤ 200 → V 33 4 = nI h → V 33 5 = nI w → ∀ i, i < w → ∃ q, q < N ∧ F 36 ((h + i) % 200) = nI q
def PC (F V : gF) (N w : Nat) : Prop := w ≤ N ∧ N ≤ 40 ∧ V 33 3 = nI N ∧ V 33 5 = nI w ∧ F 46 0 = nI N ∧ F 46 1 = nI (N - w) ∧ F 46 2 = V 27 1 ∧ F 46 3 = V 27 2 ∧ F 46 4 = V 27 3 ∧ F 46 5 = V 27 4 ∧ F 46 6 = V 27 5
def PB (F V : gF) : Prop := (∃ d, d ≤ 9 ∧ V 1 3 = nI d) ∧ (∀ k c, k < 4 → c < 64 → ∃ x, x ≤ 100 ∧ F (14 + k) c = nI x) ∧ V 3 3 = 0
def PJ (F V : gF) (b : Nat) : Prop := ∃ N w, PC F V N w ∧ PT F N b ∧ PL F V N
def PI (F V : gF) (b : Nat) : Prop := CI F V b ∧ PB F V ∧ PR F V ∧ PK F ∧ PD F ∧ PJ F V b
theorem no2 {f : Int32} {x y : String} (hf : f = 0) : ∀ a, (a = x ∧ f = 1) ∨ (a = y ∧ f = 2) → False := fun _ h => h.elim (fun z => absurd (hf.symm.trans z.2) (by decide)) (fun z => absurd (hf.symm.trans z.2) (by decide))
theorem no1 {f : Int32} {x : String} (hf : f = 0) : ∀ a, (a = x ∧ f = 1) → False := fun _ z => absurd (hf.symm.trans z.2) (by decide)
theorem no3 {f : Int32} {x y w : String} (hf : f = 0) : ∀ a, (a = x ∧ f = 1) ∨ (a = y ∧ f = 2) ∨ (a = w ∧ f = 3) → False := fun _ h => h.elim (fun z => absurd (hf.symm.trans z.2) (by decide)) (fun h => h.elim (fun z => absurd (hf.symm.trans z.2) (by decide)) (fun z => absurd (hf.symm.trans z.2) (by decide)))
theorem gIdx_nI {k n : Nat} (h : k < n) (hn : n < 2 ^ 31) : gIdx (nI k) (nI n) = true := gIdx_t (nI_pos (by omega)) ((nI_ltI (by omega) hn).mpr h)
theorem gRng_nI {k a b : Nat} (h1 : a ≤ k) (h2 : k ≤ b) (hb : b < 2 ^ 31) : gRng (nI k) (nI a) (nI b) = true := gRng_t (fun z => by have := (nI_ltI (by omega) (by omega)).mp z; omega) ((nI_leI (by omega) hb).mpr h2)
theorem gI4 {u : Nat} (h : u < 4) : gIdx (nI u) 4 = true := gIdx_nI h (by decide)
theorem gI8 {u : Nat} (h : u < 8) : gIdx (nI u) 8 = true := gIdx_nI h (by decide)
theorem gI64 {u : Nat} (h : u < 64) : gIdx (nI u) 64 = true := gIdx_nI h (by decide)
theorem gR100 {k : Nat} (h : k ≤ 100) : gRng (nI k) 0 100 = true := gRng_nI (a := 0) (b := 100) (by omega) h (by decide)
theorem gR9 {k : Nat} (h : k ≤ 9) : gRng (nI k) 0 9 = true := gRng_nI (a := 0) (b := 9) (by omega) h (by decide)
theorem gR200 {k : Nat} (h1 : 1 ≤ k) (h : k ≤ 200) : gRng (nI k) 1 200 = true := gRng_nI (a := 1) (b := 200) h1 h (by decide)
theorem fInk0 {c k : Nat} {w : Int32} (hc : c < 64) (hk : k < 4) (hw : gRng w 0 4 = true) : fInk (nI c) (nI k) w = 0 := by
  unfold fInk
  rw [if_pos ⟨gI64 hc, gI4 hk⟩, if_pos hw]
theorem fDot0 {c k : Nat} (hc : c < 64) (hk : k < 4) : fDot (nI c) (nI k) = 0 := by
  unfold fDot
  rw [if_pos ⟨gI64 hc, gI4 hk⟩]
theorem fUni0 {u w : Nat} (hu : u < 4) (hw : w ≤ 9) : fUni (nI u) (nI w) = 0 := by
  unfold fUni
  rw [if_pos (gI4 hu), if_pos (gR9 hw)]
theorem rInk_0 {F V : gF} {c k : Nat} (hc : c < 64) (hk : k < 4) : rInk F V (nI c).toNatClampNeg (nI k).toNatClampNeg 0 = cAhead F V c k := by
  rw [nI_clamp (by omega), nI_clamp (by omega)]
  rfl
theorem rInk_1 {F V : gF} {c k : Nat} (hc : c < 64) (hk : k < 4) : rInk F V (nI c).toNatClampNeg (nI k).toNatClampNeg 1 = cWant F V c k := by
  rw [nI_clamp (by omega), nI_clamp (by omega)]
  rfl
theorem rInk_2 {F V : gF} {c k : Nat} (hc : c < 64) (hk : k < 4) : rInk F V (nI c).toNatClampNeg (nI k).toNatClampNeg 2 = nI (cPlate F V k c) := by
  rw [nI_clamp (by omega), nI_clamp (by omega)]
  rfl
theorem rInk_3 {F V : gF} {c k : Nat} (hc : c < 64) (hk : k < 4) : rInk F V (nI c).toNatClampNeg (nI k).toNatClampNeg 3 = F (14 + k) c := by
  rw [nI_clamp (by omega), nI_clamp (by omega)]
  rfl
theorem rInk_4 {F V : gF} {c k : Nat} (hc : c < 64) (hk : k < 4) : rInk F V (nI c).toNatClampNeg (nI k).toNatClampNeg 4 = cCurve (F (14 + k) c) (F 2 k) := by
  rw [nI_clamp (by omega), nI_clamp (by omega)]
  rfl
theorem rUni_0 {F : gF} {u : Nat} (hu : u < 4) : rUni F (nI u).toNatClampNeg (0 : Int32).toNatClampNeg = F 19 u := by
  rw [nI_clamp (by omega)]
  rfl
theorem rUni_1 {F : gF} {u : Nat} (hu : u < 4) : rUni F (nI u).toNatClampNeg (1 : Int32).toNatClampNeg = F 20 u := by
  rw [nI_clamp (by omega)]
  rfl
theorem rUni_d {F : gF} {u q : Nat} (hu : u < 4) (hq : q < 8) : rUni F (nI u).toNatClampNeg (nI (2 + q)).toNatClampNeg = cDens F u q := by
  rw [nI_clamp (by omega), nI_clamp (by omega)]
  unfold rUni
  rw [if_neg (by omega), if_neg (by omega), Nat.add_sub_cancel_left]
theorem CI.z12 {F V : gF} {b : Nat} (h : CI F V b) : narrow .boolean (.int (V 1 2)) = .int (V 1 2) := by
  rcases h.2.2.2.2.2.1 with h9 | h9 <;> rw [h9] <;> decide
theorem CI.z37 {F V : gF} {b : Nat} (h : CI F V b) : narrow .boolean (.int (V 37 1)) = .int (V 37 1) := by
  rcases h.2.2.2.2.1 with h9 | h9 <;> rw [h9] <;> decide
theorem CI.z35 {F V : gF} {b : Nat} (h : CI F V b) : ∀ j, narrow .boolean (.int (F 35 j)) = .int (F 35 j) := by
  intro j
  rcases h.2.2.2.1 j with h9 | h9 <;> rw [h9] <;> decide
/-! a cell's inks -/
theorem gmax_ge {a b : Int32} {lo : Nat} (ha : ∃ x, lo ≤ x ∧ x ≤ 100 ∧ a = nI x) (hb : ∃ x, x ≤ 100 ∧ b = nI x) : ∃ x, lo ≤ x ∧ x ≤ 100 ∧ gmax a b = nI x := by
  obtain ⟨x, h1, hx, rfl⟩ := ha
  obtain ⟨y, hy, rfl⟩ := hb
  exact ⟨max x y, by omega, by omega, gmax_n (by omega) (by omega)⟩
theorem cell_n {F V : gF} {c k : Nat} (h : cCB F V) (hc : c < 64) (hk : k < 4) : ∃ a w, a ≤ w ∧ w ≤ 100 ∧ cAhead F V c k = nI a ∧ cWant F V c k = nI w ∧ (k = 3 ∨ V 1 2 = 0 → w = a) := by
  obtain ⟨a, ha, ea⟩ := cAhead_n h hc hk
  have h0 : ∃ x, a ≤ x ∧ x ≤ 100 ∧ cAhead F V c k = nI x := ⟨a, Nat.le_refl _, ha, ea⟩
  have h1 : ∃ x, a ≤ x ∧ x ≤ 100 ∧ cW1 F V c k = nI x := by
    unfold cW1
    split
    · exact gmax_ge h0 (cSide_n h (by omega) hk)
    · exact h0
  have h2 : ∃ x, a ≤ x ∧ x ≤ 100 ∧ cW2 F V c k = nI x := by
    unfold cW2
    split
    · exact gmax_ge h1 (cSide_n h (by omega) hk)
    · exact h1
  have h3 : ∃ x, a ≤ x ∧ x ≤ 100 ∧ cW3 F V c k = nI x := by
    unfold cW3
    split
    · exact gmax_ge h2 (cSide_n h (by omega) hk)
    · exact h2
  have h4 : ∃ x, a ≤ x ∧ x ≤ 100 ∧ cW4 F V c k = nI x := by
    unfold cW4
    split
    · exact gmax_ge h3 (cSide_n h (by omega) hk)
    · exact h3
  by_cases h5 : k = 3
  · exact ⟨a, a, Nat.le_refl _, ha, ea, by unfold cWant; rw [if_pos h5]; exact ea, fun _ => rfl⟩
  · by_cases h6 : V 1 2 = 0
    · exact ⟨a, a, Nat.le_refl _, ha, ea, by unfold cWant; rw [if_neg h5, if_pos h6]; exact ea, fun _ => rfl⟩
    · obtain ⟨w, hw, hw2, ew⟩ := h4
      exact ⟨a, w, hw, hw2, ea, by unfold cWant; rw [if_neg h5, if_neg h6]; exact ew, fun z => (z.elim (fun y => absurd y h5) (fun y => absurd y h6))⟩
theorem cLeast_n {w g : Int32} : ∀ n t, t ≤ cLeast w g n t ∧ cLeast w g n t ≤ t + n ∧ (cLeast w g n t < t + n → ¬ cCurve (nI (cLeast w g n t)) g < w) ∧ (t < cLeast w g n t → cCurve (nI (cLeast w g n t - 1)) g < w)
  | 0, t => ⟨Nat.le_refl _, Nat.le_refl _, fun h => absurd h (Nat.lt_irrefl _), fun h => absurd h (Nat.lt_irrefl _)⟩
  | n + 1, t => by
    simp only [cLeast]
    by_cases h : cCurve (nI t) g < w
    · rw [if_pos h]
      obtain ⟨h1, h2, h3, h4⟩ := cLeast_n (w := w) (g := g) n (t + 1)
      refine ⟨by omega, by omega, fun z => h3 (by omega), fun z => ?_⟩
      by_cases h5 : t + 1 < cLeast w g n (t + 1)
      · exact h4 h5
      · rw [show cLeast w g n (t + 1) - 1 = t by omega]
        exact h
    · rw [if_neg h]
      exact ⟨Nat.le_refl _, by omega, fun _ => h, fun z => absurd z (Nat.lt_irrefl _)⟩
theorem cTint_n {g : Int32} {w : Nat} (hw : w ≤ 100) : cTint (nI w) g ≤ 100 ∧ ¬ cCurve (nI (cTint (nI w) g)) g < nI w ∧ (0 < cTint (nI w) g → cCurve (nI (cTint (nI w) g - 1)) g < nI w) := by
  unfold cTint
  obtain ⟨_, h2, h3, h4⟩ := cLeast_n (w := nI w) (g := g) 100 0
  refine ⟨by omega, ?_, h4⟩
  by_cases h5 : cLeast (nI w) g 100 0 < 100
  · exact h3 (by omega)
  · rw [show cLeast (nI w) g 100 0 = 100 by omega, mCurve]
    exact fun z => by have := (nI_ltI (a := 100) (by decide) (by omega)).mp z; omega
/-- the four inks of a cell, together -/
def pS (F V : gF) (c : Nat) : Nat → Int32
  | 0 => 0
  | k + 1 => pS F V c k + cAhead F V c k
theorem div_sum {a b c d t l : Nat} (ht : a + b + c = t) (h0 : 0 < t) (hd : d ≤ l) : a * (l - d) / t + b * (l - d) / t + c * (l - d) / t + d ≤ l := by
  obtain ⟨m, rfl⟩ : ∃ m, l = m + d := ⟨l - d, by omega⟩
  rw [Nat.add_sub_cancel]
  have e : a * m + b * m + c * m = t * m := by rw [← Nat.add_mul, ← Nat.add_mul, ht]
  have h1 := Nat.div_add_mod (a * m) t
  have h2 := Nat.div_add_mod (b * m) t
  have h3 := Nat.div_add_mod (c * m) t
  have h4 : t * (a * m / t + b * m / t + c * m / t) ≤ t * m := by
    rw [Nat.mul_add, Nat.mul_add]
    omega
  have h5 := Nat.le_of_mul_le_mul_left h4 h0
  omega
theorem pS_n {F V : gF} {c : Nat} (h : cCB F V) (hc : c < 64) : ∃ s l, s ≤ l ∧ l ≤ 400 ∧ V 1 1 = nI l ∧ pS F V c 4 = nI s := by
  obtain ⟨r, g, b, q, hr, hg, hb, er, eg, eb, h1, h2, h3, eq⟩ := cBlk_n h hc
  have et := cThr_n hr hg hb er eg eb h1 h2 h3 eq
  obtain ⟨_, _, l, hl, hl2, el⟩ := h
  have eo : ∀ k, k < 3 → cOwn F V c k = nI (([100 - r, 100 - g, 100 - b].getD k 0) - q) := by
    intro k hk
    unfold cOwn
    rw [eq]
    have h5 : k = 0 ∨ k = 1 ∨ k = 2 := by omega
    rcases h5 with rfl | rfl | rfl
    · rw [show F (9 + 0) c = nI r from er, sub_n hr, pk_sub h1]; rfl
    · rw [show F (9 + 1) c = nI g from eg, sub_n hg, pk_sub h2]; rfl
    · rw [show F (9 + 2) c = nI b from eb, sub_n hb, pk_sub h3]; rfl
  have e0 := eo 0 (by decide)
  have e1 := eo 1 (by decide)
  have e2 := eo 2 (by decide)
  have eS : pS F V c 4 = 0 + cAhead F V c 0 + cAhead F V c 1 + cAhead F V c 2 + cAhead F V c 3 := rfl
  have e3 : cAhead F V c 3 = nI q := by unfold cAhead; rw [if_pos rfl]; exact eq
  obtain ⟨t, ht⟩ : ∃ t, t = 100 - r + (100 - g) + (100 - b) - 3 * q := ⟨_, rfl⟩
  rw [← ht] at et
  have h0 : (0 : Int32) = nI 0 := rfl
  have plain : (nI t ≤ 0 ∨ nI t + nI q ≤ nI l) → ∀ k, k < 3 → cAhead F V c k = cOwn F V c k := by
    intro z k hk
    unfold cAhead
    rw [if_neg (by omega), et, eq, el]
    rcases z with z | z
    · rw [if_pos z]
    · split
      · rfl
      · first | rfl | (rw [if_pos z])
  by_cases z : nI t ≤ 0 ∨ nI t + nI q ≤ nI l
  · have p := plain z
    rw [eS, p 0 (by decide), p 1 (by decide), p 2 (by decide), e0, e1, e2, e3, h0, nI_add, nI_add, nI_add, nI_add]
    refine ⟨_, l, ?_, hl2, el, rfl⟩
    show 0 + (100 - r - q) + (100 - g - q) + (100 - b - q) + q ≤ l
    rcases z with z | z
    · have := (nI_leI (b := 0) (by omega) (by decide)).mp z
      omega
    · rw [nI_add] at z
      have := (nI_leI (by omega) (by omega)).mp z
      omega
  · have z1 : ¬ nI t ≤ 0 := fun y => z (Or.inl y)
    have z2 : ¬ nI t + nI q ≤ nI l := fun y => z (Or.inr y)
    have ht0 : 0 < t := by
      by_cases y : t = 0
      · exact absurd (by rw [y]; exact Int32.le_refl _) z1
      · omega
    have p : ∀ k, k < 3 → cAhead F V c k = nI ((([100 - r, 100 - g, 100 - b].getD k 0) - q) * (l - q) / t) := by
      intro k hk
      unfold cAhead
      rw [if_neg (by omega), et, eq, el, if_neg z1, if_neg z2, eo k hk, pk_sub (show q ≤ l by omega), pk_mul]
      have hb9 : ([100 - r, 100 - g, 100 - b].getD k 0) - q ≤ 100 := by
        have h5 : k = 0 ∨ k = 1 ∨ k = 2 := by omega
        rcases h5 with rfl | rfl | rfl
        · show 100 - r - q ≤ 100; omega
        · show 100 - g - q ≤ 100; omega
        · show 100 - b - q ≤ 100; omega
      have h10 : ([100 - r, 100 - g, 100 - b].getD k 0 - q) * (l - q) ≤ 100 * 400 := Nat.mul_le_mul hb9 (by omega)
      exact pk_div (by omega) (by omega) (by omega)
    rw [eS, p 0 (by decide), p 1 (by decide), p 2 (by decide), e3, h0, nI_add, nI_add, nI_add, nI_add]
    refine ⟨_, l, ?_, hl2, el, rfl⟩
    have := div_sum (a := 100 - r - q) (b := 100 - g - q) (c := 100 - b - q) (d := q) (t := t) (l := l) (by omega) ht0 (by omega)
    show 0 + (100 - r - q) * (l - q) / t + (100 - g - q) * (l - q) / t + (100 - b - q) * (l - q) / t + q ≤ l
    omega
theorem pS_le {F V : gF} {c : Nat} (h : cCB F V) (hc : c < 64) : ¬ V 1 1 < pS F V c 4 := by
  obtain ⟨s, l, h1, h2, e1, e2⟩ := pS_n h hc
  rw [e1, e2]
  exact fun z => by have := (nI_ltI (by omega) (by omega)).mp z; omega
/-! densities -/
theorem densK : ∀ S, S < 801 → (if (-400 : Int32) + nI S < 0 then -(-(-400 + nI S) / 8 / 10) else (-400 + nI S) / 8 / 10) = (nI S - 400) / 8 / 10 := by decide +kernel
theorem cSum_n {F : gF} {k q : Nat} (h : ∀ k c, k < 4 → c < 64 → ∃ x, x ≤ 100 ∧ F (14 + k) c = nI x) (hk : k < 4) (hq : q < 8) : ∀ n, n ≤ 8 → ∃ s, s ≤ 100 * n ∧ cSum F k q n = nI s
  | 0, _ => ⟨0, by omega, rfl⟩
  | n + 1, hn => by
    obtain ⟨s, hs, es⟩ := cSum_n h hk hq n (by omega)
    obtain ⟨x, hx, ex⟩ := h k (n * 8 + q) hk (by omega)
    refine ⟨s + x, by omega, ?_⟩
    simp only [cSum]
    rw [es, ex, nI_add]
theorem dens_t {F : gF} {u q : Nat} (h : ∀ k c, k < 4 → c < 64 → ∃ x, x ≤ 100 ∧ F (14 + k) c = nI x) (hu : u < 4) (hq : q < 8) (y : Int32) (hy : y = F (29 + u) q) (c : -400 + cSum F u q 8 < 0) : 50 + y - (-(-(-400 + cSum F u q 8) / 8 / 10)) = cDens F u q := by
  obtain ⟨s, hs, es⟩ := cSum_n h hu hq 8 (by decide)
  have e := densK s (by omega)
  unfold cDens
  rw [es] at c ⊢
  rw [if_pos c] at e
  rw [e, hy]
  exact mDens
theorem dens_f {F : gF} {u q : Nat} (h : ∀ k c, k < 4 → c < 64 → ∃ x, x ≤ 100 ∧ F (14 + k) c = nI x) (hu : u < 4) (hq : q < 8) (y : Int32) (hy : y = F (29 + u) q) (c : ¬ -400 + cSum F u q 8 < 0) : 50 + y - (-400 + cSum F u q 8) / 8 / 10 = cDens F u q := by
  obtain ⟨s, hs, es⟩ := cSum_n h hu hq 8 (by decide)
  have e := densK s (by omega)
  unfold cDens
  rw [es] at c ⊢
  rw [if_neg c] at e
  rw [e, hy]
  exact mDens
/-! dots -/
theorem dot_s {F : gF} {k b n : Nat} : (cDot1 F k b (n + 1)) = if 49 < (cDot1 F k b n).1 + F (14 + k) (b + n) then ((cDot1 F k b n).1 + F (14 + k) (b + n) - 100, true) else ((cDot1 F k b n).1 + F (14 + k) (b + n), false) := by
  have h49 : ∀ x : Int32, 50 ≤ x ↔ 49 < x := fun x => by
    rw [Int32.le_iff_toInt_le, Int32.lt_iff_toInt_lt]
    show (50 : Int) ≤ _ ↔ (49 : Int) < _
    omega
  simp only [cDot1]
  by_cases h : 49 < (cDot1 F k b n).1 + F (14 + k) (b + n)
  · rw [if_pos h, if_pos ((h49 _).mpr h), Int32.sub_eq_add_neg]
  · rw [if_neg h, if_neg (fun z => h ((h49 _).mp z))]
theorem dot_v {F : gF} {k r i : Nat} (hr : r < 8) (hk : k < 4) (hi : i < 8) : (if (cDot1 F (nI k).toNatClampNeg ((nI (8 * r + i)).toNatClampNeg - (nI (8 * r + i)).toNatClampNeg % 8) ((nI (8 * r + i)).toNatClampNeg % 8 + 1)).2 = true then (1 : Int32) else 0) = if 49 < (cDot1 F k (8 * r) i).1 + F (14 + k) (8 * r + i) then 1 else 0 := by
  rw [nI_clamp (by omega), nI_clamp (by omega), show (8 * r + i) % 8 = i by omega, show 8 * r + i - i = 8 * r by omega, dot_s]
  by_cases h : 49 < (cDot1 F k (8 * r) i).1 + F (14 + k) (8 * r + i)
  · rw [if_pos h, if_pos h, if_pos rfl]
  · rw [if_neg h, if_neg h]
    rfl
theorem plate_n {F V : gF} {c k w : Nat} (hw : w ≤ 100) (ew : cWant F V c k = nI w) : ∃ t, t ≤ 100 ∧ cPlate F V k c = t ∧ ¬ cCurve (nI t) (F 2 k) < nI w ∧ (0 < t → cCurve (nI (t - 1)) (F 2 k) < nI w) := by
  obtain ⟨h1, h2, h3⟩ := cTint_n (g := F 2 k) hw
  exact ⟨cPlate F V k c, by unfold cPlate; rw [ew]; exact h1, rfl, by unfold cPlate; rw [ew]; exact h2, by unfold cPlate; rw [ew]; exact h3⟩
theorem fCop0 {V : gF} {j N : Nat} {w : Int32} (hN : V 33 3 = nI N) (hj : j < N) (hN2 : N ≤ 200) (hw : gRng w 0 1 = true) : fCop V (nI j) w = 0 := by
  unfold fCop
  rw [hN, if_pos (gIdx_nI hj (by omega)), if_pos hw]
theorem fCop1 {V : gF} {N : Nat} {w : Int32} (hN : V 33 3 = nI N) : fCop V (nI N) w = 1 := by
  unfold fCop
  rw [hN, if_neg]
  intro z
  exact (of_decide_eq_true z).2 (Int32.le_refl _)
theorem rCop_0 {F : gF} {j g : Nat} (hj : j < 200) (hg : g ≤ 1) (e : F 35 j = nI g) : rCop F (nI j).toNatClampNeg (0 : Int32).toNatClampNeg = nI g := by
  rw [nI_clamp (by omega)]
  show (if F 35 j = 0 then (0 : Int32) else 1) = _
  rw [e]
  have h2 : g = 0 ∨ g = 1 := by omega
  rcases h2 with rfl | rfl <;> decide
theorem rCop_1 {F : gF} {j : Nat} (hj : j < 200) : rCop F (nI j).toNatClampNeg (1 : Int32).toNatClampNeg = F 34 j := by
  rw [nI_clamp (by omega)]
  rfl
/-! correct and job, as the law calls them -/
theorem fCor0 {V : gF} {u : Nat} {x y : Int32} (hu : u < 4) (hx : gRng x (-50) 50 = true) (hy : gRng y (-50) 50 = true) : fCor V (nI u) x y = if V 18 8 < 20 then 0 else 3 := by
  unfold fCor
  rw [if_pos (gI4 hu), if_pos ⟨hx, hy⟩]
theorem fJob0 {V : gF} {n : Nat} (h1 : 1 ≤ n) (h2 : n ≤ 200) : fJob V (nI n) = if 0 < V 33 5 then 2 else 0 := by
  unfold fJob
  rw [if_pos (gR200 h1 h2)]
theorem fDif0 {V : gF} {c : Nat} (hc : c < 64) : fDif V (nI c) = if V 37 1 = 0 then 2 else 0 := by
  unfold fDif
  rw [if_pos (gI64 hc)]
theorem CI.tr0 {F V : gF} {b : Nat} (h : CI F V b) (h1 : ¬ V 1 2 = 1) : V 1 2 = 0 := by
  rcases h.2.2.2.2.2.1 with h9 | h9
  · exact h9
  · exact absurd h9 h1
theorem fCor_1 {V : gF} {u : Nat} {x y : Int32} (hu : u < 4) (hx : gRng x (-50) 50 = true) (hy : gRng y (-50) 50 = true) (h : fCor V (nI u) x y = 1) : False := by
  rw [fCor0 hu hx hy] at h
  split at h <;> exact absurd h (by decide)
theorem fCor_2 {V : gF} {u : Nat} {x y : Int32} (hu : u < 4) (hx : gRng x (-50) 50 = true) (hy : gRng y (-50) 50 = true) (h : fCor V (nI u) x y = 2) : False := by
  rw [fCor0 hu hx hy] at h
  split at h <;> exact absurd h (by decide)
theorem fCor_3 {V : gF} {u t : Nat} {x y : Int32} (hu : u < 4) (hx : gRng x (-50) 50 = true) (hy : gRng y (-50) 50 = true) (ht : V 18 8 = nI t) (ht2 : t ≤ 20) (h : fCor V (nI u) x y = 3) : t = 20 := by
  rw [fCor0 hu hx hy, ht] at h
  by_cases c : t = 20
  · exact c
  · rw [if_pos (m20n c ht2)] at h
    exact absurd h (by decide)
theorem fCor_0 {V : gF} {u t : Nat} {x y : Int32} (hu : u < 4) (hx : gRng x (-50) 50 = true) (hy : gRng y (-50) 50 = true) (ht : V 18 8 = nI t) (h : fCor V (nI u) x y = 0) : t ≠ 20 := by
  intro c
  rw [fCor0 hu hx hy, ht, if_neg (m20 c)] at h
  exact absurd h (by decide)
theorem fJob_1 {V : gF} {n : Nat} (h1 : 1 ≤ n) (h2 : n ≤ 200) (h : fJob V (nI n) = 1) : False := by
  rw [fJob0 h1 h2] at h
  split at h <;> exact absurd h (by decide)
theorem fJob_2 {V : gF} {n w : Nat} (h1 : 1 ≤ n) (h2 : n ≤ 200) (hw : V 33 5 = nI w) (h : fJob V (nI n) = 2) : w ≠ 0 := by
  intro c
  rw [fJob0 h1 h2, hw, c, if_neg (by decide)] at h
  exact absurd h (by decide)
theorem fJob_0 {V : gF} {n w : Nat} (h1 : 1 ≤ n) (h2 : n ≤ 200) (hw : V 33 5 = nI w) (hw2 : w ≤ 200) (h : fJob V (nI n) = 0) : w = 0 := by
  rw [fJob0 h1 h2, hw] at h
  by_cases c : w = 0
  · exact c
  · have h9 : (0 : Int32) < nI w := (nI_ltI (a := 0) (b := w) (by decide) (by omega)).mpr (by omega)
    rw [if_pos h9] at h
    exact absurd h (by decide)
theorem fDif_z {V : gF} {f : Int32} (h37 : V 37 1 = 0) (hf : f ≠ 2) (h : fDif V 0 = f) : False := by
  have e := fDif0 (V := V) (c := 0) (by decide)
  rw [if_pos h37] at e
  exact hf (h.symm.trans e)
theorem CI.t18 {F V : gF} {b : Nat} (h : CI F V b) : ∃ t, t ≤ 20 ∧ V 18 8 = nI t := by
  obtain ⟨⟨t, pr, hd, w, h1, h2, _⟩, _⟩ := h
  exact ⟨t, h1, h2⟩
/-- the line: its head, how many wait -/
theorem CI.line {F V : gF} {b : Nat} (h : CI F V b) : ∃ hd w, hd < 200 ∧ w ≤ 200 ∧ V 33 4 = nI hd ∧ V 33 5 = nI w ∧ ∀ i, i < w → ∃ q, q < 200 ∧ F 36 ((hd + i) % 200) = nI q ∧ F 35 q = 0 := by
  obtain ⟨⟨t, pr, hd, w, h1, h2, h3, h4, h5, h6, h7, h8, h9, h10, h11, h12⟩, _⟩ := h
  exact ⟨hd, w, h5, h6, h7, h8, h11⟩
theorem next_0 {w : Nat} {x : Int32} (h : w ≠ 0 → ∃ q, q < 200 ∧ x = nI q) (c : (if w = 0 then -1 else x) = -1) : w = 0 := by
  by_cases h0 : w = 0
  · exact h0
  · rw [if_neg h0] at c
    obtain ⟨q, hq, e⟩ := h h0
    rw [e] at c
    have h2 := nI_toInt (n := q) (by omega)
    rw [c] at h2
    have h3 : (-1 : Int32).toInt = -1 := by decide
    omega
