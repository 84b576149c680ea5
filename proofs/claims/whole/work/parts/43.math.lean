def cCB (F V : gF) : Prop := (∀ a c, 9 ≤ a → a < 12 → c < 64 → ∃ x, x ≤ 100 ∧ F a c = nI x) ∧ (∃ s, s ≤ 100 ∧ V 1 0 = nI s) ∧ ∃ l, 100 ≤ l ∧ l ≤ 400 ∧ V 1 1 = nI l
theorem gmin_n {a b : Nat} (ha : a < 2 ^ 31) (hb : b < 2 ^ 31) : gmin (nI a) (nI b) = nI (min a b) := by
  unfold gmin
  by_cases h : b < a
  · rw [if_pos ((nI_ltI hb ha).mpr h), Nat.min_eq_right (by omega)]
  · rw [if_neg (fun z => h ((nI_ltI hb ha).mp z)), Nat.min_eq_left (by omega)]
theorem sub_n {x : Nat} (h : x ≤ 100) : (100 : Int32) - nI x = nI (100 - x) := pk_sub (a := 100) h
theorem cBlk_n {F V : gF} {c : Nat} (h : cCB F V) (hc : c < 64) : ∃ r g b k, r ≤ 100 ∧ g ≤ 100 ∧ b ≤ 100 ∧ F 9 c = nI r ∧ F 10 c = nI g ∧ F 11 c = nI b ∧ k ≤ 100 - r ∧ k ≤ 100 - g ∧ k ≤ 100 - b ∧ cBlk F V c = nI k := by
  obtain ⟨h1, ⟨s, hs, es⟩, _⟩ := h
  obtain ⟨r, hr, er⟩ := h1 9 c (by decide) (by decide) hc
  obtain ⟨g, hg, eg⟩ := h1 10 c (by decide) (by decide) hc
  obtain ⟨b, hb, eb⟩ := h1 11 c (by decide) (by decide) hc
  have h2 : min (100 - r) (min (100 - g) (100 - b)) * s / 100 ≤ min (100 - r) (min (100 - g) (100 - b)) := by
    have h3 : min (100 - r) (min (100 - g) (100 - b)) * s ≤ min (100 - r) (min (100 - g) (100 - b)) * 100 := Nat.mul_le_mul_left _ hs
    omega
  refine ⟨r, g, b, min (100 - r) (min (100 - g) (100 - b)) * s / 100, hr, hg, hb, er, eg, eb, by omega, by omega, by omega, ?_⟩
  unfold cBlk
  rw [er, eg, eb, es, sub_n hr, sub_n hg, sub_n hb, gmin_n (by omega) (by omega), gmin_n (by omega) (by omega), pk_mul]
  have h4 : min (100 - r) (min (100 - g) (100 - b)) * s ≤ 100 * 100 := Nat.mul_le_mul (by omega) hs
  exact pk_div (d := 100) (by omega) (by decide) (by decide)
theorem cThr_n {F V : gF} {c r g b k : Nat} (hr : r ≤ 100) (hg : g ≤ 100) (hb : b ≤ 100) (er : F 9 c = nI r) (eg : F 10 c = nI g) (eb : F 11 c = nI b) (h1 : k ≤ 100 - r) (h2 : k ≤ 100 - g) (h3 : k ≤ 100 - b) (ek : cBlk F V c = nI k) : cThr F V c = nI (100 - r + (100 - g) + (100 - b) - 3 * k) := by
  unfold cThr
  rw [er, eg, eb, ek, sub_n hr, sub_n hg, sub_n hb, nI_add, nI_add, show (3 : Int32) * nI k = nI (3 * k) from pk_mul 3 k, pk_sub (by omega)]
theorem cAhead_n {F V : gF} {c k : Nat} (h : cCB F V) (hc : c < 64) (hk : k < 4) : ∃ x, x ≤ 100 ∧ cAhead F V c k = nI x := by
  obtain ⟨r, g, b, q, hr, hg, hb, er, eg, eb, h1, h2, h3, eq⟩ := cBlk_n h hc
  have et := cThr_n hr hg hb er eg eb h1 h2 h3 eq
  obtain ⟨_, _, l, hl, hl2, el⟩ := h
  unfold cAhead
  by_cases h4 : k = 3
  · rw [if_pos h4, eq]
    exact ⟨q, by omega, rfl⟩
  · rw [if_neg h4]
    obtain ⟨o, ho, eo⟩ : ∃ o, o ≤ 100 ∧ cOwn F V c k = nI o := by
      unfold cOwn
      rw [eq]
      have h5 : k = 0 ∨ k = 1 ∨ k = 2 := by omega
      rcases h5 with rfl | rfl | rfl
      · rw [show F (9 + 0) c = nI r from er, sub_n hr, pk_sub h1]
        exact ⟨_, by omega, rfl⟩
      · rw [show F (9 + 1) c = nI g from eg, sub_n hg, pk_sub h2]
        exact ⟨_, by omega, rfl⟩
      · rw [show F (9 + 2) c = nI b from eb, sub_n hb, pk_sub h3]
        exact ⟨_, by omega, rfl⟩
    rw [eo, et, eq, el]
    obtain ⟨t, ht⟩ : ∃ t, t = 100 - r + (100 - g) + (100 - b) - 3 * q := ⟨_, rfl⟩
    rw [← ht]
    have htb : t ≤ 300 := by omega
    by_cases h6 : nI t ≤ 0
    · rw [if_pos h6]
      exact ⟨o, ho, rfl⟩
    · rw [if_neg h6, nI_add]
      by_cases h7 : nI (t + q) ≤ nI l
      · rw [if_pos h7]
        exact ⟨o, ho, rfl⟩
      · rw [if_neg h7, pk_sub (show q ≤ l by omega), pk_mul]
        have h9 : l < t + q := by
          rw [nI_leI (by omega) (by omega)] at h7
          omega
        have h10 : o * (l - q) ≤ 100 * 400 := Nat.mul_le_mul ho (by omega)
        rw [pk_div (by omega) (by omega) (by omega)]
        refine ⟨_, ?_, rfl⟩
        have h11 : o * (l - q) ≤ t * o := by
          rw [Nat.mul_comm]
          exact Nat.mul_le_mul_right _ (by omega)
        have h12 : o * (l - q) / t ≤ o := Nat.div_le_of_le_mul h11
        omega
theorem gmax_n {a b : Nat} (ha : a < 2 ^ 31) (hb : b < 2 ^ 31) : gmax (nI a) (nI b) = nI (max a b) := by
  unfold gmax
  by_cases h : a < b
  · rw [if_pos ((nI_ltI ha hb).mpr h), Nat.max_eq_right (by omega)]
  · rw [if_neg (fun z => h ((nI_ltI ha hb).mp z)), Nat.max_eq_left (by omega)]
theorem cSide_n {F V : gF} {c q k : Nat} (h : cCB F V) (hq : q < 64) (hk : k < 4) : ∃ x, x ≤ 100 ∧ cSide F V c q k = nI x := by
  unfold cSide
  split
  · exact cAhead_n h hq hk
  · exact ⟨0, by omega, rfl⟩
theorem gmax_100 {a b : Int32} (ha : ∃ x, x ≤ 100 ∧ a = nI x) (hb : ∃ x, x ≤ 100 ∧ b = nI x) : ∃ x, x ≤ 100 ∧ gmax a b = nI x := by
  obtain ⟨x, hx, rfl⟩ := ha
  obtain ⟨y, hy, rfl⟩ := hb
  exact ⟨max x y, by omega, gmax_n (by omega) (by omega)⟩
theorem cWant_n {F V : gF} {c k : Nat} (h : cCB F V) (hc : c < 64) (hk : k < 4) : ∃ x, x ≤ 100 ∧ cWant F V c k = nI x := by
  have h0 := cAhead_n h hc hk
  have h1 : ∃ x, x ≤ 100 ∧ cW1 F V c k = nI x := by
    unfold cW1
    split
    · exact gmax_100 h0 (cSide_n h (by omega) hk)
    · exact h0
  have h2 : ∃ x, x ≤ 100 ∧ cW2 F V c k = nI x := by
    unfold cW2
    split
    · exact gmax_100 h1 (cSide_n h (by omega) hk)
    · exact h1
  have h3 : ∃ x, x ≤ 100 ∧ cW3 F V c k = nI x := by
    unfold cW3
    split
    · exact gmax_100 h2 (cSide_n h (by omega) hk)
    · exact h2
  have h4 : ∃ x, x ≤ 100 ∧ cW4 F V c k = nI x := by
    unfold cW4
    split
    · exact gmax_100 h3 (cSide_n h (by omega) hk)
    · exact h3
  unfold cWant
  split
  · exact h0
  · split
    · exact h0
    · exact h4
theorem cWant_100 {F V : gF} (h : cCB F V) : ∀ c k, c < 64 → k < 4 → cWant F V c k ≤ 100 := fun c k hc hk => by
  obtain ⟨x, hx, e⟩ := cWant_n h hc hk
  rw [e]
  exact (nI_leI (b := 100) (by omega) (by decide)).mpr hx
theorem cNz {F V : gF} (h : cCB F V) {c : Nat} (hc : c < 64) (h2 : ¬ cThr F V c + cBlk F V c ≤ V 1 1) : ¬ cThr F V c ≤ 0 := by
  obtain ⟨r, g, b, q, hr, hg, hb, er, eg, eb, h1, h3, h4, eq⟩ := cBlk_n h hc
  have et := cThr_n hr hg hb er eg eb h1 h3 h4 eq
  obtain ⟨_, _, l, hl, hl2, el⟩ := h
  rw [et, eq, el, nI_add, nI_leI (by omega) (by omega)] at h2
  rw [et]
  exact nI_nle (by omega) (by omega)
