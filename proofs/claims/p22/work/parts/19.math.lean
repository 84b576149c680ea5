theorem xF_o {F V : gF} {K : Prop} [Decidable K] {a : Nat} (h : a < 19 ∨ 26 < a ∧ a < 34 ∨ 36 < a) : xF F V K a = F a := by
  unfold xF
  rw [cTakF_o (by omega) (by omega) (by omega), cRunF_o (by omega) (by omega) (by omega)]
theorem xV_o {F V : gF} {K : Prop} [Decidable K] {a b : Nat} (h : a ≠ 18) (h2 : a ≠ 27) (h3 : a ≠ 33) : xV F V K a b = V a b := by
  unfold xV
  rw [cTakV_o h3, cRunV_o h2 h]
theorem cOK2_step {F V : gF} {b : Nat} {K : Prop} [Decidable K] (hb : b < 2 ^ 30) (hok : cOK2 F V b) : cOK2 (xF F V K) (xV F V K) (b + 1) := by
  obtain ⟨t, pr, h, w, ht2, ht, hp2, hp, hh2, hw2, hh, hw, hu, hd, hr, hi⟩ := hok
  rw [xF_eq hp ht hh hw (by omega) (by omega) (by omega) (by omega), xV_eq hp ht hh hw (by omega) (by omega) (by omega) (by omega)]
  have c1 := cFol_le (pr := pr + 1) (F := cDrift F (pr + 1)) t
  have g1 : ∀ a, a ≠ 34 → a ≠ 35 → a ≠ 36 → cTakF (cRunF F pr t) (xG F V K) h w a = (cFol (pr + 1) (cDrift F (pr + 1)) t).1 a := fun a h1 h2 h3 => cTakF_o h1 h2 h3
  have g2 : ∀ j, j < (cFol (pr + 1) (cDrift F (pr + 1)) t).2 → ∃ q, q < 4 ∧ cTakF (cRunF F pr t) (xG F V K) h w 24 j = nI q := fun j hj => by
    rw [g1 24 (by decide) (by decide) (by decide)]
    exact cFol_u t (fun i hi => by rw [cDrift_hi (by decide) (by decide)]; exact hu i hi) j hj
  have g3 : ∀ j, j < (cFol (pr + 1) (cDrift F (pr + 1)) t).2 → ∃ d, pr + 1 < d ∧ d < 2 ^ 31 ∧ cTakF (cRunF F pr t) (xG F V K) h w 23 j = nI d := fun j hj => by
    rw [g1 23 (by decide) (by decide) (by decide)]
    refine cFol_d (by omega) t (fun i hi => ?_) j hj
    rw [cDrift_hi (by decide) (by decide)]
    obtain ⟨d, _, d2, d3⟩ := hd i hi
    exact ⟨d, d2, d3⟩
  have v1 : cTakV (cRunV F V (V 1 3) K pr t) (xG F V K) h w 18 8 = nI (cFol (pr + 1) (cDrift F (pr + 1)) t).2 := by
    rw [cTakV_o (by decide)]
    unfold cRunV
    rw [gw_ss]
  have v2 : cTakV (cRunV F V (V 1 3) K pr t) (xG F V K) h w 27 2 = nI (pr + 1) := by
    rw [cTakV_o (by decide)]
    unfold cRunV
    rw [gw_n _ _ _ (by decide), gw_ss]
  have e36 : ∀ i, cRunF F pr t 36 i = F 36 i := fun i => by rw [cRunF_o (by decide) (by decide) (by decide)]
  have e35 : ∀ i, cRunF F pr t 35 i = F 35 i := fun i => by rw [cRunF_o (by decide) (by decide) (by decide)]
  have e33 : ∀ i, cRunV F V (V 1 3) K pr t 33 i = V 33 i := fun i => cRunV_o (by decide) (by decide)
  by_cases h0 : w = 0
  · refine ⟨_, pr + 1, h, w, by omega, v1, by omega, v2, hh2, hw2, ?_, ?_, g2, g3, fun i hi => by omega, fun i j hi => by omega⟩
    · simp only [cTakV, if_pos h0]
      rw [e33]
      exact hh
    · simp only [cTakV, if_pos h0]
      rw [e33]
      exact hw
  · obtain ⟨q0, hq0, eq0, ez0⟩ := hr 0 (by omega)
    rw [Nat.add_zero, Nat.mod_eq_of_lt hh2] at eq0
    by_cases hg : xG F V K
    · have f36 : ∀ i, cTakF (cRunF F pr t) (xG F V K) h w 36 i = F 36 i := fun i => by
        simp only [cTakF, if_neg h0, if_pos hg]
        rw [gw_n _ _ _ (by decide), gw_n _ _ _ (by decide), e36]
      refine ⟨_, pr + 1, (h + 1) % 200, w - 1, by omega, v1, by omega, v2, by omega, by omega, ?_, ?_, g2, g3, fun i hi2 => ?_, fun i j h1 h2 h3 => ?_⟩
      · simp only [cTakV, if_neg h0, if_pos hg]
        rw [gw_ss]
      · simp only [cTakV, if_neg h0, if_pos hg]
        rw [gw_sn _ _ (by decide), gw_ss]
      · obtain ⟨q, hq, eq, ez⟩ := hr (i + 1) (by omega)
        refine ⟨q, hq, ?_, ?_⟩
        · rw [f36, show ((h + 1) % 200 + i) % 200 = (h + (i + 1)) % 200 by omega]
          exact eq
        · simp only [cTakF, if_neg h0, if_pos hg]
          rw [e36, eq0, nI_clamp (by omega), gw_sn _ _ ?_, gw_n _ _ _ (by decide), e35]
          · exact ez
          · intro z
            have := hi (i + 1) 0 (by omega) (by omega) (by rw [eq, Nat.add_zero, Nat.mod_eq_of_lt hh2, eq0, z])
            omega
      · rw [f36, f36, show ((h + 1) % 200 + i) % 200 = (h + (i + 1)) % 200 by omega, show ((h + 1) % 200 + j) % 200 = (h + (j + 1)) % 200 by omega] at h3
        have := hi (i + 1) (j + 1) (by omega) (by omega) h3
        omega
    · have f36 : ∀ i, i < w → ∃ k, k < w ∧ (k = i + 1 ∨ k = 0 ∧ i + 1 = w) ∧ cTakF (cRunF F pr t) (xG F V K) h w 36 (((h + 1) % 200 + i) % 200) = F 36 ((h + k) % 200) := fun i hi2 => by
        simp only [cTakF, if_neg h0, if_neg hg]
        rw [e36, eq0, nI_clamp (by omega)]
        by_cases hi3 : i + 1 = w
        · refine ⟨0, by omega, Or.inr ⟨rfl, hi3⟩, ?_⟩
          rw [show ((h + 1) % 200 + i) % 200 = (h + w) % 200 by omega, gw_ss, Nat.add_zero, Nat.mod_eq_of_lt hh2, eq0]
        · refine ⟨i + 1, by omega, Or.inl rfl, ?_⟩
          rw [gw_sn _ _ (by omega), gw_n _ _ _ (by decide), e36, show ((h + 1) % 200 + i) % 200 = (h + (i + 1)) % 200 by omega]
      have f35 : ∀ i, cTakF (cRunF F pr t) (xG F V K) h w 35 i = F 35 i := fun i => by
        simp only [cTakF, if_neg h0, if_neg hg]
        rw [gw_n _ _ _ (by decide), gw_n _ _ _ (by decide), e35]
      refine ⟨_, pr + 1, (h + 1) % 200, w, by omega, v1, by omega, v2, by omega, by omega, ?_, ?_, g2, g3, fun i hi2 => ?_, fun i j h1 h2 h3 => ?_⟩
      · simp only [cTakV, if_neg h0, if_neg hg]
        rw [gw_ss]
      · simp only [cTakV, if_neg h0, if_neg hg]
        rw [gw_sn _ _ (by decide), e33]
        exact hw
      · obtain ⟨k, hk, _, ek⟩ := f36 i hi2
        obtain ⟨q, hq, eq, ez⟩ := hr k hk
        exact ⟨q, hq, ek.trans eq, (f35 q).trans ez⟩
      · obtain ⟨k1, hk1, c1, e1⟩ := f36 i h1
        obtain ⟨k2, hk2, c2, e2⟩ := f36 j h2
        have := hi k1 k2 hk1 hk2 (by rw [← e1, ← e2]; exact h3)
        omega
theorem xIt_ok2 {F V : gF} {b : Nat} {K : Prop} [Decidable K] (hok : cOK2 F V b) : ∀ n, b + n ≤ 2 ^ 30 → cOK2 (xIt F V K n).1 (xIt F V K n).2.1 (b + n)
  | 0, _ => hok
  | n + 1, h => cOK2_step (b := b + n) (by omega) (xIt_ok2 hok n (by omega))
theorem xIt_even {F V : gF} {K : Prop} [Decidable K] : ∀ n, cEven (xIt F V K n).1 = cEven F
  | 0 => rfl
  | n + 1 => by
    rw [← xIt_even (F := F) (V := V) (K := K) n]
    have h1 : ∀ u, u < 4 → ∀ q, cDens (xIt F V K (n + 1)).1 u q = cDens (xIt F V K n).1 u q := by
      intro u hu q
      have h2 : ∀ m, cSum (xIt F V K (n + 1)).1 u q m = cSum (xIt F V K n).1 u q m := by
        intro m
        induction m with
        | zero => rfl
        | succ m ih =>
          simp only [cSum]
          rw [ih]
          simp only [xIt]
          rw [xF_o (by omega)]
      unfold cDens
      rw [h2]
      simp only [xIt]
      rw [xF_o (by omega)]
    apply propext
    refine ⟨fun z u hu q hq y => z u hu q hq ?_, fun z u hu q hq y => z u hu q hq ?_⟩
    · rw [cBad, h1 u hu q]
      exact y
    · rw [cBad, ← h1 u hu q]
      exact y
