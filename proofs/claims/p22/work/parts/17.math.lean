theorem gw_comm2 {F : gF} {i k n : Nat} {x y : Int32} (h : k ≠ n) : gw (gw F i k x) i n y = gw (gw F i n y) i k x := by
  funext a b
  unfold gw
  by_cases h1 : a = i
  · simp only [h1, if_true]
    by_cases h2 : b = n
    · rw [if_pos h2, if_neg (by omega), if_pos h2]
    · rw [if_neg h2, if_neg h2]
  · simp only [h1, if_false]
theorem gw_gw {F : gF} {i k : Nat} {x y : Int32} : gw (gw F i k x) i k y = gw F i k y := by
  funext a b
  unfold gw
  by_cases h1 : a = i
  · simp only [h1, if_true]
    by_cases h2 : b = k
    · rw [if_pos h2, if_pos h2]
    · rw [if_neg h2, if_neg h2, if_neg h2]
  · simp only [h1, if_false]
theorem gw_id {F : gF} {i k : Nat} {x : Int32} (h : F i k = x) : gw F i k x = F := by
  rw [← h, gw_same]
theorem mLkV_o {F V : gF} {b : Nat} (h : b ≠ 18) (h2 : b ≠ 27) (h3 : b ≠ 28) : mLkV F V 43 b = V 43 b := by
  unfold mLkV
  split
  · rw [gw_sn _ _ h]
  · split
    · rw [gw_sn _ _ h3, gw_sn _ _ h2]
    · split
      · rw [gw_sn _ _ h3, gw_sn _ _ h2]
      · rw [gw_sn _ _ h3, gw_sn _ _ h2]
theorem mJ {F0 V0 F V G W : gF} {K : Prop} (hs : sim F0 V0 F V G W) (hK : cEven G ↔ K) : cJudge (tV F V) (cRight (tF F) (tV F V 1 3)) (cEven (tF F)) ↔ xG G W K := by
  show (¬ 0 < tV F V 27 1 ∧ cRight (tF F) (tV F V 1 3) ∧ cEven (tF F)) ↔ (¬ 0 < W 27 1 ∧ cRight G (W 1 3) ∧ K)
  rw [hs.2.1 27 (by decide) 1, hs.2.1 1 (by decide) 3, cRight_cong (hs.1 19 (by decide)) (hs.1 20 (by decide)), cEven_cong hs.1]
  exact and_congr Iff.rfl (and_congr Iff.rfl hK)
theorem sim_lkp {F0 V0 F V G W : gF} {K : Prop} [Decidable K] {p g : Int32} (hs : sim F0 V0 F V G W) (hK : cEven G ↔ K) (h1 : xG G W K → g = 1) (h2 : ¬ xG G W K → g = 0) : sim F0 V0 F (gw (gw (mLkV F V) 43 25 p) 43 26 (mLkV F V 43 26 + g)) G (gw (cJudgeV W (cRight G (W 1 3)) K) 27 2 p) := by
  have e1 : V 43 18 = W 27 1 := hs.2.1 27 (by decide) 1
  have e4 : V 43 27 = W 27 4 := hs.2.1 27 (by decide) 4
  have e5 : V 43 28 = W 27 5 := hs.2.1 27 (by decide) 5
  have e3 : V 43 26 = W 27 3 := hs.2.1 27 (by decide) 3
  have er : cRight (tF F) (tV F V 1 3) ↔ cRight G (W 1 3) := by
    rw [hs.2.1 1 (by decide) 3, cRight_cong (hs.1 19 (by decide)) (hs.1 20 (by decide))]
  have ek : cEven (tF F) ↔ K := by
    rw [cEven_cong hs.1]
    exact hK
  rw [mLkV_o (by decide) (by decide) (by decide), e3]
  by_cases c0 : 0 < W 27 1
  · rw [h2 (fun z => z.1 c0)]
    unfold mLkV cJudgeV
    rw [e1, if_pos c0, if_pos c0, Int32.add_zero]
    refine hs.v18.v25.v26.eq (fun _ _ _ => rfl) (fun a _ b => ?_)
    rw [gw_id (F := gw (gw W 27 1 (W 27 1 - 1)) 27 2 p) (i := 27) (k := 3) (x := W 27 3) rfl]
  · by_cases c1 : cRight G (W 1 3)
    · by_cases c2 : K
      · rw [h1 ⟨c0, c1, c2⟩]
        unfold mLkV cJudgeV
        rw [e1, if_neg c0, if_neg c0, if_neg (fun z => z (er.mpr c1)), if_neg (fun z => z (ek.mpr c2)), if_pos c1, if_pos c2, e4, e5, Int32.add_zero, Int32.add_zero]
        refine hs.v27.v28.v25.v26.eq (fun _ _ _ => rfl) (fun a _ b => ?_)
        rw [gw_id (F := W) (i := 27) (k := 4) (x := W 27 4) rfl, gw_id (F := W) (i := 27) (k := 5) (x := W 27 5) rfl, gw_comm2 (i := 27) (k := 2) (n := 3) (by decide)]
      · rw [h2 (fun z => c2 z.2.2)]
        unfold mLkV cJudgeV
        rw [e1, if_neg c0, if_neg c0, if_neg (fun z => z (er.mpr c1)), if_pos (fun z => c2 (ek.mp z)), if_pos c1, if_neg c2, e4, e5, Int32.add_zero, Int32.add_zero]
        refine hs.v27.v28.v25.v26.eq (fun _ _ _ => rfl) (fun a _ b => ?_)
        rw [gw_id (F := W) (i := 27) (k := 4) (x := W 27 4) rfl, gw_id (F := gw (gw W 27 5 (W 27 5 + 1)) 27 2 p) (i := 27) (k := 3) (x := W 27 3) rfl]
    · rw [h2 (fun z => c1 z.2.1)]
      unfold mLkV cJudgeV
      rw [e1, if_neg c0, if_neg c0, if_pos (fun z => c1 (er.mp z)), if_neg c1, e4, e5, Int32.add_zero, Int32.add_zero]
      refine hs.v27.v28.v25.v26.eq (fun _ _ _ => rfl) (fun a _ b => ?_)
      rw [gw_id (F := gw W 27 4 (W 27 4 + 1)) (i := 27) (k := 5) (x := W 27 5) rfl, gw_id (F := gw (gw W 27 4 (W 27 4 + 1)) 27 2 p) (i := 27) (k := 3) (x := W 27 3) rfl]
theorem mTk_0 {F0 V0 F1 V1 G W : gF} {P : Prop} [Decidable P] {h w : Nat} (hs : sim F0 V0 F1 V1 G W) (h0 : w = 0) : sim F0 V0 F1 V1 (cTakF G P h w) (cTakV W P h w) := by
  unfold cTakF cTakV
  rw [if_pos h0, if_pos h0]
  exact hs
theorem mTk_g {F0 V0 F1 V1 G W : gF} {P : Prop} [Decidable P] {h w q : Nat} (hs : sim F0 V0 F1 V1 G W) (h0 : 0 < w) (hp : P) (hq : q < 200) (hg : G 36 h = nI q) : sim F0 V0 (gw (gw F1 61 q (F1 61 q + 1)) 60 q (if P then 1 else 0)) (gw (gw V1 43 23 (nI ((h + 1) % 200))) 43 24 (nI (w - 1))) (cTakF G P h w) (cTakV W P h w) := by
  unfold cTakF cTakV
  rw [if_neg (show ¬ w = 0 by omega), if_neg (show ¬ w = 0 by omega), if_pos hp, if_pos hp, if_pos hp, hg, nI_clamp (by omega), ← hs.1 34 (by decide) q, gw_comm2 (i := 33) (k := 5) (n := 4) (by decide)]
  exact hs.v23.v24.w61.w60
theorem mTk_b {F0 V0 F1 V1 G W : gF} {P : Prop} [Decidable P] {h w q : Nat} (hs : sim F0 V0 F1 V1 G W) (h0 : 0 < w) (hp : ¬ P) (hq : q < 200) (hg : G 36 h = nI q) (hz : G 35 q = 0) (hw : W 33 5 = nI w) : sim F0 V0 (gw (gw (gw F1 61 q (F1 61 q + 1)) 60 q (if P then 1 else 0)) 62 (((h + 1) % 200 + (w - 1)) % 200) (nI q)) (gw (gw (gw V1 43 23 (nI ((h + 1) % 200))) 43 24 (nI (w - 1))) 43 24 (nI (w - 1 + 1))) (cTakF G P h w) (cTakV W P h w) := by
  unfold cTakF cTakV
  rw [if_neg (show ¬ w = 0 by omega), if_neg (show ¬ w = 0 by omega), if_neg hp, if_neg hp, if_neg hp, hg, nI_clamp (by omega), ← hs.1 34 (by decide) q, show ((h + 1) % 200 + (w - 1)) % 200 = (h + w) % 200 by omega, show w - 1 + 1 = w by omega]
  refine hs.v23.v24.v24.w61.w60.w62.eq (fun a _ b => ?_) (fun a _ b => ?_)
  · rw [gw_id (F := gw G 34 q (F1 61 q + 1)) (i := 35) (k := q) (x := 0) hz]
    rfl
  · rw [gw_gw, gw_id (F := gw W 33 4 (nI ((h + 1) % 200))) (i := 33) (k := 5) (x := nI w) hw]
theorem mPO_F {G W : gF} {K : Prop} [Decidable K] {pr t h w : Nat} (h1 : W 27 2 = nI pr) (h2 : W 18 8 = nI t) (h3 : W 33 4 = nI h) (h4 : W 33 5 = nI w) (b1 : pr < 2 ^ 31) (b2 : t < 2 ^ 31) (b3 : h < 2 ^ 31) (b4 : w < 2 ^ 31) : (cFol (pr + 1) (cDrift (cTakF G (xG G W K) h w) (pr + 1)) t).1 = xF G W K := by
  rw [xF_eq h1 h2 h3 h4 b1 b2 b3 b4, cTakF_run]
  rfl
theorem mPO_V {G W : gF} {K : Prop} [Decidable K] {pr t h w : Nat} (h1 : W 27 2 = nI pr) (h2 : W 18 8 = nI t) (h3 : W 33 4 = nI h) (h4 : W 33 5 = nI w) (b1 : pr < 2 ^ 31) (b2 : t < 2 ^ 31) (b3 : h < 2 ^ 31) (b4 : w < 2 ^ 31) : gw (cTakV (gw (cJudgeV W (cRight G (W 1 3)) K) 27 2 (nI (pr + 1))) (xG G W K) h w) 18 8 (nI (cFol (pr + 1) (cDrift (cTakF G (xG G W K) h w) (pr + 1)) t).2) = xV G W K := by
  rw [xV_eq h1 h2 h3 h4 b1 b2 b3 b4, cFol2_tak, ← cTakV_gw]
  rfl
/-- what holds of the class's cells over the whole script -/
def cOK2 (G W : gF) (b : Nat) : Prop := ∃ t pr h w, t ≤ 20 ∧ W 18 8 = nI t ∧ pr ≤ b ∧ W 27 2 = nI pr ∧ h < 200 ∧ w ≤ 200 ∧ W 33 4 = nI h ∧ W 33 5 = nI w ∧ (∀ j, j < t → ∃ q, q < 4 ∧ G 24 j = nI q) ∧ (∀ j, j < t → ∃ d, pr < d ∧ d < 2 ^ 31 ∧ G 23 j = nI d) ∧ (∀ i, i < w → ∃ q, q < 200 ∧ G 36 ((h + i) % 200) = nI q ∧ G 35 q = 0) ∧ (∀ i j, i < w → j < w → G 36 ((h + i) % 200) = G 36 ((h + j) % 200) → i = j)
theorem cOK2.ok {G W : gF} {b : Nat} (h : cOK2 G W b) : cOK G W b := by
  obtain ⟨t, pr, h, w, h1, h2, h3, h4, h5, h6, h7, h8, h9, _, h10, _⟩ := h
  exact ⟨⟨t, h1, h2, h9⟩, ⟨pr, h3, h4⟩, h, w, h5, h6, h7, h8, fun i hi => by
    obtain ⟨q, q1, q2, _⟩ := h10 i hi
    exact ⟨q, q1, q2⟩⟩
theorem cKeep_23 {F : gF} {k : Nat} {u x y d : Int32} : cKeep F k u x y d 23 k = d := by
  unfold cKeep
  rw [gw_n _ _ _ (by decide), gw_n _ _ _ (by decide), gw_n _ _ _ (by decide), gw_ss]
theorem cFol_d {pr : Nat} {F : gF} (hp : pr < 2 ^ 31) : ∀ n, (∀ j, j < n → ∃ d, d < 2 ^ 31 ∧ F 23 j = nI d) → ∀ j, j < (cFol pr F n).2 → ∃ d, pr < d ∧ d < 2 ^ 31 ∧ (cFol pr F n).1 23 j = nI d
  | 0, _, j, hj => absurd hj (Nat.not_lt_zero j)
  | n + 1, h, j, hj => by
    have ih := cFol_d (F := F) hp n (fun j hj => h j (Nat.lt_succ_of_lt hj))
    have h5 := cFol_le (pr := pr) (F := F) n
    have h6 := cFol_hi (pr := pr) (F := F) (a := 23) (j := n) (by decide) (by decide) n (Nat.le_refl n)
    by_cases hc : (cFol pr F n).1 23 n ≤ nI pr
    · rw [cFol_pos hc] at hj ⊢
      obtain ⟨d, hd, hd2, eq⟩ := ih j hj
      refine ⟨d, hd, hd2, ?_⟩
      dsimp only
      rw [cMove_hi (by decide) (by decide)]
      exact eq
    · rw [cFol_neg hc] at hj ⊢
      have hj2 : j < (cFol pr F n).2 + 1 := hj
      by_cases e : j = (cFol pr F n).2
      · subst e
        obtain ⟨d, hd2, eq⟩ := h n (Nat.lt_succ_self n)
        refine ⟨d, ?_, hd2, ?_⟩
        · rw [h6, eq, nI_leI hd2 hp] at hc
          omega
        · dsimp only
          rw [cKeep_23, h6, eq]
      · obtain ⟨d, hd, hd2, eq⟩ := ih j (by omega)
        refine ⟨d, hd, hd2, ?_⟩
        dsimp only
        rw [cKeep_hi e]
        exact eq
theorem mIf {P Q : Prop} [Decidable P] [Decidable Q] (h : P ↔ Q) : (if P then 1 else 0 : Int32) = if Q then 1 else 0 := by
  by_cases hp : P
  · rw [if_pos hp, if_pos (h.mp hp)]
  · rw [if_neg hp, if_neg (fun z => hp (h.mpr z))]
