def mSum (f : Nat → Int32) : Nat → Int32
  | 0 => 0
  | n + 1 => mSum f n + f n
theorem mSum_add (f g : Nat → Int32) : ∀ n, mSum (fun i => f i + g i) n = mSum f n + mSum g n
  | 0 => rfl
  | n + 1 => by
    simp only [mSum, mSum_add f g n]
    grind
theorem mSum_0 : ∀ n, mSum (fun _ => 0) n = 0
  | 0 => rfl
  | n + 1 => by
    simp only [mSum, mSum_0 n]
    decide
theorem mSum_cong {f g : Nat → Int32} : ∀ {n : Nat}, (∀ i, i < n → f i = g i) → mSum f n = mSum g n
  | 0, _ => rfl
  | n + 1, h => by
    simp only [mSum]
    rw [mSum_cong (fun i hi => h i (Nat.lt_succ_of_lt hi)), h n (Nat.lt_succ_self n)]
theorem mSum_app (f : Nat → Int32) (m : Nat) : ∀ b, mSum f (m + b) = mSum f m + mSum (fun j => f (m + j)) b
  | 0 => by
    simp only [mSum, Nat.add_zero]
    grind
  | b + 1 => by
    rw [show m + (b + 1) = m + b + 1 by omega]
    simp only [mSum, mSum_app f m b]
    grind
theorem mSum_blk (f : Nat → Int32) (b : Nat) : ∀ a, mSum f (a * b) = mSum (fun i => mSum (fun j => f (i * b + j)) b) a
  | 0 => by simp [mSum]
  | a + 1 => by
    rw [show (a + 1) * b = a * b + b from Nat.succ_mul a b, mSum_app, mSum_blk f b a]
    rfl
theorem mSum_swap (g : Nat → Nat → Int32) (b : Nat) : ∀ a, mSum (fun i => mSum (fun j => g i j) b) a = mSum (fun j => mSum (fun i => g i j) a) b
  | 0 => by
    simp only [mSum]
    exact (mSum_0 b).symm
  | a + 1 => by
    simp only [mSum]
    rw [mSum_swap g b a, mSum_add]
theorem mSum_order (g : Nat → Nat → Int32) : mSum (fun n => g (n / 64) (n % 64)) 256 = mSum (fun n => g (n % 4) (n / 4)) 256 := by
  rw [show (256 : Nat) = 4 * 64 by decide, mSum_blk, mSum_cong (g := fun k => mSum (fun c => g k c) 64) (fun k hk => mSum_cong (fun c hc => by rw [show (k * 64 + c) / 64 = k by omega, show (k * 64 + c) % 64 = c by omega])), mSum_swap, show (4 * 64 : Nat) = 64 * 4 by decide, mSum_blk]
  exact mSum_cong (fun c hc => mSum_cong (fun k hk => by rw [show (c * 4 + k) % 4 = k by omega, show (c * 4 + k) / 4 = c by omega]))
def mFil (B : Nat) (P : Nat → Nat → Int32) (G : gF) : Nat → gF
  | 0 => G
  | n + 1 => gw (mFil B P G n) (B + n % 4) (n / 4) (P (n % 4) (n / 4))
theorem mFil_o {B a b : Nat} {P : Nat → Nat → Int32} {G : gF} (h : a < B ∨ B + 4 ≤ a) : ∀ n, mFil B P G n a b = G a b
  | 0 => rfl
  | n + 1 => by
    simp only [mFil]
    rw [gw_n _ _ _ (by omega), mFil_o h n]
theorem mFil_at {B k c : Nat} {P : Nat → Nat → Int32} {G : gF} (hk : k < 4) : ∀ n, mFil B P G n (B + k) c = if 4 * c + k < n then P k c else G (B + k) c
  | 0 => rfl
  | n + 1 => by
    simp only [mFil]
    by_cases h : 4 * c + k = n
    · obtain ⟨h1, h2⟩ : n % 4 = k ∧ n / 4 = c := by omega
      rw [h1, h2, gw_ss, if_pos (by omega)]
    · have h3 : gw (mFil B P G n) (B + n % 4) (n / 4) (P (n % 4) (n / 4)) (B + k) c = mFil B P G n (B + k) c := by
        unfold gw
        by_cases h4 : B + k = B + n % 4
        · rw [if_pos h4, if_neg (by omega)]
        · rw [if_neg h4]
      rw [h3, mFil_at hk n]
      by_cases h5 : 4 * c + k < n
      · rw [if_pos h5, if_pos (by omega)]
      · rw [if_neg h5, if_neg (by omega)]
theorem cTkF_at {F : gF} {k c : Nat} (hk : k < 4) : ∀ n, cTkF F n (39 + k) c = if k * 64 + c < n ∧ c < 64 then cPrn F c k else F (39 + k) c
  | 0 => by simp [cTkF]
  | n + 1 => by
    simp only [cTkF]
    by_cases h : c < 64 ∧ k * 64 + c = n
    · obtain ⟨h1, h2⟩ : n / 64 = k ∧ n % 64 = c := by omega
      rw [h1, h2, gw_ss, if_pos (by omega)]
    · have h3 : gw (cTkF F n) (39 + n / 64) (n % 64) (cPrn F (n % 64) (n / 64)) (39 + k) c = cTkF F n (39 + k) c := by
        unfold gw
        by_cases h4 : 39 + k = 39 + n / 64
        · rw [if_pos h4, if_neg (by omega)]
        · rw [if_neg h4]
      rw [h3, cTkF_at hk n]
      by_cases h5 : k * 64 + c < n ∧ c < 64
      · rw [if_pos h5, if_pos (by omega)]
      · rw [if_neg h5, if_neg (by omega)]
theorem cTkF_o {F : gF} {a b : Nat} (h : a < 39 ∨ 43 ≤ a) : ∀ n, n ≤ 256 → cTkF F n a b = F a b
  | 0, _ => rfl
  | n + 1, hn => by
    simp only [cTkF]
    rw [gw_n _ _ _ (by omega), cTkF_o h n (by omega)]
theorem cTk_fil {G : gF} (a b : Nat) : mFil 39 (fun k c => cPrn G c k) G 256 a b = cTkF G 256 a b := by
  by_cases h : a < 39 ∨ 43 ≤ a
  · rw [mFil_o (by omega), cTkF_o h 256 (Nat.le_refl _)]
  · obtain ⟨k, hk, rfl⟩ : ∃ k, k < 4 ∧ a = 39 + k := ⟨a - 39, by omega, by omega⟩
    rw [mFil_at hk, cTkF_at hk]
    by_cases hb : b < 64
    · rw [if_pos (by omega), if_pos (by omega)]
    · rw [if_neg (by omega), if_neg (by omega)]
theorem cTkN_sum {G : gF} : ∀ n, cTkN G n = mSum (fun n => cPrn G (n % 64) (n / 64)) n
  | 0 => rfl
  | n + 1 => by
    simp only [cTkN, mSum, cTkN_sum n]
theorem gw_same (F : gF) (i k : Nat) : gw F i k (F i k) = F := by
  funext a b
  unfold gw
  by_cases h : a = i
  · by_cases h2 : b = k
    · rw [if_pos h, if_pos h2, h, h2]
    · rw [if_pos h, if_neg h2]
  · rw [if_neg h]
theorem cMkF_w {F V : gF} (n : Nat) : cMkF F V (n + 1) = gw (cMkF F V n) (14 + n / 64) (n % 64) (nI (cPlate F V (n / 64) (n % 64))) := by
  simp only [cMkF]
  split
  · rename_i h
    rw [h, gw_same]
  · rfl
theorem cMkF_at {F V : gF} {k c : Nat} (hk : k < 4) : ∀ n, cMkF F V n (14 + k) c = if k * 64 + c < n ∧ c < 64 then nI (cPlate F V k c) else F (14 + k) c
  | 0 => by simp [cMkF]
  | n + 1 => by
    rw [cMkF_w]
    by_cases h : c < 64 ∧ k * 64 + c = n
    · obtain ⟨h1, h2⟩ : n / 64 = k ∧ n % 64 = c := by omega
      rw [h1, h2, gw_ss, if_pos (by omega)]
    · have h3 : gw (cMkF F V n) (14 + n / 64) (n % 64) (nI (cPlate F V (n / 64) (n % 64))) (14 + k) c = cMkF F V n (14 + k) c := by
        unfold gw
        by_cases h4 : 14 + k = 14 + n / 64
        · rw [if_pos h4, if_neg (by omega)]
        · rw [if_neg h4]
      rw [h3, cMkF_at hk n]
      by_cases h5 : k * 64 + c < n ∧ c < 64
      · rw [if_pos h5, if_pos (by omega)]
      · rw [if_neg h5, if_neg (by omega)]
theorem cMkF_o {F V : gF} {a b : Nat} (h : a < 14 ∨ 18 ≤ a) : ∀ n, n ≤ 256 → cMkF F V n a b = F a b
  | 0, _ => rfl
  | n + 1, hn => by
    simp only [cMkF]
    split
    · exact cMkF_o h n (by omega)
    · rw [gw_n _ _ _ (by omega), cMkF_o h n (by omega)]
theorem cMk_fil {G W : gF} (a b : Nat) : mFil 14 (fun k c => nI (cPlate G W k c)) G 256 a b = cMkF G W 256 a b := by
  by_cases h : a < 14 ∨ 18 ≤ a
  · rw [mFil_o (by omega), cMkF_o h 256 (Nat.le_refl _)]
  · obtain ⟨k, hk, rfl⟩ : ∃ k, k < 4 ∧ a = 14 + k := ⟨a - 14, by omega, by omega⟩
    rw [mFil_at hk, cMkF_at hk]
    by_cases hb : b < 64
    · rw [if_pos (by omega), if_pos (by omega)]
    · rw [if_neg (by omega), if_neg (by omega)]
theorem cMkN_sum {G W : gF} : ∀ n, n ≤ 256 → cMkN G W n = mSum (fun n => if nI (cPlate G W (n / 64) (n % 64)) = G (14 + n / 64) (n % 64) then 0 else 1) n
  | 0, _ => rfl
  | n + 1, hn => by
    have h1 := cMkF_at (F := G) (V := W) (k := n / 64) (c := n % 64) (by omega) n
    rw [if_neg (by omega)] at h1
    simp only [cMkN, mSum, ← cMkN_sum n (by omega), h1]
    by_cases h : nI (cPlate G W (n / 64) (n % 64)) = G (14 + n / 64) (n % 64)
    · rw [if_pos h, if_pos h, Int32.add_zero]
    · rw [if_neg h, if_neg h]
theorem sim.eq {F V F2 V2 G W G2 W2 : gF} (h : sim F V F2 V2 G W) (h1 : ∀ a, a < 43 → ∀ b, G a b = G2 a b) (h2 : ∀ a, a < 43 → ∀ b, W a b = W2 a b) : sim F V F2 V2 G2 W2 := ⟨fun a ha b => (h.1 a ha b).trans (h1 a ha b), fun a ha b => (h.2.1 a ha b).trans (h2 a ha b), h.2.2⟩
theorem mFil_step50 {F V F1 V1 G W : gF} {n : Nat} {P : Nat → Nat → Int32} (h : sim F V F1 V1 (mFil 14 P G n) W) : sim F V (gw F1 50 n (P (n % 4) (n / 4))) V1 (mFil 14 P G (n + 1)) W := by
  have h1 := h.w50 (k := n % 4) (c := n / 4) (x := P (n % 4) (n / 4)) (by omega)
  rw [show 4 * (n / 4) + n % 4 = n by omega] at h1
  exact h1
theorem mFil_step63 {F V F1 V1 G W : gF} {n : Nat} {P : Nat → Nat → Int32} (h : sim F V F1 V1 (mFil 39 P G n) W) : sim F V (gw F1 63 n (P (n % 4) (n / 4))) V1 (mFil 39 P G (n + 1)) W := by
  have h1 := h.w63 (k := n % 4) (c := n / 4) (x := P (n % 4) (n / 4)) (by omega)
  rw [show 4 * (n / 4) + n % 4 = n by omega] at h1
  exact h1
theorem cWant_cong2 {F G V W : gF} {c k : Nat} (hk : k < 4) (h : ∀ a, a < 14 → ∀ b, F a b = G a b) (hv : ∀ b, V 1 b = W 1 b) : cWant F V c k = cWant G W c k := by
  rw [cWant_cong hk h]
  unfold cWant cW4 cW3 cW2 cW1 cSide cAhead cOwn cThr cBlk
  simp only [hv]
theorem mNz_cong {F V F1 V1 : gF} (h : ∀ a, a < 14 → ∀ b, tF F1 a b = tF F a b) (hv : ∀ b, tV F1 V1 1 b = tV F V 1 b) (hn : mNz F V) : mNz F1 V1 := by
  intro c hc
  have hb : cBlk (tF F1) (tV F1 V1) c = cBlk (tF F) (tV F V) c := by
    unfold cBlk
    rw [h 9 (by decide), h 10 (by decide), h 11 (by decide), hv]
  have ht : cThr (tF F1) (tV F1 V1) c = cThr (tF F) (tV F V) c := by
    unfold cThr
    rw [hb, h 9 (by decide), h 10 (by decide), h 11 (by decide)]
  rw [hb, ht, hv]
  exact hn c hc
theorem tF_50 {F : gF} {n : Nat} : F 50 n = tF F (14 + n % 4) (n / 4) := by
  rw [tF_14 (by omega), show 4 * (n / 4) + n % 4 = n by omega]
theorem tF_63 {F : gF} {n : Nat} : F 63 n = tF F (39 + n % 4) (n / 4) := by
  rw [tF_39 (by omega), show 4 * (n / 4) + n % 4 = n by omega]
theorem mDens {a b : Int32} : 50 + a - b = 100 + a - 50 - b := by grind
def mPl (F V : gF) (k c : Nat) : Int32 := nI (cPlate (tF F) (tV F V) k c)
def mDf (F V : gF) (n : Nat) : Int32 := if mPl F V (n % 4) (n / 4) = tF F (14 + n % 4) (n / 4) then 0 else 1
theorem mPl_sum {F V : gF} : mSum (mDf F V) 256 = cMkN (tF F) (tV F V) 256 := by
  rw [cMkN_sum 256 (Nat.le_refl _)]
  exact (mSum_order (fun k c => if mPl F V k c = tF F (14 + k) c then 0 else 1)).symm
theorem mPl_fil {F V : gF} (a b : Nat) : mFil 14 (mPl F V) (tF F) 256 a b = cMkF (tF F) (tV F V) 256 a b := cMk_fil a b
def mPr (F : gF) (k c : Nat) : Int32 := cPrn (tF F) c k
theorem mPr_sum {F : gF} : mSum (fun n => mPr F (n % 4) (n / 4)) 256 = cTkN (tF F) 256 := by
  rw [cTkN_sum 256]
  exact (mSum_order (fun k c => mPr F k c)).symm
theorem mPr_fil {F : gF} (a b : Nat) : mFil 39 (mPr F) (tF F) 256 a b = cTkF (tF F) 256 a b := cTk_fil a b
theorem mBad_f {F : gF} {u q : Nat} (h : gRng (cDens F u q) 90 110 = true) : ¬ cBad F u q := fun z => z.elim (of_decide_eq_true h).1 (of_decide_eq_true h).2
theorem mBad_t {F : gF} {u q : Nat} (h : ¬ gRng (cDens F u q) 90 110 = true) : cBad F u q := Classical.not_not.mp (fun z => h (decide_eq_true ⟨fun y => z (Or.inl y), fun y => z (Or.inr y)⟩))
theorem mEven {G : gF} : (∀ v, v < 32 → ¬ cBad G (v / 8) (v % 8)) ↔ cEven G := by
  refine ⟨fun h u hu q hq => ?_, fun h v hv => h (v / 8) (by omega) (v % 8) (by omega)⟩
  have h1 := h (8 * u + q) (by omega)
  rw [show (8 * u + q) / 8 = u by omega, show (8 * u + q) % 8 = q by omega] at h1
  exact h1
def mLkV (F V : gF) : gF := if 0 < V 43 18 then gw V 43 18 (V 43 18 - 1) else if ¬ cRight (tF F) (tV F V 1 3) then gw (gw V 43 27 (V 43 27 + 1)) 43 28 (V 43 28 + 0) else if ¬ cEven (tF F) then gw (gw V 43 27 (V 43 27 + 0)) 43 28 (V 43 28 + 1) else gw (gw V 43 27 (V 43 27 + 0)) 43 28 (V 43 28 + 0)
theorem gRng_cop {j : Int32} {N : Nat} (h : N ≤ 200) : gRng j 0 (nI N - 1) = gIdx j (nI N) := by
  refine gRng_ix ?_
  cases N with
  | zero => decide
  | succ m =>
    rw [nI_pred, nI_toInt (by omega), nI_toInt (by omega)]
    omega
theorem tF_34 {F : gF} {j : Nat} : tF F 34 j = F 61 j := rfl
theorem tF_35 {F : gF} {j : Nat} : tF F 35 j = F 60 j := rfl
theorem tF_19 {F : gF} {j : Nat} : tF F 19 j = F 51 j := rfl
theorem tF_20 {F : gF} {j : Nat} : tF F 20 j = F 52 j := rfl
