theorem gBt_0 : ∀ w ∈ (vx_atS RX9 238 gE0 ["java/lang/RuntimeException", "java/lang/Exception"]).filter (fun w => !goodWord w), w ∈ Cond.castable gE0 gE0 :: gDc.map (fun a => Cond.declares (Bundle.initS a)) := by decide +kernel
theorem gBt_1 : ∀ w ∈ (vx_atS RX9 85 gE1 ["java/lang/RuntimeException", "java/lang/Exception"]).filter (fun w => !goodWord w), w ∈ Cond.castable gE1 gE1 :: gDc.map (fun a => Cond.declares (Bundle.initS a)) := by decide +kernel
theorem gBt_2 : ∀ w ∈ (vx_atS RX9 96 gE2 ["java/lang/RuntimeException", "java/lang/Exception"]).filter (fun w => !goodWord w), w ∈ Cond.castable gE2 gE2 :: gDc.map (fun a => Cond.declares (Bundle.initS a)) := by decide +kernel
theorem gGd_0 : ∀ w ∈ Cond.classLink RX9 234 gE0 :: Cond.initialized gE0 :: vx_atS RX9 238 gE0 ["java/lang/RuntimeException", "java/lang/Exception"], vx_ot w = true := by decide +kernel
theorem gGd_1 : ∀ w ∈ Cond.classLink RX9 81 gE1 :: Cond.initialized gE1 :: vx_atS RX9 85 gE1 ["java/lang/RuntimeException", "java/lang/Exception"], vx_ot w = true := by decide +kernel
theorem gGd_2 : ∀ w ∈ Cond.classLink RX9 92 gE2 :: Cond.initialized gE2 :: vx_atS RX9 96 gE2 ["java/lang/RuntimeException", "java/lang/Exception"], vx_ot w = true := by decide +kernel
def gIdx (a n : Int32) : Bool := decide (¬ a < 0 ∧ ¬ n ≤ a)
def gRng (a lo hi : Int32) : Bool := decide (¬ a < lo ∧ ¬ hi < a)
theorem gIdx_t {a n : Int32} (h1 : ¬ a < 0) (h2 : a < n) : gIdx a n = true := decide_eq_true ⟨h1, Int32.not_le.mpr h2⟩
theorem gIdx_f1 {a n : Int32} (h1 : a < 0) : gIdx a n = false := decide_eq_false (fun z => z.1 h1)
theorem gIdx_f2 {a n : Int32} (h1 : ¬ a < n) : gIdx a n = false := decide_eq_false (fun z => z.2 (Int32.not_lt.mp h1))
theorem gRng_t {a lo hi : Int32} (h1 : ¬ a < lo) (h2 : a ≤ hi) : gRng a lo hi = true := decide_eq_true ⟨h1, Int32.not_lt.mpr h2⟩
theorem gRng_f1 {a lo hi : Int32} (h1 : a < lo) : gRng a lo hi = false := decide_eq_false (fun z => z.1 h1)
theorem gRng_f2 {a lo hi : Int32} (h1 : ¬ a ≤ hi) : gRng a lo hi = false := decide_eq_false (fun z => z.2 (Int32.not_le.mp h1))
theorem gIdx_n {a n : Int32} (N : Nat) (hn : n = nI N) (hN : N < 2 ^ 31) (h : gIdx a n = true) : ∃ j, j < N ∧ a = nI j := by
  subst hn
  obtain ⟨h1, h2⟩ := of_decide_eq_true h
  obtain ⟨j, hj, rfl⟩ := nI_of h1
  exact ⟨j, (nI_ltI hj hN).mp (Int32.not_le.mp h2), rfl⟩
theorem gRng_n {a hi : Int32} (N : Nat) (hn : hi = nI N) (hN : N < 2 ^ 31) (h : gRng a 0 hi = true) : ∃ j, j < N + 1 ∧ a = nI j := by
  subst hn
  obtain ⟨h1, h2⟩ := of_decide_eq_true h
  obtain ⟨j, hj, rfl⟩ := nI_of h1
  exact ⟨j, Nat.lt_succ_of_le ((nI_leI hj hN).mp (Int32.not_lt.mp h2)), rfl⟩
theorem gRng_n1 {a hi : Int32} (N : Nat) (hn : hi = nI N) (hN : N < 2 ^ 31) (h : gRng a 1 hi = true) : ∃ j, (1 ≤ j ∧ j ≤ N) ∧ a = nI j := by
  subst hn
  obtain ⟨h1, h2⟩ := of_decide_eq_true h
  have h0 : ¬ a < 0 := fun z => h1 (Int32.lt_trans z (by decide))
  obtain ⟨j, hj, rfl⟩ := nI_of h0
  exact ⟨j, ⟨(nI_leI (by decide) hj).mp (Int32.not_lt.mp h1), (nI_leI hj hN).mp (Int32.not_lt.mp h2)⟩, rfl⟩
def fCol (c x y z : Int32) : Int32 := if gIdx c 64 = true then (if gRng x 0 100 = true ∧ gRng y 0 100 = true ∧ gRng z 0 100 = true then 0 else 2) else 1
def fDri (u x y : Int32) : Int32 := if gIdx u 4 = true then (if gRng x (-5) 5 = true ∧ gRng y (-5) 5 = true then 0 else 2) else 1
def fCor (V : gF) (u x y : Int32) : Int32 := if gIdx u 4 = true then (if gRng x (-50) 50 = true ∧ gRng y (-50) 50 = true then (if V 18 8 < 20 then 0 else 3) else 2) else 1
def fKey (u q x : Int32) : Int32 := if gIdx u 4 = true ∧ gIdx q 8 = true then (if gRng x 0 100 = true then 0 else 2) else 1
def fJob (V : gF) (n : Int32) : Int32 := if gRng n 1 200 = true then (if 0 < V 33 5 then 2 else 0) else 1
def fPri (V : gF) (n : Int32) : Int32 := if gRng n 1 100 = true then (if V 27 2 + n ≤ 20000 then 0 else 2) else 1
def fDif (V : gF) (c : Int32) : Int32 := if gIdx c 64 = true then (if V 37 1 = 0 then 2 else 0) else 1
def fInk (c k w : Int32) : Int32 := if gIdx c 64 = true ∧ gIdx k 4 = true then (if gRng w 0 4 = true then 0 else 2) else 1
def fDot (c k : Int32) : Int32 := if gIdx c 64 = true ∧ gIdx k 4 = true then 0 else 1
def fUni (u w : Int32) : Int32 := if gIdx u 4 = true then (if gRng w 0 9 = true then 0 else 2) else 1
def fCop (V : gF) (j w : Int32) : Int32 := if gIdx j (V 33 3) = true then (if gRng w 0 1 = true then 0 else 2) else 1
def fAll (w : Int32) : Int32 := if gRng w 0 6 = true then 0 else 1
def rInk (F V : gF) (c k : Nat) (w : Int32) : Int32 := if w = 0 then cAhead F V c k else if w = 1 then cWant F V c k else if w = 2 then nI (cPlate F V k c) else if w = 3 then F (14 + k) c else cPrn F c k
def rUni (F : gF) (u w : Nat) : Int32 := if w = 0 then F 19 u else if w = 1 then F 20 u else cDens F u (w - 2)
def rCop (F : gF) (j w : Nat) : Int32 := if w = 0 then (if F 35 j = 0 then 0 else 1) else F 34 j
def rAll (V : gF) (w : Int32) : Int32 := if w = 0 then V 27 2 else if w = 1 then V 27 3 else if w = 2 then V 27 2 - V 27 3 else if w = 3 then V 27 4 else if w = 4 then V 27 5 else if w = 5 then V 33 5 else V 18 8
abbrev gTk (a : Int32) : Prop := gRng a 97 122 = true ∨ gRng a 48 57 = true ∨ a = 32
theorem gRng_o {w lo hi : Int32} (h : w.toInt < lo.toInt ∨ hi.toInt < w.toInt) : gRng w lo hi = false := decide_eq_false (fun z => h.elim (fun q => z.1 (Int32.lt_iff_toInt_lt.mpr q)) (fun q => z.2 (Int32.lt_iff_toInt_lt.mpr q)))
theorem g_lt20 {a : Int32} {t : Nat} (h : a = nI t) (h2 : t ≤ 20) (c : a < 20) : t < 20 := by
  subst h
  exact (nI_ltI (b := 20) (by omega) (by decide)).mp c
def fTyp (V : gF) (a : Int32) : Int32 := if gTk a then (if 60 ≤ V 3 3 then 2 else 0) else 1
theorem cRunV_o {F V : gF} {tol : Int32} {K : Prop} [Decidable K] {pr t a b : Nat} (h : a ≠ 27) (h2 : a ≠ 18) : cRunV F V tol K pr t a b = V a b := by
  unfold cRunV
  rw [gw_n _ _ _ h2, gw_n _ _ _ h, cJudgeV_o (Or.inl h)]
theorem cFol_o {pr : Nat} {F : gF} {a : Nat} (h : a ≠ 19) (h2 : a ≠ 20) (h3 : a < 23 ∨ 26 < a) : ∀ n, (cFol pr F n).1 a = F a
  | 0 => rfl
  | n + 1 => by
    have h4 := cFol_o (pr := pr) (F := F) h h2 h3 n
    simp only [cFol]
    split
    · show cMove _ _ _ _ a = _
      rw [cMove_hi h h2, h4]
    · show cKeep _ _ _ _ _ _ a = _
      rw [cKeep_o h3, h4]
theorem cRunF_o {F : gF} {pr t a : Nat} (h : a ≠ 19) (h2 : a ≠ 20) (h3 : a < 23 ∨ 26 < a) : cRunF F pr t a = F a := by
  unfold cRunF
  rw [cFol_o h h2 h3, cDrift_hi h h2]
theorem cKeep_24 {F : gF} {k : Nat} {u x y d : Int32} : cKeep F k u x y d 24 k = u := by
  unfold cKeep
  rw [gw_n _ _ _ (by decide), gw_n _ _ _ (by decide), gw_ss]
theorem cFol_u {pr : Nat} {F : gF} : ∀ n, (∀ j, j < n → ∃ q, q < 4 ∧ F 24 j = nI q) → ∀ j, j < (cFol pr F n).2 → ∃ q, q < 4 ∧ (cFol pr F n).1 24 j = nI q
  | 0, _, j, hj => absurd hj (Nat.not_lt_zero j)
  | n + 1, h, j, hj => by
    have ih := cFol_u (pr := pr) (F := F) n (fun j hj => h j (Nat.lt_succ_of_lt hj))
    have h5 := cFol_le (pr := pr) (F := F) n
    have h6 := cFol_hi (pr := pr) (F := F) (a := 24) (j := n) (by decide) (by decide) n (Nat.le_refl n)
    simp only [cFol] at hj ⊢
    by_cases hc : (cFol pr F n).1 23 n ≤ nI pr
    · rw [if_pos hc] at hj ⊢
      obtain ⟨q, hq, eq⟩ := ih j hj
      refine ⟨q, hq, ?_⟩
      dsimp only
      rw [cMove_hi (by decide) (by decide)]
      exact eq
    · rw [if_neg hc] at hj ⊢
      have hj2 : j < (cFol pr F n).2 + 1 := hj
      by_cases e : j = (cFol pr F n).2
      · subst e
        obtain ⟨q, hq, eq⟩ := h n (Nat.lt_succ_self n)
        refine ⟨q, hq, ?_⟩
        rw [← eq, ← h6]
        dsimp only
        rw [cKeep_24]
      · obtain ⟨q, hq, eq⟩ := ih j (by omega)
        refine ⟨q, hq, ?_⟩
        dsimp only
        rw [cKeep_hi e]
        exact eq
abbrev xG (F V : gF) (K : Prop) : Prop := cJudge V (cRight F (V 1 3)) K
def xF (F V : gF) (K : Prop) [Decidable K] : gF := cTakF (cRunF F (V 27 2).toNatClampNeg (V 18 8).toNatClampNeg) (xG F V K) (V 33 4).toNatClampNeg (V 33 5).toNatClampNeg
def xV (F V : gF) (K : Prop) [Decidable K] : gF := cTakV (cRunV F V (V 1 3) K (V 27 2).toNatClampNeg (V 18 8).toNatClampNeg) (xG F V K) (V 33 4).toNatClampNeg (V 33 5).toNatClampNeg
def xIt (F V : gF) (K : Prop) [Decidable K] : Nat → gF × gF × Int32
  | 0 => (F, V, 0)
  | n + 1 => (xF (xIt F V K n).1 (xIt F V K n).2.1 K, xV (xIt F V K n).1 (xIt F V K n).2.1 K, if xG (xIt F V K n).1 (xIt F V K n).2.1 K then (xIt F V K n).2.2 + 1 else (xIt F V K n).2.2)
def cOK (F V : gF) (b : Nat) : Prop := (∃ t, t ≤ 20 ∧ V 18 8 = nI t ∧ ∀ j, j < t → ∃ q, q < 4 ∧ F 24 j = nI q) ∧ (∃ pr, pr ≤ b ∧ V 27 2 = nI pr) ∧ ∃ h w, h < 200 ∧ w ≤ 200 ∧ V 33 4 = nI h ∧ V 33 5 = nI w ∧ ∀ i, i < w → ∃ q, q < 200 ∧ F 36 ((h + i) % 200) = nI q
theorem cTakF_o {F : gF} {G : Prop} [Decidable G] {h w a : Nat} (ha : a ≠ 34) (h2 : a ≠ 35) (h3 : a ≠ 36) : cTakF F G h w a = F a := by
  unfold cTakF
  split
  · rfl
  · split
    · rw [gw_n _ _ _ h2, gw_n _ _ _ ha]
    · rw [gw_n _ _ _ h3, gw_n _ _ _ ha]
theorem cTakV_o {V : gF} {G : Prop} [Decidable G] {h w a b : Nat} (ha : a ≠ 33) : cTakV V G h w a b = V a b := by
  unfold cTakV
  split
  · rfl
  · split
    · rw [gw_n _ _ _ ha, gw_n _ _ _ ha]
    · rw [gw_n _ _ _ ha]
theorem cOK_step {F V : gF} {b : Nat} {K : Prop} [Decidable K] (hb : b < 2 ^ 30) (hok : cOK F V b) : cOK (xF F V K) (xV F V K) (b + 1) := by
  obtain ⟨⟨t, ht2, ht, hu⟩, ⟨pr, hp2, hp⟩, h, w, hh2, hw2, hh, hw, hr⟩ := hok
  have eF : xF F V K = cTakF (cRunF F pr t) (xG F V K) h w := by
    unfold xF
    rw [hp, ht, hh, hw, nI_clamp (by omega), nI_clamp (by omega), nI_clamp (by omega), nI_clamp (by omega)]
  have eV : xV F V K = cTakV (cRunV F V (V 1 3) K pr t) (xG F V K) h w := by
    unfold xV
    rw [hp, ht, hh, hw, nI_clamp (by omega), nI_clamp (by omega), nI_clamp (by omega), nI_clamp (by omega)]
  rw [eF, eV]
  refine ⟨⟨(cFol (pr + 1) (cDrift F (pr + 1)) t).2, ?_, ?_, ?_⟩, ⟨pr + 1, by omega, ?_⟩, ?_⟩
  · have := cFol_le (pr := pr + 1) (F := cDrift F (pr + 1)) t
    omega
  · rw [cTakV_o (by decide)]
    unfold cRunV
    rw [gw_ss]
  · intro j hj
    rw [cTakF_o (by decide) (by decide) (by decide)]
    refine cFol_u t (fun i hi => ?_) j hj
    rw [cDrift_hi (by decide) (by decide)]
    exact hu i hi
  · rw [cTakV_o (by decide)]
    unfold cRunV
    rw [gw_n _ _ _ (by decide), gw_ss]
  · have e36 : ∀ i, cRunF F pr t 36 i = F 36 i := fun i => by rw [cRunF_o (by decide) (by decide) (by decide)]
    have e33 : ∀ i, cRunV F V (V 1 3) K pr t 33 i = V 33 i := fun i => cRunV_o (by decide) (by decide)
    by_cases h0 : w = 0
    · refine ⟨h, w, hh2, hw2, ?_, ?_, ?_⟩
      · simp only [cTakV, if_pos h0]
        rw [e33]
        exact hh
      · simp only [cTakV, if_pos h0]
        rw [e33]
        exact hw
      · intro i hi
        omega
    · obtain ⟨q0, hq0, eq0⟩ := hr 0 (by omega)
      rw [Nat.add_zero, Nat.mod_eq_of_lt hh2] at eq0
      by_cases hg : xG F V K
      · refine ⟨(h + 1) % 200, w - 1, by omega, by omega, ?_, ?_, ?_⟩
        · simp only [cTakV, if_neg h0, if_pos hg]
          rw [gw_ss]
        · simp only [cTakV, if_neg h0, if_pos hg]
          rw [gw_sn _ _ (by decide), gw_ss]
        · intro i hi
          simp only [cTakF, if_neg h0, if_pos hg]
          rw [gw_n _ _ _ (by decide), gw_n _ _ _ (by decide), e36, show ((h + 1) % 200 + i) % 200 = (h + (i + 1)) % 200 by omega]
          exact hr (i + 1) (by omega)
      · refine ⟨(h + 1) % 200, w, by omega, by omega, ?_, ?_, ?_⟩
        · simp only [cTakV, if_neg h0, if_neg hg]
          rw [gw_ss]
        · simp only [cTakV, if_neg h0, if_neg hg]
          rw [gw_sn _ _ (by decide), e33]
          exact hw
        · intro i hi
          simp only [cTakF, if_neg h0, if_neg hg]
          by_cases hi2 : i + 1 = w
          · rw [show ((h + 1) % 200 + i) % 200 = (h + w) % 200 by omega, gw_ss, e36, eq0, nI_clamp (by omega)]
            exact ⟨q0, hq0, rfl⟩
          · by_cases he : ((h + 1) % 200 + i) % 200 = (h + w) % 200
            · rw [he, gw_ss, e36, eq0, nI_clamp (by omega)]
              exact ⟨q0, hq0, rfl⟩
            · rw [gw_sn _ _ he, gw_n _ _ _ (by decide), e36, show ((h + 1) % 200 + i) % 200 = (h + (i + 1)) % 200 by omega]
              exact hr (i + 1) (by omega)
theorem xIt_ok {F V : gF} {b : Nat} {K : Prop} [Decidable K] (hok : cOK F V b) : ∀ n, b + n ≤ 2 ^ 30 → cOK (xIt F V K n).1 (xIt F V K n).2.1 (b + n)
  | 0, _ => hok
  | n + 1, h => cOK_step (b := b + n) (by omega) (xIt_ok hok n (by omega))
theorem xF_eq {F V : gF} {K : Prop} [Decidable K] {pr t h w : Nat} (h1 : V 27 2 = nI pr) (h2 : V 18 8 = nI t) (h3 : V 33 4 = nI h) (h4 : V 33 5 = nI w) (b1 : pr < 2 ^ 31) (b2 : t < 2 ^ 31) (b3 : h < 2 ^ 31) (b4 : w < 2 ^ 31) : xF F V K = cTakF (cRunF F pr t) (xG F V K) h w := by
  unfold xF
  rw [h1, h2, h3, h4, nI_clamp b1, nI_clamp b2, nI_clamp b3, nI_clamp b4]
theorem xV_eq {F V : gF} {K : Prop} [Decidable K] {pr t h w : Nat} (h1 : V 27 2 = nI pr) (h2 : V 18 8 = nI t) (h3 : V 33 4 = nI h) (h4 : V 33 5 = nI w) (b1 : pr < 2 ^ 31) (b2 : t < 2 ^ 31) (b3 : h < 2 ^ 31) (b4 : w < 2 ^ 31) : xV F V K = cTakV (cRunV F V (V 1 3) K pr t) (xG F V K) h w := by
  unfold xV
  rw [h1, h2, h3, h4, nI_clamp b1, nI_clamp b2, nI_clamp b3, nI_clamp b4]
theorem g_lt60 {a : Int32} {t : Nat} (h : a = nI t) (h2 : t ≤ 60) (c : ¬ 60 ≤ a) : t < 60 := by
  subst h
  exact Nat.not_le.mp (fun z => c ((nI_leI (a := 60) (by decide) (by omega)).mpr z))
