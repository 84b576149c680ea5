theorem gw_comm {F : gF} {i j k n : Nat} {x y : Int32} (h : i ≠ j) : gw (gw F i k x) j n y = gw (gw F j n y) i k x := by
  funext a b
  unfold gw
  by_cases h1 : a = j
  · subst h1
    rw [if_pos rfl, if_neg (Ne.symm h), if_neg (Ne.symm h), if_pos rfl]
  · rw [if_neg h1]
    by_cases h2 : a = i
    · rw [if_pos h2, if_pos h2, if_neg h1]
    · rw [if_neg h2, if_neg h2, if_neg h1]
theorem mKeep {F : gF} {k : Nat} {u x y d : Int32} : gw (gw (gw (gw F 24 k u) 25 k x) 26 k y) 23 k d = cKeep F k u x y d := by
  unfold cKeep
  rw [gw_comm (i := 26) (j := 23) (by decide), gw_comm (i := 25) (j := 23) (by decide), gw_comm (i := 24) (j := 23) (by decide)]
theorem gRng_ix {a hi n : Int32} (h : hi.toInt + 1 = n.toInt) : gRng a 0 hi = gIdx a n := decide_eq_decide.mpr (and_congr_right (fun _ => not_congr (by rw [Int32.lt_iff_toInt_lt, Int32.le_iff_toInt_le]; omega)))
theorem gRng_cell (a : Int32) : gRng a 0 63 = gIdx a 64 := gRng_ix (by decide)
theorem gRng_ink (a : Int32) : gRng a 0 3 = gIdx a 4 := gRng_ix (by decide)
theorem gRng_side (a : Int32) : gRng a 0 7 = gIdx a 8 := gRng_ix (by decide)
theorem gmin_l {a b : Int32} (h : ¬ b ≤ a) : gmin a b = a := by
  unfold gmin
  exact if_neg (fun z => h (Int32.le_of_lt z))
theorem gmin_r {a b : Int32} (h : b ≤ a) : gmin a b = b := by
  unfold gmin
  by_cases h2 : b < a
  · exact if_pos h2
  · rw [if_neg h2]
    exact Int32.le_antisymm (Int32.not_lt.mp h2) h
theorem gabs_n {a : Int32} (h : ¬ 0 ≤ a) : gabs a = -a := by
  unfold gabs
  rw [if_neg h]
  grind
theorem gabs_p {a : Int32} (h : 0 ≤ a) : gabs a = a := if_pos h
/-- what a call of the model leaves -/
def mP (F V : gF) (o : gO) (f r R : Int32) (G W : gF) (u : gS) : Prop := u.2.2 = o ∧ u.2.1 43 31 = f ∧ (f = 0 → r = R ∧ sim F V u.1 u.2.1 G W) ∧ (f ≠ 0 → sim F V u.1 u.2.1 (tF F) (tV F V))
theorem mP_no {F V G W : gF} {o : gO} {f r R n : Int32} (hf : f = n) (hn : n ≠ 0) : mP F V o f r R G W (F, gw V 43 31 n, o) := by
  subst hf
  exact ⟨rfl, rfl, fun h => absurd h hn, fun _ => sim.rf.v31⟩
theorem mP_ok {F V F2 V2 G W : gF} {o : gO} {f r R : Int32} (hf : f = 0) (ht : V2 43 31 = 0) (hr : r = R) (hs : sim F V F2 V2 G W) : mP F V o f r R G W (F2, V2, o) := by
  subst hf
  exact ⟨rfl, ht, fun _ => ⟨hr, hs⟩, fun h => absurd rfl h⟩
theorem tV_3_3 {F V : gF} : tV F V 3 3 = V 43 6 := rfl
theorem tV_18_8 {F V : gF} : tV F V 18 8 = V 43 13 := rfl
theorem tV_27_1 {F V : gF} : tV F V 27 1 = V 43 18 := rfl
theorem tV_27_2 {F V : gF} : tV F V 27 2 = V 43 25 := rfl
theorem tV_27_3 {F V : gF} : tV F V 27 3 = V 43 26 := rfl
theorem tV_27_4 {F V : gF} : tV F V 27 4 = V 43 27 := rfl
theorem tV_27_5 {F V : gF} : tV F V 27 5 = V 43 28 := rfl
theorem tV_33_3 {F V : gF} : tV F V 33 3 = V 43 19 := rfl
theorem tV_33_4 {F V : gF} : tV F V 33 4 = V 43 23 := rfl
theorem tV_33_5 {F V : gF} : tV F V 33 5 = V 43 24 := rfl
theorem tV_37_1 {F V : gF} : tV F V 37 1 = V 43 29 := rfl
theorem m60 {n : Nat} (h : n = 60) : (60 : Int32) ≤ nI n := by
  subst h
  exact Int32.le_refl _
theorem m60n {n : Nat} (h : n ≠ 60) (h2 : n ≤ 60) : ¬ (60 : Int32) ≤ nI n := fun z => h (Nat.le_antisymm h2 ((nI_leI (a := 60) (by decide) (by omega)).mp z))
theorem m20 {n : Nat} (h : n = 20) : ¬ nI n < (20 : Int32) := by
  subst h
  decide
theorem m20n {n : Nat} (h : n ≠ 20) (h2 : n ≤ 20) : nI n < (20 : Int32) := (nI_ltI (b := 20) (by omega) (by decide)).mpr (by omega)
theorem mThr {F V : gF} {c : Nat} : 300 - cLight F c - 3 * cBlk F V c = cThr F V c := by
  unfold cThr cLight
  grind
/-- where the model divides, it divides by more than 0 -/
def mNz (F V : gF) : Prop := ∀ c, c < 64 → ¬ cThr (tF F) (tV F V) c + cBlk (tF F) (tV F V) c ≤ tV F V 1 1 → ¬ cThr (tF F) (tV F V) c ≤ 0
theorem gmax_rc (a b c : Int32) : gmax (gmax a b) c = gmax (gmax a c) b := by
  unfold gmax
  by_cases h1 : a < b <;> by_cases h2 : a < c <;> by_cases h3 : b < c <;> by_cases h4 : c < b <;> simp [h1, h2, h3, h4] <;> simp only [Int32.lt_iff_toInt_lt, ← Int32.toInt_inj] at * <;> omega
theorem gop_rc {P Q : Prop} [Decidable P] [Decidable Q] (a b c : Int32) : (if P then gmax (if Q then gmax a b else a) c else (if Q then gmax a b else a)) = (if Q then gmax (if P then gmax a c else a) b else (if P then gmax a c else a)) := by
  by_cases h1 : P <;> by_cases h2 : Q <;> simp only [h1, h2, if_true, if_false]
  exact gmax_rc a b c
def mW1 (F V : gF) (c k : Nat) : Int32 := if 0 < c % 8 then gmax (cAhead F V c k) (cSide F V c (c - 1) k) else cAhead F V c k
def mW2 (F V : gF) (c k : Nat) : Int32 := if c % 8 < 7 then gmax (mW1 F V c k) (cSide F V c (c + 1) k) else mW1 F V c k
def mW3 (F V : gF) (c k : Nat) : Int32 := if 8 ≤ c then gmax (mW2 F V c k) (cSide F V c (c - 8) k) else mW2 F V c k
def mW4 (F V : gF) (c k : Nat) : Int32 := if c < 56 then gmax (mW3 F V c k) (cSide F V c (c + 8) k) else mW3 F V c k
theorem mW4_eq (F V : gF) (c k : Nat) : mW4 F V c k = cW4 F V c k := by
  unfold mW4 mW3 mW2 mW1 cW4 cW3 cW2 cW1
  by_cases h1 : 0 < c % 8 <;> by_cases h2 : c % 8 < 7 <;> by_cases h3 : 8 ≤ c <;> by_cases h4 : c < 56 <;> simp only [h1, h2, h3, h4, if_true, if_false] <;> grind [gmax_rc]
theorem mCurve {g : Int32} : cCurve (nI 100) g = 100 := by
  unfold cCurve
  rw [show (100 : Int32) - nI 100 = 0 by decide, Int32.mul_zero]
  show nI 100 + 0 / 2500 = 100
  decide
