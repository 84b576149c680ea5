theorem gBt_0 : ∀ w ∈ (vx_atS RX9 238 gE0 ["java/lang/RuntimeException", "java/lang/Exception"]).filter (fun w => !goodWord w), w ∈ Cond.castable gE0 gE0 :: gDc.map (fun a => Cond.declares (Bundle.initS a)) := by decide +kernel
theorem gBt_1 : ∀ w ∈ (vx_atS RX9 85 gE1 ["java/lang/RuntimeException", "java/lang/Exception"]).filter (fun w => !goodWord w), w ∈ Cond.castable gE1 gE1 :: gDc.map (fun a => Cond.declares (Bundle.initS a)) := by decide +kernel
theorem gBt_2 : ∀ w ∈ (vx_atS RX9 96 gE2 ["java/lang/RuntimeException", "java/lang/Exception"]).filter (fun w => !goodWord w), w ∈ Cond.castable gE2 gE2 :: gDc.map (fun a => Cond.declares (Bundle.initS a)) := by decide +kernel
theorem gGd_0 : ∀ w ∈ Cond.classLink RX9 234 gE0 :: Cond.initialized gE0 :: vx_atS RX9 238 gE0 ["java/lang/RuntimeException", "java/lang/Exception"], vx_ot w = true := by decide +kernel
theorem gGd_1 : ∀ w ∈ Cond.classLink RX9 81 gE1 :: Cond.initialized gE1 :: vx_atS RX9 85 gE1 ["java/lang/RuntimeException", "java/lang/Exception"], vx_ot w = true := by decide +kernel
theorem gGd_2 : ∀ w ∈ Cond.classLink RX9 92 gE2 :: Cond.initialized gE2 :: vx_atS RX9 96 gE2 ["java/lang/RuntimeException", "java/lang/Exception"], vx_ot w = true := by decide +kernel
def gIdx (a n : Int32) : Bool := decide (¬ a < 0 ∧ ¬ n ≤ a)
def gRng (a lo hi : Int32) : Bool := decide (¬ a < lo ∧ ¬ hi < a)
theorem gIdx_t {a n : Int32} (h1 : ¬ a < 0) (h2 : a < n) : gIdx a n = true := decide_eq_true ⟨h1, Int32.not_le.mpr h2⟩
theorem gIdx_f1 {a n : Int32} (h1 : a < 0) : gIdx a n = false := decide_eq_false (fun z => z.1 h1)
theorem gIdx_f2 {a n : Int32} (h1 : ¬ a < n) : gIdx a n = false := decide_eq_false (fun z => z.2 (Int32.not_lt.mp h1))
theorem gRng_t {a lo hi : Int32} (h1 : ¬ a < lo) (h2 : a ≤ hi) : gRng a lo hi = true := decide_eq_true ⟨h1, Int32.not_lt.mpr h2⟩
theorem gRng_f1 {a lo hi : Int32} (h1 : a < lo) : gRng a lo hi = false := decide_eq_false (fun z => z.1 h1)
theorem gRng_f2 {a lo hi : Int32} (h1 : ¬ a ≤ hi) : gRng a lo hi = false := decide_eq_false (fun z => z.2 (Int32.not_le.mp h1))
theorem gIdx_n {a n : Int32} (N : Nat) (hn : n = nI N) (hN : N < 2 ^ 31) (h : gIdx a n = true) : ∃ j, j < N ∧ a = nI j := by
  subst hn
  obtain ⟨h1, h2⟩ := of_decide_eq_true h
  obtain ⟨j, hj, rfl⟩ := nI_of h1
  exact ⟨j, (nI_ltI hj hN).mp (Int32.not_le.mp h2), rfl⟩
theorem gRng_n {a hi : Int32} (N : Nat) (hn : hi = nI N) (hN : N < 2 ^ 31) (h : gRng a 0 hi = true) : ∃ j, j < N + 1 ∧ a = nI j := by
  subst hn
  obtain ⟨h1, h2⟩ := of_decide_eq_true h
  obtain ⟨j, hj, rfl⟩ := nI_of h1
  exact ⟨j, Nat.lt_succ_of_le ((nI_leI hj hN).mp (Int32.not_lt.mp h2)), rfl⟩
theorem gRng_n1 {a hi : Int32} (N : Nat) (hn : hi = nI N) (hN : N < 2 ^ 31) (h : gRng a 1 hi = true) : ∃ j, (1 ≤ j ∧ j ≤ N) ∧ a = nI j := by
  subst hn
  obtain ⟨h1, h2⟩ := of_decide_eq_true h
  have h0 : ¬ a < 0 := fun z => h1 (Int32.lt_trans z (by decide))
  obtain ⟨j, hj, rfl⟩ := nI_of h0
  exact ⟨j, ⟨(nI_leI (by decide) hj).mp (Int32.not_lt.mp h1), (nI_leI hj hN).mp (Int32.not_lt.mp h2)⟩, rfl⟩
def fCol (c x y z : Int32) : Int32 := if gIdx c 64 = true then (if gRng x 0 100 = true ∧ gRng y 0 100 = true ∧ gRng z 0 100 = true then 0 else 2) else 1
def fDri (u x y : Int32) : Int32 := if gIdx u 4 = true then (if gRng x (-5) 5 = true ∧ gRng y (-5) 5 = true then 0 else 2) else 1
def fCor (V : gF) (u x y : Int32) : Int32 := if gIdx u 4 = true then (if gRng x (-50) 50 = true ∧ gRng y (-50) 50 = true then (if V 18 8 < 20 then 0 else 3) else 2) else 1
def fKey (u q x : Int32) : Int32 := if gIdx u 4 = true ∧ gIdx q 8 = true then (if gRng x 0 100 = true then 0 else 2) else 1
def fJob (V : gF) (n : Int32) : Int32 := if gRng n 1 200 = true then (if 0 < V 33 5 then 2 else 0) else 1
def fPri (V : gF) (n : Int32) : Int32 := if gRng n 1 100 = true then (if V 27 2 + n ≤ 20000 then 0 else 2) else 1
def fDif (V : gF) (c : Int32) : Int32 := if gIdx c 64 = true then (if V 37 1 = 0 then 2 else 0) else 1
def fInk (c k w : Int32) : Int32 := if gIdx c 64 = true ∧ gIdx k 4 = true then (if gRng w 0 4 = true then 0 else 2) else 1
def fDot (c k : Int32) : Int32 := if gIdx c 64 = true ∧ gIdx k 4 = true then 0 else 1
def fUni (u w : Int32) : Int32 := if gIdx u 4 = true then (if gRng w 0 9 = true then 0 else 2) else 1
def fCop (V : gF) (j w : Int32) : Int32 := if gIdx j (V 33 3) = true then (if gRng w 0 1 = true then 0 else 2) else 1
def fAll (w : Int32) : Int32 := if gRng w 0 6 = true then 0 else 1
def rInk (F V : gF) (c k : Nat) (w : Int32) : Int32 := if w = 0 then cAhead F V c k else if w = 1 then cWant F V c k else if w = 2 then nI (cPlate F V k c) else if w = 3 then F (14 + k) c else cPrn F c k
def rUni (F : gF) (u : Nat) (w : Int32) : Int32 := if w = 0 then F 19 u else if w = 1 then F 20 u else cDens F u (w - 2).toNatClampNeg
def rCop (F : gF) (j : Nat) (w : Int32) : Int32 := if w = 0 then (if F 35 j = 0 then 0 else 1) else F 34 j
def rAll (V : gF) (w : Int32) : Int32 := if w = 0 then V 27 2 else if w = 1 then V 27 3 else if w = 2 then V 27 2 - V 27 3 else if w = 3 then V 27 4 else if w = 4 then V 27 5 else if w = 5 then V 33 5 else V 18 8
