/-! the first state -/
def F00 : gF := fun a b => if a = 2 ∧ b < 4 then 20 else if 9 ≤ a ∧ a ≤ 11 then (if b < 64 then 100 else 0) else if 29 ≤ a ∧ a ≤ 32 then (if b < 8 then 50 else 0) else 0
def V00 : gF := fun a b => if a = 1 then (if b = 0 then 50 else if b = 1 then 300 else if b = 3 then 2 else if b = 4 then 10 else 0) else 0
def inF (Z : gF) (n : Nat) : gF := fun a b => if a = 44 ∧ b < n then 50 else if a = 43 ∧ 3 ≤ b ∧ b < 3 + n ∧ b < 7 then 20 else Z a b
theorem inF_0 {Z : gF} : inF Z 0 = Z := by
  funext a b
  unfold inF
  rw [if_neg (by omega), if_neg (by omega)]
theorem inF_43 {Z : gF} {n b : Nat} : inF Z n 43 b = if 3 ≤ b ∧ b < 3 + n ∧ b < 7 then 20 else Z 43 b := by
  unfold inF
  rw [if_neg (by omega)]
  by_cases e : 3 ≤ b ∧ b < 3 + n ∧ b < 7
  · rw [if_pos e, if_pos ⟨rfl, e⟩]
  · rw [if_neg e, if_neg (fun z => e z.2)]
theorem inF_s {Z : gF} {n : Nat} : gw (gw (inF Z n) 44 n 50) 43 (3 + n % 4) 20 = inF Z (n + 1) := by
  funext a b
  by_cases c : a = 43
  · subst c
    by_cases d : b = 3 + n % 4
    · subst d
      rw [gw_ss, inF_43, if_pos (by omega)]
    · rw [gw_sn _ _ d, gw_n _ _ _ (by decide), inF_43, inF_43]
      by_cases e : 3 ≤ b ∧ b < 3 + n ∧ b < 7
      · rw [if_pos e, if_pos (by omega)]
      · rw [if_neg e, if_neg (by omega)]
  · rw [gw_n _ _ _ c]
    by_cases c2 : a = 44
    · subst c2
      by_cases d : b = n
      · subst d
        rw [gw_ss]
        unfold inF
        rw [if_pos (by omega)]
      · rw [gw_sn _ _ d]
        unfold inF
        by_cases e : b < n
        · rw [if_pos ⟨rfl, e⟩, if_pos ⟨rfl, by omega⟩]
        · rw [if_neg (by omega), if_neg (by omega), if_neg (by omega), if_neg (by omega)]
    · rw [gw_n _ _ _ c2]
      unfold inF
      rw [if_neg (by omega), if_neg (by omega), if_neg (by omega), if_neg (by omega)]
def Z00 : gF := gw (gw (gw (gw F00 43 0 50) 43 1 300) 43 7 2) 43 8 10
theorem Z00_o {a : Nat} (h : a ≠ 43) : Z00 a = F00 a := by
  unfold Z00
  rw [gw_n _ _ _ h, gw_n _ _ _ h, gw_n _ _ _ h, gw_n _ _ _ h]
theorem in_o {a : Nat} (h : a ≠ 43) (h2 : a ≠ 44) : inF Z00 32 a = F00 a := funext fun b => by
  unfold inF
  rw [if_neg (by omega), if_neg (by omega), Z00_o h]
theorem CI_00 : CI F00 V00 0 := by
  refine ⟨⟨0, 0, 0, 0, by decide, rfl, by decide, rfl, by decide, by decide, rfl, rfl, fun j hj => absurd hj (Nat.not_lt_zero j), fun j hj => absurd hj (Nat.not_lt_zero j), fun i hi => absurd hi (Nat.not_lt_zero i), fun i j hi => absurd hi (Nat.not_lt_zero i)⟩, ⟨0, by decide, rfl⟩, ⟨0, by decide, rfl⟩, fun j => Or.inl rfl, Or.inl rfl, Or.inl rfl, ⟨fun a c ha ha2 hc => ⟨100, by decide, ?_⟩, ⟨50, by decide, rfl⟩, ⟨300, by decide, by decide, rfl⟩⟩, ⟨10, by decide, rfl⟩⟩
  unfold F00
  rw [if_neg (by omega), if_pos (by omega), if_pos hc]
  rfl
theorem PI_00 : PI (inF Z00 32) V00 0 := by
  refine ⟨CI_00.cells (in_o (by decide) (by decide)) (in_o (by decide) (by decide)) (in_o (by decide) (by decide)) (in_o (by decide) (by decide)) (in_o (by decide) (by decide)) (in_o (by decide) (by decide)) (in_o (by decide) (by decide)), ⟨⟨2, by decide, rfl⟩, fun k c hk hc => ⟨0, by decide, ?_⟩, rfl⟩, ⟨rfl, rfl, rfl, fun i hi => ?_, rfl, rfl⟩, fun u q hu hq => ?_, fun u hu => ?_, 0, 0, ⟨Nat.le_refl _, by decide, rfl, rfl, ?_, ?_, ?_, ?_, ?_, ?_, ?_⟩, fun j hj => absurd hj (Nat.not_lt_zero j), fun h w hh hw e1 e2 i hi => ?_⟩
  · rw [in_o (by omega) (by omega)]
    unfold F00
    rw [if_neg (by omega), if_neg (by omega), if_neg (by omega)]
    rfl
  · have h4 : i = 0 ∨ i = 1 ∨ i = 2 ∨ i = 3 := by omega
    rcases h4 with rfl | rfl | rfl | rfl <;> rfl
  · rw [in_o (a := 29 + u) (by omega) (by omega)]
    unfold inF F00
    rw [if_pos ⟨rfl, by omega⟩, if_neg (by omega), if_neg (by omega), if_pos (by omega), if_pos hq]
  · rw [in_o (by decide) (by decide), in_o (by decide) (by decide), in_o (by decide) (by decide)]
    exact ⟨rfl, rfl⟩
  · rw [in_o (by decide) (by decide)]; rfl
  · rw [in_o (by decide) (by decide)]; rfl
  · rw [in_o (by decide) (by decide)]; rfl
  · rw [in_o (by decide) (by decide)]; rfl
  · rw [in_o (by decide) (by decide)]; rfl
  · rw [in_o (by decide) (by decide)]; rfl
  · rw [in_o (by decide) (by decide)]; rfl
  · have e3 : (0 : Nat) = w := (nI_eq (by decide) (by omega)).mp (show nI 0 = nI w from e2)
    omega
theorem colN {F : gF} {c : Nat} {x y z : Int32} (hc : c < 2 ^ 31) : gw (gw (gw F 9 (nI c).toNatClampNeg x) 10 (nI c).toNatClampNeg y) 11 (nI c).toNatClampNeg z = gw (gw (gw F 9 c x) 10 c y) 11 c z := by rw [nI_clamp hc]
