theorem mAp {F V F2 V3 : gF} {x : gF × gF} (hF : ∀ i, i ≠ 47 → i ≠ 48 → ∀ j, F2 i j = F i j) (hR : qRR (F2 47) x) (hx : qFr (tF F, tV F V) x) (hV : ∀ a k, (a ≠ 43 ∨ k < 31 ∨ 34 < k) → V3 a k = gw V 43 6 0 a k) : sim F V F2 V3 x.1 (gw x.2 3 3 0) := by
  obtain ⟨r1, r2, r3, r4, r5, r6⟩ := hR
  refine ⟨fun a ha b => ?_, fun a ha b => ?_, fun a ha b => hF a (by omega) (by omega) b, fun a ha b => ?_⟩
  · by_cases h2 : a = 2
    · subst h2
      by_cases hb : b < 4
      · rw [tF_2 hb, r1 b hb]
      · rw [hx.1 2 b (Or.inr (by omega))]
        show tF F2 2 b = tF F 2 b
        rw [show tF F2 2 b = 0 from if_neg hb, show tF F 2 b = 0 from if_neg hb]
    · rw [tF_ap hF h2 ha]
      exact (hx.1 a b (Or.inl h2)).symm
  · by_cases h1 : a = 1 ∧ b ≤ 4
    · obtain ⟨rfl, hb⟩ := h1
      rw [gw_n _ _ _ (by decide)]
      have h5 : b = 0 ∨ b = 1 ∨ b = 2 ∨ b = 3 ∨ b = 4 := by omega
      rcases h5 with rfl | rfl | rfl | rfl | rfl
      · exact r2.symm
      · exact r3.symm
      · exact r4.symm
      · exact r5.symm
      · exact r6.symm
    · have e1 : gw x.2 3 3 0 a b = gw (tV F V) 3 3 0 a b := by
        unfold gw
        by_cases h3 : a = 3
        · rw [if_pos h3, if_pos h3]
          by_cases h4 : b = 3
          · rw [if_pos h4, if_pos h4]
          · rw [if_neg h4, if_neg h4]
            exact hx.2 a b (by omega)
        · rw [if_neg h3, if_neg h3]
          exact hx.2 a b (by omega)
      rw [e1]
      have e2 : tV F2 V3 a b = tV F2 (gw V 43 6 0) a b := by
        unfold tV
        split <;> first | rfl | (exact hV _ _ (Or.inr (by decide))) | (exact hV _ _ (Or.inl (by omega)))
      rw [e2, tV_w6 ha]
      unfold gw
      have e3 : tV F2 V a b = tV F V a b := by
        unfold tV
        split <;> first | rfl | (exfalso; omega)
      rw [e3]
  · rw [hV a b (Or.inl (by omega)), gw_n _ _ _ (by omega)]
theorem mCp {F F1 : gF} {k : Nat} (hA : ∀ a, a ≠ 48 → F1 a = F a) (hB : ∀ j, j < k → F1 48 j = F 47 j) : ∀ j, j < k + 1 → gw F1 48 k (F1 47 k) 48 j = F 47 j := fun j hj => by
  by_cases h : j = k
  · subst h
    rw [gw_ss, hA 47 (by decide)]
  · rw [gw_sn _ _ h]
    exact hB j (by omega)
theorem mCp2 {F2 F3 : gF} {k : Nat} (hC : ∀ a, a ≠ 47 → F3 a = F2 a) (hB : ∀ j, j < k → F3 47 j = F2 48 j) : ∀ j, j < k + 1 → gw F3 47 k (F3 48 k) 47 j = F2 48 j := fun j hj => by
  by_cases h : j = k
  · subst h
    rw [gw_ss, hC 48 (by decide)]
  · rw [gw_sn _ _ h]
    exact hB j (by omega)
theorem qRR.cong {R R2 : Nat → Int32} {x : gF × gF} (h : qRR R x) (e : ∀ j, j < 9 → R2 j = R j) : qRR R2 x := by
  obtain ⟨h1, h2, h3, h4, h5, h6⟩ := h
  refine ⟨fun k hk => ?_, ?_, ?_, ?_, ?_, ?_⟩
  · rw [e _ (by omega)]; exact h1 k hk
  · rw [e _ (by omega)]; exact h2
  · rw [e _ (by omega)]; exact h3
  · rw [e _ (by omega)]; exact h4
  · rw [e _ (by omega)]; exact h5
  · rw [e _ (by omega)]; exact h6
theorem qRR.rf {F V : gF} : qRR (F 47) (tF F, tV F V) := ⟨fun _ hk => tF_2 hk, rfl, rfl, rfl, rfl, rfl⟩
theorem nI_sn {q : Nat} (h : q ≤ 63) : ¬ nI (q + 1) = 0 := nI_ne0 (Nat.succ_pos q) (by omega)
theorem mF3 {V : gF} {a k : Nat} {x y z : Int32} (h : a ≠ 43 ∨ k < 31 ∨ 34 < k) : gw (gw (gw V 43 31 x) 43 32 y) 43 34 z a k = V a k := by
  unfold gw
  by_cases h1 : a = 43
  · rw [if_pos h1, if_pos h1, if_pos h1, if_neg (by omega), if_neg (by omega), if_neg (by omega)]
  · rw [if_neg h1, if_neg h1, if_neg h1]
