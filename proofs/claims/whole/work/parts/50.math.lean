theorem V00_t : tV F00 V00 = V00 := by
  funext a b
  by_cases hz : gTV a b
  · have hd : (a = 1 ∧ (b = 0 ∨ b = 1 ∨ b = 2 ∨ b = 3 ∨ b = 4)) ∨ (a = 3 ∧ b = 3) ∨ (a = 18 ∧ b = 8) ∨ (a = 27 ∧ (b = 1 ∨ b = 2 ∨ b = 3 ∨ b = 4 ∨ b = 5)) ∨ (a = 33 ∧ (b = 3 ∨ b = 4 ∨ b = 5)) ∨ (a = 37 ∧ b = 1) := by
      unfold gTV at hz
      omega
    rcases hd with ⟨rfl, rfl | rfl | rfl | rfl | rfl⟩ | ⟨rfl, rfl⟩ | ⟨rfl, rfl⟩ | ⟨rfl, rfl | rfl | rfl | rfl | rfl⟩ | ⟨rfl, rfl | rfl | rfl⟩ | ⟨rfl, rfl⟩ <;> rfl
  · exact tV_n hz
theorem CI_00 : CI F00 V00 0 := by
  refine ⟨⟨0, 0, 0, 0, by decide, rfl, by decide, rfl, by decide, by decide, rfl, rfl, fun j hj => absurd hj (Nat.not_lt_zero j), fun j hj => absurd hj (Nat.not_lt_zero j), fun i hi => absurd hi (Nat.not_lt_zero i), fun i j hi => absurd hi (Nat.not_lt_zero i)⟩, ⟨0, by decide, rfl⟩, ⟨0, by decide, rfl⟩, fun j => Or.inl rfl, Or.inl rfl, Or.inl rfl, ⟨fun a c ha ha2 hc => ⟨100, by decide, ?_⟩, ⟨50, by decide, rfl⟩, ⟨300, by decide, by decide, rfl⟩⟩, ⟨10, by decide, rfl⟩⟩
  unfold F00
  rw [if_neg (by omega), if_pos (by omega), if_pos hc]
  rfl
theorem LI_00 : LI F00 V00 0 := ⟨F00_t, V00_t, CI_00⟩
