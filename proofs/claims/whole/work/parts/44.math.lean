/-- the class's cells and fields that the model has a shadow of -/
def gT (a : Nat) : Prop := a = 2 ∨ a = 4 ∨ (9 ≤ a ∧ a ≤ 11) ∨ (14 ≤ a ∧ a ≤ 17) ∨ (19 ≤ a ∧ a ≤ 26) ∨ (29 ≤ a ∧ a ≤ 32) ∨ (34 ≤ a ∧ a ≤ 36) ∨ (39 ≤ a ∧ a ≤ 42)
def gTV (a b : Nat) : Prop := (a = 1 ∧ b ≤ 4) ∨ (a = 3 ∧ b = 3) ∨ (a = 18 ∧ b = 8) ∨ (a = 27 ∧ 1 ≤ b ∧ b ≤ 5) ∨ (a = 33 ∧ 3 ≤ b ∧ b ≤ 5) ∨ (a = 37 ∧ b = 1)
theorem tF_T {X F : gF} (h : ∀ a, ¬ gT a → X a = F a) : tF X = tF F := by
  have h47 := h 47 (by unfold gT; omega)
  have h49 := h 49 (by unfold gT; omega)
  have h44 := h 44 (by unfold gT; omega)
  have h45 := h 45 (by unfold gT; omega)
  have h46 := h 46 (by unfold gT; omega)
  have h50 := h 50 (by unfold gT; omega)
  have h51 := h 51 (by unfold gT; omega)
  have h52 := h 52 (by unfold gT; omega)
  have h53 := h 53 (by unfold gT; omega)
  have h54 := h 54 (by unfold gT; omega)
  have h55 := h 55 (by unfold gT; omega)
  have h56 := h 56 (by unfold gT; omega)
  have h57 := h 57 (by unfold gT; omega)
  have h58 := h 58 (by unfold gT; omega)
  have h59 := h 59 (by unfold gT; omega)
  have h60 := h 60 (by unfold gT; omega)
  have h61 := h 61 (by unfold gT; omega)
  have h62 := h 62 (by unfold gT; omega)
  have h63 := h 63 (by unfold gT; omega)
  funext a b
  by_cases hz : gT a
  · have e : ∀ Y : gF, Y 47 = F 47 → Y 49 = F 49 → Y 44 = F 44 → Y 45 = F 45 → Y 46 = F 46 → Y 50 = F 50 → Y 51 = F 51 → Y 52 = F 52 → Y 53 = F 53 → Y 54 = F 54 → Y 55 = F 55 → Y 56 = F 56 → Y 57 = F 57 → Y 58 = F 58 → Y 59 = F 59 → Y 60 = F 60 → Y 61 = F 61 → Y 62 = F 62 → Y 63 = F 63 → tF Y a b = tF F a b := by
      intro Y y1 y2 y3 y4 y5 y6 y7 y8 y9 y10 y11 y12 y13 y14 y15 y16 y17 y18 y19
      have hd : a = 2 ∨ a = 4 ∨ a = 9 ∨ a = 10 ∨ a = 11 ∨ a = 14 ∨ a = 15 ∨ a = 16 ∨ a = 17 ∨ a = 19 ∨ a = 20 ∨ a = 21 ∨ a = 22 ∨ a = 23 ∨ a = 24 ∨ a = 25 ∨ a = 26 ∨ a = 29 ∨ a = 30 ∨ a = 31 ∨ a = 32 ∨ a = 34 ∨ a = 35 ∨ a = 36 ∨ a = 39 ∨ a = 40 ∨ a = 41 ∨ a = 42 := by
        unfold gT at hz
        omega
      rcases hd with rfl | rfl | rfl | rfl | rfl | rfl | rfl | rfl | rfl | rfl | rfl | rfl | rfl | rfl | rfl | rfl | rfl | rfl | rfl | rfl | rfl | rfl | rfl | rfl | rfl | rfl | rfl | rfl <;> simp only [tF, y1, y2, y3, y4, y5, y6, y7, y8, y9, y10, y11, y12, y13, y14, y15, y16, y17, y18, y19]
    exact e X h47 h49 h44 h45 h46 h50 h51 h52 h53 h54 h55 h56 h57 h58 h59 h60 h61 h62 h63
  · have e : ∀ Y : gF, tF Y a b = Y a b := by
      intro Y
      unfold gT at hz
      unfold tF
      split <;> first | rfl | (exfalso; omega)
    rw [e X, e F, h a hz]
theorem tV_T {F2 F V2 V : gF} (hF : F2 47 = F 47) (h : ∀ a b, ¬ gTV a b → V2 a b = V a b) : tV F2 V2 = tV F V := by
  funext a b
  unfold tV
  split <;> first | (rw [hF]) | (exact h _ _ (by unfold gTV; omega)) | (refine h a b ?_; unfold gTV; simp_all; omega)
theorem tF_ge {F : gF} {a b : Nat} (h : 43 ≤ a) : tF F a b = F a b := by
  unfold tF
  split <;> first | rfl | (exfalso; omega)
theorem tV_ge {F V : gF} {a b : Nat} (h : 43 ≤ a) : tV F V a b = V a b := by
  unfold tV
  split <;> first | rfl | (exfalso; omega)
/-- what holds of the class's side -/
def CI (F V : gF) (b : Nat) : Prop := cOK2 F V b ∧ (∃ N, N ≤ 200 ∧ V 33 3 = nI N) ∧ (∃ n, n ≤ 60 ∧ V 3 3 = nI n) ∧ (∀ j, F 35 j = 0 ∨ F 35 j = 1) ∧ (V 37 1 = 0 ∨ V 37 1 = 1) ∧ (V 1 2 = 0 ∨ V 1 2 = 1) ∧ cCB F V ∧ ∃ d, d ≤ 50 ∧ V 1 4 = nI d
theorem CI.cong {F V F2 V2 : gF} {b : Nat} (h : CI F V b) (hF : ∀ a, a < 43 → ∀ b, F2 a b = F a b) (hV : ∀ a, a < 43 → ∀ b, V2 a b = V a b) : CI F2 V2 b := by
  obtain ⟨⟨t, pr, hd, w, h1, h2, h3, h4, h5, h6, h7, h8, h9, h10, h11, h12⟩, k2, k3, k4, k5, k6, ⟨k7, k8, k9⟩, k10⟩ := h
  refine ⟨⟨t, pr, hd, w, h1, ?_, h3, ?_, h5, h6, ?_, ?_, fun j hj => ?_, fun j hj => ?_, fun i hi => ?_, fun i j hi hj e => ?_⟩, ?_, ?_, fun j => ?_, ?_, ?_, ⟨fun a c ha ha2 hc => ?_, ?_, ?_⟩, ?_⟩
  · rw [hV 18 (by decide)]; exact h2
  · rw [hV 27 (by decide)]; exact h4
  · rw [hV 33 (by decide)]; exact h7
  · rw [hV 33 (by decide)]; exact h8
  · rw [hF 24 (by decide)]; exact h9 j hj
  · rw [hF 23 (by decide)]; exact h10 j hj
  · obtain ⟨q, q1, q2, q3⟩ := h11 i hi
    exact ⟨q, q1, by rw [hF 36 (by decide)]; exact q2, by rw [hF 35 (by decide)]; exact q3⟩
  · rw [hF 36 (by decide), hF 36 (by decide)] at e
    exact h12 i j hi hj e
  · rw [hV 33 (by decide)]; exact k2
  · rw [hV 3 (by decide)]; exact k3
  · rw [hF 35 (by decide)]; exact k4 j
  · rw [hV 37 (by decide)]; exact k5
  · rw [hV 1 (by decide)]; exact k6
  · rw [hF a (by omega)]; exact k7 a c ha ha2 hc
  · rw [hV 1 (by decide)]; exact k8
  · rw [hV 1 (by decide)]; exact k9
  · rw [hV 1 (by decide)]; exact k10
def LI (F V : gF) (b : Nat) : Prop := tF F = F ∧ tV F V = V ∧ CI F V b
theorem LI_step {F1 V1 F2 V2 G W : gF} {b : Nat} (hs : sim F1 V1 F2 V2 G W) (hG : ∀ a, a < 43 → ∀ b, G a b = F1 a b) (hW : ∀ a, a < 43 → ∀ b, W a b = V1 a b) (hC : CI F1 V1 b) : LI F2 V2 b := by
  refine ⟨?_, ?_, hC.cong hs.2.2.1 hs.2.2.2⟩
  · funext a b
    by_cases h : a < 43
    · rw [hs.1 a h, hG a h, hs.2.2.1 a h]
    · exact tF_ge (by omega)
  · funext a b
    by_cases h : a < 43
    · rw [hs.2.1 a h, hW a h, hs.2.2.2 a h]
    · exact tV_ge (by omega)
/-- a call that both sides refuse, or that leaves the class as it is -/
theorem LI_same {F V F2 V2 : gF} {b : Nat} (h : LI F V b) (hs : sim F V F2 V2 (tF F) (tV F V)) : LI F2 V2 b := LI_step hs (fun a _ b => by rw [h.1]) (fun a _ b => by rw [h.2.1]) h.2.2
/-- a call: the class's side goes to F1, V1 by its own functions, the model's shadow too -/
theorem LI_call {F V F1 V1 : gF} {b : Nat} (h : LI F V b) (hF : ∀ a, ¬ gT a → F1 a = F a) (hV : ∀ a k, ¬ gTV a k → V1 a k = V a k) : tF F1 = F ∧ tV F1 V1 = V := by
  refine ⟨(tF_T hF).trans h.1, (tV_T (hF 47 (by unfold gT; omega)) hV).trans h.2.1⟩
