theorem tF_n {X : gF} {a b : Nat} (hz : ¬ gT a) : tF X a b = X a b := by
  unfold gT at hz
  unfold tF
  split <;> first | rfl | (exfalso; omega)
theorem tF_g {X F : gF} {a b : Nat} (hz : gT a) (h : ∀ q, 43 ≤ q → X q = F q) : tF X a b = tF F a b := by
  have y1 := h 47 (by decide)
  have y2 := h 49 (by decide)
  have y3 := h 44 (by decide)
  have y4 := h 45 (by decide)
  have y5 := h 46 (by decide)
  have y6 := h 50 (by decide)
  have y7 := h 51 (by decide)
  have y8 := h 52 (by decide)
  have y9 := h 53 (by decide)
  have y10 := h 54 (by decide)
  have y11 := h 55 (by decide)
  have y12 := h 56 (by decide)
  have y13 := h 57 (by decide)
  have y14 := h 58 (by decide)
  have y15 := h 59 (by decide)
  have y16 := h 60 (by decide)
  have y17 := h 61 (by decide)
  have y18 := h 62 (by decide)
  have y19 := h 63 (by decide)
  have hd : a = 2 ∨ a = 4 ∨ a = 9 ∨ a = 10 ∨ a = 11 ∨ a = 14 ∨ a = 15 ∨ a = 16 ∨ a = 17 ∨ a = 19 ∨ a = 20 ∨ a = 21 ∨ a = 22 ∨ a = 23 ∨ a = 24 ∨ a = 25 ∨ a = 26 ∨ a = 29 ∨ a = 30 ∨ a = 31 ∨ a = 32 ∨ a = 34 ∨ a = 35 ∨ a = 36 ∨ a = 39 ∨ a = 40 ∨ a = 41 ∨ a = 42 := by
    unfold gT at hz
    omega
  rcases hd with rfl | rfl | rfl | rfl | rfl | rfl | rfl | rfl | rfl | rfl | rfl | rfl | rfl | rfl | rfl | rfl | rfl | rfl | rfl | rfl | rfl | rfl | rfl | rfl | rfl | rfl | rfl | rfl <;> simp only [tF, y1, y2, y3, y4, y5, y6, y7, y8, y9, y10, y11, y12, y13, y14, y15, y16, y17, y18, y19]
theorem tF_mix {X Y F : gF} (hF : tF F = F) (h1 : ∀ a, 43 ≤ a → X a = F a) (h2 : ∀ a, ¬ gT a → X a = Y a) (h3 : ∀ a, gT a → Y a = F a) : tF X = Y := by
  funext a b
  by_cases hz : gT a
  · rw [tF_g hz h1, hF, h3 a hz]
  · rw [tF_n hz, h2 a hz]
theorem tV_n {F V : gF} {a b : Nat} (hz : ¬ gTV a b) : tV F V a b = V a b := by
  unfold gTV at hz
  unfold tV
  split <;> first | rfl | (exfalso; omega)
theorem tV_g {F2 F V2 V : gF} {a b : Nat} (hz : gTV a b) (hF : F2 47 = F 47) (hV : V2 43 = V 43) : tV F2 V2 a b = tV F V a b := by
  have hd : (a = 1 ∧ (b = 0 ∨ b = 1 ∨ b = 2 ∨ b = 3 ∨ b = 4)) ∨ (a = 3 ∧ b = 3) ∨ (a = 18 ∧ b = 8) ∨ (a = 27 ∧ (b = 1 ∨ b = 2 ∨ b = 3 ∨ b = 4 ∨ b = 5)) ∨ (a = 33 ∧ (b = 3 ∨ b = 4 ∨ b = 5)) ∨ (a = 37 ∧ b = 1) := by
    unfold gTV at hz
    omega
  rcases hd with ⟨rfl, rfl | rfl | rfl | rfl | rfl⟩ | ⟨rfl, rfl⟩ | ⟨rfl, rfl⟩ | ⟨rfl, rfl | rfl | rfl | rfl | rfl⟩ | ⟨rfl, rfl | rfl | rfl⟩ | ⟨rfl, rfl⟩ <;> simp only [tV, hF, hV]
theorem tV_mix {X F Y Z V : gF} (hL : tV F V = V) (hF : X 47 = F 47) (h1 : Y 43 = V 43) (h2 : ∀ a b, ¬ gTV a b → Y a b = Z a b) (h3 : ∀ a b, gTV a b → Z a b = V a b) : tV X Y = Z := by
  funext a b
  by_cases hz : gTV a b
  · rw [tV_g hz hF h1, hL, h3 a b hz]
  · rw [tV_n hz, h2 a b hz]
/-- apply: what the class leaves is what the model's shadow becomes -/
theorem LI_apply {F V F1 V1 : gF} {o o1 : gO} {n b : Nat} {r : Int32} (h : LI F V b) (hn : V 3 3 = nI n) (hq : qApp F V o n r (F1, V1, o1)) : F1 49 = F 4 ∧ V1 43 6 = nI n ∧ (∀ F2 V2 : gF, (qFine (F1 49) n 64 0 = true → sim F1 V1 F2 V2 (qRuF (F1 49) n 64 0 (tF F1, tV F1 V1)).1 (gw (qRuF (F1 49) n 64 0 (tF F1, tV F1 V1)).2 3 3 0)) → (qFine (F1 49) n 64 0 = false → sim F1 V1 F2 V2 (tF F1) (gw (tV F1 V1) 3 3 0)) → LI F2 V2 b) := by
  obtain ⟨_, _, F5, N, h5, hN, ha, hb⟩ := hq
  dsimp only at ha hb
  obtain ⟨l1, l2, hC⟩ := h
  have e4 : F 49 = F 4 := by
    have e9 : tF F 4 = F 49 := rfl
    rw [← e9, l1]
  have hC5 : CI F5 (gw V 3 4 (nI N)) b := hC.keep (h5 9 (by decide) (by decide)) (h5 10 (by decide) (by decide)) (h5 11 (by decide) (by decide)) (h5 23 (by decide) (by decide)) (h5 24 (by decide) (by decide)) (h5 35 (by decide) (by decide)) (h5 36 (by decide) (by decide)) rfl rfl rfl rfl rfl hC.2.2.1 hC.2.2.2.2.1 rfl rfl rfl rfl
  have hz : ∀ {X Y : gF}, CI X Y b → CI X (gw Y 3 3 0) b := fun hh => hh.keep rfl rfl rfl rfl rfl rfl rfl rfl rfl rfl rfl rfl ⟨0, by decide, rfl⟩ hh.2.2.2.2.1 rfl rfl rfl rfl
  have v6 : V 43 6 = nI n := by
    rw [← hn]
    have e9 : tV F V 3 3 = V 43 6 := rfl
    rw [← e9, l2]
  cases hf : qFine (F 4) n 64 0 with
  | true =>
    obtain ⟨rfl, rfl⟩ := ha hf
    have fr := ruF_fr (S := F 4) (n := n) (x := (F5, gw V 3 4 (nI N))) 64 0 _ qFr.rf
    have g49 : (qRuF (F 4) n 64 0 (F5, gw V 3 4 (nI N))).1 49 = F 4 := by
      exact (funext (fun q => fr.1 49 q (Or.inl (by decide)))).trans ((h5 49 (by decide) (by decide)).trans e4)
    have t1 : tF (qRuF (F 4) n 64 0 (F5, gw V 3 4 (nI N))).1 = F5 := tF_mix l1 (fun a ha => (funext (fun q => fr.1 a q (Or.inl (by omega)))).trans (h5 a (by omega) (by omega))) (fun a ha => funext (fun q => fr.1 a q (Or.inl (fun z => ha (by unfold gT; omega))))) (fun a ha => h5 a (by unfold gT at ha; omega) (by unfold gT at ha; omega))
    have t2 : tV (qRuF (F 4) n 64 0 (F5, gw V 3 4 (nI N))).1 (gw (qRuF (F 4) n 64 0 (F5, gw V 3 4 (nI N))).2 3 3 0) = gw V 3 4 (nI N) := by
      refine tV_mix l2 ((funext (fun q => fr.1 47 q (Or.inl (by decide)))).trans (h5 47 (by decide) (by decide))) (funext (fun q => fr.2 43 q (Or.inl (by decide)))) (fun a b hab => ?_) (fun a b hab => ?_)
      · have e9 : gw (qRuF (F 4) n 64 0 (F5, gw V 3 4 (nI N))).2 3 3 0 a b = (qRuF (F 4) n 64 0 (F5, gw V 3 4 (nI N))).2 a b := by
          show gw _ 3 3 0 a b = _
          unfold gw
          unfold gTV at hab
          by_cases c : a = 3
          · rw [if_pos c, if_neg (by omega)]
          · rw [if_neg c]
        rw [e9]
        exact fr.2 a b (by unfold gTV at hab; omega)
      · unfold gw
        unfold gTV at hab
        by_cases c : a = 3
        · rw [if_pos c, if_neg (by omega)]
        · rw [if_neg c]
    refine ⟨g49, (fr.2 43 6 (Or.inl (by decide))).trans v6, fun F2 V2 s1 _ => ?_⟩
    have s2 := s1 (by rw [g49]; exact hf)
    rw [g49, t1, t2] at s2
    exact LI_step s2 (fun _ _ _ => rfl) (fun _ _ _ => rfl) (hz (CI_ruF 64 0 (F5, gw V 3 4 (nI N)) hC5))
  | false =>
    obtain ⟨rfl, rfl⟩ := hb hf
    have g49 : F1 49 = F 4 := (h5 49 (by decide) (by decide)).trans e4
    have t1 : tF F1 = F1 := tF_mix l1 (fun a ha => h5 a (by omega) (by omega)) (fun _ _ => rfl) (fun a ha => h5 a (by unfold gT at ha; omega) (by unfold gT at ha; omega))
    have t2 : tV F1 (gw (gw V 3 4 (nI N)) 3 3 0) = gw V 3 4 (nI N) := by
      refine tV_mix l2 (h5 47 (by decide) (by decide)) rfl (fun a b hab => ?_) (fun a b hab => ?_)
      · show gw (gw V 3 4 (nI N)) 3 3 0 a b = gw V 3 4 (nI N) a b
        unfold gTV at hab
        generalize gw V 3 4 (nI N) = Y
        unfold gw
        by_cases c : a = 3
        · rw [if_pos c, if_neg (by omega)]
        · rw [if_neg c]
      · unfold gw
        unfold gTV at hab
        by_cases c : a = 3
        · rw [if_pos c, if_neg (by omega)]
        · rw [if_neg c]
    refine ⟨g49, v6, fun F2 V2 _ s1 => ?_⟩
    have s2 := s1 (by rw [g49]; exact hf)
    rw [t1, t2] at s2
    exact LI_step s2 (fun _ _ _ => rfl) (fun _ _ _ => rfl) (hz hC5)
