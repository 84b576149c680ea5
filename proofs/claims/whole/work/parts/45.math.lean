theorem CI.keep {F V F1 V1 : gF} {b : Nat} (h : CI F V b) (f9 : F1 9 = F 9) (f10 : F1 10 = F 10) (f11 : F1 11 = F 11) (f23 : F1 23 = F 23) (f24 : F1 24 = F 24) (f35 : F1 35 = F 35) (f36 : F1 36 = F 36) (v18 : V1 18 8 = V 18 8) (v27 : V1 27 2 = V 27 2) (v333 : V1 33 3 = V 33 3) (v334 : V1 33 4 = V 33 4) (v335 : V1 33 5 = V 33 5) (v33 : ∃ n, n ≤ 60 ∧ V1 3 3 = nI n) (v37 : V1 37 1 = 0 ∨ V1 37 1 = 1) (v10 : V1 1 0 = V 1 0) (v11 : V1 1 1 = V 1 1) (v12 : V1 1 2 = V 1 2) (v14 : V1 1 4 = V 1 4) : CI F1 V1 b := by
  obtain ⟨⟨t, pr, hd, w, h1, h2, h3, h4, h5, h6, h7, h8, h9, h10, h11, h12⟩, k2, k3, k4, k5, k6, ⟨k7, k8, k9⟩, k10⟩ := h
  refine ⟨⟨t, pr, hd, w, h1, v18.trans h2, h3, v27.trans h4, h5, h6, v334.trans h7, v335.trans h8, ?_, ?_, ?_, ?_⟩, ?_, v33, ?_, v37, ?_, ⟨fun a c ha ha2 hc => ?_, ?_, ?_⟩, ?_⟩
  · rw [f24]; exact h9
  · rw [f23]; exact h10
  · rw [f36, f35]; exact h11
  · rw [f36]; exact h12
  · rw [v333]; exact k2
  · rw [f35]; exact k4
  · rw [v12]; exact k6
  · have h13 : a = 9 ∨ a = 10 ∨ a = 11 := by omega
    rcases h13 with rfl | rfl | rfl
    · rw [f9]; exact k7 9 c (by decide) (by decide) hc
    · rw [f10]; exact k7 10 c (by decide) (by decide) hc
    · rw [f11]; exact k7 11 c (by decide) (by decide) hc
  · rw [v10]; exact k8
  · rw [v11]; exact k9
  · rw [v14]; exact k10
/-- cells alone change, none that the invariant speaks of -/
theorem CI.cells {F V F1 : gF} {b : Nat} (h : CI F V b) (f9 : F1 9 = F 9) (f10 : F1 10 = F 10) (f11 : F1 11 = F 11) (f23 : F1 23 = F 23) (f24 : F1 24 = F 24) (f35 : F1 35 = F 35) (f36 : F1 36 = F 36) : CI F1 V b := h.keep f9 f10 f11 f23 f24 f35 f36 rfl rfl rfl rfl rfl h.2.2.1 h.2.2.2.2.1 rfl rfl rfl rfl
theorem CI.mono {F V : gF} {b b2 : Nat} (h : CI F V b) (hb : b ≤ b2) : CI F V b2 := by
  obtain ⟨⟨t, pr, hd, w, h1, h2, h3, hr⟩, k⟩ := h
  exact ⟨⟨t, pr, hd, w, h1, h2, Nat.le_trans h3 hb, hr⟩, k⟩
theorem CI_plates {F V : gF} {b : Nat} (h : CI F V b) : CI (cMkF F V 256) V b := by
  have e : ∀ a, a < 14 ∨ 18 ≤ a → cMkF F V 256 a = F a := fun a ha => funext (fun q => cMkF_o ha 256 (Nat.le_refl _))
  exact h.cells (e _ (by decide)) (e _ (by decide)) (e _ (by decide)) (e _ (by decide)) (e _ (by decide)) (e _ (by decide)) (e _ (by decide))
theorem T_plates {F V : gF} (a : Nat) (ha : ¬ gT a) : cMkF F V 256 a = F a := funext (fun q => cMkF_o (by unfold gT at ha; omega) 256 (Nat.le_refl _))
theorem CI_drift {F V : gF} {b u : Nat} {x y : Int32} (h : CI F V b) : CI (gw (gw F 21 u x) 22 u y) V b := h.cells rfl rfl rfl rfl rfl rfl rfl
theorem gT_gw {F : gF} {i k a : Nat} {x : Int32} (hi : gT i) (ha : ¬ gT a) : gw F i k x a = F a := gw_n _ _ _ (fun z => ha (z ▸ hi))
theorem CI_key {F V : gF} {b u q : Nat} {x : Int32} (hu : u < 4) (h : CI F V b) : CI (gw F (29 + u) q x) V b :=
  h.cells (gw_n _ _ _ (by omega)) (gw_n _ _ _ (by omega)) (gw_n _ _ _ (by omega)) (gw_n _ _ _ (by omega)) (gw_n _ _ _ (by omega)) (gw_n _ _ _ (by omega)) (gw_n _ _ _ (by omega))
theorem CI_tear {F V : gF} {b : Nat} (h : CI F V b) : CI F (gw V 27 1 20) b := h.keep rfl rfl rfl rfl rfl rfl rfl rfl rfl rfl rfl rfl h.2.2.1 h.2.2.2.2.1 rfl rfl rfl rfl
theorem CI_sign {F V : gF} {b : Nat} (h : CI F V b) : CI (cTkF F 256) (gw V 37 1 1) b := by
  have e : ∀ a, a < 39 → cTkF F 256 a = F a := fun a ha => funext (fun q => cTkF_o (Or.inl ha) 256 (Nat.le_refl _))
  exact h.keep (e _ (by decide)) (e _ (by decide)) (e _ (by decide)) (e _ (by decide)) (e _ (by decide)) (e _ (by decide)) (e _ (by decide)) rfl rfl rfl rfl rfl h.2.2.1 (Or.inr rfl) rfl rfl rfl rfl
theorem CI_type {F V : gF} {b n : Nat} {x : Int32} (hn : n < 60) (h : CI F V b) : CI (gw F 4 n x) (gw V 3 3 (nI (n + 1))) b := h.keep rfl rfl rfl rfl rfl rfl rfl rfl rfl rfl rfl rfl ⟨n + 1, by omega, rfl⟩ h.2.2.2.2.1 rfl rfl rfl rfl
theorem gRng_100 {x : Int32} (h : gRng x 0 100 = true) : ∃ k, k ≤ 100 ∧ x = nI k := by
  obtain ⟨k, hk, e⟩ := gRng_n 100 (show (100 : Int32) = nI 100 from rfl) (by decide) h
  exact ⟨k, by omega, e⟩
theorem CI_colour {F V : gF} {b c : Nat} {x y z : Int32} (hx : gRng x 0 100 = true) (hy : gRng y 0 100 = true) (hz : gRng z 0 100 = true) (h : CI F V b) : CI (gw (gw (gw F 9 c x) 10 c y) 11 c z) V b := by
  obtain ⟨⟨t, pr, hd, w, h1, h2, h3, h4, h5, h6, h7, h8, h9, h10, h11, h12⟩, k2, k3, k4, k5, k6, ⟨k7, k8, k9⟩, k10⟩ := h
  refine ⟨⟨t, pr, hd, w, h1, h2, h3, h4, h5, h6, h7, h8, h9, h10, h11, h12⟩, k2, k3, k4, k5, k6, ⟨fun a q ha ha2 hq => ?_, k8, k9⟩, k10⟩
  have h13 : a = 9 ∨ a = 10 ∨ a = 11 := by omega
  rcases h13 with rfl | rfl | rfl
  · rw [gw_n _ _ _ (by decide), gw_n _ _ _ (by decide)]
    by_cases e : q = c
    · rw [e, gw_ss]; exact gRng_100 hx
    · rw [gw_sn _ _ e]; exact k7 9 q (by decide) (by decide) hq
  · rw [gw_n _ _ _ (by decide)]
    by_cases e : q = c
    · rw [e, gw_ss]; exact gRng_100 hy
    · rw [gw_sn _ _ e, gw_n _ _ _ (by decide)]; exact k7 10 q (by decide) (by decide) hq
  · by_cases e : q = c
    · rw [e, gw_ss]; exact gRng_100 hz
    · rw [gw_sn _ _ e, gw_n _ _ _ (by decide), gw_n _ _ _ (by decide)]; exact k7 11 q (by decide) (by decide) hq
theorem CI_move {F V : gF} {b u : Nat} {x y : Int32} (h : CI F V b) : CI (cMove F u x y) V b :=
  h.cells (cMove_hi (by decide) (by decide)) (cMove_hi (by decide) (by decide)) (cMove_hi (by decide) (by decide)) (cMove_hi (by decide) (by decide)) (cMove_hi (by decide) (by decide)) (cMove_hi (by decide) (by decide)) (cMove_hi (by decide) (by decide))
theorem CI_putoff {F V : gF} {b t u : Nat} {x y : Int32} (hb : b ≤ 2 ^ 29) (ht : V 18 8 = nI t) (ht2 : t < 20) (hu : u < 4) (hd0 : ¬ V 1 4 = 0) (h : CI F V b) : CI (cKeep F t (nI u) x y (V 27 2 + V 1 4)) (gw V 18 8 (nI (t + 1))) b := by
  obtain ⟨⟨t2, pr, hd, w, h1, h2, h3, h4, h5, h6, h7, h8, h9, h10, h11, h12⟩, k2, k3, k4, k5, k6, ⟨k7, k8, k9⟩, d, hdl, k10⟩ := h
  have e : t2 = t := by
    rw [h2] at ht
    exact (nI_eq (by omega) (by omega)).mp ht
  subst e
  have hd1 : d ≠ 0 := fun z => hd0 (by rw [k10, z]; rfl)
  have o : ∀ a, a < 23 ∨ 26 < a → cKeep F t2 (nI u) x y (V 27 2 + V 1 4) a = F a := fun a ha => cKeep_o ha
  refine ⟨⟨t2 + 1, pr, hd, w, by omega, rfl, h3, h4, h5, h6, h7, h8, fun j hj => ?_, fun j hj => ?_, ?_, ?_⟩, k2, k3, ?_, k5, k6, ⟨fun a c ha ha2 hc => ?_, k8, k9⟩, d, hdl, k10⟩
  · by_cases e : j = t2
    · rw [e, cKeep_24]; exact ⟨u, hu, rfl⟩
    · rw [cKeep_hi e]; exact h9 j (by omega)
  · by_cases e : j = t2
    · rw [e, cKeep_23, h4, k10, nI_add]
      exact ⟨pr + d, by omega, by omega, rfl⟩
    · rw [cKeep_hi e]; exact h10 j (by omega)
  · rw [o 36 (by decide), o 35 (by decide)]; exact h11
  · rw [o 36 (by decide)]; exact h12
  · rw [o 35 (by decide)]; exact k4
  · rw [o a (by omega)]; exact k7 a c ha ha2 hc
theorem cBeg_o {F : gF} {a : Nat} (h : a < 34 ∨ 36 < a) : ∀ n, cBeg F n a = F a
  | 0 => rfl
  | n + 1 => by
    simp only [cBeg]
    rw [gw_n _ _ _ (by omega), gw_n _ _ _ (by omega), gw_n _ _ _ (by omega), cBeg_o h n]
theorem cBeg_at {F : gF} : ∀ n j, (j < n → cBeg F n 36 j = nI j ∧ cBeg F n 35 j = 0) ∧ (n ≤ j → cBeg F n 36 j = F 36 j ∧ cBeg F n 35 j = F 35 j)
  | 0, j => ⟨fun h => absurd h (Nat.not_lt_zero j), fun _ => ⟨rfl, rfl⟩⟩
  | n + 1, j => by
    have ih := cBeg_at (F := F) n j
    simp only [cBeg]
    by_cases e : j = n
    · subst e
      refine ⟨fun _ => ⟨by rw [gw_ss], by rw [gw_n _ _ _ (by decide), gw_ss]⟩, fun h => by omega⟩
    · rw [gw_sn _ _ e, gw_n _ _ _ (show 36 ≠ 35 by decide), gw_n _ _ _ (show 36 ≠ 34 by decide), gw_n _ _ _ (show 35 ≠ 36 by decide), gw_sn _ _ e, gw_n _ _ _ (show 35 ≠ 34 by decide)]
      exact ⟨fun h => ih.1 (by omega), fun h => ih.2 (by omega)⟩
theorem CI_job {F V : gF} {b n : Nat} (hn : n ≤ 200) (h : CI F V b) : CI (cBeg F n) (gw (gw (gw V 33 3 (nI n)) 33 4 0) 33 5 (nI n)) b := by
  obtain ⟨⟨t, pr, hd, w, h1, h2, h3, h4, h5, h6, h7, h8, h9, h10, h11, h12⟩, k2, k3, k4, k5, k6, ⟨k7, k8, k9⟩, k10⟩ := h
  refine ⟨⟨t, pr, 0, n, h1, h2, h3, h4, by decide, hn, rfl, rfl, ?_, ?_, fun i hi => ?_, fun i j hi hj e => ?_⟩, ⟨n, hn, rfl⟩, k3, fun j => ?_, k5, k6, ⟨fun a c ha ha2 hc => ?_, k8, k9⟩, k10⟩
  · rw [cBeg_o (by decide)]; exact h9
  · rw [cBeg_o (by decide)]; exact h10
  · rw [Nat.zero_add, Nat.mod_eq_of_lt (by omega)]
    exact ⟨i, by omega, ((cBeg_at n i).1 hi).1, ((cBeg_at n i).1 hi).2⟩
  · rw [Nat.zero_add, Nat.zero_add, Nat.mod_eq_of_lt (by omega), Nat.mod_eq_of_lt (by omega), ((cBeg_at n i).1 hi).1, ((cBeg_at n j).1 hj).1] at e
    exact (nI_eq (by omega) (by omega)).mp e
  · by_cases c : j < n
    · rw [((cBeg_at n j).1 c).2]; exact Or.inl rfl
    · rw [((cBeg_at n j).2 (by omega)).2]; exact k4 j
  · rw [cBeg_o (by omega)]; exact k7 a c ha ha2 hc
