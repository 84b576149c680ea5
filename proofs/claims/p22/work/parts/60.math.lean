/-! the invariant over the other calls -/
theorem PB.cong {F V F1 V1 : gF} (h : PB F V) (f : ∀ k, k < 4 → F1 (14 + k) = F (14 + k)) (v3 : V1 1 3 = V 1 3) (v33 : V1 3 3 = V 3 3) : PB F1 V1 := by
  obtain ⟨h1, h2, h3⟩ := h
  exact ⟨by rw [v3]; exact h1, fun k c hk hc => by rw [f k hk]; exact h2 k c hk hc, v33.trans h3⟩
theorem PR.cong {F V F1 V1 : gF} (h : PR F V) (f43 : F1 43 = F 43) (f2 : F1 2 = F 2) (v : ∀ k, V1 1 k = V 1 k) : PR F1 V1 := by
  obtain ⟨r0, r1, r2, r3, r7, r8⟩ := h
  exact ⟨by rw [f43, v]; exact r0, by rw [f43, v]; exact r1, by rw [f43, v]; exact r2, fun i hi => by rw [f43, f2]; exact r3 i hi, by rw [f43, v]; exact r7, by rw [f43, v]; exact r8⟩
theorem PK.cong {F F1 : gF} (h : PK F) (f44 : F1 44 = F 44) (f : ∀ u, u < 4 → F1 (29 + u) = F (29 + u)) : PK F1 := fun u q hu hq => by
  rw [f44, f u hu]
  exact h u q hu hq
theorem PD.cong {F F1 : gF} (h : PD F) (f47 : F1 47 = F 47) (f21 : F1 21 = F 21) (f22 : F1 22 = F 22) : PD F1 := fun u hu => by
  rw [f47, f21, f22]
  exact h u hu
theorem PJ.cong {F V F1 V1 : gF} {b : Nat} (h : PJ F V b) (f46 : F1 46 = F 46) (f45 : F1 45 = F 45) (f34 : F1 34 = F 34) (f35 : F1 35 = F 35) (f36 : F1 36 = F 36) (v33 : ∀ k, V1 33 k = V 33 k) (v27 : ∀ k, V1 27 k = V 27 k) : PJ F1 V1 b := by
  obtain ⟨N, w, ⟨c1, c2, c3, c4, c5, c6, c7, c8, c9, c10, c11⟩, hT, hL⟩ := h
  refine ⟨N, w, ⟨c1, c2, by rw [v33]; exact c3, by rw [v33]; exact c4, by rw [f46]; exact c5, by rw [f46]; exact c6, by rw [f46, v27]; exact c7, by rw [f46, v27]; exact c8, by rw [f46, v27]; exact c9, by rw [f46, v27]; exact c10, by rw [f46, v27]; exact c11⟩, fun j hj => ?_, fun hd w hh hw e1 e2 i hi => ?_⟩
  · rw [f34, f35, f45]
    exact hT j hj
  · rw [v33] at e1 e2
    rw [f36]
    exact hL hd w hh hw e1 e2 i hi
theorem PI.mono {F V : gF} {b : Nat} (h : PI F V b) : PI F V (b + 1) := by
  obtain ⟨hI, hB, hR, hK, hD, N, w, hC, hT, hL⟩ := h
  exact ⟨hI.mono (by omega), hB, hR, hK, hD, N, w, hC, fun j hj => by
    obtain ⟨q, g, h1, h2⟩ := hT j hj
    exact ⟨q, g, by omega, h2⟩, hL⟩
theorem PI_drift {F V : gF} {b u : Nat} {x y : Int32} (hu : u < 4) (h : PI F V b) : PI (gw (gw (gw (gw F 21 u x) 22 u y) 47 (2 * u) x) 47 (2 * u + 1) y) V b := by
  obtain ⟨hI, hB, hR, hK, hD, hJ⟩ := h
  have f : ∀ a, a ≠ 21 → a ≠ 22 → a ≠ 47 → gw (gw (gw (gw F 21 u x) 22 u y) 47 (2 * u) x) 47 (2 * u + 1) y a = F a := fun a h1 h2 h3 => by
    rw [gw_n _ _ _ h3, gw_n _ _ _ h3, gw_n _ _ _ h2, gw_n _ _ _ h1]
  refine ⟨hI.cells (f _ (by decide) (by decide) (by decide)) (f _ (by decide) (by decide) (by decide)) (f _ (by decide) (by decide) (by decide)) (f _ (by decide) (by decide) (by decide)) (f _ (by decide) (by decide) (by decide)) (f _ (by decide) (by decide) (by decide)) (f _ (by decide) (by decide) (by decide)), hB.cong (fun k hk => f _ (by omega) (by omega) (by omega)) rfl rfl, hR.cong (f _ (by decide) (by decide) (by decide)) (f _ (by decide) (by decide) (by decide)) (fun _ => rfl), hK.cong (f _ (by decide) (by decide) (by decide)) (fun u hu => f _ (by omega) (by omega) (by omega)), fun v hv => ?_, hJ.cong (f _ (by decide) (by decide) (by decide)) (f _ (by decide) (by decide) (by decide)) (f _ (by decide) (by decide) (by decide)) (f _ (by decide) (by decide) (by decide)) (f _ (by decide) (by decide) (by decide)) (fun _ => rfl) (fun _ => rfl)⟩
  obtain ⟨d1, d2⟩ := hD v hv
  by_cases c : v = u
  · subst c
    refine ⟨?_, ?_⟩
    · rw [gw_sn _ _ (by omega), gw_ss, gw_n _ _ _ (by decide), gw_n _ _ _ (by decide), gw_n _ _ _ (by decide), gw_ss]
    · rw [gw_ss, gw_n _ _ _ (by decide), gw_n _ _ _ (by decide), gw_ss]
  · refine ⟨?_, ?_⟩
    · rw [gw_sn _ _ (by omega), gw_sn _ _ (by omega), gw_n _ _ _ (by decide), gw_n _ _ _ (by decide), gw_n _ _ _ (by decide), gw_n _ _ _ (by decide), gw_n _ _ _ (by decide), gw_sn _ _ c]
      exact d1
    · rw [gw_sn _ _ (by omega), gw_sn _ _ (by omega), gw_n _ _ _ (by decide), gw_n _ _ _ (by decide), gw_n _ _ _ (by decide), gw_n _ _ _ (by decide), gw_sn _ _ c, gw_n _ _ _ (by decide)]
      exact d2
theorem PI_move {F V : gF} {b u : Nat} {x y : Int32} (h : PI F V b) : PI (cMove F u x y) V b := by
  obtain ⟨hI, hB, hR, hK, hD, hJ⟩ := h
  have f : ∀ a, a ≠ 19 → a ≠ 20 → cMove F u x y a = F a := fun a h1 h2 => cMove_hi h1 h2
  exact ⟨CI_move hI, hB.cong (fun k hk => f _ (by omega) (by omega)) rfl rfl, hR.cong (f _ (by decide) (by decide)) (f _ (by decide) (by decide)) (fun _ => rfl), hK.cong (f _ (by decide) (by decide)) (fun u hu => f _ (by omega) (by omega)), hD.cong (f _ (by decide) (by decide)) (f _ (by decide) (by decide)) (f _ (by decide) (by decide)), hJ.cong (f _ (by decide) (by decide)) (f _ (by decide) (by decide)) (f _ (by decide) (by decide)) (f _ (by decide) (by decide)) (f _ (by decide) (by decide)) (fun _ => rfl) (fun _ => rfl)⟩
theorem PI_putoff {F V : gF} {b t u : Nat} {x y : Int32} (hb : b ≤ 200) (ht : V 18 8 = nI t) (ht2 : t < 20) (hu : u < 4) (hd0 : ¬ V 1 4 = 0) (h : PI F V b) : PI (cKeep F t (nI u) x y (V 27 2 + V 1 4)) (gw V 18 8 (nI (t + 1))) b := by
  obtain ⟨hI, hB, hR, hK, hD, hJ⟩ := h
  have f : ∀ a, a < 23 ∨ 26 < a → cKeep F t (nI u) x y (V 27 2 + V 1 4) a = F a := fun a ha => cKeep_o ha
  have v : ∀ a k, a ≠ 18 → gw V 18 8 (nI (t + 1)) a k = V a k := fun a k ha => by rw [gw_n _ _ _ ha]
  exact ⟨CI_putoff (by omega) ht ht2 hu hd0 hI, hB.cong (fun k hk => f _ (by omega)) (v _ _ (by decide)) (v _ _ (by decide)), hR.cong (f _ (by decide)) (f _ (by decide)) (fun k => v _ _ (by decide)), hK.cong (f _ (by decide)) (fun u hu => f _ (by omega)), hD.cong (f _ (by decide)) (f _ (by decide)) (f _ (by decide)), hJ.cong (f _ (by decide)) (f _ (by decide)) (f _ (by decide)) (f _ (by decide)) (f _ (by decide)) (fun k => v _ _ (by decide)) (fun k => v _ _ (by decide))⟩
theorem PI_key {F V : gF} {b u q : Nat} {x : Int32} (hu : u < 4) (hq : q < 8) (h : PI F V b) : PI (gw (gw F 44 (8 * u + q) x) (29 + u) q x) V b := by
  obtain ⟨hI, hB, hR, hK, hD, hJ⟩ := h
  have f : ∀ a, a ≠ 44 → (a < 29 ∨ 32 < a) → gw (gw F 44 (8 * u + q) x) (29 + u) q x a = F a := fun a h1 h2 => by
    rw [gw_n _ _ _ (by omega), gw_n _ _ _ h1]
  refine ⟨hI.cells (f _ (by decide) (by decide)) (f _ (by decide) (by decide)) (f _ (by decide) (by decide)) (f _ (by decide) (by decide)) (f _ (by decide) (by decide)) (f _ (by decide) (by decide)) (f _ (by decide) (by decide)), hB.cong (fun k hk => f _ (by omega) (by omega)) rfl rfl, hR.cong (f _ (by decide) (by decide)) (f _ (by decide) (by decide)) (fun _ => rfl), fun v p hv hp => ?_, hD.cong (f _ (by decide) (by decide)) (f _ (by decide) (by decide)) (f _ (by decide) (by decide)), hJ.cong (f _ (by decide) (by decide)) (f _ (by decide) (by decide)) (f _ (by decide) (by decide)) (f _ (by decide) (by decide)) (f _ (by decide) (by decide)) (fun _ => rfl) (fun _ => rfl)⟩
  rw [gw_n (gw F 44 (8 * u + q) x) _ _ (show 44 ≠ 29 + u by omega)]
  by_cases c : v = u
  · subst c
    by_cases d : p = q
    · subst d
      rw [gw_ss, gw_ss]
    · rw [gw_sn _ _ (by omega), gw_sn _ _ d, gw_n _ _ _ (by omega)]
      exact hK v p hv hp
  · rw [gw_sn _ _ (by omega), gw_n _ _ _ (by omega), gw_n _ _ _ (by omega)]
    exact hK v p hv hp
theorem PI_tear {F V : gF} {b : Nat} (h : PI F V b) : PI (gw F 46 2 20) (gw V 27 1 20) b := by
  obtain ⟨hI, hB, hR, hK, hD, N, w, ⟨c1, c2, c3, c4, c5, c6, c7, c8, c9, c10, c11⟩, hT, hL⟩ := h
  have f : ∀ a, a ≠ 46 → gw F 46 2 20 a = F a := fun a h1 => gw_n _ _ _ h1
  have v : ∀ a k, a ≠ 27 → gw V 27 1 20 a k = V a k := fun a k ha => by rw [gw_n _ _ _ ha]
  have g : ∀ k, k ≠ 2 → gw F 46 2 20 46 k = F 46 k := fun k hk => gw_sn _ _ hk
  have g2 : ∀ k, k ≠ 1 → gw V 27 1 20 27 k = V 27 k := fun k hk => gw_sn _ _ hk
  refine ⟨CI.cells (CI_tear hI) (f _ (by decide)) (f _ (by decide)) (f _ (by decide)) (f _ (by decide)) (f _ (by decide)) (f _ (by decide)) (f _ (by decide)), hB.cong (fun k hk => f _ (by omega)) (v _ _ (by decide)) (v _ _ (by decide)), hR.cong (f _ (by decide)) (f _ (by decide)) (fun k => v _ _ (by decide)), hK.cong (f _ (by decide)) (fun u hu => f _ (by omega)), hD.cong (f _ (by decide)) (f _ (by decide)) (f _ (by decide)), N, w, ⟨c1, c2, (v _ _ (by decide)).trans c3, (v _ _ (by decide)).trans c4, (g _ (by decide)).trans c5, (g _ (by decide)).trans c6, by rw [gw_ss, gw_ss], by rw [g 3 (by decide), g2 2 (by decide)]; exact c8, by rw [g 4 (by decide), g2 3 (by decide)]; exact c9, by rw [g 5 (by decide), g2 4 (by decide)]; exact c10, by rw [g 6 (by decide), g2 5 (by decide)]; exact c11⟩, fun j hj => ?_, fun hd w hh hw e1 e2 i hi => ?_⟩
  · rw [f 34 (by decide), f 35 (by decide), f 45 (by decide)]
    exact hT j hj
  · rw [v _ _ (by decide)] at e1 e2
    rw [f 36 (by decide)]
    exact hL hd w hh hw e1 e2 i hi
/-- the law's t, set back -/
def tzF (Z : gF) (n : Nat) : gF := fun a b => if a = 45 ∧ b < n then 0 else Z a b
theorem tzF_0 {Z : gF} : tzF Z 0 = Z := by
  funext a b
  unfold tzF
  rw [if_neg (by omega)]
theorem tzF_s {Z : gF} {n : Nat} : gw (tzF Z n) 45 n 0 = tzF Z (n + 1) := by
  funext a b
  by_cases c : a = 45
  · subst c
    by_cases d : b = n
    · subst d
      rw [gw_ss]
      unfold tzF
      rw [if_pos ⟨rfl, by omega⟩]
    · rw [gw_sn _ _ d]
      unfold tzF
      by_cases e : b < n
      · rw [if_pos ⟨rfl, e⟩, if_pos ⟨rfl, by omega⟩]
      · rw [if_neg (by omega), if_neg (by omega)]
  · rw [gw_n _ _ _ c]
    unfold tzF
    rw [if_neg (by omega), if_neg (by omega)]
theorem tzF_o {Z : gF} {n a : Nat} (h : a ≠ 45) : tzF Z n a = Z a := funext fun b => by
  unfold tzF
  rw [if_neg (by omega)]
theorem cBeg_34 {F : gF} : ∀ n j, j < n → cBeg F n 34 j = 0
  | 0, _, h => absurd h (Nat.not_lt_zero _)
  | n + 1, j, h => by
    simp only [cBeg]
    rw [gw_n _ _ _ (by decide), gw_n _ _ _ (by decide)]
    by_cases e : j = n
    · subst e
      rw [gw_ss]
    · rw [gw_sn _ _ e]
      exact cBeg_34 n j (by omega)
theorem PI_job {F V : gF} {b n : Nat} (h1 : 1 ≤ n) (hn : n ≤ 40) (h : PI F V b) : PI (tzF (gw (gw (cBeg F n) 46 0 (nI n)) 46 1 0) 40) (gw (gw (gw V 33 3 (nI n)) 33 4 0) 33 5 (nI n)) b := by
  obtain ⟨hI, hB, hR, hK, hD, N, w, ⟨c1, c2, c3, c4, c5, c6, c7, c8, c9, c10, c11⟩, hT, hL⟩ := h
  have f0 : ∀ a, a ≠ 45 → a ≠ 46 → tzF (gw (gw (cBeg F n) 46 0 (nI n)) 46 1 0) 40 a = cBeg F n a := fun a h1 h2 => by
    rw [tzF_o h1, gw_n _ _ _ h2, gw_n _ _ _ h2]
  have f : ∀ a, a ≠ 45 → a ≠ 46 → (a < 34 ∨ 36 < a) → tzF (gw (gw (cBeg F n) 46 0 (nI n)) 46 1 0) 40 a = F a := fun a h1 h2 h3 => (f0 a h1 h2).trans (cBeg_o h3 n)
  have g : ∀ k, k ≠ 0 → k ≠ 1 → tzF (gw (gw (cBeg F n) 46 0 (nI n)) 46 1 0) 40 46 k = F 46 k := fun k h1 h2 => by
    rw [tzF_o (by decide), gw_sn _ _ h2, gw_sn _ _ h1, cBeg_o (by decide) n]
  have v : ∀ a k, a ≠ 33 → gw (gw (gw V 33 3 (nI n)) 33 4 0) 33 5 (nI n) a k = V a k := fun a k ha => by
    rw [gw_n _ _ _ ha, gw_n _ _ _ ha, gw_n _ _ _ ha]
  have v4 : gw (gw (gw V 33 3 (nI n)) 33 4 0) 33 5 (nI n) 33 4 = nI 0 := by
    rw [gw_sn _ _ (by decide), gw_ss]
    rfl
  have v5 : gw (gw (gw V 33 3 (nI n)) 33 4 0) 33 5 (nI n) 33 5 = nI n := gw_ss _ _ _ _
  refine ⟨CI.cells (CI_job (F := F) (n := n) (by omega) hI) (f0 _ (by decide) (by decide)) (f0 _ (by decide) (by decide)) (f0 _ (by decide) (by decide)) (f0 _ (by decide) (by decide)) (f0 _ (by decide) (by decide)) (f0 _ (by decide) (by decide)) (f0 _ (by decide) (by decide)), hB.cong (fun k hk => f _ (by omega) (by omega) (by omega)) (v _ _ (by decide)) (v _ _ (by decide)), hR.cong (f _ (by decide) (by decide) (by decide)) (f _ (by decide) (by decide) (by decide)) (fun k => v _ _ (by decide)), hK.cong (f _ (by decide) (by decide) (by decide)) (fun u hu => f _ (by omega) (by omega) (by omega)), hD.cong (f _ (by decide) (by decide) (by decide)) (f _ (by decide) (by decide) (by decide)) (f _ (by decide) (by decide) (by decide)), n, n, ⟨Nat.le_refl _, hn, ?_, v5, ?_, ?_, ?_, ?_, ?_, ?_, ?_⟩, fun j hj => ?_, fun hd w hh hw e1 e2 i hi => ?_⟩
  · rw [gw_sn _ _ (by decide), gw_sn _ _ (by decide), gw_ss]
  · rw [tzF_o (by decide), gw_sn _ _ (by decide), gw_ss]
  · rw [tzF_o (by decide), gw_ss, Nat.sub_self]
    rfl
  · rw [g 2 (by decide) (by decide), v _ _ (by decide)]; exact c7
  · rw [g 3 (by decide) (by decide), v _ _ (by decide)]; exact c8
  · rw [g 4 (by decide) (by decide), v _ _ (by decide)]; exact c9
  · rw [g 5 (by decide) (by decide), v _ _ (by decide)]; exact c10
  · rw [g 6 (by decide) (by decide), v _ _ (by decide)]; exact c11
  · refine ⟨0, 0, by omega, by decide, ?_, ?_, ?_⟩
    · rw [f0 34 (by decide) (by decide), cBeg_34 n j hj]
      rfl
    · rw [f0 35 (by decide) (by decide), ((cBeg_at n j).1 hj).2]
      rfl
    · unfold tzF
      rw [if_pos ⟨rfl, by omega⟩]
      rfl
  · rw [v4] at e1
    rw [v5] at e2
    have e3 : 0 = hd := (nI_eq (by decide) (by omega)).mp e1
    have e4 : n = w := (nI_eq (by omega) (by omega)).mp e2
    subst e3; subst e4
    rw [f0 36 (by decide) (by decide), Nat.zero_add, Nat.mod_eq_of_lt (by omega)]
    exact ⟨i, hi, ((cBeg_at n i).1 hi).1⟩
theorem PI_sign {F V : gF} {b : Nat} (h : PI F V b) : PI (cTkF F 256) (gw V 37 1 1) b := by
  obtain ⟨hI, hB, hR, hK, hD, hJ⟩ := h
  have f : ∀ a, a < 39 ∨ 43 ≤ a → cTkF F 256 a = F a := fun a ha => funext fun q => cTkF_o ha 256 (Nat.le_refl _)
  have v : ∀ a k, a ≠ 37 → gw V 37 1 1 a k = V a k := fun a k ha => by rw [gw_n _ _ _ ha]
  exact ⟨CI_sign hI, hB.cong (fun k hk => f _ (by omega)) (v _ _ (by decide)) (v _ _ (by decide)), hR.cong (f _ (by decide)) (f _ (by decide)) (fun k => v _ _ (by decide)), hK.cong (f _ (by decide)) (fun u hu => f _ (by omega)), hD.cong (f _ (by decide)) (f _ (by decide)) (f _ (by decide)), hJ.cong (f _ (by decide)) (f _ (by decide)) (f _ (by decide)) (f _ (by decide)) (f _ (by decide)) (fun k => v _ _ (by decide)) (fun k => v _ _ (by decide))⟩
theorem PI_colour {F V : gF} {b c : Nat} {x y z : Int32} (hx : gRng x 0 100 = true) (hy : gRng y 0 100 = true) (hz : gRng z 0 100 = true) (h : PI F V b) : PI (gw (gw (gw F 9 c x) 10 c y) 11 c z) V b := by
  obtain ⟨hI, hB, hR, hK, hD, hJ⟩ := h
  have f : ∀ a, a < 9 ∨ 11 < a → gw (gw (gw F 9 c x) 10 c y) 11 c z a = F a := fun a ha => by
    rw [gw_n _ _ _ (by omega), gw_n _ _ _ (by omega), gw_n _ _ _ (by omega)]
  exact ⟨CI_colour hx hy hz hI, hB.cong (fun k hk => f _ (by omega)) rfl rfl, hR.cong (f _ (by decide)) (f _ (by decide)) (fun _ => rfl), hK.cong (f _ (by decide)) (fun u hu => f _ (by omega)), hD.cong (f _ (by decide)) (f _ (by decide)) (f _ (by decide)), hJ.cong (f _ (by decide)) (f _ (by decide)) (f _ (by decide)) (f _ (by decide)) (f _ (by decide)) (fun _ => rfl) (fun _ => rfl)⟩
theorem plate_100 {F V : gF} {b k c : Nat} (h : CI F V b) (hk : k < 4) (hc : c < 64) : ∃ x, x ≤ 100 ∧ nI (cPlate F V k c) = nI x := by
  obtain ⟨a, w, h1, h2, ea, ew, _⟩ := cell_n h.2.2.2.2.2.2.1 hc hk
  obtain ⟨t, ht, et, _⟩ := plate_n (c := c) (k := k) h2 ew
  exact ⟨t, ht, by rw [et]⟩
theorem PI_plates {F V : gF} {b : Nat} (h : PI F V b) : PI (cMkF F V 256) V b := by
  obtain ⟨hI, ⟨h1, h2, h3⟩, hR, hK, hD, hJ⟩ := h
  have f : ∀ a, a < 14 ∨ 18 ≤ a → cMkF F V 256 a = F a := fun a ha => funext fun q => cMkF_o ha 256 (Nat.le_refl _)
  refine ⟨CI_plates hI, ⟨h1, fun k c hk hc => ?_, h3⟩, hR.cong (f _ (by decide)) (f _ (by decide)) (fun _ => rfl), hK.cong (f _ (by decide)) (fun u hu => f _ (by omega)), hD.cong (f _ (by decide)) (f _ (by decide)) (f _ (by decide)), hJ.cong (f _ (by decide)) (f _ (by decide)) (f _ (by decide)) (f _ (by decide)) (f _ (by decide)) (fun _ => rfl) (fun _ => rfl)⟩
  rw [cMkF_at hk 256, if_pos ⟨by omega, hc⟩]
  exact plate_100 hI hk hc
/-- how many tints of plates are other: none behind their making, at most all -/
theorem cMkN_n {F V : gF} : ∀ n, ∃ m, m ≤ n ∧ cMkN F V n = nI m
  | 0 => ⟨0, Nat.le_refl _, rfl⟩
  | n + 1 => by
    obtain ⟨m, hm, e⟩ := cMkN_n (F := F) (V := V) n
    simp only [cMkN]
    split
    · exact ⟨m, by omega, e⟩
    · exact ⟨m + 1, by omega, by rw [e]; exact nI_1 m⟩
theorem cMk_same {F V : gF} {k c : Nat} (hk : k < 4) (hc : c < 64) : cMkF F V 256 (14 + k) c = nI (cPlate (cMkF F V 256) V k c) := by
  rw [cMkF_at hk 256, if_pos ⟨by omega, hc⟩]
  unfold cPlate
  rw [cMkF_want hk, cMkF_lo (by decide)]
theorem cMkF_id {F V : gF} (h : ∀ k c, k < 4 → c < 64 → nI (cPlate F V k c) = F (14 + k) c) : ∀ n, n ≤ 256 → cMkF F V n = F ∧ cMkN F V n = 0
  | 0, _ => ⟨rfl, rfl⟩
  | n + 1, hn => by
    obtain ⟨h1, h2⟩ := cMkF_id h n (by omega)
    have h3 := h (n / 64) (n % 64) (by omega) (by omega)
    simp only [cMkF, cMkN]
    rw [h1, h2, if_pos h3, if_pos h3]
    exact ⟨rfl, rfl⟩
theorem cMk_twice {F V : gF} : cMkF (cMkF F V 256) V 256 = cMkF F V 256 ∧ cMkN (cMkF F V 256) V 256 = 0 := cMkF_id (fun k c hk hc => (cMk_same hk hc).symm) 256 (Nat.le_refl _)
/-! sums of what is printed -/
def sgF (F : gF) (n : Nat) : Int32 := cPrn F (n / 4) (n % 4)
theorem sg_sum {F : gF} : cTkN F 256 = mSum (sgF F) 256 := by
  rw [cTkN_sum]
  exact mSum_order (fun k c => cPrn F c k)
theorem sg_s {F : gF} {c k : Nat} (hk : k < 4) : mSum (sgF F) (4 * c + k) + cPrn F c k = mSum (sgF F) (4 * c + (k + 1)) := by
  show _ = mSum (sgF F) (4 * c + k) + sgF F (4 * c + k)
  unfold sgF
  rw [show (4 * c + k) / 4 = c by omega, show (4 * c + k) % 4 = k by omega]
theorem dif_0 {F : gF} {c : Nat} (hc : c < 64) : cDif (cTkF F 256) c 4 = 0 := by
  have e : ∀ k, k < 4 → gabs (cPrn (cTkF F 256) c k - cTkF F 256 (39 + k) c) = 0 := fun k hk => by
    rw [cTkF_prn hk, cTkF_at hk 256, if_pos ⟨by omega, hc⟩, Int32.sub_self]
    decide
  have h : cDif (cTkF F 256) c 4 = 0 + gabs (cPrn (cTkF F 256) c 0 - cTkF F 256 (39 + 0) c) + gabs (cPrn (cTkF F 256) c 1 - cTkF F 256 (39 + 1) c) + gabs (cPrn (cTkF F 256) c 2 - cTkF F 256 (39 + 2) c) + gabs (cPrn (cTkF F 256) c 3 - cTkF F 256 (39 + 3) c) := rfl
  rw [h, e 0 (by decide), e 1 (by decide), e 2 (by decide), e 3 (by decide)]
  decide
theorem fDif_s {V : gF} {c : Nat} (hc : c < 64) : fDif (gw V 37 1 1) (nI c) = 0 := by
  rw [fDif0 hc, gw_ss, if_neg (by decide)]
theorem fDri0 {u a b : Nat} (hu : u < 4) (ha : a < 11) (hb : b < 11) : fDri (nI u) (nI a - 5) (nI b - 5) = 0 := by
  have key : ∀ a, a < 11 → gRng (nI a - 5) (-5) 5 = true := by decide
  unfold fDri
  rw [if_pos (gI4 hu), if_pos ⟨key a ha, key b hb⟩]
theorem co_rng : ∀ a, a < 9 → gRng (nI a - 4) (-50) 50 = true := by decide
theorem fKey0 {u q x : Nat} (hu : u < 4) (hq : q < 8) (hx : x ≤ 100) : fKey (nI u) (nI q) (nI x) = 0 := by
  unfold fKey
  rw [if_pos ⟨gI4 hu, gI8 hq⟩, if_pos (gR100 hx)]
theorem fCol0 {c x y z : Nat} (hc : c < 64) (hx : x ≤ 100) (hy : y ≤ 100) (hz : z ≤ 100) : fCol (nI c) (nI x) (nI y) (nI z) = 0 := by
  unfold fCol
  rw [if_pos (gI64 hc), if_pos ⟨gR100 hx, gR100 hy, gR100 hz⟩]
theorem mv_x {F : gF} {u : Nat} {x y : Int32} : cMove F u x y 19 u = F 19 u + x := by
  unfold cMove
  rw [gw_n _ _ _ (by decide), gw_ss]
theorem add4 {a b : Int32} : a + (b - 4) = a + b - 4 := by grind
