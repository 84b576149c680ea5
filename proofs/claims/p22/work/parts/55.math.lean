/-! the invariant over the calls -/
theorem CI.one {F V V1 : gF} {b : Nat} (h : CI F V b) (hv : ∀ a k, a ≠ 1 → V1 a k = V a k) (h10 : ∃ s, s ≤ 100 ∧ V1 1 0 = nI s) (h11 : ∃ l, 100 ≤ l ∧ l ≤ 400 ∧ V1 1 1 = nI l) (h12 : V1 1 2 = 0 ∨ V1 1 2 = 1) (h14 : ∃ d, d ≤ 50 ∧ V1 1 4 = nI d) : CI F V1 b := by
  obtain ⟨⟨t, pr, hd, w, h1, h2, h3, h4, h5, h6, h7, h8, h9, h10b, h11b, h12b⟩, k2, k3, k4, k5, k6, ⟨k7, k8, k9⟩, k10⟩ := h
  refine ⟨⟨t, pr, hd, w, h1, (hv _ _ (by decide)).trans h2, h3, (hv _ _ (by decide)).trans h4, h5, h6, (hv _ _ (by decide)).trans h7, (hv _ _ (by decide)).trans h8, h9, h10b, h11b, h12b⟩, ?_, ?_, k4, ?_, h12, ⟨k7, h10, h11⟩, h14⟩
  · rw [hv _ _ (by decide)]; exact k2
  · rw [hv _ _ (by decide)]; exact k3
  · rw [hv _ _ (by decide)]; exact k5
/-- cells and fields that the invariant doesn't speak of -/
theorem PI.cong {F V F1 V1 : gF} {b : Nat} (h : PI F V b) (hF : ∀ a, a < 48 → a ≠ 4 → a ≠ 5 → a ≠ 6 → F1 a = F a) (hV : ∀ a k, a ≠ 3 → V1 a k = V a k) (h33 : V1 3 3 = 0) : PI F1 V1 b := by
  have f : ∀ a, 6 < a → a < 48 → F1 a = F a := fun a ha h48 => hF a h48 (by omega) (by omega) (by omega)
  obtain ⟨hI, ⟨hd, hT, _⟩, ⟨r0, r1, r2, r3, r7, r8⟩, hK, hD, N, w, ⟨c1, c2, c3, c4, c5, c6, c7, c8, c9, c10, c11⟩, hPT, hPL⟩ := h
  have v : ∀ a k, 3 < a → V1 a k = V a k := fun a k ha => hV a k (by omega)
  have v1 : ∀ k, V1 1 k = V 1 k := fun k => hV 1 k (by decide)
  refine ⟨hI.keep (f 9 (by decide) (by decide)) (f 10 (by decide) (by decide)) (f 11 (by decide) (by decide)) (f 23 (by decide) (by decide)) (f 24 (by decide) (by decide)) (f 35 (by decide) (by decide)) (f 36 (by decide) (by decide)) (v _ _ (by decide)) (v _ _ (by decide)) (v _ _ (by decide)) (v _ _ (by decide)) (v _ _ (by decide)) ⟨0, by decide, h33⟩ (by rw [v 37 1 (by decide)]; exact hI.2.2.2.2.1) (v1 0) (v1 1) (v1 2) (v1 4), ⟨?_, ?_, h33⟩, ⟨?_, ?_, ?_, ?_, ?_, ?_⟩, ?_, ?_, N, w, ⟨c1, c2, ?_, ?_, ?_, ?_, ?_, ?_, ?_, ?_, ?_⟩, ?_, ?_⟩
  · rw [v1]; exact hd
  · intro k c hk hc
    rw [f (14 + k) (by omega) (by omega)]
    exact hT k c hk hc
  · rw [f 43 (by decide) (by decide), v1]; exact r0
  · rw [f 43 (by decide) (by decide), v1]; exact r1
  · rw [f 43 (by decide) (by decide), v1]; exact r2
  · intro i hi
    rw [f 43 (by decide) (by decide), hF 2 (by decide) (by decide) (by decide) (by decide)]
    exact r3 i hi
  · rw [f 43 (by decide) (by decide), v1]; exact r7
  · rw [f 43 (by decide) (by decide), v1]; exact r8
  · intro u q hu hq
    rw [f 44 (by decide) (by decide), f (29 + u) (by omega) (by omega)]
    exact hK u q hu hq
  · intro u hu
    rw [f 47 (by decide) (by decide), f 21 (by decide) (by decide), f 22 (by decide) (by decide)]
    exact hD u hu
  · rw [v _ _ (by decide)]; exact c3
  · rw [v _ _ (by decide)]; exact c4
  · rw [f 46 (by decide) (by decide)]; exact c5
  · rw [f 46 (by decide) (by decide)]; exact c6
  · rw [f 46 (by decide) (by decide), v _ _ (by decide)]; exact c7
  · rw [f 46 (by decide) (by decide), v _ _ (by decide)]; exact c8
  · rw [f 46 (by decide) (by decide), v _ _ (by decide)]; exact c9
  · rw [f 46 (by decide) (by decide), v _ _ (by decide)]; exact c10
  · rw [f 46 (by decide) (by decide), v _ _ (by decide)]; exact c11
  · intro j hj
    rw [f 34 (by decide) (by decide), f 35 (by decide) (by decide), f 45 (by decide) (by decide)]
    exact hPT j hj
  · intro h w hh hw e1 e2 i hi
    rw [v _ _ (by decide)] at e1 e2
    rw [f 36 (by decide) (by decide)]
    exact hPL h w hh hw e1 e2 i hi
theorem ifc {P Q : Prop} [Decidable P] [Decidable Q] {a b c : Int32} (h : P ↔ Q) (e : b = c) : (if P then a else b) = if Q then a else c := by
  by_cases p : P
  · rw [if_pos p, if_pos (h.mp p)]
  · rw [if_neg p, if_neg (fun z => p (h.mpr z)), e]
theorem rat_k {w i k k2 : Nat} (hw : w < 6) (hk : (k < 3 ∧ k2 = k) ∨ (k = 7 ∧ k2 = 3) ∨ (k = 8 ∧ k2 = 4)) (hi : w = 3 → i < 4) : k = rAt w i ↔ w ≠ 3 ∧ k2 = rIx w := by
  unfold rAt rIx
  by_cases c : w = 3
  · have := hi c
    rw [if_pos c]
    exact ⟨fun z => by omega, fun z => absurd c z.1⟩
  · rw [if_neg c]
    by_cases d : w < 3
    · rw [if_pos d, if_pos d]
      omega
    · rw [if_neg d, if_neg d]
      omega
theorem rat_g {w i j : Nat} (hw : w < 6) (hj : j < 4) : 3 + j = rAt w i ↔ w = 3 ∧ j = i := by
  unfold rAt
  by_cases c : w = 3
  · rw [if_pos c]
    omega
  · rw [if_neg c]
    by_cases d : w < 3
    · rw [if_pos d]
      omega
    · rw [if_neg d]
      omega
/-- a rule that was applied and that the law noted -/
theorem PI_rule {F V F1 V1 F2 V2 : gF} {b w i m : Nat} (h : PI F V b) (hw : w < 6) (hok : rOk w i m = true) (hF : ∀ a, a ≠ 4 → a ≠ 5 → a ≠ 6 → F1 a = F a) (hV : ∀ a k, a ≠ 3 → V1 a k = V a k) (h33 : V1 3 3 = 0) (e2 : F2 = gw (if w = 3 then gw F1 2 i (nI m) else F1) 43 (rAt w i) (nI m)) (ev : V2 = if w = 3 then V1 else gw V1 1 (rIx w) (nI m)) : PI F2 V2 b := by
  have hP := h.cong (fun a _ => hF a) hV h33
  obtain ⟨hI, ⟨⟨d, hd, ed⟩, hT, _⟩, ⟨r0, r1, r2, r3, r7, r8⟩, hK, hD, N, w9, ⟨c1, c2, c3, c4, c5, c6, c7, c8, c9, c10, c11⟩, hPT, hPL⟩ := hP
  obtain ⟨m1, m2, m3⟩ := of_decide_eq_true hok
  have f : ∀ a, a ≠ 43 → a ≠ 2 → F2 a = F1 a := fun a h1 h2 => by
    rw [e2, gw_n _ _ _ h1]
    split
    · rw [gw_n _ _ _ h2]
    · rfl
  have v : ∀ a k, a ≠ 1 → V2 a k = V1 a k := fun a k ha => by
    rw [ev]
    split
    · rfl
    · rw [gw_n _ _ _ ha]
  have f43 : ∀ j, F2 43 j = if j = rAt w i then nI m else F1 43 j := fun j => by
    rw [e2]
    by_cases c : j = rAt w i
    · rw [if_pos c, c, gw_ss]
    · rw [if_neg c, gw_sn _ _ c]
      split
      · rw [gw_n _ _ _ (by decide)]
      · rfl
  have f2 : ∀ k, F2 2 k = if w = 3 ∧ k = i then nI m else F1 2 k := fun k => by
    rw [e2, gw_n _ _ _ (by decide)]
    by_cases c : w = 3
    · rw [if_pos c]
      by_cases c2 : k = i
      · rw [if_pos ⟨c, c2⟩, c2, gw_ss]
      · rw [if_neg (fun z => c2 z.2), gw_sn _ _ c2]
    · rw [if_neg c, if_neg (fun z => c z.1)]
  have v1 : ∀ k, V2 1 k = if w ≠ 3 ∧ k = rIx w then nI m else V1 1 k := fun k => by
    rw [ev]
    by_cases c : w = 3
    · rw [if_pos c, if_neg (fun z => z.1 c)]
    · rw [if_neg c]
      by_cases c2 : k = rIx w
      · rw [if_pos ⟨c, c2⟩, c2, gw_ss]
      · rw [if_neg (fun z => c2 z.2), gw_sn _ _ c2]
  have hI2 : CI F2 V1 b := hI.cells (f _ (by decide) (by decide)) (f _ (by decide) (by decide)) (f _ (by decide) (by decide)) (f _ (by decide) (by decide)) (f _ (by decide) (by decide)) (f _ (by decide) (by decide)) (f _ (by decide) (by decide))
  obtain ⟨_, _, _, _, _, k6, ⟨_, k8, k9⟩, k10⟩ := hI
  have hI3 : CI F2 V2 b := by
    refine hI2.one v ?_ ?_ ?_ ?_
    · rw [v1]
      by_cases c : w ≠ 3 ∧ 0 = rIx w
      · rw [if_pos c]
        have : w = 0 := by have := c.2; unfold rIx at this; split at this <;> omega
        subst this
        exact ⟨m, m1, rfl⟩
      · rw [if_neg c]; exact k8
    · rw [v1]
      by_cases c : w ≠ 3 ∧ 1 = rIx w
      · rw [if_pos c]
        have : w = 1 := by have := c.2; unfold rIx at this; split at this <;> omega
        subst this
        have := m2 rfl
        exact ⟨m, by omega, m1, rfl⟩
      · rw [if_neg c]; exact k9
    · rw [v1]
      by_cases c : w ≠ 3 ∧ 2 = rIx w
      · rw [if_pos c]
        have : w = 2 := by have c1 := c.1; have c2 := c.2; unfold rIx at c2; split at c2 <;> omega
        subst this
        have m1b : m ≤ 1 := m1
        have h01 : m = 0 ∨ m = 1 := by omega
        rcases h01 with rfl | rfl
        · exact Or.inl rfl
        · exact Or.inr rfl
      · rw [if_neg c]; exact k6
    · rw [v1]
      by_cases c : w ≠ 3 ∧ 4 = rIx w
      · rw [if_pos c]
        have : w = 5 := by have c1 := c.1; have c2 := c.2; unfold rIx at c2; split at c2 <;> omega
        subst this
        exact ⟨m, m1, rfl⟩
      · rw [if_neg c]; exact k10
  refine ⟨hI3, ⟨?_, ?_, ?_⟩, ?_, ?_, ?_, N, w9, ⟨c1, c2, ?_, ?_, ?_, ?_, ?_, ?_, ?_, ?_, ?_⟩, ?_, ?_⟩
  · rw [v1]
    by_cases c : w ≠ 3 ∧ 3 = rIx w
    · rw [if_pos c]
      have : w = 4 := by have c1 := c.1; have c2 := c.2; unfold rIx at c2; split at c2 <;> omega
      subst this
      exact ⟨m, m1, rfl⟩
    · rw [if_neg c]; exact ⟨d, hd, ed⟩
  · intro k c hk hc
    rw [f (14 + k) (by omega) (by omega)]
    exact hT k c hk hc
  · rw [v _ _ (by decide)]
    exact h33
  · refine ⟨by rw [f43, v1]; exact ifc (rat_k hw (by omega) m3) r0, by rw [f43, v1]; exact ifc (rat_k hw (by omega) m3) r1, by rw [f43, v1]; exact ifc (rat_k hw (by omega) m3) r2, fun j hj => by rw [f43, f2]; exact ifc (rat_g hw hj) (r3 j hj), by rw [f43, v1]; exact ifc (rat_k hw (by omega) m3) r7, by rw [f43, v1]; exact ifc (rat_k hw (by omega) m3) r8⟩
  · intro u q hu hq
    rw [f 44 (by decide) (by decide), f (29 + u) (by omega) (by omega)]
    exact hK u q hu hq
  · intro u hu
    rw [f 47 (by decide) (by decide), f 21 (by decide) (by decide), f 22 (by decide) (by decide)]
    exact hD u hu
  · rw [v _ _ (by decide)]; exact c3
  · rw [v _ _ (by decide)]; exact c4
  · rw [f 46 (by decide) (by decide)]; exact c5
  · rw [f 46 (by decide) (by decide)]; exact c6
  · rw [f 46 (by decide) (by decide), v _ _ (by decide)]; exact c7
  · rw [f 46 (by decide) (by decide), v _ _ (by decide)]; exact c8
  · rw [f 46 (by decide) (by decide), v _ _ (by decide)]; exact c9
  · rw [f 46 (by decide) (by decide), v _ _ (by decide)]; exact c10
  · rw [f 46 (by decide) (by decide), v _ _ (by decide)]; exact c11
  · intro j hj
    rw [f 34 (by decide) (by decide), f 35 (by decide) (by decide), f 45 (by decide) (by decide)]
    exact hPT j hj
  · intro h9 w8 hh hw8 e1 e3 j hj
    rw [v _ _ (by decide)] at e1 e3
    rw [f 36 (by decide) (by decide)]
    exact hPL h9 w8 hh hw8 e1 e3 j hj
theorem gw3 {V : gF} {x y z : Int32} : (∀ a k, a ≠ 3 → gw (gw (gw V 3 3 x) 3 4 y) 3 3 z a k = V a k) := fun a k ha => by
  rw [gw_n _ _ _ ha, gw_n _ _ _ ha, gw_n _ _ _ ha]
theorem rules_ok {F V F1 Fq Vq F3 V3 : gF} {b w i m : Nat} {x y : Int32} (hP : PI F V b) (hw : w < 6) (hok : rOk w i m = true) (hF1 : ∀ a, a ≠ 4 → a ≠ 5 → a ≠ 6 → F1 a = F a) (eu : Fq = if w = 3 then gw F1 2 i (nI m) else F1) (ev : Vq = if w = 3 then gw (gw (gw V 3 3 x) 3 4 y) 3 3 0 else gw (gw (gw (gw V 3 3 x) 3 4 y) 3 3 0) 1 (rIx w) (nI m)) (hFF : ∀ a, a ≠ 5 → a ≠ 6 → F3 a = gw Fq 43 (rAt w i) (nI m) a) (hVV : ∃ N, V3 = gw (gw Vq 3 4 (nI N)) 3 3 0) : PI F3 V3 b := by
  have h := PI_rule (F2 := gw Fq 43 (rAt w i) (nI m)) (V2 := Vq) hP hw hok hF1 gw3 (gw_ss _ _ _ _) (by rw [eu]) ev
  obtain ⟨N, e⟩ := hVV
  refine h.cong (fun a _ _ h5 h6 => hFF a h5 h6) (fun a k ha => ?_) ?_
  · rw [e, gw_n _ _ _ ha, gw_n _ _ _ ha]
  · rw [e, gw_ss]
theorem rules_no {F V F1 Fq Vq F3 V3 : gF} {b : Nat} {x y : Int32} (hP : PI F V b) (hF1 : ∀ a, a ≠ 4 → a ≠ 5 → a ≠ 6 → F1 a = F a) (eu : Fq = F1) (ev : Vq = gw (gw (gw V 3 3 x) 3 4 y) 3 3 0) (hFF : ∀ a, a ≠ 5 → a ≠ 6 → F3 a = Fq a) (hVV : ∃ N, V3 = gw (gw Vq 3 4 (nI N)) 3 3 0) : PI F3 V3 b := by
  have h := hP.cong (fun a _ => hF1 a) (gw3 (x := x) (y := y) (z := 0)) (gw_ss _ _ _ _)
  obtain ⟨N, e⟩ := hVV
  refine h.cong (fun a _ _ h5 h6 => by rw [hFF a h5 h6, eu]) (fun a k ha => ?_) ?_
  · rw [e, ev, gw_n _ _ _ ha, gw_n _ _ _ ha]
  · rw [e, gw_ss]
theorem rule_33 {V : gF} {w m : Nat} {z : Int32} : (if w = 3 then gw V 3 3 0 else gw (gw V 3 3 0) 1 (rIx w) z) 3 3 = 0 := by
  split
  · rw [gw_ss]
  · rw [gw_n _ _ _ (by decide), gw_ss]
/-! a copy is printed -/
theorem xF_ro {F V : gF} {K : Prop} [Decidable K] {a : Nat} (h : a ≠ 19) (h2 : a ≠ 20) (h3 : a < 23 ∨ 26 < a) (h4 : a < 34 ∨ 36 < a) : xF F V K a = F a := by
  unfold xF
  rw [cTakF_o (by omega) (by omega) (by omega), cRunF_o h h2 h3]
theorem xV_27 {F V : gF} {K : Prop} [Decidable K] {k : Nat} (hk : k ≠ 2) : xV F V K 27 k = cJudgeV V (cRight F (V 1 3)) K 27 k := by
  unfold xV
  rw [cTakV_o (by decide)]
  unfold cRunV
  rw [gw_n _ _ _ (by decide), gw_sn _ _ hk]
theorem xV_272 {F V : gF} {K : Prop} [Decidable K] {pr : Nat} (hp : V 27 2 = nI pr) (hb : pr < 2 ^ 31) : xV F V K 27 2 = V 27 2 + 1 := by
  unfold xV
  rw [cTakV_o (by decide)]
  unfold cRunV
  rw [gw_n _ _ _ (by decide), gw_ss, hp, nI_clamp hb, nI_1]
/-- the invariant behind a copy, with what the law notes of it -/
theorem PI_copy {X V G : gF} {b : Nat} {K : Prop} [Decidable K] (hP : PI X V b) (hb : b ≤ 200) (hGo : ∀ a, a < 48 → a ≠ 45 → a ≠ 46 → G a = xF X V K a) (h0 : G 46 0 = X 46 0) (h2 : G 46 2 = xV X V K 27 1) (h3 : G 46 3 = xV X V K 27 2) (h4 : G 46 4 = xV X V K 27 3) (h5 : G 46 5 = xV X V K 27 4) (h6 : G 46 6 = xV X V K 27 5) (hn0 : V 33 5 = 0 → G 45 = X 45 ∧ G 46 1 = X 46 1) (hn1 : ∀ hd q, hd < 200 → q < 200 → V 33 4 = nI hd → ¬ V 33 5 = 0 → X 36 hd = nI q → (∀ j, j ≠ q → G 45 j = X 45 j) ∧ G 45 q = X 45 q + (if xG X V K then 1001 else 1) ∧ G 46 1 = X 46 1 + (if xG X V K then 1 else 0)) : PI G (xV X V K) (b + 1) := by
  obtain ⟨hI, ⟨hdl, hT, h33⟩, ⟨r0, r1, r2, r3, r7, r8⟩, hK, hD, N, w, ⟨c1, c2, c3, c4, c5, c6, c7, c8, c9, c10, c11⟩, hPT, hPL⟩ := hP
  obtain ⟨hd, w2, hh2, hw2, hh4, hw52, hln⟩ := hI.line
  have hww : w2 = w := (nI_eq (by omega) (by omega)).mp (hw52.symm.trans c4)
  subst hww
  obtain ⟨t, ht2, ht⟩ := hI.t18
  obtain ⟨pr, hpr, hp⟩ : ∃ pr, pr ≤ b ∧ V 27 2 = nI pr := by
    obtain ⟨⟨t, pr, hd, w, h1, h2, h3, h4, _⟩, _⟩ := hI
    exact ⟨pr, h3, h4⟩
  have hI1 : CI (xF X V K) (xV X V K) (b + 1) := CI_one (by omega) hI
  have hIG : CI G (xV X V K) (b + 1) := hI1.cells (hGo _ (by decide) (by decide) (by decide)) (hGo _ (by decide) (by decide) (by decide)) (hGo _ (by decide) (by decide) (by decide)) (hGo _ (by decide) (by decide) (by decide)) (hGo _ (by decide) (by decide) (by decide)) (hGo _ (by decide) (by decide) (by decide)) (hGo _ (by decide) (by decide) (by decide))
  have g : ∀ a, a < 48 → a ≠ 45 → a ≠ 46 → a ≠ 19 → a ≠ 20 → (a < 23 ∨ 26 < a) → (a < 34 ∨ 36 < a) → G a = X a := fun a a1 a2 a3 a4 a5 a6 a7 => (hGo a a1 a2 a3).trans (xF_ro a4 a5 a6 a7)
  have v1 : ∀ k, xV X V K 1 k = V 1 k := fun k => xV_o (by decide) (by decide) (by decide)
  have eF : xF X V K = cTakF (cRunF X pr t) (xG X V K) hd w2 := xF_eq hp ht hh4 hw52 (by omega) (by omega) (by omega) (by omega)
  have eV : xV X V K = cTakV (cRunV X V (V 1 3) K pr t) (xG X V K) hd w2 := xV_eq hp ht hh4 hw52 (by omega) (by omega) (by omega) (by omega)
  have e34 : ∀ a i, 34 ≤ a → a ≤ 36 → cRunF X pr t a i = X a i := fun a i a1 a2 => by rw [cRunF_o (by omega) (by omega) (by omega)]
  have e33 : ∀ i, cRunV X V (V 1 3) K pr t 33 i = V 33 i := fun i => cRunV_o (by decide) (by decide)
  refine ⟨hIG, ⟨by rw [v1]; exact hdl, fun k c hk hc => by rw [g (14 + k) (by omega) (by omega) (by omega) (by omega) (by omega) (by omega) (by omega)]; exact hT k c hk hc, by rw [xV_o (by decide) (by decide) (by decide)]; exact h33⟩, ⟨?_, ?_, ?_, ?_, ?_, ?_⟩, ?_, ?_, ?_⟩
  · rw [g 43 (by decide) (by decide) (by decide) (by decide) (by decide) (by decide) (by decide), v1]; exact r0
  · rw [g 43 (by decide) (by decide) (by decide) (by decide) (by decide) (by decide) (by decide), v1]; exact r1
  · rw [g 43 (by decide) (by decide) (by decide) (by decide) (by decide) (by decide) (by decide), v1]; exact r2
  · intro i hi
    rw [g 43 (by decide) (by decide) (by decide) (by decide) (by decide) (by decide) (by decide), g 2 (by decide) (by decide) (by decide) (by decide) (by decide) (by decide) (by decide)]
    exact r3 i hi
  · rw [g 43 (by decide) (by decide) (by decide) (by decide) (by decide) (by decide) (by decide), v1]; exact r7
  · rw [g 43 (by decide) (by decide) (by decide) (by decide) (by decide) (by decide) (by decide), v1]; exact r8
  · intro u q hu hq
    rw [g 44 (by decide) (by decide) (by decide) (by decide) (by decide) (by decide) (by decide), g (29 + u) (by omega) (by omega) (by omega) (by omega) (by omega) (by omega) (by omega)]
    exact hK u q hu hq
  · intro u hu
    rw [g 47 (by decide) (by decide) (by decide) (by decide) (by decide) (by decide) (by decide), g 21 (by decide) (by decide) (by decide) (by decide) (by decide) (by decide) (by decide), g 22 (by decide) (by decide) (by decide) (by decide) (by decide) (by decide) (by decide)]
    exact hD u hu
  · by_cases hz : w2 = 0
    · obtain ⟨n1, n2⟩ := hn0 (by rw [hw52, hz]; rfl)
      have f1 : ∀ a i, 34 ≤ a → a ≤ 36 → G a i = X a i := fun a i a1 a2 => by
        rw [hGo a (by omega) (by omega) (by omega), eF]
        simp only [cTakF, if_pos hz]
        exact e34 a i a1 a2
      have f2 : ∀ i, xV X V K 33 i = V 33 i := fun i => by
        rw [eV]
        simp only [cTakV, if_pos hz]
        exact e33 i
      refine ⟨N, w2, ⟨c1, c2, (f2 3).trans c3, (f2 5).trans c4, h0.trans c5, n2.trans c6, h2, h3, h4, h5, h6⟩, ?_, ?_⟩
      · intro j hj
        obtain ⟨q, g9, q1, q2, q3, q4, q5⟩ := hPT j hj
        exact ⟨q, g9, by omega, q2, by rw [f1 34 j (by decide) (by decide)]; exact q3, by rw [f1 35 j (by decide) (by decide)]; exact q4, by rw [n1]; exact q5⟩
      · intro h w hh hw e1 e2 i hi
        rw [f2] at e1 e2
        rw [f1 36 _ (by decide) (by decide)]
        exact hPL h w hh hw e1 e2 i hi
    · obtain ⟨q0, hq0, eq0, ez0⟩ := hln 0 (by omega)
      obtain ⟨q1, hq1N, eq1⟩ := hPL hd w2 hh2 hw2 hh4 hw52 0 (by omega)
      rw [Nat.add_zero hd, Nat.mod_eq_of_lt hh2] at eq0 eq1
      have hqq : q1 = q0 := (nI_eq (by omega) (by omega)).mp (eq1.symm.trans eq0)
      subst hqq
      obtain ⟨n1, n2, n3⟩ := hn1 hd q1 hh2 hq0 hh4 (by rw [hw52]; exact fun z => hz ((nI_eq (b := 0) (by omega) (by decide)).mp z)) eq0
      have et : (cRunF X pr t 36 hd).toNatClampNeg = q1 := by rw [e34 36 hd (by decide) (by decide), eq0, nI_clamp (by omega)]
      by_cases hg : xG X V K
      · rw [if_pos hg] at n2 n3
        have f34 : ∀ j, G 34 j = if j = q1 then X 34 q1 + 1 else X 34 j := fun j => by
          rw [hGo 34 (by decide) (by decide) (by decide), eF]
          simp only [cTakF, if_neg hz, if_pos hg, et]
          rw [gw_n _ _ _ (by decide)]
          by_cases c : j = q1
          · rw [if_pos c, c, gw_ss, e34 34 q1 (by decide) (by decide)]
          · rw [if_neg c, gw_sn _ _ c, e34 34 j (by decide) (by decide)]
        have f35 : ∀ j, G 35 j = if j = q1 then 1 else X 35 j := fun j => by
          rw [hGo 35 (by decide) (by decide) (by decide), eF]
          simp only [cTakF, if_neg hz, if_pos hg, et]
          by_cases c : j = q1
          · rw [if_pos c, c, gw_ss]
          · rw [if_neg c, gw_sn _ _ c, gw_n _ _ _ (by decide), e34 35 j (by decide) (by decide)]
        have f36 : ∀ j, G 36 j = X 36 j := fun j => by
          rw [hGo 36 (by decide) (by decide) (by decide), eF]
          simp only [cTakF, if_neg hz, if_pos hg, et]
          rw [gw_n _ _ _ (by decide), gw_n _ _ _ (by decide), e34 36 j (by decide) (by decide)]
        have g3 : xV X V K 33 3 = V 33 3 := xV_333 (by decide) (by decide)
        have g4 : xV X V K 33 4 = nI ((hd + 1) % 200) := by
          rw [eV]
          simp only [cTakV, if_neg hz, if_pos hg]
          rw [gw_ss]
        have g5 : xV X V K 33 5 = nI (w2 - 1) := by
          rw [eV]
          simp only [cTakV, if_neg hz, if_pos hg]
          rw [gw_sn _ _ (by decide), gw_ss]
        refine ⟨N, w2 - 1, ⟨by omega, c2, g3.trans c3, g5, h0.trans c5, ?_, h2, h3, h4, h5, h6⟩, ?_, ?_⟩
        · rw [n3, c6]
          show nI (N - w2) + nI 1 = _
          rw [nI_add]
          congr 1
          omega
        · intro j hj
          obtain ⟨q, g9, y1, y2, y3, y4, y5⟩ := hPT j hj
          by_cases c : j = q1
          · subst c
            have hg0 : g9 = 0 := (nI_eq (b := 0) (by omega) (by decide)).mp (y4.symm.trans ez0)
            subst hg0
            refine ⟨q + 1, 1, by omega, by decide, ?_, ?_, ?_⟩
            · rw [f34, if_pos rfl, y3]
              exact nI_1 q
            · rw [f35, if_pos rfl]
              rfl
            · rw [n2, y5]
              show nI (1000 * 0 + q) + nI 1001 = _
              rw [nI_add]
              congr 1
              omega
          · refine ⟨q, g9, by omega, y2, ?_, ?_, ?_⟩
            · rw [f34, if_neg c]; exact y3
            · rw [f35, if_neg c]; exact y4
            · rw [n1 j c]; exact y5
        · intro h w hh hw e1 e2 i hi
          rw [g4] at e1
          rw [g5] at e2
          have hh9 : (hd + 1) % 200 = h := (nI_eq (by omega) (by omega)).mp e1
          have hw9 : w2 - 1 = w := (nI_eq (by omega) (by omega)).mp e2
          subst hh9; subst hw9
          rw [f36, show ((hd + 1) % 200 + i) % 200 = (hd + (i + 1)) % 200 by omega]
          exact hPL hd w2 hh2 hw2 hh4 hw52 (i + 1) (by omega)
      · rw [if_neg hg] at n2 n3
        have f34 : ∀ j, G 34 j = if j = q1 then X 34 q1 + 1 else X 34 j := fun j => by
          rw [hGo 34 (by decide) (by decide) (by decide), eF]
          simp only [cTakF, if_neg hz, if_neg hg, et]
          rw [gw_n _ _ _ (by decide)]
          by_cases c : j = q1
          · rw [if_pos c, c, gw_ss, e34 34 q1 (by decide) (by decide)]
          · rw [if_neg c, gw_sn _ _ c, e34 34 j (by decide) (by decide)]
        have f35 : ∀ j, G 35 j = X 35 j := fun j => by
          rw [hGo 35 (by decide) (by decide) (by decide), eF]
          simp only [cTakF, if_neg hz, if_neg hg, et]
          rw [gw_n _ _ _ (by decide), gw_n _ _ _ (by decide), e34 35 j (by decide) (by decide)]
        have f36 : ∀ j, G 36 j = if j = (hd + w2) % 200 then nI q1 else X 36 j := fun j => by
          rw [hGo 36 (by decide) (by decide) (by decide), eF]
          simp only [cTakF, if_neg hz, if_neg hg, et]
          by_cases c : j = (hd + w2) % 200
          · rw [if_pos c, c, gw_ss]
          · rw [if_neg c, gw_sn _ _ c, gw_n _ _ _ (by decide), e34 36 j (by decide) (by decide)]
        have g3 : xV X V K 33 3 = V 33 3 := xV_333 (by decide) (by decide)
        have g4 : xV X V K 33 4 = nI ((hd + 1) % 200) := by
          rw [eV]
          simp only [cTakV, if_neg hz, if_neg hg]
          rw [gw_ss]
        have g5 : xV X V K 33 5 = nI w2 := by
          rw [eV]
          simp only [cTakV, if_neg hz, if_neg hg]
          rw [gw_sn _ _ (by decide), e33]
          exact hw52
        refine ⟨N, w2, ⟨c1, c2, g3.trans c3, g5, h0.trans c5, ?_, h2, h3, h4, h5, h6⟩, ?_, ?_⟩
        · rw [n3, c6]
          exact Int32.add_zero _
        · intro j hj
          obtain ⟨q, g9, y1, y2, y3, y4, y5⟩ := hPT j hj
          by_cases c : j = q1
          · subst c
            have hg0 : g9 = 0 := (nI_eq (b := 0) (by omega) (by decide)).mp (y4.symm.trans ez0)
            subst hg0
            refine ⟨q + 1, 0, by omega, by decide, ?_, ?_, ?_⟩
            · rw [f34, if_pos rfl, y3]
              exact nI_1 q
            · rw [f35]; exact y4
            · rw [n2, y5]
              show nI (1000 * 0 + q) + nI 1 = _
              rw [nI_add]
              congr 1
          · refine ⟨q, g9, by omega, y2, ?_, ?_, ?_⟩
            · rw [f34, if_neg c]; exact y3
            · rw [f35]; exact y4
            · rw [n1 j c]; exact y5
        · intro h w hh hw e1 e2 i hi
          rw [g4] at e1
          rw [g5] at e2
          have hh9 : (hd + 1) % 200 = h := (nI_eq (by omega) (by omega)).mp e1
          have hw9 : w2 = w := (nI_eq (by omega) (by omega)).mp e2
          subst hh9; subst hw9
          rw [f36]
          by_cases c : ((hd + 1) % 200 + i) % 200 = (hd + w2) % 200
          · rw [if_pos c]
            exact ⟨q1, hq1N, rfl⟩
          · rw [if_neg c, show ((hd + 1) % 200 + i) % 200 = (hd + (i + 1)) % 200 by omega]
            exact hPL hd w2 hh2 hw2 hh4 hw52 (i + 1) (by omega)
