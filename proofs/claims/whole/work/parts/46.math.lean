theorem xV_333 {F V : gF} {K : Prop} [Decidable K] {b : Nat} (h : b ≠ 4) (h2 : b ≠ 5) : xV F V K 33 b = V 33 b := by
  unfold xV cTakV
  split
  · rw [cRunV_o (by decide) (by decide)]
  · split
    · rw [gw_sn _ _ h, gw_sn _ _ h2, cRunV_o (by decide) (by decide)]
    · rw [gw_sn _ _ h, cRunV_o (by decide) (by decide)]
theorem CI_one {F V : gF} {b : Nat} {K : Prop} [Decidable K] (hb : b < 2 ^ 30) (h : CI F V b) : CI (xF F V K) (xV F V K) (b + 1) := by
  obtain ⟨k1, k2, k3, k4, k5, k6, ⟨k7, k8, k9⟩, k10⟩ := h
  refine ⟨cOK2_step hb k1, ?_, ?_, fun j => ?_, ?_, ?_, ⟨fun a c ha ha2 hc => ?_, ?_, ?_⟩, ?_⟩
  · rw [xV_333 (by decide) (by decide)]; exact k2
  · rw [xV_o (by decide) (by decide) (by decide)]; exact k3
  · have e : ∀ i, cRunF F (V 27 2).toNatClampNeg (V 18 8).toNatClampNeg 35 i = F 35 i := fun i => by rw [cRunF_o (by decide) (by decide) (by decide)]
    unfold xF cTakF
    split
    · rw [e]; exact k4 j
    · split
      · by_cases c : j = (cRunF F (V 27 2).toNatClampNeg (V 18 8).toNatClampNeg 36 (V 33 4).toNatClampNeg).toNatClampNeg
        · rw [c, gw_ss]; exact Or.inr rfl
        · rw [gw_sn _ _ c, gw_n _ _ _ (by decide), e]; exact k4 j
      · rw [gw_n _ _ _ (by decide), gw_n _ _ _ (by decide), e]; exact k4 j
  · rw [xV_o (by decide) (by decide) (by decide)]; exact k5
  · rw [xV_o (by decide) (by decide) (by decide)]; exact k6
  · rw [xF_o (by omega)]; exact k7 a c ha ha2 hc
  · rw [xV_o (by decide) (by decide) (by decide)]; exact k8
  · rw [xV_o (by decide) (by decide) (by decide)]; exact k9
  · rw [xV_o (by decide) (by decide) (by decide)]; exact k10
theorem CI_print {F V : gF} {b : Nat} {K : Prop} [Decidable K] (h : CI F V b) : ∀ n, b + n ≤ 2 ^ 30 → CI (xIt F V K n).1 (xIt F V K n).2.1 (b + n)
  | 0, _ => h
  | n + 1, hb => CI_one (b := b + n) (by omega) (CI_print h n (by omega))
theorem T_print {F V : gF} {K : Prop} [Decidable K] {a : Nat} (ha : ¬ gT a) : ∀ n, (xIt F V K n).1 a = F a
  | 0 => rfl
  | n + 1 => by
    simp only [xIt]
    rw [xF_o (by unfold gT at ha; omega), T_print ha n]
theorem cTakV_k {V : gF} {G : Prop} [Decidable G] {h w b : Nat} (h1 : b < 4 ∨ 5 < b) : cTakV V G h w 33 b = V 33 b := by
  unfold cTakV
  split
  · rfl
  · split
    · rw [gw_sn _ _ (by omega), gw_sn _ _ (by omega)]
    · rw [gw_sn _ _ (by omega)]
theorem TV_one {F V : gF} {K : Prop} [Decidable K] {a b : Nat} (h : ¬ gTV a b) : xV F V K a b = V a b := by
  unfold gTV at h
  by_cases h33 : a = 33
  · subst h33
    exact xV_333 (by omega) (by omega)
  · unfold xV
    rw [cTakV_o h33]
    unfold cRunV
    have e1 : ∀ Y : gF, ∀ x, gw Y 18 8 x a b = Y a b := fun Y x => by
      unfold gw
      by_cases c : a = 18
      · rw [if_pos c, if_neg (by omega)]
      · rw [if_neg c]
    have e2 : ∀ Y : gF, ∀ k x, 1 ≤ k → k ≤ 5 → gw Y 27 k x a b = Y a b := fun Y k x k1 k2 => by
      unfold gw
      by_cases c : a = 27
      · rw [if_pos c, if_neg (by omega)]
      · rw [if_neg c]
    rw [e1, e2 _ 2 _ (by decide) (by decide)]
    unfold cJudgeV
    split
    · exact e2 _ 1 _ (by decide) (by decide)
    · split
      · split
        · exact e2 _ 3 _ (by decide) (by decide)
        · exact e2 _ 5 _ (by decide) (by decide)
      · exact e2 _ 4 _ (by decide) (by decide)
theorem TV_print {F V : gF} {K : Prop} [Decidable K] {a b : Nat} (h : ¬ gTV a b) : ∀ n, (xIt F V K n).2.1 a b = V a b
  | 0 => rfl
  | n + 1 => by
    simp only [xIt]
    rw [TV_one h, TV_print h n]
/-- a rule that is laid keeps the invariant -/
theorem CI_up {S : Nat → Int32} {n p b : Nat} {x : gF × gF} (hok : qOk S n p) (h : CI x.1 x.2 b) : CI (qUp S n p x).1 (qUp S n p x).2 b := by
  obtain ⟨wn, hw, ew⟩ := qWh_n (S := S) (b := qb S n p) (m := qAt S n (p + 1) - qb S n p) hok.1
  have ew2 : qW S n p = nI wn := ew
  have hf := hok.2.2.2
  unfold qUp
  rw [ew2] at hf ⊢
  generalize qN S n (qNp S n p) = N at hf ⊢
  obtain ⟨⟨t, pr, hd, w, h1, h2, h3, h4, h5, h6, h7, h8, h9, h10, h11, h12⟩, k2, k3, k4, k5, k6, ⟨k7, k8, k9⟩, k10⟩ := h
  rcases hw with rfl | rfl | rfl | rfl | rfl | rfl
  · rw [if_neg (by decide), if_pos (by decide)]
    obtain ⟨j, hj, ej⟩ := gRng_n 100 (show (100 : Int32) = nI 100 from rfl) (by decide) hf
    exact ⟨⟨t, pr, hd, w, h1, h2, h3, h4, h5, h6, h7, h8, h9, h10, h11, h12⟩, k2, k3, k4, k5, k6, ⟨k7, ⟨j, by omega, ej⟩, k9⟩, k10⟩
  · rw [if_neg (by decide), if_neg (by decide), if_pos (by decide)]
    have hf2 : gRng N 100 400 = true := hf
    obtain ⟨q1, q2⟩ := of_decide_eq_true hf2
    have h0 : ¬ N < 0 := fun z => q1 (Int32.lt_trans z (by decide))
    obtain ⟨j, hj, ej⟩ := nI_of h0
    rw [ej] at q1 q2
    have a1 : 100 ≤ j := (nI_leI (a := 100) (by decide) hj).mp (Int32.not_lt.mp q1)
    have a2 : j ≤ 400 := (nI_leI (b := 400) hj (by decide)).mp (Int32.not_lt.mp q2)
    exact ⟨⟨t, pr, hd, w, h1, h2, h3, h4, h5, h6, h7, h8, h9, h10, h11, h12⟩, k2, k3, k4, k5, k6, ⟨k7, k8, ⟨j, a1, a2, ej⟩⟩, k10⟩
  · rw [if_neg (by decide), if_neg (by decide), if_neg (by decide), if_pos (by decide)]
    obtain ⟨j, hj, ej⟩ := gRng_n 1 (show (1 : Int32) = nI 1 from rfl) (by decide) hf
    have h01 : j = 0 ∨ j = 1 := by omega
    exact ⟨⟨t, pr, hd, w, h1, h2, h3, h4, h5, h6, h7, h8, h9, h10, h11, h12⟩, k2, k3, k4, k5, by rcases h01 with rfl | rfl; exact Or.inl ej; exact Or.inr ej, ⟨k7, k8, k9⟩, k10⟩
  · rw [if_pos (by decide)]
    exact CI.cells ⟨⟨t, pr, hd, w, h1, h2, h3, h4, h5, h6, h7, h8, h9, h10, h11, h12⟩, k2, k3, k4, k5, k6, ⟨k7, k8, k9⟩, k10⟩ rfl rfl rfl rfl rfl rfl rfl
  · rw [if_neg (by decide), if_neg (by decide), if_neg (by decide), if_neg (by decide), if_pos (by decide)]
    exact ⟨⟨t, pr, hd, w, h1, h2, h3, h4, h5, h6, h7, h8, h9, h10, h11, h12⟩, k2, k3, k4, k5, k6, ⟨k7, k8, k9⟩, k10⟩
  · rw [if_neg (by decide), if_neg (by decide), if_neg (by decide), if_neg (by decide), if_neg (by decide)]
    obtain ⟨j, hj, ej⟩ := gRng_n 50 (show (50 : Int32) = nI 50 from rfl) (by decide) hf
    exact ⟨⟨t, pr, hd, w, h1, h2, h3, h4, h5, h6, h7, h8, h9, h10, h11, h12⟩, k2, k3, k4, k5, k6, ⟨k7, k8, k9⟩, j, by omega, ej⟩
theorem CI_ruF {S : Nat → Int32} {n b : Nat} : ∀ f p (x : gF × gF), CI x.1 x.2 b → CI (qRuF S n f p x).1 (qRuF S n f p x).2 b
  | 0, _, _, h => h
  | f + 1, p, x, h => by
    simp only [qRuF]
    split
    · rename_i c
      exact CI_ruF f _ _ (CI_up c.2 h)
    · exact h
theorem ruF_fr {S : Nat → Int32} {n : Nat} {x : gF × gF} : ∀ f p (y : gF × gF), qFr x y → qFr x (qRuF S n f p y)
  | 0, _, _, h => h
  | f + 1, p, y, h => by
    simp only [qRuF]
    split
    · rename_i c
      exact ruF_fr f _ _ (qUp_fr h c.2)
    · exact h
