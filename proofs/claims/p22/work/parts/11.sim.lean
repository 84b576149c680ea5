def tF (F : gF) : gF := fun a b => match a with
  | 2 => if b < 4 then F 47 (3 + b) else 0
  | 4 => F 49 b
  | 9 => F 44 b
  | 10 => F 45 b
  | 11 => F 46 b
  | 14 => F 50 (4 * b + 0)
  | 15 => F 50 (4 * b + 1)
  | 16 => F 50 (4 * b + 2)
  | 17 => F 50 (4 * b + 3)
  | 19 => F 51 b
  | 20 => F 52 b
  | 21 => F 53 b
  | 22 => F 54 b
  | 23 => F 59 b
  | 24 => F 56 b
  | 25 => F 57 b
  | 26 => F 58 b
  | 29 => if b < 8 then F 55 (8 * 0 + b) else 0
  | 30 => if b < 8 then F 55 (8 * 1 + b) else 0
  | 31 => if b < 8 then F 55 (8 * 2 + b) else 0
  | 32 => if b < 8 then F 55 (8 * 3 + b) else 0
  | 34 => F 61 b
  | 35 => F 60 b
  | 36 => F 62 b
  | 39 => F 63 (4 * b + 0)
  | 40 => F 63 (4 * b + 1)
  | 41 => F 63 (4 * b + 2)
  | 42 => F 63 (4 * b + 3)
  | _ => F a b
def tV (F V : gF) : gF := fun a b => match a, b with
  | 1, 0 => F 47 0
  | 1, 1 => F 47 1
  | 1, 2 => F 47 2
  | 1, 3 => F 47 7
  | 1, 4 => F 47 8
  | 3, 3 => V 43 6
  | 18, 8 => V 43 13
  | 27, 1 => V 43 18
  | 27, 2 => V 43 25
  | 27, 3 => V 43 26
  | 27, 4 => V 43 27
  | 27, 5 => V 43 28
  | 33, 3 => V 43 19
  | 33, 4 => V 43 23
  | 33, 5 => V 43 24
  | 37, 1 => V 43 29
  | _, _ => V a b
def sim (F V F2 V2 G W : gF) : Prop := (∀ a, a < 43 → ∀ b, tF F2 a b = G a b) ∧ (∀ a, a < 43 → ∀ b, tV F2 V2 a b = W a b) ∧ (∀ a, a < 43 → ∀ b, F2 a b = F a b) ∧ (∀ a, a < 43 → ∀ b, V2 a b = V a b)
theorem sim.rf {F V : gF} : sim F V F V (tF F) (tV F V) := ⟨fun _ _ _ => rfl, fun _ _ _ => rfl, fun _ _ _ => rfl, fun _ _ _ => rfl⟩
theorem gw_hi {F : gF} {i k a b : Nat} {x : Int32} (ha : a < 43) (hi : 43 ≤ i) : gw F i k x a b = F a b := by
  unfold gw
  rw [if_neg (by omega)]
theorem tF_14 {F : gF} {k b : Nat} (h : k < 4) : tF F (14 + k) b = F 50 (4 * b + k) := by
  have h2 : k = 0 ∨ k = 1 ∨ k = 2 ∨ k = 3 := by omega
  rcases h2 with h3 | h3 | h3 | h3 <;> subst h3 <;> rfl
theorem tF_39 {F : gF} {k b : Nat} (h : k < 4) : tF F (39 + k) b = F 63 (4 * b + k) := by
  have h2 : k = 0 ∨ k = 1 ∨ k = 2 ∨ k = 3 := by omega
  rcases h2 with h3 | h3 | h3 | h3 <;> subst h3 <;> rfl
theorem tF_29 {F : gF} {k b : Nat} (h : k < 4) (hb : b < 8) : tF F (29 + k) b = F 55 (8 * k + b) := by
  have h2 : k = 0 ∨ k = 1 ∨ k = 2 ∨ k = 3 := by omega
  rcases h2 with h3 | h3 | h3 | h3 <;> subst h3 <;> exact if_pos hb
theorem tF_2 {F : gF} {k : Nat} (h : k < 4) : tF F 2 k = F 47 (3 + k) := if_pos h
/-- which cells tF reads -/
theorem tF_cong {F F2 : gF} {a b : Nat} (h : ∀ i, 43 ≤ i → ∀ j, F2 i j = F i j) (h2 : F2 a b = F a b) : tF F2 a b = tF F a b := by
  unfold tF
  split <;> first | exact h2 | (rw [h _ (by decide)]) | (rw [h _ (by decide)])
theorem tV_cong {F F2 V V2 : gF} {a b : Nat} (h : ∀ i, 43 ≤ i → ∀ j, F2 i j = F i j) (hv : ∀ i, 43 ≤ i → ∀ j, V2 i j = V i j) (h2 : V2 a b = V a b) : tV F2 V2 a b = tV F V a b := by
  unfold tV
  split <;> first | exact h2 | exact h _ (by decide) _ | exact hv _ (by decide) _
theorem tF_w44 {F : gF} {k a b : Nat} {x : Int32} (ha : a < 43) : tF (gw F 44 k x) a b = gw (tF F) 9 k x a b := by
  unfold gw tF
  split <;> simp_all <;> (intros; omega)
theorem sim.w44 {F V F2 V2 G W : gF} {k : Nat} {x : Int32} (h : sim F V F2 V2 G W) : sim F V (gw F2 44 k x) V2 (gw G 9 k x) W := by
  refine ⟨fun a ha b => ?_, fun a ha b => ?_, fun a ha b => by rw [gw_hi ha (by decide)]; exact h.2.2.1 a ha b, h.2.2.2⟩
  · rw [tF_w44 ha]
    unfold gw
    rw [h.1 a ha]
  · rw [← h.2.1 a ha b]
    unfold tV
    split <;> rfl
theorem tF_w45 {F : gF} {k a b : Nat} {x : Int32} (ha : a < 43) : tF (gw F 45 k x) a b = gw (tF F) 10 k x a b := by
  unfold gw tF
  split <;> simp_all <;> (intros; omega)
theorem sim.w45 {F V F2 V2 G W : gF} {k : Nat} {x : Int32} (h : sim F V F2 V2 G W) : sim F V (gw F2 45 k x) V2 (gw G 10 k x) W := by
  refine ⟨fun a ha b => ?_, fun a ha b => ?_, fun a ha b => by rw [gw_hi ha (by decide)]; exact h.2.2.1 a ha b, h.2.2.2⟩
  · rw [tF_w45 ha]
    unfold gw
    rw [h.1 a ha]
  · rw [← h.2.1 a ha b]
    unfold tV
    split <;> rfl
theorem tF_w46 {F : gF} {k a b : Nat} {x : Int32} (ha : a < 43) : tF (gw F 46 k x) a b = gw (tF F) 11 k x a b := by
  unfold gw tF
  split <;> simp_all <;> (intros; omega)
theorem sim.w46 {F V F2 V2 G W : gF} {k : Nat} {x : Int32} (h : sim F V F2 V2 G W) : sim F V (gw F2 46 k x) V2 (gw G 11 k x) W := by
  refine ⟨fun a ha b => ?_, fun a ha b => ?_, fun a ha b => by rw [gw_hi ha (by decide)]; exact h.2.2.1 a ha b, h.2.2.2⟩
  · rw [tF_w46 ha]
    unfold gw
    rw [h.1 a ha]
  · rw [← h.2.1 a ha b]
    unfold tV
    split <;> rfl
theorem tF_w49 {F : gF} {k a b : Nat} {x : Int32} (ha : a < 43) : tF (gw F 49 k x) a b = gw (tF F) 4 k x a b := by
  unfold gw tF
  split <;> simp_all <;> (intros; omega)
theorem sim.w49 {F V F2 V2 G W : gF} {k : Nat} {x : Int32} (h : sim F V F2 V2 G W) : sim F V (gw F2 49 k x) V2 (gw G 4 k x) W := by
  refine ⟨fun a ha b => ?_, fun a ha b => ?_, fun a ha b => by rw [gw_hi ha (by decide)]; exact h.2.2.1 a ha b, h.2.2.2⟩
  · rw [tF_w49 ha]
    unfold gw
    rw [h.1 a ha]
  · rw [← h.2.1 a ha b]
    unfold tV
    split <;> rfl
theorem tF_w51 {F : gF} {k a b : Nat} {x : Int32} (ha : a < 43) : tF (gw F 51 k x) a b = gw (tF F) 19 k x a b := by
  unfold gw tF
  split <;> simp_all <;> (intros; omega)
theorem sim.w51 {F V F2 V2 G W : gF} {k : Nat} {x : Int32} (h : sim F V F2 V2 G W) : sim F V (gw F2 51 k x) V2 (gw G 19 k x) W := by
  refine ⟨fun a ha b => ?_, fun a ha b => ?_, fun a ha b => by rw [gw_hi ha (by decide)]; exact h.2.2.1 a ha b, h.2.2.2⟩
  · rw [tF_w51 ha]
    unfold gw
    rw [h.1 a ha]
  · rw [← h.2.1 a ha b]
    unfold tV
    split <;> rfl
theorem tF_w52 {F : gF} {k a b : Nat} {x : Int32} (ha : a < 43) : tF (gw F 52 k x) a b = gw (tF F) 20 k x a b := by
  unfold gw tF
  split <;> simp_all <;> (intros; omega)
theorem sim.w52 {F V F2 V2 G W : gF} {k : Nat} {x : Int32} (h : sim F V F2 V2 G W) : sim F V (gw F2 52 k x) V2 (gw G 20 k x) W := by
  refine ⟨fun a ha b => ?_, fun a ha b => ?_, fun a ha b => by rw [gw_hi ha (by decide)]; exact h.2.2.1 a ha b, h.2.2.2⟩
  · rw [tF_w52 ha]
    unfold gw
    rw [h.1 a ha]
  · rw [← h.2.1 a ha b]
    unfold tV
    split <;> rfl
theorem tF_w53 {F : gF} {k a b : Nat} {x : Int32} (ha : a < 43) : tF (gw F 53 k x) a b = gw (tF F) 21 k x a b := by
  unfold gw tF
  split <;> simp_all <;> (intros; omega)
theorem sim.w53 {F V F2 V2 G W : gF} {k : Nat} {x : Int32} (h : sim F V F2 V2 G W) : sim F V (gw F2 53 k x) V2 (gw G 21 k x) W := by
  refine ⟨fun a ha b => ?_, fun a ha b => ?_, fun a ha b => by rw [gw_hi ha (by decide)]; exact h.2.2.1 a ha b, h.2.2.2⟩
  · rw [tF_w53 ha]
    unfold gw
    rw [h.1 a ha]
  · rw [← h.2.1 a ha b]
    unfold tV
    split <;> rfl
theorem tF_w54 {F : gF} {k a b : Nat} {x : Int32} (ha : a < 43) : tF (gw F 54 k x) a b = gw (tF F) 22 k x a b := by
  unfold gw tF
  split <;> simp_all <;> (intros; omega)
theorem sim.w54 {F V F2 V2 G W : gF} {k : Nat} {x : Int32} (h : sim F V F2 V2 G W) : sim F V (gw F2 54 k x) V2 (gw G 22 k x) W := by
  refine ⟨fun a ha b => ?_, fun a ha b => ?_, fun a ha b => by rw [gw_hi ha (by decide)]; exact h.2.2.1 a ha b, h.2.2.2⟩
  · rw [tF_w54 ha]
    unfold gw
    rw [h.1 a ha]
  · rw [← h.2.1 a ha b]
    unfold tV
    split <;> rfl
theorem tF_w56 {F : gF} {k a b : Nat} {x : Int32} (ha : a < 43) : tF (gw F 56 k x) a b = gw (tF F) 24 k x a b := by
  unfold gw tF
  split <;> simp_all <;> (intros; omega)
theorem sim.w56 {F V F2 V2 G W : gF} {k : Nat} {x : Int32} (h : sim F V F2 V2 G W) : sim F V (gw F2 56 k x) V2 (gw G 24 k x) W := by
  refine ⟨fun a ha b => ?_, fun a ha b => ?_, fun a ha b => by rw [gw_hi ha (by decide)]; exact h.2.2.1 a ha b, h.2.2.2⟩
  · rw [tF_w56 ha]
    unfold gw
    rw [h.1 a ha]
  · rw [← h.2.1 a ha b]
    unfold tV
    split <;> rfl
theorem tF_w57 {F : gF} {k a b : Nat} {x : Int32} (ha : a < 43) : tF (gw F 57 k x) a b = gw (tF F) 25 k x a b := by
  unfold gw tF
  split <;> simp_all <;> (intros; omega)
theorem sim.w57 {F V F2 V2 G W : gF} {k : Nat} {x : Int32} (h : sim F V F2 V2 G W) : sim F V (gw F2 57 k x) V2 (gw G 25 k x) W := by
  refine ⟨fun a ha b => ?_, fun a ha b => ?_, fun a ha b => by rw [gw_hi ha (by decide)]; exact h.2.2.1 a ha b, h.2.2.2⟩
  · rw [tF_w57 ha]
    unfold gw
    rw [h.1 a ha]
  · rw [← h.2.1 a ha b]
    unfold tV
    split <;> rfl
theorem tF_w58 {F : gF} {k a b : Nat} {x : Int32} (ha : a < 43) : tF (gw F 58 k x) a b = gw (tF F) 26 k x a b := by
  unfold gw tF
  split <;> simp_all <;> (intros; omega)
theorem sim.w58 {F V F2 V2 G W : gF} {k : Nat} {x : Int32} (h : sim F V F2 V2 G W) : sim F V (gw F2 58 k x) V2 (gw G 26 k x) W := by
  refine ⟨fun a ha b => ?_, fun a ha b => ?_, fun a ha b => by rw [gw_hi ha (by decide)]; exact h.2.2.1 a ha b, h.2.2.2⟩
  · rw [tF_w58 ha]
    unfold gw
    rw [h.1 a ha]
  · rw [← h.2.1 a ha b]
    unfold tV
    split <;> rfl
theorem tF_w59 {F : gF} {k a b : Nat} {x : Int32} (ha : a < 43) : tF (gw F 59 k x) a b = gw (tF F) 23 k x a b := by
  unfold gw tF
  split <;> simp_all <;> (intros; omega)
theorem sim.w59 {F V F2 V2 G W : gF} {k : Nat} {x : Int32} (h : sim F V F2 V2 G W) : sim F V (gw F2 59 k x) V2 (gw G 23 k x) W := by
  refine ⟨fun a ha b => ?_, fun a ha b => ?_, fun a ha b => by rw [gw_hi ha (by decide)]; exact h.2.2.1 a ha b, h.2.2.2⟩
  · rw [tF_w59 ha]
    unfold gw
    rw [h.1 a ha]
  · rw [← h.2.1 a ha b]
    unfold tV
    split <;> rfl
theorem tF_w60 {F : gF} {k a b : Nat} {x : Int32} (ha : a < 43) : tF (gw F 60 k x) a b = gw (tF F) 35 k x a b := by
  unfold gw tF
  split <;> simp_all <;> (intros; omega)
theorem sim.w60 {F V F2 V2 G W : gF} {k : Nat} {x : Int32} (h : sim F V F2 V2 G W) : sim F V (gw F2 60 k x) V2 (gw G 35 k x) W := by
  refine ⟨fun a ha b => ?_, fun a ha b => ?_, fun a ha b => by rw [gw_hi ha (by decide)]; exact h.2.2.1 a ha b, h.2.2.2⟩
  · rw [tF_w60 ha]
    unfold gw
    rw [h.1 a ha]
  · rw [← h.2.1 a ha b]
    unfold tV
    split <;> rfl
theorem tF_w61 {F : gF} {k a b : Nat} {x : Int32} (ha : a < 43) : tF (gw F 61 k x) a b = gw (tF F) 34 k x a b := by
  unfold gw tF
  split <;> simp_all <;> (intros; omega)
theorem sim.w61 {F V F2 V2 G W : gF} {k : Nat} {x : Int32} (h : sim F V F2 V2 G W) : sim F V (gw F2 61 k x) V2 (gw G 34 k x) W := by
  refine ⟨fun a ha b => ?_, fun a ha b => ?_, fun a ha b => by rw [gw_hi ha (by decide)]; exact h.2.2.1 a ha b, h.2.2.2⟩
  · rw [tF_w61 ha]
    unfold gw
    rw [h.1 a ha]
  · rw [← h.2.1 a ha b]
    unfold tV
    split <;> rfl
theorem tF_w62 {F : gF} {k a b : Nat} {x : Int32} (ha : a < 43) : tF (gw F 62 k x) a b = gw (tF F) 36 k x a b := by
  unfold gw tF
  split <;> simp_all <;> (intros; omega)
theorem sim.w62 {F V F2 V2 G W : gF} {k : Nat} {x : Int32} (h : sim F V F2 V2 G W) : sim F V (gw F2 62 k x) V2 (gw G 36 k x) W := by
  refine ⟨fun a ha b => ?_, fun a ha b => ?_, fun a ha b => by rw [gw_hi ha (by decide)]; exact h.2.2.1 a ha b, h.2.2.2⟩
  · rw [tF_w62 ha]
    unfold gw
    rw [h.1 a ha]
  · rw [← h.2.1 a ha b]
    unfold tV
    split <;> rfl
theorem tF_w50 {F : gF} {k c a b : Nat} {x : Int32} (hk : k < 4) (ha : a < 43) : tF (gw F 50 (4 * c + k) x) a b = gw (tF F) (14 + k) c x a b := by
  have h2 : k = 0 ∨ k = 1 ∨ k = 2 ∨ k = 3 := by omega
  rcases h2 with h3 | h3 | h3 | h3 <;> subst h3 <;> unfold gw tF <;> split <;> simp_all <;> first | (intros; omega) | (congr 1; apply propext; omega) | skip
theorem tF_w63 {F : gF} {k c a b : Nat} {x : Int32} (hk : k < 4) (ha : a < 43) : tF (gw F 63 (4 * c + k) x) a b = gw (tF F) (39 + k) c x a b := by
  have h2 : k = 0 ∨ k = 1 ∨ k = 2 ∨ k = 3 := by omega
  rcases h2 with h3 | h3 | h3 | h3 <;> subst h3 <;> unfold gw tF <;> split <;> simp_all <;> first | (intros; omega) | (congr 1; apply propext; omega) | skip
theorem tF_w55 {F : gF} {u q a b : Nat} {x : Int32} (hu : u < 4) (hq : q < 8) (ha : a < 43) : tF (gw F 55 (8 * u + q) x) a b = gw (tF F) (29 + u) q x a b := by
  have h2 : u = 0 ∨ u = 1 ∨ u = 2 ∨ u = 3 := by omega
  by_cases hb : b < 8
  · rcases h2 with h3 | h3 | h3 | h3 <;> subst h3 <;> unfold gw tF <;> split <;> simp_all <;> first | (intros; omega) | (congr 1; apply propext; omega) | skip
  · rcases h2 with h3 | h3 | h3 | h3 <;> subst h3 <;> unfold gw tF <;> split <;> simp_all <;> first | (intros; omega) | (exfalso; omega) | ((repeat' split) <;> first | rfl | (exfalso; omega))
theorem sim.w50 {F V F2 V2 G W : gF} {k c : Nat} {x : Int32} (hk : k < 4) (h : sim F V F2 V2 G W) : sim F V (gw F2 50 (4 * c + k) x) V2 (gw G (14 + k) c x) W := by
  refine ⟨fun a ha b => ?_, fun a ha b => ?_, fun a ha b => by rw [gw_hi ha (by decide)]; exact h.2.2.1 a ha b, h.2.2.2⟩
  · rw [tF_w50 hk ha]
    unfold gw
    rw [h.1 a ha]
  · rw [← h.2.1 a ha b]
    unfold tV
    split <;> rfl
theorem sim.w63 {F V F2 V2 G W : gF} {k c : Nat} {x : Int32} (hk : k < 4) (h : sim F V F2 V2 G W) : sim F V (gw F2 63 (4 * c + k) x) V2 (gw G (39 + k) c x) W := by
  refine ⟨fun a ha b => ?_, fun a ha b => ?_, fun a ha b => by rw [gw_hi ha (by decide)]; exact h.2.2.1 a ha b, h.2.2.2⟩
  · rw [tF_w63 hk ha]
    unfold gw
    rw [h.1 a ha]
  · rw [← h.2.1 a ha b]
    unfold tV
    split <;> rfl
theorem sim.w55 {F V F2 V2 G W : gF} {u q : Nat} {x : Int32} (hu : u < 4) (hq : q < 8) (h : sim F V F2 V2 G W) : sim F V (gw F2 55 (8 * u + q) x) V2 (gw G (29 + u) q x) W := by
  refine ⟨fun a ha b => ?_, fun a ha b => ?_, fun a ha b => by rw [gw_hi ha (by decide)]; exact h.2.2.1 a ha b, h.2.2.2⟩
  · rw [tF_w55 hu hq ha]
    unfold gw
    rw [h.1 a ha]
  · rw [← h.2.1 a ha b]
    unfold tV
    split <;> rfl
theorem sim.w48 {F V F2 V2 G W : gF} {k : Nat} {x : Int32} (h : sim F V F2 V2 G W) : sim F V (gw F2 48 k x) V2 G W := by
  refine ⟨fun a ha b => ?_, fun a ha b => ?_, fun a ha b => by rw [gw_hi ha (by decide)]; exact h.2.2.1 a ha b, h.2.2.2⟩
  · rw [← h.1 a ha b]
    unfold gw tF
    split <;> simp_all
    intro h9
    omega
  · rw [← h.2.1 a ha b]
    unfold tV
    split <;> rfl
theorem tV_w6 {F V : gF} {a b : Nat} {x : Int32} (ha : a < 43) : tV F (gw V 43 6 x) a b = gw (tV F V) 3 3 x a b := by
  unfold gw tV
  split <;> simp_all <;> first | (intros; omega) | (rw [if_neg (by omega)]; split <;> simp_all) | skip
theorem sim.v6 {F V F2 V2 G W : gF} {x : Int32} (h : sim F V F2 V2 G W) : sim F V F2 (gw V2 43 6 x) G (gw W 3 3 x) := by
  refine ⟨h.1, fun a ha b => ?_, h.2.2.1, fun a ha b => by rw [gw_hi ha (by decide)]; exact h.2.2.2 a ha b⟩
  rw [tV_w6 ha]
  unfold gw
  rw [h.2.1 a ha]
theorem tV_w13 {F V : gF} {a b : Nat} {x : Int32} (ha : a < 43) : tV F (gw V 43 13 x) a b = gw (tV F V) 18 8 x a b := by
  unfold gw tV
  split <;> simp_all <;> first | (intros; omega) | (rw [if_neg (by omega)]; split <;> simp_all) | skip
theorem sim.v13 {F V F2 V2 G W : gF} {x : Int32} (h : sim F V F2 V2 G W) : sim F V F2 (gw V2 43 13 x) G (gw W 18 8 x) := by
  refine ⟨h.1, fun a ha b => ?_, h.2.2.1, fun a ha b => by rw [gw_hi ha (by decide)]; exact h.2.2.2 a ha b⟩
  rw [tV_w13 ha]
  unfold gw
  rw [h.2.1 a ha]
theorem tV_w18 {F V : gF} {a b : Nat} {x : Int32} (ha : a < 43) : tV F (gw V 43 18 x) a b = gw (tV F V) 27 1 x a b := by
  unfold gw tV
  split <;> simp_all <;> first | (intros; omega) | (rw [if_neg (by omega)]; split <;> simp_all) | skip
theorem sim.v18 {F V F2 V2 G W : gF} {x : Int32} (h : sim F V F2 V2 G W) : sim F V F2 (gw V2 43 18 x) G (gw W 27 1 x) := by
  refine ⟨h.1, fun a ha b => ?_, h.2.2.1, fun a ha b => by rw [gw_hi ha (by decide)]; exact h.2.2.2 a ha b⟩
  rw [tV_w18 ha]
  unfold gw
  rw [h.2.1 a ha]
theorem tV_w19 {F V : gF} {a b : Nat} {x : Int32} (ha : a < 43) : tV F (gw V 43 19 x) a b = gw (tV F V) 33 3 x a b := by
  unfold gw tV
  split <;> simp_all <;> first | (intros; omega) | (rw [if_neg (by omega)]; split <;> simp_all) | skip
theorem sim.v19 {F V F2 V2 G W : gF} {x : Int32} (h : sim F V F2 V2 G W) : sim F V F2 (gw V2 43 19 x) G (gw W 33 3 x) := by
  refine ⟨h.1, fun a ha b => ?_, h.2.2.1, fun a ha b => by rw [gw_hi ha (by decide)]; exact h.2.2.2 a ha b⟩
  rw [tV_w19 ha]
  unfold gw
  rw [h.2.1 a ha]
theorem tV_w23 {F V : gF} {a b : Nat} {x : Int32} (ha : a < 43) : tV F (gw V 43 23 x) a b = gw (tV F V) 33 4 x a b := by
  unfold gw tV
  split <;> simp_all <;> first | (intros; omega) | (rw [if_neg (by omega)]; split <;> simp_all) | skip
theorem sim.v23 {F V F2 V2 G W : gF} {x : Int32} (h : sim F V F2 V2 G W) : sim F V F2 (gw V2 43 23 x) G (gw W 33 4 x) := by
  refine ⟨h.1, fun a ha b => ?_, h.2.2.1, fun a ha b => by rw [gw_hi ha (by decide)]; exact h.2.2.2 a ha b⟩
  rw [tV_w23 ha]
  unfold gw
  rw [h.2.1 a ha]
theorem tV_w24 {F V : gF} {a b : Nat} {x : Int32} (ha : a < 43) : tV F (gw V 43 24 x) a b = gw (tV F V) 33 5 x a b := by
  unfold gw tV
  split <;> simp_all <;> first | (intros; omega) | (rw [if_neg (by omega)]; split <;> simp_all) | skip
theorem sim.v24 {F V F2 V2 G W : gF} {x : Int32} (h : sim F V F2 V2 G W) : sim F V F2 (gw V2 43 24 x) G (gw W 33 5 x) := by
  refine ⟨h.1, fun a ha b => ?_, h.2.2.1, fun a ha b => by rw [gw_hi ha (by decide)]; exact h.2.2.2 a ha b⟩
  rw [tV_w24 ha]
  unfold gw
  rw [h.2.1 a ha]
theorem tV_w25 {F V : gF} {a b : Nat} {x : Int32} (ha : a < 43) : tV F (gw V 43 25 x) a b = gw (tV F V) 27 2 x a b := by
  unfold gw tV
  split <;> simp_all <;> first | (intros; omega) | (rw [if_neg (by omega)]; split <;> simp_all) | skip
theorem sim.v25 {F V F2 V2 G W : gF} {x : Int32} (h : sim F V F2 V2 G W) : sim F V F2 (gw V2 43 25 x) G (gw W 27 2 x) := by
  refine ⟨h.1, fun a ha b => ?_, h.2.2.1, fun a ha b => by rw [gw_hi ha (by decide)]; exact h.2.2.2 a ha b⟩
  rw [tV_w25 ha]
  unfold gw
  rw [h.2.1 a ha]
theorem tV_w26 {F V : gF} {a b : Nat} {x : Int32} (ha : a < 43) : tV F (gw V 43 26 x) a b = gw (tV F V) 27 3 x a b := by
  unfold gw tV
  split <;> simp_all <;> first | (intros; omega) | (rw [if_neg (by omega)]; split <;> simp_all) | skip
theorem sim.v26 {F V F2 V2 G W : gF} {x : Int32} (h : sim F V F2 V2 G W) : sim F V F2 (gw V2 43 26 x) G (gw W 27 3 x) := by
  refine ⟨h.1, fun a ha b => ?_, h.2.2.1, fun a ha b => by rw [gw_hi ha (by decide)]; exact h.2.2.2 a ha b⟩
  rw [tV_w26 ha]
  unfold gw
  rw [h.2.1 a ha]
theorem tV_w27 {F V : gF} {a b : Nat} {x : Int32} (ha : a < 43) : tV F (gw V 43 27 x) a b = gw (tV F V) 27 4 x a b := by
  unfold gw tV
  split <;> simp_all <;> first | (intros; omega) | (rw [if_neg (by omega)]; split <;> simp_all) | skip
theorem sim.v27 {F V F2 V2 G W : gF} {x : Int32} (h : sim F V F2 V2 G W) : sim F V F2 (gw V2 43 27 x) G (gw W 27 4 x) := by
  refine ⟨h.1, fun a ha b => ?_, h.2.2.1, fun a ha b => by rw [gw_hi ha (by decide)]; exact h.2.2.2 a ha b⟩
  rw [tV_w27 ha]
  unfold gw
  rw [h.2.1 a ha]
theorem tV_w28 {F V : gF} {a b : Nat} {x : Int32} (ha : a < 43) : tV F (gw V 43 28 x) a b = gw (tV F V) 27 5 x a b := by
  unfold gw tV
  split <;> simp_all <;> first | (intros; omega) | (rw [if_neg (by omega)]; split <;> simp_all) | skip
theorem sim.v28 {F V F2 V2 G W : gF} {x : Int32} (h : sim F V F2 V2 G W) : sim F V F2 (gw V2 43 28 x) G (gw W 27 5 x) := by
  refine ⟨h.1, fun a ha b => ?_, h.2.2.1, fun a ha b => by rw [gw_hi ha (by decide)]; exact h.2.2.2 a ha b⟩
  rw [tV_w28 ha]
  unfold gw
  rw [h.2.1 a ha]
theorem tV_w29 {F V : gF} {a b : Nat} {x : Int32} (ha : a < 43) : tV F (gw V 43 29 x) a b = gw (tV F V) 37 1 x a b := by
  unfold gw tV
  split <;> simp_all <;> first | (intros; omega) | (rw [if_neg (by omega)]; split <;> simp_all) | skip
theorem sim.v29 {F V F2 V2 G W : gF} {x : Int32} (h : sim F V F2 V2 G W) : sim F V F2 (gw V2 43 29 x) G (gw W 37 1 x) := by
  refine ⟨h.1, fun a ha b => ?_, h.2.2.1, fun a ha b => by rw [gw_hi ha (by decide)]; exact h.2.2.2 a ha b⟩
  rw [tV_w29 ha]
  unfold gw
  rw [h.2.1 a ha]
theorem sim.v31 {F V F2 V2 G W : gF} {x : Int32} (h : sim F V F2 V2 G W) : sim F V F2 (gw V2 43 31 x) G W := by
  refine ⟨h.1, fun a ha b => ?_, h.2.2.1, fun a ha b => by rw [gw_hi ha (by decide)]; exact h.2.2.2 a ha b⟩
  rw [← h.2.1 a ha b]
  unfold gw tV
  split <;> simp_all <;> first | (intros; omega) | skip
theorem sim.v32 {F V F2 V2 G W : gF} {x : Int32} (h : sim F V F2 V2 G W) : sim F V F2 (gw V2 43 32 x) G W := by
  refine ⟨h.1, fun a ha b => ?_, h.2.2.1, fun a ha b => by rw [gw_hi ha (by decide)]; exact h.2.2.2 a ha b⟩
  rw [← h.2.1 a ha b]
  unfold gw tV
  split <;> simp_all <;> first | (intros; omega) | skip
theorem sim.v33 {F V F2 V2 G W : gF} {x : Int32} (h : sim F V F2 V2 G W) : sim F V F2 (gw V2 43 33 x) G W := by
  refine ⟨h.1, fun a ha b => ?_, h.2.2.1, fun a ha b => by rw [gw_hi ha (by decide)]; exact h.2.2.2 a ha b⟩
  rw [← h.2.1 a ha b]
  unfold gw tV
  split <;> simp_all <;> first | (intros; omega) | skip
theorem sim.v34 {F V F2 V2 G W : gF} {x : Int32} (h : sim F V F2 V2 G W) : sim F V F2 (gw V2 43 34 x) G W := by
  refine ⟨h.1, fun a ha b => ?_, h.2.2.1, fun a ha b => by rw [gw_hi ha (by decide)]; exact h.2.2.2 a ha b⟩
  rw [← h.2.1 a ha b]
  unfold gw tV
  split <;> simp_all <;> first | (intros; omega) | skip
