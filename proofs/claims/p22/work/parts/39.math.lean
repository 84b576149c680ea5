theorem e_w3 : ∀ k, k < 6 → (eW k = 3 ↔ k = 3) := by decide
theorem e_wm : ∀ k, k < 6 → eW k ≠ -1 := by decide
theorem e_w0 : ∀ k, k < 6 → (eW k = 0 ↔ k = 0) := by decide
theorem e_w1 : ∀ k, k < 6 → (eW k = 1 ↔ k = 1) := by decide
theorem e_w2 : ∀ k, k < 6 → (eW k = 2 ↔ k = 2) := by decide
theorem e_w7 : ∀ k, k < 6 → (eW k = 7 ↔ k = 4) := by decide
theorem e_lo0 : ∀ k, k < 6 → ¬ qLo (eW k) ≤ -1 := by decide
theorem qW_none {S : Nat → Int32} {n p : Nat} (h : qFk S (qb S n p) (qAt S n (p + 1) - qb S n p) 6 0 = none) : qW S n p = -1 := by
  unfold qW
  rw [qFk_w, h]
theorem qW_some {S : Nat → Int32} {n p k : Nat} (h : qFk S (qb S n p) (qAt S n (p + 1) - qb S n p) 6 0 = some k) : qW S n p = eW k := by
  unfold qW
  rw [qFk_w, h]
theorem mOk_none {S : Nat → Int32} {n p : Nat} (h : qFk S (qb S n p) (qAt S n (p + 1) - qb S n p) 6 0 = none) : ¬ qOk S n p := fun z => z.1 (qW_none h)
theorem qNp_k {S : Nat → Int32} {n p k : Nat} (h : qFk S (qb S n p) (qAt S n (p + 1) - qb S n p) 6 0 = some k) (hk : k < 6) : qNp S n p = p + (if k = 3 then 2 else 1) := by
  unfold qNp
  rw [qW_some h]
  by_cases c : k = 3
  · rw [if_pos c, if_pos ((e_w3 k hk).mpr c)]
  · rw [if_neg c, if_neg (fun z => c ((e_w3 k hk).mp z))]
theorem qNp_k1 {S : Nat → Int32} {n p k : Nat} (h : qFk S (qb S n p) (qAt S n (p + 1) - qb S n p) 6 0 = some k) (hk : k < 6) : qNp S n p + 1 = p + (1 + (if k = 3 then 2 else 1)) := by
  rw [qNp_k h hk]
  omega
theorem mOk_some {S : Nat → Int32} {n p k : Nat} (h : qFk S (qb S n p) (qAt S n (p + 1) - qb S n p) 6 0 = some k) (hk : k < 6) : qOk S n p ↔ qRt S n p k := by
  unfold qOk qRt
  rw [qW_some h, qNp_k h hk]
  have e1 : gIdx (qInk S n p) 4 = true ↔ (k = 3 → gIdx (qN S n (p + 1)) 4 = true) := by
    unfold qInk
    rw [qW_some h]
    by_cases c : k = 3
    · rw [if_pos ((e_w3 k hk).mpr c)]
      exact ⟨fun z _ => z, fun z => z c⟩
    · rw [if_neg (fun z => c ((e_w3 k hk).mp z))]
      exact ⟨fun _ z => absurd z c, fun _ => by decide⟩
  rw [e1]
  constructor
  · intro z
    exact ⟨z.2.1, z.2.2.2⟩
  · intro z
    refine ⟨e_wm k hk, z.1, fun y => ?_, z.2⟩
    have h2 := z.2
    unfold qFit at h2
    rw [y] at h2
    exact e_lo0 k hk (Int32.not_lt.mp (of_decide_eq_true h2).1)
theorem mSet {S : Nat → Int32} {n p k : Nat} {X : gF × gF} (h : qFk S (qb S n p) (qAt S n (p + 1) - qb S n p) 6 0 = some k) (hk : k < 6) (h3 : k ≠ 3) (hok : qOk S n p) : (X.1, cSet X.2 k (qN S n (p + (if k = 3 then 2 else 1)))) = qUp S n p X := by
  unfold qUp
  rw [qW_some h, qNp_k h hk, if_neg (fun z => h3 ((e_w3 k hk).mp z))]
  have hf := hok.2.2.2
  rw [qW_some h, qNp_k h hk] at hf
  generalize qN S n (p + (if k = 3 then 2 else 1)) = x at hf ⊢
  have hk2 : k = 0 ∨ k = 1 ∨ k = 2 ∨ k = 4 ∨ k = 5 := by omega
  rcases hk2 with rfl | rfl | rfl | rfl | rfl
  · rfl
  · rfl
  · have h9 : (if x = 1 then (1 : Int32) else 0) = x := by
      obtain ⟨j, hj, rfl⟩ := gRng_n 1 (show (1 : Int32) = nI 1 from rfl) (by decide) hf
      have h8 : j = 0 ∨ j = 1 := by omega
      rcases h8 with rfl | rfl <;> rfl
    show (X.1, gw X.2 1 2 (if x = 1 then 1 else 0)) = _
    rw [h9]
    rfl
  · rfl
  · rfl
theorem mGain {S : Nat → Int32} {n p k j : Nat} {X : gF × gF} (h : qFk S (qb S n p) (qAt S n (p + 1) - qb S n p) 6 0 = some k) (hk : k < 6) (h3 : k = 3) (hj : j < 4) (ej : qN S n (p + 1) = nI j) : (gw X.1 2 j (qN S n (p + (if k = 3 then 2 else 1))), X.2) = qUp S n p X := by
  unfold qUp qInk
  rw [qW_some h, qNp_k h hk, if_pos ((e_w3 k hk).mpr h3), if_pos ((e_w3 k hk).mpr h3), ej, nI_clamp (by omega)]
theorem qRun_fine {S : Nat → Int32} {n : Nat} {x : gF × gF} : ∀ f p c, qFine S n f p = true → ∃ c', c' ≤ f ∧ qRun S n f p (nI c) = nI (c + c') ∧ (c' = 0 → qRuF S n f p x = x)
  | 0, p, c, _ => ⟨0, Nat.le_refl _, rfl, fun _ => rfl⟩
  | f + 1, p, c, h => by
    simp only [qFine] at h
    simp only [qRun, qRuF]
    by_cases h1 : qHas S n p
    · rw [if_pos h1] at h ⊢
      by_cases h2 : qOk S n p
      · rw [if_pos h2] at h ⊢
        obtain ⟨c', h3, h4, _⟩ := qRun_fine (x := x) f (qNp S n p + 1) (c + 1) h
        refine ⟨c' + 1, by omega, ?_, fun z => by omega⟩
        rw [nI_1, h4]
        congr 1
        omega
      · rw [if_neg h2] at h
        cases h
    · rw [if_neg h1, if_neg (fun z => h1 z.1)]
      exact ⟨0, by omega, rfl, fun _ => rfl⟩
theorem qRun_bad {S : Nat → Int32} {n : Nat} (hn : n ≤ 60) : ∀ f p c, qFine S n f p = false → ∃ q, q < 60 ∧ qRun S n f p c = -(nI (q + 1))
  | 0, p, c, h => by simp [qFine] at h
  | f + 1, p, c, h => by
    simp only [qFine] at h
    simp only [qRun]
    by_cases h1 : qHas S n p
    · rw [if_pos h1] at h ⊢
      by_cases h2 : qOk S n p
      · rw [if_pos h2] at h ⊢
        exact qRun_bad hn f _ _ h
      · rw [if_neg h2]
        exact ⟨p, qW_has h1 hn, rfl⟩
    · rw [if_neg h1] at h
      cases h
theorem nI_negp {q : Nat} (h : q < 60) : ¬ 0 < -(nI (q + 1)) := by
  have key : ∀ q, q < 60 → ¬ (0 : Int32) < -(nI (q + 1)) := by decide
  exact key q h
theorem nI_dec {k : Nat} (h : 0 < k) : nI k + Int32.ofInt (-1) = nI (k - 1) := by
  obtain ⟨j, rfl⟩ : ∃ j, k = j + 1 := ⟨k - 1, by omega⟩
  rw [Nat.add_sub_cancel, ← nI_1, Int32.add_assoc, show (1 : Int32) + Int32.ofInt (-1) = 0 by decide, Int32.add_zero]
theorem qRun_nh {S : Nat → Int32} {n m p : Nat} {c : Int32} (h : ¬ qHas S n p) : qRun S n m p c = c := by
  cases m with
  | zero => rfl
  | succ d =>
    simp only [qRun]
    rw [if_neg h]
theorem qRuF_nh {S : Nat → Int32} {n m p : Nat} {x : gF × gF} (h : ¬ qHas S n p) : qRuF S n m p x = x := by
  cases m with
  | zero => rfl
  | succ d =>
    simp only [qRuF]
    rw [if_neg (fun z => h z.1)]
theorem qRun_go {S : Nat → Int32} {n m p k nb : Nat} {c : Int32} (hm : 64 ≤ m + (p + nb)) (h0 : nb = 0) (hp : p < 60) (hh : qHas S n p) (hw : qFk S (qb S n p) (qAt S n (p + 1) - qb S n p) 6 0 = some k) (hk : k < 6) (hr : qRt S n p k) : qRun S n m (p + nb) c = qRun S n (m - 1) (p + 1 + (if k = 3 then 2 else 1)) (c + 1) := by
  subst h0
  obtain ⟨d, rfl⟩ : ∃ d, m = d + 1 := ⟨m - 1, by omega⟩
  rw [Nat.add_zero p, Nat.add_sub_cancel, Nat.add_assoc]
  simp only [qRun]
  rw [if_pos hh, if_pos ((mOk_some hw hk).mpr hr), qNp_k1 hw hk]
theorem qRun_st {S : Nat → Int32} {n m p nb : Nat} {c : Int32} (hm : 64 ≤ m + (p + nb)) (h0 : nb = 0) (hp : p < 60) (hh : qHas S n p) (hno : ¬ qOk S n p) : qRun S n m (p + nb) c = -(nI (p + 1)) := by
  subst h0
  obtain ⟨d, rfl⟩ : ∃ d, m = d + 1 := ⟨m - 1, by omega⟩
  rw [Nat.add_zero p]
  simp only [qRun]
  rw [if_pos hh, if_neg hno]
theorem qFine_ok {S : Nat → Int32} {n m p nb : Nat} (hm : 64 ≤ m + (p + nb)) (h0 : nb = 0) (hp : p < 60) (hh : qHas S n p) (hf : qFine S n m (p + nb) = true) : qOk S n p := by
  subst h0
  obtain ⟨d, rfl⟩ : ∃ d, m = d + 1 := ⟨m - 1, by omega⟩
  rw [Nat.add_zero p] at hf
  simp only [qFine] at hf
  rw [if_pos hh] at hf
  by_cases h : qOk S n p
  · exact h
  · rw [if_neg h] at hf
    cases hf
theorem qFine_go {S : Nat → Int32} {n m p k nb : Nat} (hm : 64 ≤ m + (p + nb)) (h0 : nb = 0) (hp : p < 60) (hh : qHas S n p) (hw : qFk S (qb S n p) (qAt S n (p + 1) - qb S n p) 6 0 = some k) (hk : k < 6) (hf : qFine S n m (p + nb) = true) : qFine S n (m - 1) (p + 1 + (if k = 3 then 2 else 1)) = true := by
  have hok := qFine_ok hm h0 hp hh hf
  subst h0
  obtain ⟨d, rfl⟩ : ∃ d, m = d + 1 := ⟨m - 1, by omega⟩
  rw [Nat.add_zero p] at hf
  rw [Nat.add_sub_cancel, Nat.add_assoc, ← qNp_k1 hw hk]
  simp only [qFine] at hf
  rw [if_pos hh, if_pos hok] at hf
  exact hf
theorem qRuF_go {S : Nat → Int32} {n m p k nb : Nat} {x : gF × gF} (hm : 64 ≤ m + (p + nb)) (h0 : nb = 0) (hp : p < 60) (hh : qHas S n p) (hw : qFk S (qb S n p) (qAt S n (p + 1) - qb S n p) 6 0 = some k) (hk : k < 6) (hok : qOk S n p) : qRuF S n m (p + nb) x = qRuF S n (m - 1) (p + 1 + (if k = 3 then 2 else 1)) (qUp S n p x) := by
  subst h0
  obtain ⟨d, rfl⟩ : ∃ d, m = d + 1 := ⟨m - 1, by omega⟩
  rw [Nat.add_zero p, Nat.add_sub_cancel, Nat.add_assoc]
  simp only [qRuF]
  rw [if_pos ⟨hh, hok⟩, qNp_k1 hw hk]
/-- a part that is a number is no word -/
theorem qN_word {S : Nat → Int32} {n p : Nat} (hh : qHas S n p) (h : qN S n p ≠ -1) : qFk S (qb S n p) (qAt S n (p + 1) - qb S n p) 6 0 = none := by
  cases hw : qFk S (qb S n p) (qAt S n (p + 1) - qb S n p) 6 0 with
  | none => rfl
  | some k =>
    exfalso
    have h1 := qFk_lt 6 0 hw
    have h2 := qRd_len h1.2
    have key : ∀ k, k < 0 + 6 → 4 ≤ gLen.getD k 0 := by decide
    have h3 := key k h1.1
    apply h
    unfold qN
    rw [if_pos hh]
    unfold qNum
    rw [if_neg (fun z => z.1 (by omega))]
theorem qOk_num {S : Nat → Int32} {n p k : Nat} (hw : qFk S (qb S n p) (qAt S n (p + 1) - qb S n p) 6 0 = some k) (hk : k < 6) (hok : qOk S n p) : ∀ j, j < (if k = 3 then 2 else 1) → qN S n (p + 1 + j) ≠ -1 := by
  have h1 := ((mOk_some hw hk).mp hok).1
  have h2 := hok.2.2.1
  rw [qNp_k hw hk] at h2
  intro j hj
  by_cases c : k = 3
  · rw [if_pos c] at hj h2
    have h3 := h1 c
    have h4 : j = 0 ∨ j = 1 := by omega
    rcases h4 with rfl | rfl
    · intro z
      rw [Nat.add_zero] at z
      rw [z] at h3
      exact absurd h3 (by decide)
    · exact h2
  · rw [if_neg c] at hj h2
    obtain rfl : j = 0 := by omega
    exact h2
