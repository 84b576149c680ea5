theorem LI.v6 {F V : gF} {b : Nat} (h : LI F V b) : V 43 6 = V 3 3 := congrFun (congrFun h.2.1 3) 3
theorem LI.v13 {F V : gF} {b : Nat} (h : LI F V b) : V 43 13 = V 18 8 := congrFun (congrFun h.2.1 18) 8
theorem LI.v19 {F V : gF} {b : Nat} (h : LI F V b) : V 43 19 = V 33 3 := congrFun (congrFun h.2.1 33) 3
theorem LI.v23 {F V : gF} {b : Nat} (h : LI F V b) : V 43 23 = V 33 4 := congrFun (congrFun h.2.1 33) 4
theorem LI.v24 {F V : gF} {b : Nat} (h : LI F V b) : V 43 24 = V 33 5 := congrFun (congrFun h.2.1 33) 5
theorem LI.mono {F V : gF} {b b2 : Nat} (h : LI F V b) (hb : b ≤ b2) : LI F V b2 := ⟨h.1, h.2.1, h.2.2.mono hb⟩
theorem LI.cb {F V : gF} {b : Nat} (h : LI F V b) : cCB F V := h.2.2.2.2.2.2.2.2.1
theorem LI.nz {F V : gF} {b : Nat} (h : LI F V b) : mNz F V := mNz_L (by rw [h.1, h.2.1]; exact h.cb)
theorem LI.wm {F V : gF} {b : Nat} (h : LI F V b) : ∀ c k, c < 64 → k < 4 → cWant (tF F) (tV F V) c k ≤ 100 := by
  rw [h.1, h.2.1]
  exact cWant_100 h.cb
theorem nz01 {x : Int32} (h : x = 0 ∨ x = 1) : narrow .boolean (.int x) = .int x := by
  rcases h with rfl | rfl <;> decide
theorem lg_self (x : Int64) : lg_cmp x x = 0 := (lg_cmp_eq x x).mpr rfl
theorem u32_16 (a : UInt32) : (a % 65536).toUInt16.toUInt32 = a % 65536 := by
  apply UInt32.toNat_inj.mp
  simp
theorem g_c16 (x : Int32) : vp_nar .char ((x.toUInt32 % 65536).toInt32) = (x.toUInt32 % 65536).toInt32 := by
  show ((x.toUInt32 % 65536).toUInt16.toUInt32).toInt32 = _
  rw [u32_16]
theorem fCol_0 {c x y z : Int32} (h : fCol c x y z = 0) : gRng x 0 100 = true ∧ gRng y 0 100 = true ∧ gRng z 0 100 = true := by
  unfold fCol at h
  split at h
  · split at h
    · assumption
    · exact absurd h (by decide)
  · exact absurd h (by decide)
theorem fCor_0 {V : gF} {u x y : Int32} (h : fCor V u x y = 0) : gIdx u 4 = true ∧ V 18 8 < 20 := by
  unfold fCor at h
  split at h
  · refine ⟨by assumption, ?_⟩
    split at h
    · split at h
      · assumption
      · exact absurd h (by decide)
    · exact absurd h (by decide)
  · exact absurd h (by decide)
theorem fKey_0 {u q x : Int32} (h : fKey u q x = 0) : u.toNatClampNeg < 4 := by
  unfold fKey at h
  split at h
  · rename_i h2
    obtain ⟨j, hj, ej⟩ := gIdx_n 4 rfl (by decide) h2.1
    rw [ej, nI_clamp (by omega)]
    exact hj
  · exact absurd h (by decide)
theorem fJob_0 {V : gF} {n : Int32} (h : fJob V n = 0) : ∃ j, (1 ≤ j ∧ j ≤ 200) ∧ n = nI j := by
  unfold fJob at h
  split at h
  · exact gRng_n1 200 rfl (by decide) (by assumption)
  · exact absurd h (by decide)
theorem fPri_0 {V : gF} {n : Int32} (h : fPri V n = 0) : ∃ j, (1 ≤ j ∧ j ≤ 100) ∧ n = nI j := by
  unfold fPri at h
  split at h
  · exact gRng_n1 100 rfl (by decide) (by assumption)
  · exact absurd h (by decide)
theorem fTyp_0 {V : gF} {x : Int32} {n : Nat} (hn : V 3 3 = nI n) (hn2 : n ≤ 60) (h : fTyp V x = 0) : n < 60 := by
  unfold fTyp at h
  split at h
  · split at h
    · exact absurd h (by decide)
    · rename_i h2
      rw [hn] at h2
      exact Nat.not_le.mp (fun z => h2 ((nI_leI (a := 60) (by decide) (by omega)).mpr z))
  · exact absurd h (by decide)
theorem LQ_colour {F V A : gF} {o : gO} {b : Nat} {c x y z r R : Int32} {u : gS} (hI : LI F V b) (hf : fCol c x y z = 0) (hA : A = gw (gw (gw F 9 c.toNatClampNeg x) 10 c.toNatClampNeg y) 11 c.toNatClampNeg z) (hm : mP A V o (fCol c x y z) r R (gw (gw (gw (tF A) 9 c.toNatClampNeg x) 10 c.toNatClampNeg y) 11 c.toNatClampNeg z) (tV A V) u) : u.2.1 43 31 = 0 ∧ u.2.2 = o ∧ r = R ∧ LI u.1 u.2.1 b := by
  subst hA
  rw [(T_colour hI).1, (T_colour hI).2] at hm
  obtain ⟨hx, hy, hz⟩ := fCol_0 hf
  exact LI_ok hf rfl rfl (CI_colour hx hy hz hI.2.2) hm
theorem LQ_type {F V A B : gF} {o : gO} {b n : Nat} {x r : Int32} {u : gS} (hI : LI F V b) (hn : V 3 3 = nI n) (hn2 : n ≤ 60) (hf : fTyp V x = 0) (hA : A = gw F 4 n x) (hB : B = gw V 3 3 (nI (n + 1))) (hm : mP A B o (fTyp (tV A B) x) r (nI (n + 1)) (gw (tF A) 4 n x) (gw (tV A B) 3 3 (nI (n + 1))) u) : u.2.1 43 31 = 0 ∧ u.2.2 = o ∧ r = nI (n + 1) ∧ LI u.1 u.2.1 b := by
  subst hA hB
  rw [(T_type hI).1, (T_type hI).2] at hm
  exact LI_ok hf rfl rfl (CI_type (fTyp_0 hn hn2 hf) hI.2.2) hm
theorem LQ_drift {F V A : gF} {o : gO} {b : Nat} {c x y r R : Int32} {u : gS} (hI : LI F V b) (hf : fDri c x y = 0) (hA : A = gw (gw F 21 c.toNatClampNeg x) 22 c.toNatClampNeg y) (hm : mP A V o (fDri c x y) r R (gw (gw (tF A) 21 c.toNatClampNeg x) 22 c.toNatClampNeg y) (tV A V) u) : u.2.1 43 31 = 0 ∧ u.2.2 = o ∧ r = R ∧ LI u.1 u.2.1 b := by
  subst hA
  rw [(T_drift hI).1, (T_drift hI).2] at hm
  exact LI_ok hf rfl rfl (CI_drift hI.2.2) hm
theorem LQ_correct {F V A B : gF} {o : gO} {b t : Nat} {c x y r : Int32} {u : gS} (hI : LI F V b) (hb : b ≤ 2 ^ 29) (ht : V 18 8 = nI t) (ht2 : t ≤ 20) (hf : fCor V c x y = 0) (hA : A = if V 1 4 = 0 then cMove F c.toNatClampNeg x y else cKeep F t c x y (V 27 2 + V 1 4)) (hB : B = if V 1 4 = 0 then V else gw V 18 8 (nI (t + 1))) (hm : mP A B o (fCor (tV A B) c x y) r (if tV A B 1 4 = 0 then 0 else nI (t + 1)) (if tV A B 1 4 = 0 then cMove (tF A) c.toNatClampNeg x y else cKeep (tF A) t c x y (tV A B 27 2 + tV A B 1 4)) (if tV A B 1 4 = 0 then tV A B else gw (tV A B) 18 8 (nI (t + 1))) u) : u.2.1 43 31 = 0 ∧ u.2.2 = o ∧ r = (if V 1 4 = 0 then 0 else nI (t + 1)) ∧ LI u.1 u.2.1 b := by
  obtain ⟨hu, h20⟩ := fCor_0 hf
  by_cases hd : V 1 4 = 0
  · rw [if_pos hd] at hA hB
    subst hA hB
    rw [(T_move hI).1, (T_move hI).2, if_pos hd, if_pos hd, if_pos hd] at hm
    rw [if_pos hd]
    exact LI_ok hf rfl rfl (CI_move hI.2.2) hm
  · rw [if_neg hd] at hA hB
    obtain ⟨j, hj, ej⟩ := gIdx_n 4 rfl (by decide) hu
    subst ej
    subst hA hB
    rw [(T_putoff hI).1, (T_putoff hI).2, if_neg hd, if_neg hd, if_neg hd] at hm
    rw [if_neg hd]
    refine LI_ok hf rfl rfl (CI_putoff hb ht ?_ hj hd hI.2.2) hm
    rw [ht] at h20
    exact (nI_ltI (b := 20) (by omega) (by decide)).mp h20
theorem LQ_key {F V A : gF} {o : gO} {b : Nat} {c q x r : Int32} {u : gS} (hI : LI F V b) (hf : fKey c q x = 0) (hA : A = gw F (29 + c.toNatClampNeg) q.toNatClampNeg x) (hm : mP A V o (fKey c q x) r (tF A (29 + c.toNatClampNeg) q.toNatClampNeg) (gw (tF A) (29 + c.toNatClampNeg) q.toNatClampNeg x) (tV A V) u) : u.2.1 43 31 = 0 ∧ u.2.2 = o ∧ r = F (29 + c.toNatClampNeg) q.toNatClampNeg ∧ LI u.1 u.2.1 b := by
  subst hA
  have hu := fKey_0 hf
  rw [(T_key hu hI).1, (T_key hu hI).2] at hm
  exact LI_ok hf rfl rfl (CI_key hu hI.2.2) hm
theorem LQ_tear {F V A B : gF} {o : gO} {b : Nat} {r : Int32} {u : gS} (hI : LI F V b) (hA : A = F) (hB : B = gw V 27 1 20) (hm : mP A B o 0 r 20 (tF A) (gw (tV A B) 27 1 20) u) : u.2.1 43 31 = 0 ∧ u.2.2 = o ∧ r = 20 ∧ LI u.1 u.2.1 b := by
  subst hA hB
  rw [(T_tear hI).1, (T_tear hI).2] at hm
  exact LI_ok rfl rfl rfl (CI_tear hI.2.2) hm
set_option maxRecDepth 20000 in
theorem LQ_job {F V A B : gF} {o : gO} {b : Nat} {n r R : Int32} {u : gS} (hI : LI F V b) (hf : fJob V n = 0) (hA : A = cBeg F n.toNatClampNeg) (hB : B = gw (gw (gw V 33 3 n) 33 4 0) 33 5 n) (hm : mP A B o (fJob (tV A B) n) r R (cBeg (tF A) n.toNatClampNeg) (gw (gw (gw (tV A B) 33 3 n) 33 4 0) 33 5 n) u) : u.2.1 43 31 = 0 ∧ u.2.2 = o ∧ r = R ∧ LI u.1 u.2.1 b := by
  obtain ⟨j, ⟨hj1, hj⟩, ej⟩ := fJob_0 hf
  subst ej
  rw [nI_clamp (show j < 2 ^ 31 by omega)] at hA hm
  subst hA hB
  rw [(T_job hI).1, (T_job hI).2] at hm
  exact LI_ok hf rfl rfl (CI_job hj hI.2.2) hm
set_option maxRecDepth 20000 in
theorem LQ_print {F V A B : gF} {o : gO} {b : Nat} {n r : Int32} {u : gS} (hI : LI F V b) (hb : b + 100 ≤ 2 ^ 30) (hf : fPri V n = 0) (hA : A = (xIt F V (cEven F) n.toNatClampNeg).1) (hB : B = (xIt F V (cEven F) n.toNatClampNeg).2.1) (hm : mP A B o (fPri (tV A B) n) r (xIt (tF A) (tV A B) (cEven (tF A)) n.toNatClampNeg).2.2 (xIt (tF A) (tV A B) (cEven (tF A)) n.toNatClampNeg).1 (xIt (tF A) (tV A B) (cEven (tF A)) n.toNatClampNeg).2.1 u) : u.2.1 43 31 = 0 ∧ u.2.2 = o ∧ r = (xIt F V (cEven F) n.toNatClampNeg).2.2 ∧ LI u.1 u.2.1 (b + 100) := by
  obtain ⟨j, ⟨hj1, hj⟩, ej⟩ := fPri_0 hf
  subst ej
  rw [nI_clamp (show j < 2 ^ 31 by omega)] at hA hB hm ⊢
  subst hA hB
  rw [(T_printL (n := j) (K := cEven F) hI).1, (T_printL (n := j) (K := cEven F) hI).2] at hm
  exact LI_ok hf rfl rfl ((CI_print hI.2.2 j (by omega)).mono (by omega)) hm
theorem LQ_plates {F V A : gF} {o : gO} {b : Nat} {r : Int32} {u : gS} (hI : LI F V b) (hA : A = cMkF F V 256) (hm : mP A V o 0 r (cMkN (tF A) (tV A V) 256) (cMkF (tF A) (tV A V) 256) (tV A V) u) : u.2.1 43 31 = 0 ∧ u.2.2 = o ∧ r = cMkN F V 256 ∧ LI u.1 u.2.1 b := by
  rw [hA] at hm
  rw [(T_platesL hI).1, (T_platesL hI).2] at hm
  exact LI_ok rfl rfl rfl (CI_plates hI.2.2) hm
theorem LQ_sign {F V A B : gF} {o : gO} {b : Nat} {r : Int32} {u : gS} (hI : LI F V b) (hA : A = cTkF F 256) (hB : B = gw V 37 1 1) (hm : mP A B o 0 r (cTkN (tF A) 256) (cTkF (tF A) 256) (gw (tV A B) 37 1 1) u) : u.2.1 43 31 = 0 ∧ u.2.2 = o ∧ r = cTkN F 256 ∧ LI u.1 u.2.1 b := by
  subst hB
  rw [hA] at hm
  rw [(T_sign hI).1, (T_sign hI).2] at hm
  exact LI_ok rfl rfl rfl (CI_sign hI.2.2) hm
theorem LQ_pnz {F V : gF} {b : Nat} (hI : LI F V b) : mNz (cMkF F V 256) V := mNz_L (by rw [(T_platesL hI).1, (T_platesL hI).2]; exact hI.cb)
theorem LQ_pwm {F V : gF} {b : Nat} (hI : LI F V b) : ∀ c k, c < 64 → k < 4 → cWant (tF (cMkF F V 256)) (tV (cMkF F V 256) V) c k ≤ 100 := by
  rw [(T_platesL hI).1, (T_platesL hI).2]
  exact cWant_100 hI.cb
theorem LQ_cv {F V : gF} {b t : Nat} (hI : LI F V b) (ht : V 18 8 = nI t) : (if V 1 4 = 0 then V else gw V 18 8 (nI (t + 1))) 43 13 = nI t := by
  split
  · exact hI.v13.trans ht
  · rw [gw_n _ _ _ (by decide)]
    exact hI.v13.trans ht
theorem LQ_tv {F V : gF} {b n : Nat} (hI : LI F V b) (hn : V 3 3 = nI n) : gw V 3 3 (nI (n + 1)) 43 6 = nI n := by
  rw [gw_n _ _ _ (by decide)]
  exact hI.v6.trans hn
theorem LQ_pok {F V : gF} {b : Nat} {n : Int32} (hI : LI F V b) : cOK2 (tF (xIt F V (cEven F) n.toNatClampNeg).1) (tV (xIt F V (cEven F) n.toNatClampNeg).1 (xIt F V (cEven F) n.toNatClampNeg).2.1) b := by
  rw [(T_printL hI).1, (T_printL hI).2]
  exact hI.2.2.1
theorem LQ_ok0 {F V : gF} {b : Nat} (hI : LI F V b) : cOK2 (tF F) (tV F V) b := by
  rw [hI.1, hI.2.1]
  exact hI.2.2.1
