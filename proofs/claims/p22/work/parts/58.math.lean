/-! what copies reckons ahead of the print -/
def xyF (F : gF) (n : Nat) : gF := fun a b => if a = 48 then (if b < n then F 19 b else F 48 b) else if a = 49 then (if b < n then F 20 b else F 49 b) else F a b
theorem xyF_o {F : gF} {n a : Nat} (h : a < 48) : xyF F n a = F a := funext fun b => by
  unfold xyF
  rw [if_neg (by omega), if_neg (by omega)]
theorem xyF_0 {F : gF} : xyF F 0 = F := by
  funext a b
  unfold xyF
  by_cases c : a = 48
  · rw [if_pos c, if_neg (Nat.not_lt_zero b), c]
  · by_cases c2 : a = 49
    · rw [if_neg c, if_pos c2, if_neg (Nat.not_lt_zero b), c2]
    · rw [if_neg c, if_neg c2]
theorem xyF_s {F : gF} {n : Nat} : gw (gw (xyF F n) 48 n (F 19 n)) 49 n (F 20 n) = xyF F (n + 1) := by
  funext a b
  by_cases c : a = 49
  · subst c
    by_cases d : b = n
    · subst d
      rw [gw_ss]
      unfold xyF
      rw [if_neg (by decide), if_pos rfl, if_pos (Nat.lt_succ_self b)]
    · rw [gw_sn _ _ d, gw_n _ _ _ (by decide)]
      show (if b < n then F 20 b else F 49 b) = (if b < n + 1 then F 20 b else F 49 b)
      by_cases e : b < n
      · rw [if_pos e, if_pos (by omega)]
      · rw [if_neg e, if_neg (by omega)]
  · rw [gw_n _ _ _ c]
    by_cases c2 : a = 48
    · subst c2
      by_cases d : b = n
      · subst d
        rw [gw_ss]
        unfold xyF
        rw [if_pos rfl, if_pos (Nat.lt_succ_self b)]
      · rw [gw_sn _ _ d]
        unfold xyF
        rw [if_pos rfl, if_pos rfl]
        by_cases e : b < n
        · rw [if_pos e, if_pos (by omega)]
        · rw [if_neg e, if_neg (by omega)]
    · rw [gw_n _ _ _ c2]
      unfold xyF
      rw [if_neg c2, if_neg c, if_neg c2, if_neg c]
theorem xyF_at {F : gF} {n u : Nat} (h : u < n) : xyF F n 48 u = F 19 u ∧ xyF F n 49 u = F 20 u := by
  unfold xyF
  refine ⟨?_, ?_⟩
  · rw [if_pos rfl, if_pos h]
  · rw [if_neg (by decide), if_pos rfl, if_pos h]
theorem cSum_cong {F G : gF} {k q : Nat} (h : F (14 + k) = G (14 + k)) : ∀ n, cSum F k q n = cSum G k q n
  | 0 => rfl
  | n + 1 => by
    simp only [cSum]
    rw [cSum_cong h n, h]
theorem cDens_cong {F G : gF} {u q : Nat} (h1 : F (14 + u) = G (14 + u)) (h2 : F (29 + u) = G (29 + u)) : cDens F u q = cDens G u q := by
  unfold cDens
  rw [cSum_cong h1, h2]
theorem xy_dens {F : gF} {n u q : Nat} (hu : u < 4) : cDens (xyF F n) u q = cDens F u q := cDens_cong (xyF_o (by omega)) (xyF_o (by omega))
def offB (F : gF) (tol : Int32) : Nat → Bool
  | 0 => false
  | n + 1 => offB F tol n || decide (cOff F tol n)
def unB (F : gF) : Nat → Bool
  | 0 => false
  | m + 1 => unB F m || decide (cBad F (m / 8) (m % 8))
theorem offB_l {F : gF} {tol : Int32} {n : Nat} (h : offB F tol n = true) : offB F tol (n + 1) = true := by
  simp only [offB]
  rw [h]
  rfl
theorem offB_r {F : gF} {tol : Int32} {n : Nat} (h : cOff F tol n) : offB F tol (n + 1) = true := by
  simp only [offB]
  rw [decide_eq_true h, Bool.or_true]
theorem offB_f {F : gF} {tol : Int32} {n : Nat} (h : ¬ offB F tol n = true) (h2 : ¬ cOff F tol n) : ¬ offB F tol (n + 1) = true := by
  simp only [offB]
  rw [Bool.eq_false_iff.mpr h, decide_eq_false h2]
  decide
theorem unB_l {F : gF} {m : Nat} (h : unB F m = true) : unB F (m + 1) = true := by
  simp only [unB]
  rw [h]
  rfl
theorem unB_r {F : gF} {u q : Nat} (hq : q < 8) (h : cBad F u q) : unB F (8 * u + q + 1) = true := by
  simp only [unB]
  rw [show (8 * u + q) / 8 = u by omega, show (8 * u + q) % 8 = q by omega, decide_eq_true h, Bool.or_true]
theorem unB_f {F : gF} {u q : Nat} (hq : q < 8) (h : ¬ unB F (8 * u + q) = true) (h2 : ¬ cBad F u q) : ¬ unB F (8 * u + q + 1) = true := by
  simp only [unB]
  rw [Bool.eq_false_iff.mpr h, show (8 * u + q) / 8 = u by omega, show (8 * u + q) % 8 = q by omega, decide_eq_false h2]
  decide
theorem offB_n {F : gF} {tol : Int32} : ∀ n, offB F tol n = true ↔ ∃ v, v < n ∧ cOff F tol v
  | 0 => ⟨fun h => absurd (show false = true from h) Bool.false_ne_true, fun ⟨_, h, _⟩ => absurd h (Nat.not_lt_zero _)⟩
  | n + 1 => by
    constructor
    · intro h
      simp only [offB] at h
      rcases Bool.or_eq_true_iff.mp h with y | y
      · obtain ⟨v, hv, e⟩ := (offB_n n).mp y
        exact ⟨v, by omega, e⟩
      · exact ⟨n, by omega, of_decide_eq_true y⟩
    · rintro ⟨v, hv, e⟩
      by_cases c : v = n
      · subst c
        exact offB_r e
      · exact offB_l ((offB_n n).mpr ⟨v, by omega, e⟩)
theorem unB_n {F : gF} : ∀ n, unB F n = true ↔ ∃ v, v < n ∧ cBad F (v / 8) (v % 8)
  | 0 => ⟨fun h => absurd (show false = true from h) Bool.false_ne_true, fun ⟨_, h, _⟩ => absurd h (Nat.not_lt_zero _)⟩
  | n + 1 => by
    constructor
    · intro h
      simp only [unB] at h
      rcases Bool.or_eq_true_iff.mp h with y | y
      · obtain ⟨v, hv, e⟩ := (unB_n n).mp y
        exact ⟨v, by omega, e⟩
      · exact ⟨n, by omega, of_decide_eq_true y⟩
    · rintro ⟨v, hv, e⟩
      by_cases c : v = n
      · subst c
        simp only [unB]
        rw [decide_eq_true e, Bool.or_true]
      · exact unB_l ((unB_n n).mpr ⟨v, by omega, e⟩)
theorem off_right {F : gF} {tol : Int32} : ¬ offB F tol 4 = true ↔ cRight F tol := by
  rw [offB_n]
  exact ⟨fun h u hu z => h ⟨u, hu, z⟩, fun h ⟨v, hv, e⟩ => h v hv e⟩
theorem un_even {F : gF} : ¬ unB F 32 = true ↔ cEven F := by
  rw [unB_n]
  constructor
  · intro h u hu q hq z
    exact h ⟨8 * u + q, by omega, by rw [show (8 * u + q) / 8 = u by omega, show (8 * u + q) % 8 = q by omega]; exact z⟩
  · rintro h ⟨v, hv, e⟩
    exact h (v / 8) (by omega) (v % 8) (by omega) e
/-! the sizes of differences -/
theorem gabs_gt {x tol : Int32} (h0 : 0 ≤ tol) (h : tol < x) : tol < gabs x := by
  unfold gabs
  rw [if_pos (Int32.le_trans h0 (Int32.le_of_lt h))]
  exact h
theorem gabs_lt {x tol : Int32} (h0 : 0 ≤ tol) (h : tol < -x) : tol < gabs x := by
  unfold gabs
  by_cases c : 0 ≤ x
  · exfalso
    rw [Int32.lt_iff_toInt_lt] at h
    rw [Int32.le_iff_toInt_le] at h0 c
    have h2 : (-x).toInt = -x.toInt := by
      rw [Int32.toInt_neg]
      have := Int32.toInt_lt x
      have c2 : (0 : Int) ≤ x.toInt := c
      exact Int.bmod_eq_of_le (by omega) (by omega)
    rw [h2] at h
    have h3 : (0 : Int) ≤ tol.toInt := h0
    have c2 : (0 : Int) ≤ x.toInt := c
    omega
  · rw [if_neg c, Int32.zero_sub]
    exact h
theorem gabs_no {x tol : Int32} (h1 : ¬ tol < x) (h2 : ¬ tol < -x) : ¬ tol < gabs x := by
  unfold gabs
  by_cases c : 0 ≤ x
  · rw [if_pos c]
    exact h1
  · rw [if_neg c, Int32.zero_sub]
    exact h2
/-! registers behind a copy on which no correction came -/
theorem cFol_all {p : Nat} {F : gF} : ∀ n, (cFol p F n).2 = n → ∀ a, a < 23 → (cFol p F n).1 a = F a
  | 0, _, _, _ => rfl
  | n + 1, h, a, ha => by
    have hle := cFol_le (pr := p) (F := F) n
    simp only [cFol] at h ⊢
    by_cases c : (cFol p F n).1 23 n ≤ nI p
    · rw [if_pos c] at h
      have h2 : (cFol p F n).2 = n + 1 := h
      omega
    · rw [if_neg c] at h ⊢
      have h2 : (cFol p F n).2 + 1 = n + 1 := h
      show cKeep _ _ _ _ _ _ a = F a
      rw [cKeep_o (Or.inl ha)]
      exact cFol_all n (by omega) a ha
theorem cDr_at {F : gF} : ∀ n u, (cDr F n 19 u = if u < n then F 19 u + F 21 u else F 19 u) ∧ (cDr F n 20 u = if u < n then F 20 u + F 22 u else F 20 u)
  | 0, u => ⟨(if_neg (Nat.not_lt_zero u)).symm, (if_neg (Nat.not_lt_zero u)).symm⟩
  | n + 1, u => by
    obtain ⟨h1, h2⟩ := cDr_at (F := F) n u
    obtain ⟨g1, g2⟩ := cDr_at (F := F) n n
    rw [if_neg (Nat.lt_irrefl n)] at g1 g2
    have d1 : cDr F n 21 n = F 21 n := by rw [cDr_hi (by decide) (by decide) n]
    have d2 : cDr F n 22 n = F 22 n := by rw [cDr_hi (by decide) (by decide) n]
    show cMove (cDr F n) n (cDr F n 21 n) (cDr F n 22 n) 19 u = _ ∧ cMove (cDr F n) n (cDr F n 21 n) (cDr F n 22 n) 20 u = _
    unfold cMove
    by_cases c : u = n
    · subst c
      refine ⟨?_, ?_⟩
      · rw [gw_n _ _ _ (by decide), gw_ss, if_pos (by omega), g1, d1]
      · rw [gw_ss, if_pos (by omega), g2, d2]
    · refine ⟨?_, ?_⟩
      · rw [gw_n _ _ _ (by decide), gw_sn _ _ c, h1]
        by_cases e : u < n
        · rw [if_pos e, if_pos (by omega)]
        · rw [if_neg e, if_neg (by omega)]
      · rw [gw_sn _ _ c, gw_n _ _ _ (by decide), h2]
        by_cases e : u < n
        · rw [if_pos e, if_pos (by omega)]
        · rw [if_neg e, if_neg (by omega)]
theorem regs_same {X V : gF} {K : Prop} [Decidable K] {pr t hd w : Nat} (hp : V 27 2 = nI pr) (ht : V 18 8 = nI t) (hh : V 33 4 = nI hd) (hw : V 33 5 = nI w) (b1 : pr < 2 ^ 30) (b2 : t ≤ 20) (b3 : hd < 200) (b4 : w ≤ 200) : ∃ t2, t2 ≤ t ∧ xV X V K 18 8 = nI t2 ∧ (t2 = t → ∀ u, u < 4 → xF X V K 19 u = X 19 u + (if (pr + 1) % 10 = 0 then X 21 u else 0) ∧ xF X V K 20 u = X 20 u + (if (pr + 1) % 10 = 0 then X 22 u else 0)) := by
  have eF : xF X V K = cTakF (cRunF X pr t) (xG X V K) hd w := xF_eq hp ht hh hw (by omega) (by omega) (by omega) (by omega)
  have eV : xV X V K = cTakV (cRunV X V (V 1 3) K pr t) (xG X V K) hd w := xV_eq hp ht hh hw (by omega) (by omega) (by omega) (by omega)
  refine ⟨(cFol (pr + 1) (cDrift X (pr + 1)) t).2, cFol_le t, ?_, fun h u hu => ?_⟩
  · rw [eV, cTakV_o (by decide)]
    unfold cRunV
    rw [gw_ss]
  · rw [eF, cTakF_o (by decide) (by decide) (by decide), cTakF_o (by decide) (by decide) (by decide)]
    unfold cRunF
    rw [cFol_all t h 19 (by decide), cFol_all t h 20 (by decide)]
    unfold cDrift
    obtain ⟨h1, h2⟩ := cDr_at (F := X) 4 u
    rw [if_pos hu] at h1 h2
    by_cases c : (pr + 1) % 10 = 0
    · rw [if_pos c, if_pos c, if_pos c]
      exact ⟨h1, h2⟩
    · rw [if_neg c, if_neg c, if_neg c]
      exact ⟨(Int32.add_zero _).symm, (Int32.add_zero _).symm⟩
theorem PI.cells {F V F1 : gF} {b : Nat} (h : PI F V b) (hF : ∀ a, a < 48 → F1 a = F a) : PI F1 V b := h.cong (fun a ha _ _ _ => hF a ha) (fun _ _ _ => rfl) h.2.1.2.2
theorem xIt_1 {F V : gF} {K : Prop} [Decidable K] : xIt F V K (1 : Int32).toNatClampNeg = (xF F V K, xV F V K, if xG F V K then 1 else 0) := by
  show xIt F V K 1 = _
  simp only [xIt]
  rfl
theorem fPri0 {V : gF} {pr : Nat} (hp : V 27 2 = nI pr) (h : pr ≤ 200) : fPri V 1 = 0 := by
  unfold fPri
  rw [if_pos (by decide), hp]
  have e : nI pr + 1 = nI (pr + 1) := nI_1 pr
  have h9 : nI (pr + 1) ≤ 20000 := (nI_leI (b := 20000) (by omega) (by decide)).mpr (by omega)
  rw [e, if_pos h9]
theorem CI.ok {F V : gF} {b : Nat} (h : CI F V b) : cOK F V b := h.1.ok
theorem CI.p27 {F V : gF} {b : Nat} (h : CI F V b) : ∃ pr, pr ≤ b ∧ V 27 2 = nI pr := by
  obtain ⟨⟨t, pr, hd, w, h1, h2, h3, h4, _⟩, _⟩ := h
  exact ⟨pr, h3, h4⟩
/-! what the law notes of a copy -/
def cpG (Y : gF) (d2 d4 d5 d6 : Int32) : gF := gw (gw (gw (gw (gw Y 46 2 (Y 46 2 - d2)) 46 3 (Y 46 3 + 1)) 46 4 (Y 46 4 + d4)) 46 5 (Y 46 5 + d5)) 46 6 (Y 46 6 + d6)
def cpT (Y Z : gF) (q : Nat) (e g : Int32) : gF := gw (gw Z 45 q (Y 45 q + e)) 46 1 (Y 46 1 + g)
theorem cpG_o {Y : gF} {d2 d4 d5 d6 : Int32} {a : Nat} (h : a ≠ 46) : cpG Y d2 d4 d5 d6 a = Y a := by
  unfold cpG
  rw [gw_n _ _ _ h, gw_n _ _ _ h, gw_n _ _ _ h, gw_n _ _ _ h, gw_n _ _ _ h]
theorem cpT_o {Y Z : gF} {q a : Nat} {e g : Int32} (h : a ≠ 46) (h2 : a ≠ 45) : cpT Y Z q e g a = Z a := by
  unfold cpT
  rw [gw_n _ _ _ h, gw_n _ _ _ h2]
theorem cpG_at {Y : gF} {d2 d4 d5 d6 : Int32} : cpG Y d2 d4 d5 d6 46 0 = Y 46 0 ∧ cpG Y d2 d4 d5 d6 46 1 = Y 46 1 ∧ cpG Y d2 d4 d5 d6 46 2 = Y 46 2 - d2 ∧ cpG Y d2 d4 d5 d6 46 3 = Y 46 3 + 1 ∧ cpG Y d2 d4 d5 d6 46 4 = Y 46 4 + d4 ∧ cpG Y d2 d4 d5 d6 46 5 = Y 46 5 + d5 ∧ cpG Y d2 d4 d5 d6 46 6 = Y 46 6 + d6 := by
  unfold cpG
  refine ⟨?_, ?_, ?_, ?_, ?_, ?_, ?_⟩ <;> simp [gw]
theorem cpT_46 {Y Z : gF} {q i : Nat} {e g : Int32} (h : i ≠ 1) : cpT Y Z q e g 46 i = Z 46 i := by
  unfold cpT
  rw [gw_sn _ _ h, gw_n _ _ _ (by decide)]
theorem cp_fin {X V : gF} {b pr : Nat} {K : Prop} [Decidable K] {d2 d4 d5 d6 : Int32} (hP : PI X V b) (hb : b ≤ 200) (hp : V 27 2 = nI pr) (hpr : pr ≤ 200) (hd2 : V 27 1 - d2 = xV X V K 27 1) (hd4 : V 27 3 + d4 = xV X V K 27 3) (hd5 : V 27 4 + d5 = xV X V K 27 4) (hd6 : V 27 5 + d6 = xV X V K 27 5) : (V 33 5 = 0 → PI (cpG (xF X V K) d2 d4 d5 d6) (xV X V K) (b + 1)) ∧ (∀ hd q e g, hd < 200 → q < 200 → V 33 4 = nI hd → ¬ V 33 5 = 0 → X 36 hd = nI q → e = (if xG X V K then 1001 else 1) → g = (if xG X V K then 1 else 0) → PI (cpT (xF X V K) (cpG (xF X V K) d2 d4 d5 d6) q e g) (xV X V K) (b + 1)) := by
  obtain ⟨_, _, _, _, _, N, w, ⟨_, _, _, c4, _, _, c7, c8, c9, c10, c11⟩, _⟩ := id hP
  have y46 : ∀ i, xF X V K 46 i = X 46 i := fun i => by rw [xF_ro (by decide) (by decide) (by decide) (by decide)]
  have y45 : ∀ i, xF X V K 45 i = X 45 i := fun i => by rw [xF_ro (by decide) (by decide) (by decide) (by decide)]
  obtain ⟨k0, k1, k2, k3, k4, k5, k6⟩ := cpG_at (Y := xF X V K) (d2 := d2) (d4 := d4) (d5 := d5) (d6 := d6)
  rw [y46] at k0 k1 k2 k3 k4 k5 k6
  have e2 : X 46 2 - d2 = xV X V K 27 1 := by rw [c7]; exact hd2
  have e3 : X 46 3 + 1 = xV X V K 27 2 := by rw [c8]; exact (xV_272 hp (by omega)).symm
  have e4 : X 46 4 + d4 = xV X V K 27 3 := by rw [c9]; exact hd4
  have e5 : X 46 5 + d5 = xV X V K 27 4 := by rw [c10]; exact hd5
  have e6 : X 46 6 + d6 = xV X V K 27 5 := by rw [c11]; exact hd6
  refine ⟨fun h0 => ?_, fun hd q e g hh2 hq hh4 hw0 eq he hg => ?_⟩
  · exact PI_copy hP hb (fun a _ _ h46 => cpG_o h46) k0 (k2.trans e2) (k3.trans e3) (k4.trans e4) (k5.trans e5) (k6.trans e6) (fun _ => ⟨by rw [cpG_o (by decide)]; exact funext y45, k1⟩) (fun _ _ _ _ _ z => absurd h0 z)
  · refine PI_copy hP hb (fun a _ h45 h46 => (cpT_o h46 h45).trans (cpG_o h46)) ((cpT_46 (by decide)).trans k0) ((cpT_46 (by decide)).trans (k2.trans e2)) ((cpT_46 (by decide)).trans (k3.trans e3)) ((cpT_46 (by decide)).trans (k4.trans e4)) ((cpT_46 (by decide)).trans (k5.trans e5)) ((cpT_46 (by decide)).trans (k6.trans e6)) (fun z => absurd z hw0) (fun hd2 q2 b1 b2 z1 _ z2 => ?_)
    have hhd : hd2 = hd := (nI_eq (by omega) (by omega)).mp (z1.symm.trans hh4)
    subst hhd
    have hqq : q2 = q := (nI_eq (by omega) (by omega)).mp (z2.symm.trans eq)
    subst hqq
    refine ⟨fun j hj => ?_, ?_, ?_⟩
    · unfold cpT
      rw [gw_n _ _ _ (by decide), gw_sn _ _ hj, cpG_o (by decide), y45]
    · unfold cpT
      rw [gw_n _ _ _ (by decide), gw_ss, y45, he]
    · unfold cpT
      rw [gw_ss, y46, hg]
theorem jv_led {V : gF} {P K : Prop} [Decidable P] [Decidable K] (h : 0 < V 27 1) : cJudgeV V P K 27 1 = V 27 1 - 1 ∧ cJudgeV V P K 27 3 = V 27 3 + 0 ∧ cJudgeV V P K 27 4 = V 27 4 + 0 ∧ cJudgeV V P K 27 5 = V 27 5 + 0 := by
  unfold cJudgeV
  rw [if_pos h]
  simp [gw]
theorem jv_off {V : gF} {P K : Prop} [Decidable P] [Decidable K] (h : ¬ 0 < V 27 1) (h2 : ¬ P) : cJudgeV V P K 27 1 = V 27 1 - 0 ∧ cJudgeV V P K 27 3 = V 27 3 + 0 ∧ cJudgeV V P K 27 4 = V 27 4 + 1 ∧ cJudgeV V P K 27 5 = V 27 5 + 0 := by
  unfold cJudgeV
  rw [if_neg h, if_neg h2]
  simp [gw]
theorem jv_un {V : gF} {P K : Prop} [Decidable P] [Decidable K] (h : ¬ 0 < V 27 1) (h2 : P) (h3 : ¬ K) : cJudgeV V P K 27 1 = V 27 1 - 0 ∧ cJudgeV V P K 27 3 = V 27 3 + 0 ∧ cJudgeV V P K 27 4 = V 27 4 + 0 ∧ cJudgeV V P K 27 5 = V 27 5 + 1 := by
  unfold cJudgeV
  rw [if_neg h, if_pos h2, if_neg h3]
  simp [gw]
theorem jv_good {V : gF} {P K : Prop} [Decidable P] [Decidable K] (h : ¬ 0 < V 27 1) (h2 : P) (h3 : K) : cJudgeV V P K 27 1 = V 27 1 - 0 ∧ cJudgeV V P K 27 3 = V 27 3 + 1 ∧ cJudgeV V P K 27 4 = V 27 4 + 0 ∧ cJudgeV V P K 27 5 = V 27 5 + 0 := by
  unfold cJudgeV
  rw [if_neg h, if_pos h2, if_pos h3]
  simp [gw]
/-- what the last loop of copies asks of the registers -/
def cpR (X G W : gF) (pr t : Nat) : Prop := (∀ i, i < 4 → G 48 i = X 19 i ∧ G 49 i = X 20 i) ∧ G 46 3 = nI (pr + 1) ∧ (∀ u, u < 4 → G 47 (2 * u) = X 21 u ∧ G 47 (2 * u + 1) = X 22 u) ∧ ∃ t2, t2 ≤ t ∧ W 18 8 = nI t2 ∧ (t2 = t → ∀ u, u < 4 → G 19 u = X 19 u + (if (pr + 1) % 10 = 0 then X 21 u else 0) ∧ G 20 u = X 20 u + (if (pr + 1) % 10 = 0 then X 22 u else 0))
theorem cpR_of {X V G : gF} {K : Prop} [Decidable K] {b pr t : Nat} (hP : PI X V b) (hx : ∀ i, i < 4 → X 48 i = X 19 i ∧ X 49 i = X 20 i) (hp : V 27 2 = nI pr) (hpr : pr ≤ 200) (ht : V 18 8 = nI t) (ht2 : t ≤ 20) (hG : ∀ a, a ≠ 45 → a ≠ 46 → G a = xF X V K a) (h3 : G 46 3 = xF X V K 46 3 + 1) : cpR X G (xV X V K) pr t := by
  obtain ⟨hI, _, _, _, hD, N, w, ⟨_, _, _, c4, _, _, c7, c8, _⟩, _⟩ := hP
  obtain ⟨hd, w2, hh2, hw2, hh4, hw52, _⟩ := hI.line
  obtain ⟨t2, q1, q2, q3⟩ := regs_same (X := X) (K := K) hp ht hh4 hw52 (by omega) ht2 hh2 hw2
  have y : ∀ a, a ≠ 19 → a ≠ 20 → (a < 23 ∨ 26 < a) → (a < 34 ∨ 36 < a) → a ≠ 45 → a ≠ 46 → G a = X a := fun a a1 a2 a3 a4 a5 a6 => (hG a a5 a6).trans (xF_ro a1 a2 a3 a4)
  refine ⟨fun i hi => ?_, ?_, fun u hu => ?_, t2, q1, q2, fun z u hu => ?_⟩
  · rw [y 48 (by decide) (by decide) (by decide) (by decide) (by decide) (by decide), y 49 (by decide) (by decide) (by decide) (by decide) (by decide) (by decide)]
    exact hx i hi
  · rw [h3, xF_ro (by decide) (by decide) (by decide) (by decide), c8, hp]
    exact nI_1 pr
  · rw [y 47 (by decide) (by decide) (by decide) (by decide) (by decide) (by decide)]
    exact hD u hu
  · rw [hG 19 (by decide) (by decide), hG 20 (by decide) (by decide)]
    exact q3 z u hu
