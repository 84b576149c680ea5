/-! what is typed: signs behind one another -/
def tyF (F : gF) : Nat → List Int32 → gF
  | _, [] => F
  | n, x :: L => tyF (gw F 4 n x) (n + 1) L
theorem tyF_app : ∀ (L : List Int32) (F : gF) (n : Nat) (M : List Int32), tyF (tyF F n L) (n + L.length) M = tyF F n (L ++ M)
  | [], F, n, M => rfl
  | x :: L, F, n, M => by
    show tyF (tyF (gw F 4 n x) (n + 1) L) (n + (L.length + 1)) M = tyF (gw F 4 n x) (n + 1) (L ++ M)
    rw [show n + (L.length + 1) = n + 1 + L.length by omega]
    exact tyF_app L (gw F 4 n x) (n + 1) M
theorem tyF_o {a : Nat} (h : a ≠ 4) : ∀ (L : List Int32) (F : gF) (n : Nat), tyF F n L a = F a
  | [], _, _ => rfl
  | x :: L, F, n => by
    show tyF (gw F 4 n x) (n + 1) L a = F a
    rw [tyF_o h L, gw_n _ _ _ h]
theorem tyF_lo {j : Nat} : ∀ (L : List Int32) (F : gF) (n : Nat), j < n → tyF F n L 4 j = F 4 j
  | [], _, _, _ => rfl
  | x :: L, F, n, h => by
    show tyF (gw F 4 n x) (n + 1) L 4 j = F 4 j
    rw [tyF_lo L _ _ (by omega), gw_sn _ _ (by omega)]
theorem tyF_at : ∀ (L : List Int32) (F : gF) (n j : Nat), j < L.length → tyF F n L 4 (n + j) = L.getD j 32
  | [], _, _, _, h => absurd h (Nat.not_lt_zero _)
  | x :: L, F, n, 0, _ => by
    show tyF (gw F 4 n x) (n + 1) L 4 (n + 0) = x
    rw [tyF_lo L _ _ (by omega), Nat.add_zero n, gw_ss]
  | x :: L, F, n, j + 1, h => by
    show tyF (gw F 4 n x) (n + 1) L 4 (n + (j + 1)) = L.getD j 32
    rw [show n + (j + 1) = n + 1 + j by omega]
    exact tyF_at L _ _ _ (Nat.lt_of_succ_lt_succ h)
def dg (m : Nat) : List Int32 := if 99 < m then [nI (48 + m / 100), nI (48 + m / 10 % 10), nI (48 + m % 10)] else if 9 < m then [nI (48 + m / 10 % 10), nI (48 + m % 10)] else [nI (48 + m % 10)]
theorem dg_3 {m : Nat} (h : 99 < m) : dg m = [nI (48 + m / 100), nI (48 + m / 10 % 10), nI (48 + m % 10)] := if_pos h
theorem dg_2 {m : Nat} (h : ¬ 99 < m) (h2 : 9 < m) : dg m = [nI (48 + m / 10 % 10), nI (48 + m % 10)] := by
  unfold dg
  rw [if_neg h, if_pos h2]
theorem dg_1 {m : Nat} (h2 : ¬ 9 < m) : dg m = [nI (48 + m % 10)] := by
  unfold dg
  rw [if_neg (by omega), if_neg h2]
theorem dg_len (m : Nat) : (dg m).length ≤ 3 := by
  unfold dg
  split
  · exact Nat.le_of_ble_eq_true rfl
  · split <;> exact Nat.le_of_ble_eq_true rfl
theorem i2c_k : ∀ k, k < 128 → ((nI k).toUInt32 % 65536).toInt32 = nI k := by decide +kernel
theorem nar_k : ∀ k, k < 128 → vp_nar .char (nI k) = nI k := by decide +kernel
theorem gTk_d : ∀ d, d < 10 → gTk (nI (48 + d)) := by decide +kernel
theorem fTyp0 {V : gF} {n : Nat} {x : Int32} (hn : V 3 3 = nI n) (h : n < 60) (hx : gTk x) : fTyp V x = 0 := by
  unfold fTyp
  rw [if_pos hx, if_neg]
  rw [hn]
  exact fun z => by have := (nI_leI (a := 60) (by decide) (by omega)).mp z; omega
def wordL (w : Nat) : List Int32 := [[98, 108, 97, 99, 107, 32], [108, 105, 109, 105, 116, 32], [116, 114, 97, 112, 32], [103, 97, 105, 110, 32], [116, 111, 108, 101, 114, 97, 110, 99, 101, 32], [100, 101, 108, 97, 121, 32]].getD w []
/-! two scripts that agree as far as they go are read alike -/
theorem agSk {S T : Nat → Int32} {n : Nat} (h : ∀ i, i < n → S i = T i) : ∀ f i, i + f ≤ n → qSk S f i = qSk T f i
  | 0, _, _ => rfl
  | f + 1, i, hi => by
    simp only [qSk]
    rw [h i (by omega), agSk h f (i + 1) (by omega)]
theorem agSt {S T : Nat → Int32} {n : Nat} (h : ∀ i, i < n → S i = T i) : ∀ f i, i + f ≤ n → qSt S f i = qSt T f i
  | 0, _, _ => rfl
  | f + 1, i, hi => by
    simp only [qSt]
    rw [h i (by omega), agSt h f (i + 1) (by omega)]
theorem agB {S T : Nat → Int32} {n i : Nat} (h : ∀ i, i < n → S i = T i) (hi : i ≤ n) : qB S n i = qB T n i := agSk h _ _ (by omega)
theorem agE {S T : Nat → Int32} {n i : Nat} (h : ∀ i, i < n → S i = T i) (hi : i ≤ n) : qE S n i = qE T n i := agSt h _ _ (by omega)
theorem agAt {S T : Nat → Int32} {n : Nat} (h : ∀ i, i < n → S i = T i) : ∀ p, qAt S n p = qAt T n p
  | 0 => rfl
  | p + 1 => by
    show qE S n (qB S n (qAt S n p)) = qE T n (qB T n (qAt T n p))
    rw [agAt h p, agB h (qAt_b p), agE h (qB_b (qAt_b p)).2]
theorem agb {S T : Nat → Int32} {n : Nat} (h : ∀ i, i < n → S i = T i) (p : Nat) : qb S n p = qb T n p := by
  show qB S n (qAt S n p) = qB T n (qAt T n p)
  rw [agAt h p, agB h (qAt_b p)]
theorem agVl {S T : Nat → Int32} {n b : Nat} (h : ∀ i, i < n → S i = T i) : ∀ k, b + k ≤ n → qVl S b k = qVl T b k
  | 0, _ => rfl
  | k + 1, hk => by
    simp only [qVl]
    rw [agVl h k (by omega), h (b + k) (by omega)]
theorem agNum {S T : Nat → Int32} {n b m : Nat} (h : ∀ i, i < n → S i = T i) (hm : b + m ≤ n) : qNum S b m = qNum T b m := by
  unfold qNum
  have e : (¬ 3 < m ∧ ∀ v, v < m → qDg S (b + v)) ↔ (¬ 3 < m ∧ ∀ v, v < m → qDg T (b + v)) := by
    constructor
    · exact fun z => ⟨z.1, fun v hv => by have := z.2 v hv; unfold qDg at this ⊢; rw [← h (b + v) (by omega)]; exact this⟩
    · exact fun z => ⟨z.1, fun v hv => by have := z.2 v hv; unfold qDg at this ⊢; rw [h (b + v) (by omega)]; exact this⟩
  by_cases c : ¬ 3 < m ∧ ∀ v, v < m → qDg S (b + v)
  · rw [if_pos c, if_pos (e.mp c), agVl h m hm]
  · rw [if_neg c, if_neg (fun z => c (e.mpr z))]
theorem agIs {S T : Nat → Int32} {n i : Nat} {a b c d e : Int32} (h : ∀ i, i < n → S i = T i) (hi : i + 5 ≤ n) : qIs S i a b c d e = qIs T i a b c d e := by
  unfold qIs
  rw [h i (by omega), h (i + 1) (by omega), h (i + 2) (by omega), h (i + 3) (by omega), h (i + 4) (by omega)]
theorem agWh {S T : Nat → Int32} {n b m : Nat} (h : ∀ i, i < n → S i = T i) (hm : b + m ≤ n) : qWh S b m = qWh T b m := by
  unfold qWh
  by_cases c4 : m = 4
  · subst c4
    rw [if_pos rfl, if_pos rfl]
    unfold qI4
    rw [h b (by omega), h (b + 1) (by omega), h (b + 2) (by omega), h (b + 3) (by omega)]
  · rw [if_neg c4, if_neg c4]
    by_cases c5 : m = 5
    · subst c5
      rw [if_pos rfl, if_pos rfl, agIs h hm, agIs h hm, agIs h hm]
    · rw [if_neg c5, if_neg c5]
      by_cases c9 : m = 9
      · subst c9
        rw [agIs h (by omega), agIs (i := b + 4) h (by omega)]
      · rw [if_neg (fun z => c9 z.1), if_neg (fun z => c9 z.1)]
theorem agHas {S T : Nat → Int32} {n : Nat} (h : ∀ i, i < n → S i = T i) (p : Nat) : qHas S n p ↔ qHas T n p := by
  unfold qHas
  rw [agb h, agAt h]
theorem agN {S T : Nat → Int32} {n : Nat} (h : ∀ i, i < n → S i = T i) (p : Nat) : qN S n p = qN T n p := by
  have hb := qb_b (S := T) (n := n) (p := p)
  unfold qN
  by_cases c : qHas S n p
  · rw [if_pos c, if_pos ((agHas h p).mp c), agb h, agAt h, agNum h (by omega)]
  · rw [if_neg c, if_neg (fun z => c ((agHas h p).mpr z))]
theorem agW {S T : Nat → Int32} {n : Nat} (h : ∀ i, i < n → S i = T i) (p : Nat) : qW S n p = qW T n p := by
  have hb := qb_b (S := T) (n := n) (p := p)
  unfold qW
  rw [agb h, agAt h, agWh h (by omega)]
theorem agInk {S T : Nat → Int32} {n : Nat} (h : ∀ i, i < n → S i = T i) (p : Nat) : qInk S n p = qInk T n p := by
  unfold qInk
  rw [agW h, agN h]
theorem agNp {S T : Nat → Int32} {n : Nat} (h : ∀ i, i < n → S i = T i) (p : Nat) : qNp S n p = qNp T n p := by
  unfold qNp
  rw [agW h]
theorem agOk {S T : Nat → Int32} {n : Nat} (h : ∀ i, i < n → S i = T i) (p : Nat) : qOk S n p ↔ qOk T n p := by
  unfold qOk
  rw [agW h, agInk h, agNp h, agN h]
/-! the law's rules, each -/
def rL (w i n : Nat) : List Int32 := if w = 3 then wordL w ++ (dg i ++ (32 :: dg n)) else wordL w ++ dg n
def rMost (w : Nat) : Nat := [100, 400, 1, 40, 9, 50].getD w 0
def rOk (w i n : Nat) : Bool := decide (n ≤ rMost w ∧ (w = 1 → 99 < n) ∧ (w = 3 → i < 4))
def rAt (w i : Nat) : Nat := if w = 3 then 3 + i else if w < 3 then w else w + 3
/-- what the reading of such a rule gives -/
def rC (S : Nat → Int32) (n w i m : Nat) : Prop := qHas S n 0 ∧ (if rOk w i m = true then qOk S n 0 ∧ ¬ qHas S n (qNp S n 0 + 1) ∧ qW S n 0 = eW w ∧ qN S n (qNp S n 0) = nI m ∧ (w = 3 → qInk S n 0 = nI i) else ¬ qOk S n 0)
def rCb (w i m : Nat) : Bool := (decide (qHas (fun j => (rL w i m).getD j 32) (rL w i m).length 0)) && (if rOk w i m = true then decide (qOk (fun j => (rL w i m).getD j 32) (rL w i m).length 0) && !(decide (qHas (fun j => (rL w i m).getD j 32) (rL w i m).length (qNp (fun j => (rL w i m).getD j 32) (rL w i m).length 0 + 1))) && decide (qW (fun j => (rL w i m).getD j 32) (rL w i m).length 0 = eW w) && decide (qN (fun j => (rL w i m).getD j 32) (rL w i m).length (qNp (fun j => (rL w i m).getD j 32) (rL w i m).length 0) = nI m) && (decide (w ≠ 3) || decide (qInk (fun j => (rL w i m).getD j 32) (rL w i m).length 0 = nI i)) else !(decide (qOk (fun j => (rL w i m).getD j 32) (rL w i m).length 0)))
theorem rK0 : ∀ m, m < 102 → rCb 0 0 m = true := by decide +kernel
theorem rK1 : ∀ m, m < 402 → rCb 1 0 m = true := by decide +kernel
theorem rK2 : ∀ m, m < 3 → rCb 2 0 m = true := by decide +kernel
theorem rK3 : ∀ i, i < 5 → ∀ m, m < 42 → rCb 3 i m = true := by decide +kernel
theorem rK4 : ∀ m, m < 11 → rCb 4 0 m = true := by decide +kernel
theorem rK5 : ∀ m, m < 52 → rCb 5 0 m = true := by decide +kernel
theorem qRun_s {S : Nat → Int32} {n f p : Nat} {c : Int32} : qRun S n (f + 1) p c = if qHas S n p then (if qOk S n p then qRun S n f (qNp S n p + 1) (c + 1) else -(nI (p + 1))) else c := rfl
theorem qFine_s {S : Nat → Int32} {n f p : Nat} : qFine S n (f + 1) p = if qHas S n p then (if qOk S n p then qFine S n f (qNp S n p + 1) else false) else true := rfl
theorem qRuF_s {S : Nat → Int32} {n f p : Nat} {x : gF × gF} : qRuF S n (f + 1) p x = if qHas S n p ∧ qOk S n p then qRuF S n f (qNp S n p + 1) (qUp S n p x) else x := rfl
theorem qFine_nh {S : Nat → Int32} {n m p : Nat} (h : ¬ qHas S n p) : qFine S n m p = true := by
  cases m with
  | zero => rfl
  | succ d => rw [qFine_s, if_neg h]
/-- the place of a rule's number among the fields of the rules -/
def rIx (w : Nat) : Nat := if w < 3 then w else w - 1
theorem eW_ix : ∀ w, w < 6 → w ≠ 3 → (if eW w = 0 then 0 else if eW w = 1 then 1 else if eW w = 2 then 2 else if eW w = 7 then 3 else 4) = rIx w := by decide
theorem rule_ap {F V5 : gF} {o : gO} {w i m : Nat} {r : Int32} {u : gS} (hw : w < 6) (hi : i < 5) (hc : rCb w i m = true) (h : qApp (tyF F 0 (rL w i m)) V5 o (rL w i m).length r u) : u.2.2 = o ∧ ∃ (F1 : gF) (N : Nat), (∀ a, a ≠ 4 → a ≠ 5 → a ≠ 6 → F1 a = F a) ∧ (rOk w i m = true → r = 1 ∧ u.1 = (if w = 3 then gw F1 2 i (nI m) else F1) ∧ u.2.1 = (if w = 3 then gw (gw V5 3 4 (nI N)) 3 3 0 else gw (gw (gw V5 3 4 (nI N)) 3 3 0) 1 (rIx w) (nI m))) ∧ (rOk w i m = false → r = -1 ∧ u.1 = F1 ∧ u.2.1 = gw (gw V5 3 4 (nI N)) 3 3 0) := by
  obtain ⟨ho, hr, F1, N, h1, hN, ha, hb⟩ := h
  have ag : ∀ j, j < (rL w i m).length → tyF F 0 (rL w i m) 4 j = (rL w i m).getD j 32 := fun j hj => by
    have := tyF_at (rL w i m) F 0 j hj
    rw [Nat.zero_add] at this
    exact this
  have h1b : ∀ a, a ≠ 4 → a ≠ 5 → a ≠ 6 → F1 a = F a := fun a a4 a5 a6 => (h1 a a5 a6).trans (tyF_o a4 _ _ _)
  unfold rCb at hc
  obtain ⟨q1, q2⟩ := Bool.and_eq_true_iff.mp hc
  generalize hS : tyF F 0 (rL w i m) 4 = S at hr ha hb ag
  generalize hn : (rL w i m).length = n at hr ha hb ag q1 q2
  have ag2 : ∀ j, j < n → S j = (fun j => (rL w i m).getD j 32) j := ag
  generalize hT : (fun j => (rL w i m).getD j 32) = T at ag2 q1 q2
  have e1 : qHas S n 0 := (agHas ag2 0).mpr (of_decide_eq_true q1)
  refine ⟨ho, F1, N, h1b, fun k => ?_, fun k => ?_⟩
  · rw [if_pos k] at q2
    obtain ⟨q3, q8⟩ := Bool.and_eq_true_iff.mp q2
    obtain ⟨q4, q7⟩ := Bool.and_eq_true_iff.mp q3
    obtain ⟨q5, q6⟩ := Bool.and_eq_true_iff.mp q4
    obtain ⟨p1, p2⟩ := Bool.and_eq_true_iff.mp q5
    have e2 : qOk S n 0 := (agOk ag2 0).mpr (of_decide_eq_true p1)
    have e3 : ¬ qHas S n (qNp S n 0 + 1) := by
      rw [agNp ag2]
      intro z
      rw [decide_eq_true ((agHas ag2 _).mp z)] at p2
      exact absurd p2 (by decide)
    have e4 : qW S n 0 = eW w := (agW ag2 0).trans (of_decide_eq_true q6)
    have e5 : qN S n (qNp S n 0) = nI m := by
      rw [agNp ag2, agN ag2]
      exact of_decide_eq_true q7
    have e6 : w = 3 → qInk S n 0 = nI i := fun z => by
      rw [agInk ag2]
      rcases Bool.or_eq_true_iff.mp q8 with y | y
      · exact absurd z (of_decide_eq_true y)
      · exact of_decide_eq_true y
    have f1 : qFine S n 64 0 = true := by
      rw [show qFine S n 64 0 = _ from qFine_s (f := 63), if_pos e1, if_pos e2, qFine_nh e3]
    have f2 : ∀ x, qRuF S n 64 0 x = qUp S n 0 x := fun x => by
      rw [show qRuF S n 64 0 x = _ from qRuF_s (f := 63), if_pos ⟨e1, e2⟩, qRuF_nh e3]
    have f3 : ∀ x : gF × gF, qUp S n 0 x = if w = 3 then (gw x.1 2 i (nI m), x.2) else (x.1, gw x.2 1 (rIx w) (nI m)) := fun x => by
      unfold qUp
      rw [e4, e5]
      by_cases c : w = 3
      · subst c
        rw [if_pos (by decide), if_pos rfl, e6 rfl, nI_clamp (by omega)]
      · rw [if_neg (fun z => c ((e_w3 w hw).mp z)), if_neg c, eW_ix w hw c]
    obtain ⟨g1, g2⟩ := ha f1
    refine ⟨?_, ?_, ?_⟩
    · rw [hr, show qRun S n 64 0 0 = _ from qRun_s (f := 63), if_pos e1, if_pos e2, qRun_nh e3]
      decide
    · rw [g1, f2, f3]
      by_cases c : w = 3
      · rw [if_pos c, if_pos c]
      · rw [if_neg c, if_neg c]
    · rw [g2, f2, f3]
      by_cases c : w = 3
      · rw [if_pos c, if_pos c]
      · rw [if_neg c, if_neg c]
        exact gw_comm (by decide)
  · rw [if_neg (by rw [k]; decide)] at q2
    have e2 : ¬ qOk S n 0 := by
      intro z
      rw [decide_eq_true ((agOk ag2 0).mp z)] at q2
      exact absurd q2 (by decide)
    have f1 : qFine S n 64 0 = false := by
      rw [show qFine S n 64 0 = _ from qFine_s (f := 63), if_pos e1, if_neg e2]
    obtain ⟨g1, g2⟩ := hb f1
    refine ⟨?_, g1, g2⟩
    rw [hr, show qRun S n 64 0 0 = _ from qRun_s (f := 63), if_pos e1, if_neg e2]
    decide
/-- nothing typed: nothing applied -/
theorem qHas_0 {S : Nat → Int32} : ¬ qHas S 0 0 := by
  have h := qb_b (S := S) (n := 0) (p := 0)
  unfold qHas
  omega
theorem null_ap {F V : gF} {o : gO} {r : Int32} {u : gS} (h : qApp F V o 0 r u) : u.2.2 = o ∧ r = 0 ∧ (∀ a, a ≠ 5 → a ≠ 6 → u.1 a = F a) ∧ ∃ N, u.2.1 = gw (gw V 3 4 (nI N)) 3 3 0 := by
  obtain ⟨ho, hr, F1, N, h1, hN, ha, hb⟩ := h
  obtain ⟨g1, g2⟩ := ha (qFine_nh qHas_0)
  rw [qRuF_nh qHas_0] at g1 g2
  exact ⟨ho, hr.trans (qRun_nh qHas_0), fun a a5 a6 => by rw [g1]; exact h1 a a5 a6, N, g2⟩
theorem rL_len {w i m : Nat} (hw : w < 6) : (rL w i m).length ≤ 60 := by
  have h1 := dg_len i
  have h2 := dg_len m
  have key : ∀ w, w < 6 → (wordL w).length ≤ 10 := by decide
  have h3 := key w hw
  unfold rL
  split
  · simp only [List.length_append, List.length_cons]
    omega
  · simp only [List.length_append]
    omega
