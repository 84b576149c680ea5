/-- both sides refuse -/
theorem LI_no {F V G W : gF} {o : gO} {f r R : Int32} {u : gS} {b : Nat} (h : LI F V b) (hf : f ≠ 0) (hm : mP F V o f r R G W u) : u.2.1 43 31 = f ∧ u.2.2 = o ∧ LI u.1 u.2.1 b := ⟨hm.2.1, hm.1, LI_same h (hm.2.2.2 hf)⟩
/-- neither refuses: the class went to F1, V1, and the model's shadow goes there too -/
theorem LI_ok {F1 V1 G W : gF} {o : gO} {f r R : Int32} {u : gS} {b : Nat} (hf : f = 0) (hG : G = F1) (hW : W = V1) (hC : CI F1 V1 b) (hm : mP F1 V1 o f r R G W u) : u.2.1 43 31 = 0 ∧ u.2.2 = o ∧ r = R ∧ LI u.1 u.2.1 b := by
  obtain ⟨h1, h2⟩ := hm.2.2.1 hf
  subst hG
  subst hW
  exact ⟨hm.2.1.trans hf, hm.1, h1, LI_step h2 (fun _ _ _ => rfl) (fun _ _ _ => rfl) hC⟩
/-- a call that only reads -/
theorem LI_rd {F V G W : gF} {o : gO} {f r R : Int32} {u : gS} {b : Nat} (h : LI F V b) (hf : f = 0) (hG : G = tF F) (hW : W = tV F V) (hm : mP F V o f r R G W u) : u.2.1 43 31 = 0 ∧ u.2.2 = o ∧ r = R ∧ LI u.1 u.2.1 b := by
  obtain ⟨h1, h2⟩ := hm.2.2.1 hf
  subst hG
  subst hW
  exact ⟨hm.2.1.trans hf, hm.1, h1, LI_same h h2⟩
theorem mNz_L {F V : gF} (h : cCB (tF F) (tV F V)) : mNz F V := fun _ hc => cNz h hc
theorem T_colour {F V : gF} {b c : Nat} {x y z : Int32} (h : LI F V b) : tF (gw (gw (gw F 9 c x) 10 c y) 11 c z) = F ∧ tV (gw (gw (gw F 9 c x) 10 c y) 11 c z) V = V :=
  LI_call h (fun a ha => by rw [gT_gw (by unfold gT; omega) ha, gT_gw (by unfold gT; omega) ha, gT_gw (by unfold gT; omega) ha]) (fun _ _ _ => rfl)
theorem T_drift {F V : gF} {b u : Nat} {x y : Int32} (h : LI F V b) : tF (gw (gw F 21 u x) 22 u y) = F ∧ tV (gw (gw F 21 u x) 22 u y) V = V :=
  LI_call h (fun a ha => by rw [gT_gw (by unfold gT; omega) ha, gT_gw (by unfold gT; omega) ha]) (fun _ _ _ => rfl)
theorem T_move {F V : gF} {b u : Nat} {x y : Int32} (h : LI F V b) : tF (cMove F u x y) = F ∧ tV (cMove F u x y) V = V :=
  LI_call h (fun a ha => cMove_hi (fun z => ha (by unfold gT; omega)) (fun z => ha (by unfold gT; omega))) (fun _ _ _ => rfl)
theorem T_key {F V : gF} {b u q : Nat} {x : Int32} (hu : u < 4) (h : LI F V b) : tF (gw F (29 + u) q x) = F ∧ tV (gw F (29 + u) q x) V = V :=
  LI_call h (fun a ha => gT_gw (by unfold gT; omega) ha) (fun _ _ _ => rfl)
theorem gTV_gw {V : gF} {i k a b : Nat} {x : Int32} (hi : gTV i k) (hab : ¬ gTV a b) : gw V i k x a b = V a b := by
  unfold gw
  by_cases c : a = i
  · rw [if_pos c, if_neg (fun z => hab (by rw [c, z]; exact hi))]
  · rw [if_neg c]
theorem T_putoff {F V : gF} {b t u : Nat} {x y : Int32} (h : LI F V b) : tF (cKeep F t (nI u) x y (V 27 2 + V 1 4)) = F ∧ tV (cKeep F t (nI u) x y (V 27 2 + V 1 4)) (gw V 18 8 (nI (t + 1))) = V :=
  LI_call h (fun a ha => cKeep_o (by unfold gT at ha; omega)) (fun a b hab => gTV_gw (by unfold gTV; omega) hab)
theorem T_tear {F V : gF} {b : Nat} (h : LI F V b) : tF F = F ∧ tV F (gw V 27 1 20) = V := LI_call h (fun _ _ => rfl) (fun a b hab => gTV_gw (by unfold gTV; omega) hab)
theorem T_type {F V : gF} {b n : Nat} {x : Int32} (h : LI F V b) : tF (gw F 4 n x) = F ∧ tV (gw F 4 n x) (gw V 3 3 (nI (n + 1))) = V :=
  LI_call h (fun a ha => gT_gw (by unfold gT; omega) ha) (fun a b hab => gTV_gw (by unfold gTV; omega) hab)
theorem T_platesL {F V : gF} {b : Nat} (h : LI F V b) : tF (cMkF F V 256) = F ∧ tV (cMkF F V 256) V = V := LI_call h T_plates (fun _ _ _ => rfl)
theorem T_sign {F V : gF} {b : Nat} (h : LI F V b) : tF (cTkF F 256) = F ∧ tV (cTkF F 256) (gw V 37 1 1) = V :=
  LI_call h (fun a ha => funext (fun q => cTkF_o (by unfold gT at ha; omega) 256 (Nat.le_refl _))) (fun a b hab => gTV_gw (by unfold gTV; omega) hab)
theorem T_job {F V : gF} {b n : Nat} (h : LI F V b) : tF (cBeg F n) = F ∧ tV (cBeg F n) (gw (gw (gw V 33 3 (nI n)) 33 4 0) 33 5 (nI n)) = V :=
  LI_call h (fun a ha => cBeg_o (by unfold gT at ha; omega) n) (fun a b hab => by rw [gTV_gw (by unfold gTV; omega) hab, gTV_gw (by unfold gTV; omega) hab, gTV_gw (by unfold gTV; omega) hab])
theorem T_printL {F V : gF} {b n : Nat} {K : Prop} [Decidable K] (h : LI F V b) : tF (xIt F V K n).1 = F ∧ tV (xIt F V K n).1 (xIt F V K n).2.1 = V := LI_call h (fun _ ha => T_print ha n) (fun _ _ hab => TV_print hab n)
