theorem dfX0 : ∀ j, j < 6 → defaultValue (tyX0 j) = vp_V [.null, .null, .null, .int 0, .int 0, .int 0] j := fun j hj => by
  rcases (show j = 0 ∨ j = 1 ∨ j = 2 ∨ j = 3 ∨ j = 4 ∨ j = 5 by omega) with rfl | rfl | rfl | rfl | rfl | rfl <;> rfl
theorem dfX1 : ∀ j, j < 1 → defaultValue (tyX1 j) = vp_V [.null] j := fun j hj => by
  rcases (show j = 0 by omega) with rfl <;> rfl
theorem dfX2 : ∀ j, j < 1 → defaultValue (tyX2 j) = vp_V [.null] j := fun j hj => by
  rcases (show j = 0 by omega) with rfl <;> rfl
theorem dfX3 : ∀ j, j < 6 → defaultValue (tyX3 j) = vp_V [.null, .int 0, .int 0, .int 0, .int 0, .int 0] j := fun j hj => by
  rcases (show j = 0 ∨ j = 1 ∨ j = 2 ∨ j = 3 ∨ j = 4 ∨ j = 5 by omega) with rfl | rfl | rfl | rfl | rfl | rfl <;> rfl
theorem dfX4 : ∀ j, j < 2 → defaultValue (tyX4 j) = vp_V [.null, .int 0] j := fun j hj => by
  rcases (show j = 0 ∨ j = 1 by omega) with rfl | rfl <;> rfl
theorem dfX5 : ∀ j, j < 9 → defaultValue (tyX5 j) = vp_V [.null, .null, .null, .null, .null, .null, .null, .null, .int 0] j := fun j hj => by
  rcases (show j = 0 ∨ j = 1 ∨ j = 2 ∨ j = 3 ∨ j = 4 ∨ j = 5 ∨ j = 6 ∨ j = 7 ∨ j = 8 by omega) with rfl | rfl | rfl | rfl | rfl | rfl | rfl | rfl | rfl <;> rfl
theorem dfX7 : ∀ j, j < 6 → defaultValue (tyX7 j) = vp_V [.int 0, .int 0, .int 0, .int 0, .int 0, .null] j := fun j hj => by
  rcases (show j = 0 ∨ j = 1 ∨ j = 2 ∨ j = 3 ∨ j = 4 ∨ j = 5 by omega) with rfl | rfl | rfl | rfl | rfl | rfl <;> rfl
theorem dfX8 : ∀ j, j < 5 → defaultValue (tyX8 j) = vp_V [.null, .null, .null, .int 0, .int 0] j := fun j hj => by
  rcases (show j = 0 ∨ j = 1 ∨ j = 2 ∨ j = 3 ∨ j = 4 by omega) with rfl | rfl | rfl | rfl | rfl <;> rfl
theorem dfX9 : ∀ j, j < 8 → defaultValue (tyX9 j) = vp_V [.null, .null, .null, .null, .null, .null, .null, .null] j := fun j hj => by
  rcases (show j = 0 ∨ j = 1 ∨ j = 2 ∨ j = 3 ∨ j = 4 ∨ j = 5 ∨ j = 6 ∨ j = 7 by omega) with rfl | rfl | rfl | rfl | rfl | rfl | rfl | rfl <;> rfl
def kX7 (cs : Nat → ClassId) (h0 : Nat) (r : Nat → Nat) : va_W := [(h0, .inr (6, [.int 50, .int 300, .int 0, .int 2, .int 10, .ref (r 0)])), ((r 0), .inl (cs 0, 4, .inl (kf 20 4)))]
def kX8 (cs : Nat → ClassId) (h0 : Nat) (r : Nat → Nat) : va_W := [(h0, .inr (7, [.ref (r 0), .ref (r 1), .ref (r 2), .int 0, .int 0])), ((r 0), .inl (cs 1, 60, .inl (fun _ => 0))), ((r 1), .inl (cs 0, 60, .inl (fun _ => 0))), ((r 2), .inl (cs 0, 60, .inl (fun _ => 0)))]
def kX1 (cs : Nat → ClassId) (h0 : Nat) (r : Nat → Nat) : va_W := [(h0, .inr (1, [.ref (r 0)])), ((r 0), .inl (cs 4, kO 3 (fun i => r (i + 1)))), ((r 1), .inl (cs 0, 64, .inl (kf 100 64))), ((r 2), .inl (cs 0, 64, .inl (kf 100 64))), ((r 3), .inl (cs 0, 64, .inl (kf 100 64)))]
def kX2 (cs : Nat → ClassId) (h0 : Nat) (r : Nat → Nat) : va_W := [(h0, .inr (2, [.ref (r 0)])), ((r 0), .inl (cs 4, kO 4 (fun i => r (i + 1)))), ((r 1), .inl (cs 0, 64, .inl (fun _ => 0))), ((r 2), .inl (cs 0, 64, .inl (fun _ => 0))), ((r 3), .inl (cs 0, 64, .inl (fun _ => 0))), ((r 4), .inl (cs 0, 64, .inl (fun _ => 0)))]
def kX5 (cs : Nat → ClassId) (h0 : Nat) (r : Nat → Nat) : va_W := [(h0, .inr (5, [.ref (r 0), .ref (r 1), .ref (r 2), .ref (r 3), .ref (r 4), .ref (r 5), .ref (r 6), .ref (r 7), .int 0])), ((r 0), .inl (cs 0, 4, .inl (fun _ => 0))), ((r 1), .inl (cs 0, 4, .inl (fun _ => 0))), ((r 2), .inl (cs 0, 4, .inl (fun _ => 0))), ((r 3), .inl (cs 0, 4, .inl (fun _ => 0))), ((r 4), .inl (cs 0, 20, .inl (fun _ => 0))), ((r 5), .inl (cs 0, 20, .inl (fun _ => 0))), ((r 6), .inl (cs 0, 20, .inl (fun _ => 0))), ((r 7), .inl (cs 0, 20, .inl (fun _ => 0)))]
def kX3 (cs : Nat → ClassId) (h0 : Nat) (r : Nat → Nat) : va_W := [(h0, .inr (3, [.ref (r 0), .int 0, .int 0, .int 0, .int 0, .int 0])), ((r 0), .inl (cs 4, kO 4 (fun i => r (i + 1)))), ((r 1), .inl (cs 0, 8, .inl (kf 50 8))), ((r 2), .inl (cs 0, 8, .inl (kf 50 8))), ((r 3), .inl (cs 0, 8, .inl (kf 50 8))), ((r 4), .inl (cs 0, 8, .inl (kf 50 8)))]
def kX0 (cs : Nat → ClassId) (h0 : Nat) (r : Nat → Nat) : va_W := [(h0, .inr (0, [.ref (r 0), .ref (r 1), .ref (r 2), .int 0, .int 0, .int 0])), ((r 0), .inl (cs 0, 200, .inl (fun _ => 0))), ((r 1), .inl (cs 2, 200, .inl (fun _ => 0))), ((r 2), .inl (cs 0, 200, .inl (fun _ => 0)))]
def kX4 (cs : Nat → ClassId) (h0 : Nat) (r : Nat → Nat) : va_W := [(h0, .inr (4, [.ref (r 0), .int 0])), ((r 0), .inl (cs 4, kO 4 (fun i => r (i + 1)))), ((r 1), .inl (cs 0, 64, .inl (fun _ => 0))), ((r 2), .inl (cs 0, 64, .inl (fun _ => 0))), ((r 3), .inl (cs 0, 64, .inl (fun _ => 0))), ((r 4), .inl (cs 0, 64, .inl (fun _ => 0)))]
set_option maxHeartbeats 4000000 in
set_option maxRecDepth 100000 in
theorem k_X1_paint (l : Launch) {D : va_G} {cs : Nat → ClassId} {h0 sz : Nat} {q8 : Nat} {r8 : Nat → Nat} (j : Nat) (hj : j < 64) : Met l yX1_paint wsX1_paint ({ frames := 0, cells := 0, slots := 0, locals := 0 } : Room) (kPc D cs [.ref h0, .int (nI j), .int 100, .int 100, .int 100] sz [(h0, .inr (1, [.ref q8])), (q8, .inl (cs 4, kO 3 r8)), ((r8 0), .inl (cs 0, 64, .inl (kf 100 j))), ((r8 1), .inl (cs 0, 64, .inl (kf 100 j))), ((r8 2), .inl (cs 0, 64, .inl (kf 100 j)))]) (kQv D (va_A [(h0, .inr (1, [.ref q8])), (q8, .inl (cs 4, kO 3 r8)), ((r8 0), .inl (cs 0, 64, .inl (kf 100 j))), ((r8 1), .inl (cs 0, 64, .inl (kf 100 j))), ((r8 2), .inl (cs 0, 64, .inl (kf 100 j)))] sz) (fun _ : Unit => ([(h0, .inr (1, [.ref q8])), (q8, .inl (cs 4, kO 3 r8)), ((r8 0), .inl (cs 0, 64, .inl (kf 100 (j + 1)))), ((r8 1), .inl (cs 0, 64, .inl (kf 100 (j + 1)))), ((r8 2), .inl (cs 0, 64, .inl (kf 100 (j + 1))))] : va_W))) 0 0 (va_A [(h0, .inr (1, [.ref q8])), (q8, .inl (cs 4, kO 3 r8)), ((r8 0), .inl (cs 0, 64, .inl (kf 100 j))), ((r8 1), .inl (cs 0, 64, .inl (kf 100 j))), ((r8 2), .inl (cs 0, 64, .inl (kf 100 j)))] sz) := by
  refine k_met (cc := cX1_paint) (maxL := 5) (own := RX1) (by decide +kernel) rfl rfl (Nat.le_of_ble_eq_true rfl) ?_
  intro p0 e0 s0 m0 b0 k0 c0 hx hb hr hts hown hlocks hml hnm hG hN ls hl
  have hl : lv_has ls 5 [(0, .ref h0), (1, .int (nI j)), (2, .int 100), (3, .int 100), (4, .int 100)] := hl
  generalize hAe : va_A [(h0, .inr (1, [.ref q8])), (q8, .inl (cs 4, kO 3 r8)), ((r8 0), .inl (cs 0, 64, .inl (kf 100 j))), ((r8 1), .inl (cs 0, 64, .inl (kf 100 j))), ((r8 2), .inl (cs 0, 64, .inl (kf 100 j)))] s0.heap.size = A at hN ⊢
  have hA : ∀ q, s0.heap.size ≤ q → A q := fun q h => by rw [← hAe]; exact Or.inr h
  have hin_X1 : ∀ w ∈ wsX10, w ∈ wsX1_paint := by decide +kernel
  have hk_11 := hts (.fieldLink RX1 11 RX1 "lights" "[[I") (by decide +kernel)
  refine lv_aload_n hx hb dX1_paint_0 rfl (lv_at hl 0 rfl) ?_
  refine k_get hx hb hts hin_X1 hown hG hN 0 rfl rfl 0 (by decide) hk_11 rfl rfl dX1_paint_1 ?_
  refine lv_iconst (v := 0) hx hb dX1_paint_4 (by decide) ?_
  refine k_aald hx hb hG hN 1 (n := 3) (j := 0) rfl (by decide) (by omega) rfl dX1_paint_5 ?_
  refine lv_iload_n hx hb dX1_paint_6 rfl (lv_at hl 1 rfl) ?_
  refine lv_iload_n hx hb dX1_paint_7 rfl (lv_at hl 2 rfl) ?_
  refine k_iast hx hb hG hN 2 (j := j) rfl rfl (by omega) (by decide) (g := (kf 100 (j + 1))) (kf_upd _ _) (ws2 := [(h0, .inr (1, [.ref q8])), (q8, .inl (cs 4, kO 3 r8)), ((r8 0), .inl (cs 0, 64, .inl (kf 100 (j + 1)))), ((r8 1), .inl (cs 0, 64, .inl (kf 100 j))), ((r8 2), .inl (cs 0, 64, .inl (kf 100 j)))]) rfl dX1_paint_8 (fun H locs hN => ?_)
  refine lv_aload_n hx hb dX1_paint_9 rfl (lv_at hl 0 rfl) ?_
  refine k_get hx hb hts hin_X1 hown hG hN 0 rfl rfl 0 (by decide) hk_11 rfl rfl dX1_paint_10 ?_
  refine lv_iconst (v := 1) hx hb dX1_paint_13 (by decide) ?_
  refine k_aald hx hb hG hN 1 (n := 3) (j := 1) rfl (by decide) (by omega) rfl dX1_paint_14 ?_
  refine lv_iload_n hx hb dX1_paint_15 rfl (lv_at hl 1 rfl) ?_
  refine lv_iload_n hx hb dX1_paint_16 rfl (lv_at hl 3 rfl) ?_
  refine k_iast hx hb hG hN 3 (j := j) rfl rfl (by omega) (by decide) (g := (kf 100 (j + 1))) (kf_upd _ _) (ws2 := [(h0, .inr (1, [.ref q8])), (q8, .inl (cs 4, kO 3 r8)), ((r8 0), .inl (cs 0, 64, .inl (kf 100 (j + 1)))), ((r8 1), .inl (cs 0, 64, .inl (kf 100 (j + 1)))), ((r8 2), .inl (cs 0, 64, .inl (kf 100 j)))]) rfl dX1_paint_17 (fun H locs hN => ?_)
  refine lv_aload_n hx hb dX1_paint_18 rfl (lv_at hl 0 rfl) ?_
  refine k_get hx hb hts hin_X1 hown hG hN 0 rfl rfl 0 (by decide) hk_11 rfl rfl dX1_paint_19 ?_
  refine lv_iconst (v := 2) hx hb dX1_paint_22 (by decide) ?_
  refine k_aald hx hb hG hN 1 (n := 3) (j := 2) rfl (by decide) (by omega) rfl dX1_paint_23 ?_
  refine lv_iload_n hx hb dX1_paint_24 rfl (lv_at hl 1 rfl) ?_
  refine lv_iload hx hb dX1_paint_25 (lv_at hl 4 rfl) ?_
  refine k_iast hx hb hG hN 4 (j := j) rfl rfl (by omega) (by decide) (g := (kf 100 (j + 1))) (kf_upd _ _) (ws2 := [(h0, .inr (1, [.ref q8])), (q8, .inl (cs 4, kO 3 r8)), ((r8 0), .inl (cs 0, 64, .inl (kf 100 (j + 1)))), ((r8 1), .inl (cs 0, 64, .inl (kf 100 (j + 1)))), ((r8 2), .inl (cs 0, 64, .inl (kf 100 (j + 1))))]) rfl dX1_paint_27 (fun H locs hN => ?_)
  exact k_rv (w1 := (fun _ : Unit => ([(h0, .inr (1, [.ref q8])), (q8, .inl (cs 4, kO 3 r8)), ((r8 0), .inl (cs 0, 64, .inl (kf 100 (j + 1)))), ((r8 1), .inl (cs 0, 64, .inl (kf 100 (j + 1)))), ((r8 2), .inl (cs 0, 64, .inl (kf 100 (j + 1))))] : va_W))) hx hb hr hlocks (()) hN dX1_paint_28
set_option maxHeartbeats 4000000 in
set_option maxRecDepth 100000 in
theorem c_X7_init (l : Launch) {D : va_G} {cs : Nat → ClassId} {h0 sz : Nat} : Met l yX7_init wsX7_init ({ frames := 1, cells := 1, slots := 4, locals := 20 } : Room) (kPc D cs [.ref h0] sz [(h0, .inr (6, [.int 0, .int 0, .int 0, .int 0, .int 0, .null]))]) (kQv D (va_A [(h0, .inr (6, [.int 0, .int 0, .int 0, .int 0, .int 0, .null]))] sz) (kX7 cs h0)) 1 4 (va_A [(h0, .inr (6, [.int 0, .int 0, .int 0, .int 0, .int 0, .null]))] sz) := by
  refine k_met (cc := cX7_init) (maxL := 2) (own := RX7) (by decide +kernel) rfl rfl (Nat.le_of_ble_eq_true rfl) ?_
  intro p0 e0 s0 m0 b0 k0 c0 hx hb hr hts hown hlocks hml hnm hG hN ls hl
  have hl : lv_has ls 2 [(0, .ref h0)] := hl
  generalize hAe : va_A [(h0, .inr (6, [.int 0, .int 0, .int 0, .int 0, .int 0, .null]))] s0.heap.size = A at hN ⊢
  have hA : ∀ q, s0.heap.size ≤ q → A q := fun q h => by rw [← hAe]; exact Or.inr h
  have hin_X7 : ∀ w ∈ wsX70, w ∈ wsX7_init := by decide +kernel
  have ho1 := hts (.methodLink RX7 3 objectInit) (by decide +kernel)
  have ho2 := hts (.instanceMethod objectInit) (by decide +kernel)
  have ho3 := hts (.code objectInit ⟨#[0xb1]⟩ 1 none) (by decide +kernel)
  have hk_9 := hts (.fieldLink RX7 9 RX7 "share" "I") (by decide +kernel)
  have hk_15 := hts (.fieldLink RX7 15 RX7 "limit" "I") (by decide +kernel)
  have hk_18 := hts (.fieldLink RX7 18 RX7 "trap" "Z") (by decide +kernel)
  have hk_22 := hts (.fieldLink RX7 22 RX7 "tolerance" "I") (by decide +kernel)
  have hk_25 := hts (.fieldLink RX7 25 RX7 "delay" "I") (by decide +kernel)
  have hac0 := hts (.arrayClass .int) (by decide +kernel)
  have hk_28 := hts (.fieldLink RX7 28 RX7 "gains" "[I") (by decide +kernel)
  refine lv_aload_n hx hb dX7_init_0 rfl (lv_at hl 0 rfl) ?_
  refine W.objInit hx hb hown ho1 ho2 ho3 rfl (by rw [hml]; exact hl.1) rfl dX7_init_1 (Nat.le_of_ble_eq_true rfl) (Nat.le_of_ble_eq_true rfl) ?_
  refine W.eq (g2 := F0 m0 4 ls []) rfl ?_
  refine lv_aload_n hx hb dX7_init_4 rfl (lv_at hl 0 rfl) ?_
  refine lv_bipush (v := 50) hx hb dX7_init_5 (by decide) ?_
  refine k_put hx hb hts hin_X7 tyX7 tyX7_ok nmX7 hown hG hN 0 rfl rfl 0 (by decide) hk_9 rfl rfl (ty := .int) (by decide +kernel) rfl rfl (Nat.le_of_ble_eq_true rfl) (ws2 := [(h0, .inr (6, [.int 50, .int 0, .int 0, .int 0, .int 0, .null]))]) rfl dX7_init_7 (fun H locs hN => ?_)
  refine lv_aload_n hx hb dX7_init_10 rfl (lv_at hl 0 rfl) ?_
  refine lv_sipush (v := 300) hx hb dX7_init_11 (by decide) ?_
  refine k_put hx hb hts hin_X7 tyX7 tyX7_ok nmX7 hown hG hN 0 rfl rfl 1 (by decide) hk_15 rfl rfl (ty := .int) (by decide +kernel) rfl rfl (Nat.le_of_ble_eq_true rfl) (ws2 := [(h0, .inr (6, [.int 50, .int 300, .int 0, .int 0, .int 0, .null]))]) rfl dX7_init_14 (fun H locs hN => ?_)
  refine lv_aload_n hx hb dX7_init_17 rfl (lv_at hl 0 rfl) ?_
  refine lv_iconst (v := 0) hx hb dX7_init_18 (by decide) ?_
  refine k_put hx hb hts hin_X7 tyX7 tyX7_ok nmX7 hown hG hN 0 rfl rfl 2 (by decide) hk_18 rfl rfl (ty := .boolean) (by decide +kernel) (by decide) (by decide) (Nat.le_of_ble_eq_true rfl) (ws2 := [(h0, .inr (6, [.int 50, .int 300, .int 0, .int 0, .int 0, .null]))]) rfl dX7_init_19 (fun H locs hN => ?_)
  refine lv_aload_n hx hb dX7_init_22 rfl (lv_at hl 0 rfl) ?_
  refine lv_iconst (v := 2) hx hb dX7_init_23 (by decide) ?_
  refine k_put hx hb hts hin_X7 tyX7 tyX7_ok nmX7 hown hG hN 0 rfl rfl 3 (by decide) hk_22 rfl rfl (ty := .int) (by decide +kernel) rfl rfl (Nat.le_of_ble_eq_true rfl) (ws2 := [(h0, .inr (6, [.int 50, .int 300, .int 0, .int 2, .int 0, .null]))]) rfl dX7_init_24 (fun H locs hN => ?_)
  refine lv_aload_n hx hb dX7_init_27 rfl (lv_at hl 0 rfl) ?_
  refine lv_bipush (v := 10) hx hb dX7_init_28 (by decide) ?_
  refine k_put hx hb hts hin_X7 tyX7 tyX7_ok nmX7 hown hG hN 0 rfl rfl 4 (by decide) hk_25 rfl rfl (ty := .int) (by decide +kernel) rfl rfl (Nat.le_of_ble_eq_true rfl) (ws2 := [(h0, .inr (6, [.int 50, .int 300, .int 0, .int 2, .int 10, .null]))]) rfl dX7_init_30 (fun H locs hN => ?_)
  refine lv_aload_n hx hb dX7_init_33 rfl (lv_at hl 0 rfl) ?_
  refine lv_iconst (v := 4) hx hb dX7_init_34 (by decide) ?_
  refine k_newa (atype := .int) (ty := .int) (N' := 4) (a0 := (4, .inl (fun _ => 0))) hx hb rfl hac0 hG hN hA 0 rfl (fun _ h => h) (fun _ => rfl) (by decide) rfl (Nat.le_of_ble_eq_true rfl) (Nat.le_of_ble_eq_true rfl) (Nat.le_of_ble_eq_true rfl) dX7_init_35 (fun q35 H hN => ?_)
  have hN : kN D A s0.heap [(h0, .inr (6, [.int 50, .int 300, .int 0, .int 2, .int 10, .null])), (q35, .inl (cs 0, 4, .inl (fun _ => 0)))] H _ := hN
  refine k_putF hx hb hts hin_X7 tyX7 tyX7_ok nmX7 hown hG hN 0 rfl rfl 5 (by decide) hk_28 rfl rfl hnm rfl (ty := .array .int) (by decide +kernel) rfl rfl (Nat.le_of_ble_eq_true rfl) (ws2 := [(h0, .inr (6, [.int 50, .int 300, .int 0, .int 2, .int 10, .ref q35])), (q35, .inl (cs 0, 4, .inl (fun _ => 0)))]) rfl dX7_init_37 (fun H locs hN => ?_)
  refine lv_iconst (v := 0) hx hb dX7_init_40 (by decide) ?_
  refine lv_istore_n (lv' := [(1, .int 0), (0, .ref h0)]) hx hb dX7_init_41 rfl hl (by decide) rfl (fun ls hl => ?_)
  have L1 : ∀ (d9 j42 : Nat) (H : Heap) (locs : List Loc) (ls : Array Slot), d9 + j42 = 4 → kN D A s0.heap [(h0, .inr (6, [.int 50, .int 300, .int 0, .int 2, .int 10, .ref q35])), (q35, .inl (cs 0, 4, .inl (kf 20 j42)))] H locs → lv_has ls 2 [(0, .ref h0), (1, .int (nI j42))] → W p0 l e0 ({ frames := 1, cells := 1, slots := 4, locals := 20 } : Room) s0 m0 ([.ref h0] : List Value).toArray b0 k0 c0 H locs 1 4 (MQ b0 (kQv D A (kX7 cs h0)) ([.ref h0] : List Value).toArray s0 1 4 A) (F0 m0 42 ls []) := by
    intro d9
    induction d9 with
    | zero =>
      intro j42 H locs ls hd hN hl
      have ej : j42 = 4 := by omega
      subst ej
      refine lv_iload_n hx hb dX7_init_42 rfl (lv_at hl 1 rfl) ?_
      refine lv_iconst (v := 4) hx hb dX7_init_43 (by decide) ?_
      refine g_cN_ge (a := 4) (b := 4) (tgt := 61) hx hb dX7_init_44 (by decide) rfl rfl (by omega) (by omega) (fun _ => ?_) (fun c9 => absurd c9 (by omega))
      exact k_rv (w1 := (kX7 cs h0)) hx hb hr hlocks (fun i => ([q35] : List Nat).getD i 0) hN dX7_init_61
    | succ d9 ih1 =>
      intro j42 H locs ls hd hN hl
      refine lv_iload_n hx hb dX7_init_42 rfl (lv_at hl 1 rfl) ?_
      refine lv_iconst (v := 4) hx hb dX7_init_43 (by decide) ?_
      refine g_cN_ge (a := j42) (b := 4) (tgt := 61) hx hb dX7_init_44 (by decide) rfl rfl (by omega) (by omega) (fun c9 => absurd c9 (by omega)) (fun _ => ?_)
      refine lv_aload_n hx hb dX7_init_47 rfl (lv_at hl 0 rfl) ?_
      refine k_get hx hb hts hin_X7 hown hG hN 0 rfl rfl 5 (by decide) hk_28 rfl rfl dX7_init_48 ?_
      refine lv_iload_n hx hb dX7_init_51 rfl (lv_at hl 1 rfl) ?_
      refine lv_bipush (v := 20) hx hb dX7_init_52 (by decide) ?_
      refine k_iast hx hb hG hN 1 (j := j42) rfl rfl (by omega) (by decide) (g := (kf 20 (j42 + 1))) (kf_upd _ _) (ws2 := [(h0, .inr (6, [.int 50, .int 300, .int 0, .int 2, .int 10, .ref q35])), (q35, .inl (cs 0, 4, .inl (kf 20 (j42 + 1))))]) rfl dX7_init_54 (fun H locs hN => ?_)
      refine lv_iinc (v := (nI (j42 + 1))) (lv' := [(1, .int (nI (j42 + 1))), (0, .ref h0)]) hx hb dX7_init_55 hl (k := 1) rfl (nI_1 _) (by decide) rfl (fun ls hl => ?_)
      refine lv_goto (tgt := 42) hx hb dX7_init_58 (by decide) ?_
      exact ih1 (j42 + 1) H _ ls (by omega) hN (lv_sub hl [1, 0] rfl)
  have hN : kN D A s0.heap [(h0, .inr (6, [.int 50, .int 300, .int 0, .int 2, .int 10, .ref q35])), (q35, .inl (cs 0, 4, .inl (kf 20 0)))] H locs := by
    simp only [kf0]; exact hN
  exact L1 4 0 H _ ls rfl hN (lv_sub hl [1, 0] rfl)
