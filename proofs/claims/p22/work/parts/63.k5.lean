set_option maxHeartbeats 4000000 in
set_option maxRecDepth 100000 in
theorem c_X0_init (l : Launch) {D : va_G} {cs : Nat → ClassId} {h0 sz : Nat} : Met l yX0_init wsX0_init ({ frames := 1, cells := 3, slots := 600, locals := 20 } : Room) (kPc D cs [.ref h0] sz [(h0, .inr (0, [.null, .null, .null, .int 0, .int 0, .int 0]))]) (kQv D (va_A [(h0, .inr (0, [.null, .null, .null, .int 0, .int 0, .int 0]))] sz) (kX0 cs h0)) 3 600 (va_A [(h0, .inr (0, [.null, .null, .null, .int 0, .int 0, .int 0]))] sz) := by
  refine k_met (cc := cX0_init) (maxL := 1) (own := RX0) (by decide +kernel) rfl rfl (Nat.le_of_ble_eq_true rfl) ?_
  intro p0 e0 s0 m0 b0 k0 c0 hx hb hr hts hown hlocks hml hnm hG hN ls hl
  have hl : lv_has ls 1 [(0, .ref h0)] := hl
  generalize hAe : va_A [(h0, .inr (0, [.null, .null, .null, .int 0, .int 0, .int 0]))] s0.heap.size = A at hN ⊢
  have hA : ∀ q, s0.heap.size ≤ q → A q := fun q h => by rw [← hAe]; exact Or.inr h
  have hin_X0 : ∀ w ∈ wsX00, w ∈ wsX0_init := by decide +kernel
  have ho1 := hts (.methodLink RX0 3 objectInit) (by decide +kernel)
  have ho2 := hts (.instanceMethod objectInit) (by decide +kernel)
  have ho3 := hts (.code objectInit ⟨#[0xb1]⟩ 1 none) (by decide +kernel)
  have hac0 := hts (.arrayClass .int) (by decide +kernel)
  have hk_9 := hts (.fieldLink RX0 9 RX0 "times" "[I") (by decide +kernel)
  have hac2 := hts (.arrayClass .boolean) (by decide +kernel)
  have hk_15 := hts (.fieldLink RX0 15 RX0 "goods" "[Z") (by decide +kernel)
  have hk_19 := hts (.fieldLink RX0 19 RX0 "line" "[I") (by decide +kernel)
  have hk_22 := hts (.fieldLink RX0 22 RX0 "copies" "I") (by decide +kernel)
  have hk_26 := hts (.fieldLink RX0 26 RX0 "head" "I") (by decide +kernel)
  have hk_29 := hts (.fieldLink RX0 29 RX0 "waiting" "I") (by decide +kernel)
  refine lv_aload_n hx hb dX0_init_0 rfl (lv_at hl 0 rfl) ?_
  refine W.objInit hx hb hown ho1 ho2 ho3 rfl (by rw [hml]; exact hl.1) rfl dX0_init_1 (Nat.le_of_ble_eq_true rfl) (Nat.le_of_ble_eq_true rfl) ?_
  refine W.eq (g2 := F0 m0 4 ls []) rfl ?_
  refine lv_aload_n hx hb dX0_init_4 rfl (lv_at hl 0 rfl) ?_
  refine lv_sipush (v := 200) hx hb dX0_init_5 (by decide) ?_
  refine k_newa (atype := .int) (ty := .int) (N' := 200) (a0 := (200, .inl (fun _ => 0))) hx hb rfl hac0 hG hN hA 0 rfl (fun _ h => h) (fun _ => rfl) (by decide) rfl (Nat.le_of_ble_eq_true rfl) (Nat.le_of_ble_eq_true rfl) (Nat.le_of_ble_eq_true rfl) dX0_init_8 (fun q8 H hN => ?_)
  have hN : kN D A s0.heap [(h0, .inr (0, [.null, .null, .null, .int 0, .int 0, .int 0])), (q8, .inl (cs 0, 200, .inl (fun _ => 0)))] H _ := hN
  refine k_putF hx hb hts hin_X0 tyX0 tyX0_ok nmX0 hown hG hN 0 rfl rfl 0 (by decide) hk_9 rfl rfl hnm rfl (ty := .array .int) (by decide +kernel) rfl rfl (Nat.le_of_ble_eq_true rfl) (ws2 := [(h0, .inr (0, [.ref q8, .null, .null, .int 0, .int 0, .int 0])), (q8, .inl (cs 0, 200, .inl (fun _ => 0)))]) rfl dX0_init_10 (fun H locs hN => ?_)
  refine lv_aload_n hx hb dX0_init_13 rfl (lv_at hl 0 rfl) ?_
  refine lv_sipush (v := 200) hx hb dX0_init_14 (by decide) ?_
  refine k_newa (atype := .boolean) (ty := .boolean) (N' := 200) (a0 := (200, .inl (fun _ => 0))) hx hb rfl hac2 hG hN hA 2 rfl (fun _ h => h) (fun _ => rfl) (by decide) rfl (Nat.le_of_ble_eq_true rfl) (Nat.le_of_ble_eq_true rfl) (Nat.le_of_ble_eq_true rfl) dX0_init_17 (fun q17 H hN => ?_)
  have hN : kN D A s0.heap [(h0, .inr (0, [.ref q8, .null, .null, .int 0, .int 0, .int 0])), (q8, .inl (cs 0, 200, .inl (fun _ => 0))), (q17, .inl (cs 2, 200, .inl (fun _ => 0)))] H _ := hN
  refine k_putF hx hb hts hin_X0 tyX0 tyX0_ok nmX0 hown hG hN 0 rfl rfl 1 (by decide) hk_15 rfl rfl hnm rfl (ty := .array .boolean) (by decide +kernel) rfl rfl (Nat.le_of_ble_eq_true rfl) (ws2 := [(h0, .inr (0, [.ref q8, .ref q17, .null, .int 0, .int 0, .int 0])), (q8, .inl (cs 0, 200, .inl (fun _ => 0))), (q17, .inl (cs 2, 200, .inl (fun _ => 0)))]) rfl dX0_init_19 (fun H locs hN => ?_)
  refine lv_aload_n hx hb dX0_init_22 rfl (lv_at hl 0 rfl) ?_
  refine lv_sipush (v := 200) hx hb dX0_init_23 (by decide) ?_
  refine k_newa (atype := .int) (ty := .int) (N' := 200) (a0 := (200, .inl (fun _ => 0))) hx hb rfl hac0 hG hN hA 0 rfl (fun _ h => h) (fun _ => rfl) (by decide) rfl (Nat.le_of_ble_eq_true rfl) (Nat.le_of_ble_eq_true rfl) (Nat.le_of_ble_eq_true rfl) dX0_init_26 (fun q26 H hN => ?_)
  have hN : kN D A s0.heap [(h0, .inr (0, [.ref q8, .ref q17, .null, .int 0, .int 0, .int 0])), (q8, .inl (cs 0, 200, .inl (fun _ => 0))), (q17, .inl (cs 2, 200, .inl (fun _ => 0))), (q26, .inl (cs 0, 200, .inl (fun _ => 0)))] H _ := hN
  refine k_putF hx hb hts hin_X0 tyX0 tyX0_ok nmX0 hown hG hN 0 rfl rfl 2 (by decide) hk_19 rfl rfl hnm rfl (ty := .array .int) (by decide +kernel) rfl rfl (Nat.le_of_ble_eq_true rfl) (ws2 := [(h0, .inr (0, [.ref q8, .ref q17, .ref q26, .int 0, .int 0, .int 0])), (q8, .inl (cs 0, 200, .inl (fun _ => 0))), (q17, .inl (cs 2, 200, .inl (fun _ => 0))), (q26, .inl (cs 0, 200, .inl (fun _ => 0)))]) rfl dX0_init_28 (fun H locs hN => ?_)
  refine lv_aload_n hx hb dX0_init_31 rfl (lv_at hl 0 rfl) ?_
  refine lv_iconst (v := 0) hx hb dX0_init_32 (by decide) ?_
  refine k_put hx hb hts hin_X0 tyX0 tyX0_ok nmX0 hown hG hN 0 rfl rfl 3 (by decide) hk_22 rfl rfl (ty := .int) (by decide +kernel) rfl rfl (Nat.le_of_ble_eq_true rfl) (ws2 := [(h0, .inr (0, [.ref q8, .ref q17, .ref q26, .int 0, .int 0, .int 0])), (q8, .inl (cs 0, 200, .inl (fun _ => 0))), (q17, .inl (cs 2, 200, .inl (fun _ => 0))), (q26, .inl (cs 0, 200, .inl (fun _ => 0)))]) rfl dX0_init_33 (fun H locs hN => ?_)
  refine lv_aload_n hx hb dX0_init_36 rfl (lv_at hl 0 rfl) ?_
  refine lv_iconst (v := 0) hx hb dX0_init_37 (by decide) ?_
  refine k_put hx hb hts hin_X0 tyX0 tyX0_ok nmX0 hown hG hN 0 rfl rfl 4 (by decide) hk_26 rfl rfl (ty := .int) (by decide +kernel) rfl rfl (Nat.le_of_ble_eq_true rfl) (ws2 := [(h0, .inr (0, [.ref q8, .ref q17, .ref q26, .int 0, .int 0, .int 0])), (q8, .inl (cs 0, 200, .inl (fun _ => 0))), (q17, .inl (cs 2, 200, .inl (fun _ => 0))), (q26, .inl (cs 0, 200, .inl (fun _ => 0)))]) rfl dX0_init_38 (fun H locs hN => ?_)
  refine lv_aload_n hx hb dX0_init_41 rfl (lv_at hl 0 rfl) ?_
  refine lv_iconst (v := 0) hx hb dX0_init_42 (by decide) ?_
  refine k_put hx hb hts hin_X0 tyX0 tyX0_ok nmX0 hown hG hN 0 rfl rfl 5 (by decide) hk_29 rfl rfl (ty := .int) (by decide +kernel) rfl rfl (Nat.le_of_ble_eq_true rfl) (ws2 := [(h0, .inr (0, [.ref q8, .ref q17, .ref q26, .int 0, .int 0, .int 0])), (q8, .inl (cs 0, 200, .inl (fun _ => 0))), (q17, .inl (cs 2, 200, .inl (fun _ => 0))), (q26, .inl (cs 0, 200, .inl (fun _ => 0)))]) rfl dX0_init_43 (fun H locs hN => ?_)
  exact k_rv (w1 := (kX0 cs h0)) hx hb hr hlocks (fun i => ([q8, q17, q26] : List Nat).getD i 0) hN dX0_init_46
