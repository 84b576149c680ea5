set_option maxHeartbeats 4000000 in
set_option maxRecDepth 100000 in
theorem c_X5_init (l : Launch) {D : va_G} {cs : Nat → ClassId} {h0 sz : Nat} : Met l yX5_init wsX5_init ({ frames := 1, cells := 8, slots := 96, locals := 20 } : Room) (kPc D cs [.ref h0] sz [(h0, .inr (5, [.null, .null, .null, .null, .null, .null, .null, .null, .int 0]))]) (kQv D (va_A [(h0, .inr (5, [.null, .null, .null, .null, .null, .null, .null, .null, .int 0]))] sz) (kX5 cs h0)) 8 96 (va_A [(h0, .inr (5, [.null, .null, .null, .null, .null, .null, .null, .null, .int 0]))] sz) := by
  refine k_met (cc := cX5_init) (maxL := 1) (own := RX5) (by decide +kernel) rfl rfl (Nat.le_of_ble_eq_true rfl) ?_
  intro p0 e0 s0 m0 b0 k0 c0 hx hb hr hts hown hlocks hml hnm hG hN ls hl
  have hl : lv_has ls 1 [(0, .ref h0)] := hl
  generalize hAe : va_A [(h0, .inr (5, [.null, .null, .null, .null, .null, .null, .null, .null, .int 0]))] s0.heap.size = A at hN ⊢
  have hA : ∀ q, s0.heap.size ≤ q → A q := fun q h => by rw [← hAe]; exact Or.inr h
  have hin_X5 : ∀ w ∈ wsX50, w ∈ wsX5_init := by decide +kernel
  have ho1 := hts (.methodLink RX5 3 objectInit) (by decide +kernel)
  have ho2 := hts (.instanceMethod objectInit) (by decide +kernel)
  have ho3 := hts (.code objectInit ⟨#[0xb1]⟩ 1 none) (by decide +kernel)
  have hac0 := hts (.arrayClass .int) (by decide +kernel)
  have hk_9 := hts (.fieldLink RX5 9 RX5 "xs" "[I") (by decide +kernel)
  have hk_15 := hts (.fieldLink RX5 15 RX5 "ys" "[I") (by decide +kernel)
  have hk_18 := hts (.fieldLink RX5 18 RX5 "driftXs" "[I") (by decide +kernel)
  have hk_21 := hts (.fieldLink RX5 21 RX5 "driftYs" "[I") (by decide +kernel)
  have hk_24 := hts (.fieldLink RX5 24 RX5 "dues" "[I") (by decide +kernel)
  have hk_27 := hts (.fieldLink RX5 27 RX5 "dueUnits" "[I") (by decide +kernel)
  have hk_30 := hts (.fieldLink RX5 30 RX5 "dueXs" "[I") (by decide +kernel)
  have hk_33 := hts (.fieldLink RX5 33 RX5 "dueYs" "[I") (by decide +kernel)
  have hk_36 := hts (.fieldLink RX5 36 RX5 "toCome" "I") (by decide +kernel)
  refine lv_aload_n hx hb dX5_init_0 rfl (lv_at hl 0 rfl) ?_
  refine W.objInit hx hb hown ho1 ho2 ho3 rfl (by rw [hml]; exact hl.1) rfl dX5_init_1 (Nat.le_of_ble_eq_true rfl) (Nat.le_of_ble_eq_true rfl) ?_
  refine W.eq (g2 := F0 m0 4 ls []) rfl ?_
  refine lv_aload_n hx hb dX5_init_4 rfl (lv_at hl 0 rfl) ?_
  refine lv_iconst (v := 4) hx hb dX5_init_5 (by decide) ?_
  refine k_newa (atype := .int) (ty := .int) (N' := 4) (a0 := (4, .inl (fun _ => 0))) hx hb rfl hac0 hG hN hA 0 rfl (fun _ h => h) (fun _ => rfl) (by decide) rfl (Nat.le_of_ble_eq_true rfl) (Nat.le_of_ble_eq_true rfl) (Nat.le_of_ble_eq_true rfl) dX5_init_6 (fun q6 H hN => ?_)
  have hN : kN D A s0.heap [(h0, .inr (5, [.null, .null, .null, .null, .null, .null, .null, .null, .int 0])), (q6, .inl (cs 0, 4, .inl (fun _ => 0)))] H _ := hN
  refine k_putF hx hb hts hin_X5 tyX5 tyX5_ok nmX5 hown hG hN 0 rfl rfl 0 (by decide) hk_9 rfl rfl hnm rfl (ty := .array .int) (by decide +kernel) rfl rfl (Nat.le_of_ble_eq_true rfl) (ws2 := [(h0, .inr (5, [.ref q6, .null, .null, .null, .null, .null, .null, .null, .int 0])), (q6, .inl (cs 0, 4, .inl (fun _ => 0)))]) rfl dX5_init_8 (fun H locs hN => ?_)
  refine lv_aload_n hx hb dX5_init_11 rfl (lv_at hl 0 rfl) ?_
  refine lv_iconst (v := 4) hx hb dX5_init_12 (by decide) ?_
  refine k_newa (atype := .int) (ty := .int) (N' := 4) (a0 := (4, .inl (fun _ => 0))) hx hb rfl hac0 hG hN hA 0 rfl (fun _ h => h) (fun _ => rfl) (by decide) rfl (Nat.le_of_ble_eq_true rfl) (Nat.le_of_ble_eq_true rfl) (Nat.le_of_ble_eq_true rfl) dX5_init_13 (fun q13 H hN => ?_)
  have hN : kN D A s0.heap [(h0, .inr (5, [.ref q6, .null, .null, .null, .null, .null, .null, .null, .int 0])), (q6, .inl (cs 0, 4, .inl (fun _ => 0))), (q13, .inl (cs 0, 4, .inl (fun _ => 0)))] H _ := hN
  refine k_putF hx hb hts hin_X5 tyX5 tyX5_ok nmX5 hown hG hN 0 rfl rfl 1 (by decide) hk_15 rfl rfl hnm rfl (ty := .array .int) (by decide +kernel) rfl rfl (Nat.le_of_ble_eq_true rfl) (ws2 := [(h0, .inr (5, [.ref q6, .ref q13, .null, .null, .null, .null, .null, .null, .int 0])), (q6, .inl (cs 0, 4, .inl (fun _ => 0))), (q13, .inl (cs 0, 4, .inl (fun _ => 0)))]) rfl dX5_init_15 (fun H locs hN => ?_)
  refine lv_aload_n hx hb dX5_init_18 rfl (lv_at hl 0 rfl) ?_
  refine lv_iconst (v := 4) hx hb dX5_init_19 (by decide) ?_
  refine k_newa (atype := .int) (ty := .int) (N' := 4) (a0 := (4, .inl (fun _ => 0))) hx hb rfl hac0 hG hN hA 0 rfl (fun _ h => h) (fun _ => rfl) (by decide) rfl (Nat.le_of_ble_eq_true rfl) (Nat.le_of_ble_eq_true rfl) (Nat.le_of_ble_eq_true rfl) dX5_init_20 (fun q20 H hN => ?_)
  have hN : kN D A s0.heap [(h0, .inr (5, [.ref q6, .ref q13, .null, .null, .null, .null, .null, .null, .int 0])), (q6, .inl (cs 0, 4, .inl (fun _ => 0))), (q13, .inl (cs 0, 4, .inl (fun _ => 0))), (q20, .inl (cs 0, 4, .inl (fun _ => 0)))] H _ := hN
  refine k_putF hx hb hts hin_X5 tyX5 tyX5_ok nmX5 hown hG hN 0 rfl rfl 2 (by decide) hk_18 rfl rfl hnm rfl (ty := .array .int) (by decide +kernel) rfl rfl (Nat.le_of_ble_eq_true rfl) (ws2 := [(h0, .inr (5, [.ref q6, .ref q13, .ref q20, .null, .null, .null, .null, .null, .int 0])), (q6, .inl (cs 0, 4, .inl (fun _ => 0))), (q13, .inl (cs 0, 4, .inl (fun _ => 0))), (q20, .inl (cs 0, 4, .inl (fun _ => 0)))]) rfl dX5_init_22 (fun H locs hN => ?_)
  refine lv_aload_n hx hb dX5_init_25 rfl (lv_at hl 0 rfl) ?_
  refine lv_iconst (v := 4) hx hb dX5_init_26 (by decide) ?_
  refine k_newa (atype := .int) (ty := .int) (N' := 4) (a0 := (4, .inl (fun _ => 0))) hx hb rfl hac0 hG hN hA 0 rfl (fun _ h => h) (fun _ => rfl) (by decide) rfl (Nat.le_of_ble_eq_true rfl) (Nat.le_of_ble_eq_true rfl) (Nat.le_of_ble_eq_true rfl) dX5_init_27 (fun q27 H hN => ?_)
  have hN : kN D A s0.heap [(h0, .inr (5, [.ref q6, .ref q13, .ref q20, .null, .null, .null, .null, .null, .int 0])), (q6, .inl (cs 0, 4, .inl (fun _ => 0))), (q13, .inl (cs 0, 4, .inl (fun _ => 0))), (q20, .inl (cs 0, 4, .inl (fun _ => 0))), (q27, .inl (cs 0, 4, .inl (fun _ => 0)))] H _ := hN
  refine k_putF hx hb hts hin_X5 tyX5 tyX5_ok nmX5 hown hG hN 0 rfl rfl 3 (by decide) hk_21 rfl rfl hnm rfl (ty := .array .int) (by decide +kernel) rfl rfl (Nat.le_of_ble_eq_true rfl) (ws2 := [(h0, .inr (5, [.ref q6, .ref q13, .ref q20, .ref q27, .null, .null, .null, .null, .int 0])), (q6, .inl (cs 0, 4, .inl (fun _ => 0))), (q13, .inl (cs 0, 4, .inl (fun _ => 0))), (q20, .inl (cs 0, 4, .inl (fun _ => 0))), (q27, .inl (cs 0, 4, .inl (fun _ => 0)))]) rfl dX5_init_29 (fun H locs hN => ?_)
  refine lv_aload_n hx hb dX5_init_32 rfl (lv_at hl 0 rfl) ?_
  refine lv_bipush (v := 20) hx hb dX5_init_33 (by decide) ?_
  refine k_newa (atype := .int) (ty := .int) (N' := 20) (a0 := (20, .inl (fun _ => 0))) hx hb rfl hac0 hG hN hA 0 rfl (fun _ h => h) (fun _ => rfl) (by decide) rfl (Nat.le_of_ble_eq_true rfl) (Nat.le_of_ble_eq_true rfl) (Nat.le_of_ble_eq_true rfl) dX5_init_35 (fun q35 H hN => ?_)
  have hN : kN D A s0.heap [(h0, .inr (5, [.ref q6, .ref q13, .ref q20, .ref q27, .null, .null, .null, .null, .int 0])), (q6, .inl (cs 0, 4, .inl (fun _ => 0))), (q13, .inl (cs 0, 4, .inl (fun _ => 0))), (q20, .inl (cs 0, 4, .inl (fun _ => 0))), (q27, .inl (cs 0, 4, .inl (fun _ => 0))), (q35, .inl (cs 0, 20, .inl (fun _ => 0)))] H _ := hN
  refine k_putF hx hb hts hin_X5 tyX5 tyX5_ok nmX5 hown hG hN 0 rfl rfl 4 (by decide) hk_24 rfl rfl hnm rfl (ty := .array .int) (by decide +kernel) rfl rfl (Nat.le_of_ble_eq_true rfl) (ws2 := [(h0, .inr (5, [.ref q6, .ref q13, .ref q20, .ref q27, .ref q35, .null, .null, .null, .int 0])), (q6, .inl (cs 0, 4, .inl (fun _ => 0))), (q13, .inl (cs 0, 4, .inl (fun _ => 0))), (q20, .inl (cs 0, 4, .inl (fun _ => 0))), (q27, .inl (cs 0, 4, .inl (fun _ => 0))), (q35, .inl (cs 0, 20, .inl (fun _ => 0)))]) rfl dX5_init_37 (fun H locs hN => ?_)
  refine lv_aload_n hx hb dX5_init_40 rfl (lv_at hl 0 rfl) ?_
  refine lv_bipush (v := 20) hx hb dX5_init_41 (by decide) ?_
  refine k_newa (atype := .int) (ty := .int) (N' := 20) (a0 := (20, .inl (fun _ => 0))) hx hb rfl hac0 hG hN hA 0 rfl (fun _ h => h) (fun _ => rfl) (by decide) rfl (Nat.le_of_ble_eq_true rfl) (Nat.le_of_ble_eq_true rfl) (Nat.le_of_ble_eq_true rfl) dX5_init_43 (fun q43 H hN => ?_)
  have hN : kN D A s0.heap [(h0, .inr (5, [.ref q6, .ref q13, .ref q20, .ref q27, .ref q35, .null, .null, .null, .int 0])), (q6, .inl (cs 0, 4, .inl (fun _ => 0))), (q13, .inl (cs 0, 4, .inl (fun _ => 0))), (q20, .inl (cs 0, 4, .inl (fun _ => 0))), (q27, .inl (cs 0, 4, .inl (fun _ => 0))), (q35, .inl (cs 0, 20, .inl (fun _ => 0))), (q43, .inl (cs 0, 20, .inl (fun _ => 0)))] H _ := hN
  refine k_putF hx hb hts hin_X5 tyX5 tyX5_ok nmX5 hown hG hN 0 rfl rfl 5 (by decide) hk_27 rfl rfl hnm rfl (ty := .array .int) (by decide +kernel) rfl rfl (Nat.le_of_ble_eq_true rfl) (ws2 := [(h0, .inr (5, [.ref q6, .ref q13, .ref q20, .ref q27, .ref q35, .ref q43, .null, .null, .int 0])), (q6, .inl (cs 0, 4, .inl (fun _ => 0))), (q13, .inl (cs 0, 4, .inl (fun _ => 0))), (q20, .inl (cs 0, 4, .inl (fun _ => 0))), (q27, .inl (cs 0, 4, .inl (fun _ => 0))), (q35, .inl (cs 0, 20, .inl (fun _ => 0))), (q43, .inl (cs 0, 20, .inl (fun _ => 0)))]) rfl dX5_init_45 (fun H locs hN => ?_)
  refine lv_aload_n hx hb dX5_init_48 rfl (lv_at hl 0 rfl) ?_
  refine lv_bipush (v := 20) hx hb dX5_init_49 (by decide) ?_
  refine k_newa (atype := .int) (ty := .int) (N' := 20) (a0 := (20, .inl (fun _ => 0))) hx hb rfl hac0 hG hN hA 0 rfl (fun _ h => h) (fun _ => rfl) (by decide) rfl (Nat.le_of_ble_eq_true rfl) (Nat.le_of_ble_eq_true rfl) (Nat.le_of_ble_eq_true rfl) dX5_init_51 (fun q51 H hN => ?_)
  have hN : kN D A s0.heap [(h0, .inr (5, [.ref q6, .ref q13, .ref q20, .ref q27, .ref q35, .ref q43, .null, .null, .int 0])), (q6, .inl (cs 0, 4, .inl (fun _ => 0))), (q13, .inl (cs 0, 4, .inl (fun _ => 0))), (q20, .inl (cs 0, 4, .inl (fun _ => 0))), (q27, .inl (cs 0, 4, .inl (fun _ => 0))), (q35, .inl (cs 0, 20, .inl (fun _ => 0))), (q43, .inl (cs 0, 20, .inl (fun _ => 0))), (q51, .inl (cs 0, 20, .inl (fun _ => 0)))] H _ := hN
  refine k_putF hx hb hts hin_X5 tyX5 tyX5_ok nmX5 hown hG hN 0 rfl rfl 6 (by decide) hk_30 rfl rfl hnm rfl (ty := .array .int) (by decide +kernel) rfl rfl (Nat.le_of_ble_eq_true rfl) (ws2 := [(h0, .inr (5, [.ref q6, .ref q13, .ref q20, .ref q27, .ref q35, .ref q43, .ref q51, .null, .int 0])), (q6, .inl (cs 0, 4, .inl (fun _ => 0))), (q13, .inl (cs 0, 4, .inl (fun _ => 0))), (q20, .inl (cs 0, 4, .inl (fun _ => 0))), (q27, .inl (cs 0, 4, .inl (fun _ => 0))), (q35, .inl (cs 0, 20, .inl (fun _ => 0))), (q43, .inl (cs 0, 20, .inl (fun _ => 0))), (q51, .inl (cs 0, 20, .inl (fun _ => 0)))]) rfl dX5_init_53 (fun H locs hN => ?_)
  refine lv_aload_n hx hb dX5_init_56 rfl (lv_at hl 0 rfl) ?_
  refine lv_bipush (v := 20) hx hb dX5_init_57 (by decide) ?_
  refine k_newa (atype := .int) (ty := .int) (N' := 20) (a0 := (20, .inl (fun _ => 0))) hx hb rfl hac0 hG hN hA 0 rfl (fun _ h => h) (fun _ => rfl) (by decide) rfl (Nat.le_of_ble_eq_true rfl) (Nat.le_of_ble_eq_true rfl) (Nat.le_of_ble_eq_true rfl) dX5_init_59 (fun q59 H hN => ?_)
  have hN : kN D A s0.heap [(h0, .inr (5, [.ref q6, .ref q13, .ref q20, .ref q27, .ref q35, .ref q43, .ref q51, .null, .int 0])), (q6, .inl (cs 0, 4, .inl (fun _ => 0))), (q13, .inl (cs 0, 4, .inl (fun _ => 0))), (q20, .inl (cs 0, 4, .inl (fun _ => 0))), (q27, .inl (cs 0, 4, .inl (fun _ => 0))), (q35, .inl (cs 0, 20, .inl (fun _ => 0))), (q43, .inl (cs 0, 20, .inl (fun _ => 0))), (q51, .inl (cs 0, 20, .inl (fun _ => 0))), (q59, .inl (cs 0, 20, .inl (fun _ => 0)))] H _ := hN
  refine k_putF hx hb hts hin_X5 tyX5 tyX5_ok nmX5 hown hG hN 0 rfl rfl 7 (by decide) hk_33 rfl rfl hnm rfl (ty := .array .int) (by decide +kernel) rfl rfl (Nat.le_of_ble_eq_true rfl) (ws2 := [(h0, .inr (5, [.ref q6, .ref q13, .ref q20, .ref q27, .ref q35, .ref q43, .ref q51, .ref q59, .int 0])), (q6, .inl (cs 0, 4, .inl (fun _ => 0))), (q13, .inl (cs 0, 4, .inl (fun _ => 0))), (q20, .inl (cs 0, 4, .inl (fun _ => 0))), (q27, .inl (cs 0, 4, .inl (fun _ => 0))), (q35, .inl (cs 0, 20, .inl (fun _ => 0))), (q43, .inl (cs 0, 20, .inl (fun _ => 0))), (q51, .inl (cs 0, 20, .inl (fun _ => 0))), (q59, .inl (cs 0, 20, .inl (fun _ => 0)))]) rfl dX5_init_61 (fun H locs hN => ?_)
  refine lv_aload_n hx hb dX5_init_64 rfl (lv_at hl 0 rfl) ?_
  refine lv_iconst (v := 0) hx hb dX5_init_65 (by decide) ?_
  refine k_put hx hb hts hin_X5 tyX5 tyX5_ok nmX5 hown hG hN 0 rfl rfl 8 (by decide) hk_36 rfl rfl (ty := .int) (by decide +kernel) rfl rfl (Nat.le_of_ble_eq_true rfl) (ws2 := [(h0, .inr (5, [.ref q6, .ref q13, .ref q20, .ref q27, .ref q35, .ref q43, .ref q51, .ref q59, .int 0])), (q6, .inl (cs 0, 4, .inl (fun _ => 0))), (q13, .inl (cs 0, 4, .inl (fun _ => 0))), (q20, .inl (cs 0, 4, .inl (fun _ => 0))), (q27, .inl (cs 0, 4, .inl (fun _ => 0))), (q35, .inl (cs 0, 20, .inl (fun _ => 0))), (q43, .inl (cs 0, 20, .inl (fun _ => 0))), (q51, .inl (cs 0, 20, .inl (fun _ => 0))), (q59, .inl (cs 0, 20, .inl (fun _ => 0)))]) rfl dX5_init_66 (fun H locs hN => ?_)
  exact k_rv (w1 := (kX5 cs h0)) hx hb hr hlocks (fun i => ([q6, q13, q20, q27, q35, q43, q51, q59] : List Nat).getD i 0) hN dX5_init_69
