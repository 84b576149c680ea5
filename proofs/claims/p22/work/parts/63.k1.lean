set_option maxHeartbeats 4000000 in
set_option maxRecDepth 100000 in
theorem c_X8_init (l : Launch) {D : va_G} {cs : Nat → ClassId} {h0 sz : Nat} : Met l yX8_init wsX8_init ({ frames := 1, cells := 3, slots := 180, locals := 20 } : Room) (kPc D cs [.ref h0] sz [(h0, .inr (7, [.null, .null, .null, .int 0, .int 0]))]) (kQv D (va_A [(h0, .inr (7, [.null, .null, .null, .int 0, .int 0]))] sz) (kX8 cs h0)) 3 180 (va_A [(h0, .inr (7, [.null, .null, .null, .int 0, .int 0]))] sz) := by
  refine k_met (cc := cX8_init) (maxL := 1) (own := RX8) (by decide +kernel) rfl rfl (Nat.le_of_ble_eq_true rfl) ?_
  intro p0 e0 s0 m0 b0 k0 c0 hx hb hr hts hown hlocks hml hnm hG hN ls hl
  have hl : lv_has ls 1 [(0, .ref h0)] := hl
  generalize hAe : va_A [(h0, .inr (7, [.null, .null, .null, .int 0, .int 0]))] s0.heap.size = A at hN ⊢
  have hA : ∀ q, s0.heap.size ≤ q → A q := fun q h => by rw [← hAe]; exact Or.inr h
  have hin_X8 : ∀ w ∈ wsX80, w ∈ wsX8_init := by decide +kernel
  have ho1 := hts (.methodLink RX8 3 objectInit) (by decide +kernel)
  have ho2 := hts (.instanceMethod objectInit) (by decide +kernel)
  have ho3 := hts (.code objectInit ⟨#[0xb1]⟩ 1 none) (by decide +kernel)
  have hac1 := hts (.arrayClass .char) (by decide +kernel)
  have hk_9 := hts (.fieldLink RX8 9 RX8 "signs" "[C") (by decide +kernel)
  have hac0 := hts (.arrayClass .int) (by decide +kernel)
  have hk_15 := hts (.fieldLink RX8 15 RX8 "begins" "[I") (by decide +kernel)
  have hk_19 := hts (.fieldLink RX8 19 RX8 "ends" "[I") (by decide +kernel)
  have hk_22 := hts (.fieldLink RX8 22 RX8 "length" "I") (by decide +kernel)
  have hk_26 := hts (.fieldLink RX8 26 RX8 "parts" "I") (by decide +kernel)
  refine lv_aload_n hx hb dX8_init_0 rfl (lv_at hl 0 rfl) ?_
  refine W.objInit hx hb hown ho1 ho2 ho3 rfl (by rw [hml]; exact hl.1) rfl dX8_init_1 (Nat.le_of_ble_eq_true rfl) (Nat.le_of_ble_eq_true rfl) ?_
  refine W.eq (g2 := F0 m0 4 ls []) rfl ?_
  refine lv_aload_n hx hb dX8_init_4 rfl (lv_at hl 0 rfl) ?_
  refine lv_bipush (v := 60) hx hb dX8_init_5 (by decide) ?_
  refine k_newa (atype := .char) (ty := .char) (N' := 60) (a0 := (60, .inl (fun _ => 0))) hx hb rfl hac1 hG hN hA 1 rfl (fun _ h => h) (fun _ => rfl) (by decide) rfl (Nat.le_of_ble_eq_true rfl) (Nat.le_of_ble_eq_true rfl) (Nat.le_of_ble_eq_true rfl) dX8_init_7 (fun q7 H hN => ?_)
  have hN : kN D A s0.heap [(h0, .inr (7, [.null, .null, .null, .int 0, .int 0])), (q7, .inl (cs 1, 60, .inl (fun _ => 0)))] H _ := hN
  refine k_putF hx hb hts hin_X8 tyX8 tyX8_ok nmX8 hown hG hN 0 rfl rfl 0 (by decide) hk_9 rfl rfl hnm rfl (ty := .array .char) (by decide +kernel) rfl rfl (Nat.le_of_ble_eq_true rfl) (ws2 := [(h0, .inr (7, [.ref q7, .null, .null, .int 0, .int 0])), (q7, .inl (cs 1, 60, .inl (fun _ => 0)))]) rfl dX8_init_9 (fun H locs hN => ?_)
  refine lv_aload_n hx hb dX8_init_12 rfl (lv_at hl 0 rfl) ?_
  refine lv_bipush (v := 60) hx hb dX8_init_13 (by decide) ?_
  refine k_newa (atype := .int) (ty := .int) (N' := 60) (a0 := (60, .inl (fun _ => 0))) hx hb rfl hac0 hG hN hA 0 rfl (fun _ h => h) (fun _ => rfl) (by decide) rfl (Nat.le_of_ble_eq_true rfl) (Nat.le_of_ble_eq_true rfl) (Nat.le_of_ble_eq_true rfl) dX8_init_15 (fun q15 H hN => ?_)
  have hN : kN D A s0.heap [(h0, .inr (7, [.ref q7, .null, .null, .int 0, .int 0])), (q7, .inl (cs 1, 60, .inl (fun _ => 0))), (q15, .inl (cs 0, 60, .inl (fun _ => 0)))] H _ := hN
  refine k_putF hx hb hts hin_X8 tyX8 tyX8_ok nmX8 hown hG hN 0 rfl rfl 1 (by decide) hk_15 rfl rfl hnm rfl (ty := .array .int) (by decide +kernel) rfl rfl (Nat.le_of_ble_eq_true rfl) (ws2 := [(h0, .inr (7, [.ref q7, .ref q15, .null, .int 0, .int 0])), (q7, .inl (cs 1, 60, .inl (fun _ => 0))), (q15, .inl (cs 0, 60, .inl (fun _ => 0)))]) rfl dX8_init_17 (fun H locs hN => ?_)
  refine lv_aload_n hx hb dX8_init_20 rfl (lv_at hl 0 rfl) ?_
  refine lv_bipush (v := 60) hx hb dX8_init_21 (by decide) ?_
  refine k_newa (atype := .int) (ty := .int) (N' := 60) (a0 := (60, .inl (fun _ => 0))) hx hb rfl hac0 hG hN hA 0 rfl (fun _ h => h) (fun _ => rfl) (by decide) rfl (Nat.le_of_ble_eq_true rfl) (Nat.le_of_ble_eq_true rfl) (Nat.le_of_ble_eq_true rfl) dX8_init_23 (fun q23 H hN => ?_)
  have hN : kN D A s0.heap [(h0, .inr (7, [.ref q7, .ref q15, .null, .int 0, .int 0])), (q7, .inl (cs 1, 60, .inl (fun _ => 0))), (q15, .inl (cs 0, 60, .inl (fun _ => 0))), (q23, .inl (cs 0, 60, .inl (fun _ => 0)))] H _ := hN
  refine k_putF hx hb hts hin_X8 tyX8 tyX8_ok nmX8 hown hG hN 0 rfl rfl 2 (by decide) hk_19 rfl rfl hnm rfl (ty := .array .int) (by decide +kernel) rfl rfl (Nat.le_of_ble_eq_true rfl) (ws2 := [(h0, .inr (7, [.ref q7, .ref q15, .ref q23, .int 0, .int 0])), (q7, .inl (cs 1, 60, .inl (fun _ => 0))), (q15, .inl (cs 0, 60, .inl (fun _ => 0))), (q23, .inl (cs 0, 60, .inl (fun _ => 0)))]) rfl dX8_init_25 (fun H locs hN => ?_)
  refine lv_aload_n hx hb dX8_init_28 rfl (lv_at hl 0 rfl) ?_
  refine lv_iconst (v := 0) hx hb dX8_init_29 (by decide) ?_
  refine k_put hx hb hts hin_X8 tyX8 tyX8_ok nmX8 hown hG hN 0 rfl rfl 3 (by decide) hk_22 rfl rfl (ty := .int) (by decide +kernel) rfl rfl (Nat.le_of_ble_eq_true rfl) (ws2 := [(h0, .inr (7, [.ref q7, .ref q15, .ref q23, .int 0, .int 0])), (q7, .inl (cs 1, 60, .inl (fun _ => 0))), (q15, .inl (cs 0, 60, .inl (fun _ => 0))), (q23, .inl (cs 0, 60, .inl (fun _ => 0)))]) rfl dX8_init_30 (fun H locs hN => ?_)
  refine lv_aload_n hx hb dX8_init_33 rfl (lv_at hl 0 rfl) ?_
  refine lv_iconst (v := 0) hx hb dX8_init_34 (by decide) ?_
  refine k_put hx hb hts hin_X8 tyX8 tyX8_ok nmX8 hown hG hN 0 rfl rfl 4 (by decide) hk_26 rfl rfl (ty := .int) (by decide +kernel) rfl rfl (Nat.le_of_ble_eq_true rfl) (ws2 := [(h0, .inr (7, [.ref q7, .ref q15, .ref q23, .int 0, .int 0])), (q7, .inl (cs 1, 60, .inl (fun _ => 0))), (q15, .inl (cs 0, 60, .inl (fun _ => 0))), (q23, .inl (cs 0, 60, .inl (fun _ => 0)))]) rfl dX8_init_35 (fun H locs hN => ?_)
  exact k_rv (w1 := (kX8 cs h0)) hx hb hr hlocks (fun i => ([q7, q15, q23] : List Nat).getD i 0) hN dX8_init_38
