set_option maxHeartbeats 4000000 in
set_option maxRecDepth 100000 in
theorem c_X1_init (l : Launch) {D : va_G} {cs : Nat → ClassId} {h0 sz : Nat} : Met l yX1_init wsX1_init ({ frames := 1, cells := 4, slots := 195, locals := 24 } : Room) (kPc D cs [.ref h0] sz [(h0, .inr (1, [.null]))]) (kQv D (va_A [(h0, .inr (1, [.null]))] sz) (kX1 cs h0)) 4 195 (va_A [(h0, .inr (1, [.null]))] sz) := by
  refine k_met (cc := cX1_init) (maxL := 2) (own := RX1) (by decide +kernel) rfl rfl (Nat.le_of_ble_eq_true rfl) ?_
  intro p0 e0 s0 m0 b0 k0 c0 hx hb hr hts hown hlocks hml hnm hG hN ls hl
  have hl : lv_has ls 2 [(0, .ref h0)] := hl
  generalize hAe : va_A [(h0, .inr (1, [.null]))] s0.heap.size = A at hN ⊢
  have hA : ∀ q, s0.heap.size ≤ q → A q := fun q h => by rw [← hAe]; exact Or.inr h
  have hin_X1 : ∀ w ∈ wsX10, w ∈ wsX1_init := by decide +kernel
  have ho1 := hts (.methodLink RX1 3 objectInit) (by decide +kernel)
  have ho2 := hts (.instanceMethod objectInit) (by decide +kernel)
  have ho3 := hts (.code objectInit ⟨#[0xb1]⟩ 1 none) (by decide +kernel)
  have hac0 := hts (.arrayClass .int) (by decide +kernel)
  have hcl := hts (.classLink RX1 9 "[[I") (by decide +kernel)
  have hk_11 := hts (.fieldLink RX1 11 RX1 "lights" "[[I") (by decide +kernel)
  refine lv_aload_n hx hb dX1_init_0 rfl (lv_at hl 0 rfl) ?_
  refine W.objInit hx hb hown ho1 ho2 ho3 rfl (by rw [hml]; exact hl.1) rfl dX1_init_1 (Nat.le_of_ble_eq_true rfl) (Nat.le_of_ble_eq_true rfl) ?_
  refine W.eq (g2 := F0 m0 4 ls []) rfl ?_
  refine lv_aload_n hx hb dX1_init_4 rfl (lv_at hl 0 rfl) ?_
  refine lv_iconst (v := 3) hx hb dX1_init_5 (by decide) ?_
  refine lv_bipush (v := 64) hx hb dX1_init_6 (by decide) ?_
  refine k_mna (N' := 3) (K' := 64) hx hb hown hcl hac0 hG hN hA (by decide) (by decide) rfl rfl (Nat.le_of_ble_eq_true rfl) (Nat.le_of_ble_eq_true rfl) (Nat.le_of_ble_eq_true rfl) (Nat.le_of_ble_eq_true rfl) dX1_init_8 (fun q8 r8 H hN => ?_)
  refine W.widen (k := 4) (n := 195) (Nat.le_of_ble_eq_true rfl) (Nat.le_of_ble_eq_true rfl) ?_
  have hN : kN D A s0.heap [(h0, .inr (1, [.null])), (q8, .inl (cs 4, kO 3 r8)), ((r8 0), .inl (cs 0, 64, .inl (fun _ => 0))), ((r8 1), .inl (cs 0, 64, .inl (fun _ => 0))), ((r8 2), .inl (cs 0, 64, .inl (fun _ => 0)))] H _ := hN
  refine k_putF hx hb hts hin_X1 tyX1 tyX1_ok nmX1 hown hG hN 0 rfl rfl 0 (by decide) hk_11 rfl rfl hnm rfl (ty := .array (.array .int)) (by decide +kernel) rfl rfl (Nat.le_of_ble_eq_true rfl) (ws2 := [(h0, .inr (1, [.ref q8])), (q8, .inl (cs 4, kO 3 r8)), ((r8 0), .inl (cs 0, 64, .inl (fun _ => 0))), ((r8 1), .inl (cs 0, 64, .inl (fun _ => 0))), ((r8 2), .inl (cs 0, 64, .inl (fun _ => 0)))]) rfl dX1_init_12 (fun H locs hN => ?_)
  refine lv_iconst (v := 0) hx hb dX1_init_15 (by decide) ?_
  refine lv_istore_n (lv' := [(1, .int 0), (0, .ref h0)]) hx hb dX1_init_16 rfl hl (by decide) rfl (fun ls hl => ?_)
  have L1 : ∀ (d9 j17 : Nat) (H : Heap) (locs : List Loc) (ls : Array Slot), d9 + j17 = 64 → kN D A s0.heap [(h0, .inr (1, [.ref q8])), (q8, .inl (cs 4, kO 3 r8)), ((r8 0), .inl (cs 0, 64, .inl (kf 100 j17))), ((r8 1), .inl (cs 0, 64, .inl (kf 100 j17))), ((r8 2), .inl (cs 0, 64, .inl (kf 100 j17)))] H locs → lv_has ls 2 [(0, .ref h0), (1, .int (nI j17))] → W p0 l e0 ({ frames := 1, cells := 4, slots := 195, locals := 24 } : Room) s0 m0 ([.ref h0] : List Value).toArray b0 k0 c0 H locs 4 195 (MQ b0 (kQv D A (kX1 cs h0)) ([.ref h0] : List Value).toArray s0 4 195 A) (F0 m0 17 ls []) := by
    intro d9
    induction d9 with
    | zero =>
      intro j17 H locs ls hd hN hl
      have ej : j17 = 64 := by omega
      subst ej
      refine lv_iload_n hx hb dX1_init_17 rfl (lv_at hl 1 rfl) ?_
      refine lv_bipush (v := 64) hx hb dX1_init_18 (by decide) ?_
      refine g_cN_ge (a := 64) (b := 64) (tgt := 40) hx hb dX1_init_20 (by decide) rfl rfl (by omega) (by omega) (fun _ => ?_) (fun c9 => absurd c9 (by omega))
      exact k_rv (w1 := (kX1 cs h0)) hx hb hr hlocks (fun i => match i with | 0 => q8 | i + 1 => r8 i) hN dX1_init_40
    | succ d9 ih1 =>
      intro j17 H locs ls hd hN hl
      refine lv_iload_n hx hb dX1_init_17 rfl (lv_at hl 1 rfl) ?_
      refine lv_bipush (v := 64) hx hb dX1_init_18 (by decide) ?_
      refine g_cN_ge (a := j17) (b := 64) (tgt := 40) hx hb dX1_init_20 (by decide) rfl rfl (by omega) (by omega) (fun c9 => absurd c9 (by omega)) (fun _ => ?_)
      refine lv_aload_n hx hb dX1_init_23 rfl (lv_at hl 0 rfl) ?_
      refine lv_iload_n hx hb dX1_init_24 rfl (lv_at hl 1 rfl) ?_
      refine lv_bipush (v := 100) hx hb dX1_init_25 (by decide) ?_
      refine lv_bipush (v := 100) hx hb dX1_init_27 (by decide) ?_
      refine lv_bipush (v := 100) hx hb dX1_init_29 (by decide) ?_
      refine k_callV (Sx := Unit) (As := [.int (nI j17), .int 100, .int 100, .int 100]) (rest := []) (wc := [(h0, .inr (1, [.ref q8])), (q8, .inl (cs 4, kO 3 r8)), ((r8 0), .inl (cs 0, 64, .inl (kf 100 j17))), ((r8 1), .inl (cs 0, 64, .inl (kf 100 j17))), ((r8 2), .inl (cs 0, 64, .inl (kf 100 j17)))]) (wr := []) ⟨hx, hb, hml, hown, hts⟩ hG hN hA 0 rfl rfl [0, 1, 2, 3, 4] [] (by decide) rfl rfl (by decide) (by decide) (k_X1_paint l (j17) (by omega)) (cwV 4 hts gX1_init_X1_paint rfl rfl rfl (by decide +kernel) ⟨Nat.le_of_ble_eq_true rfl, Nat.le_of_ble_eq_true rfl⟩) rfl hl.1 rfl (Nat.le_of_ble_eq_true rfl) dX1_init_31 ⟨Nat.le_of_ble_eq_true rfl, Nat.le_of_ble_eq_true rfl⟩ (fun _ H locs hN => ?_)
      have hN : kN D A s0.heap [(h0, .inr (1, [.ref q8])), (q8, .inl (cs 4, kO 3 r8)), ((r8 0), .inl (cs 0, 64, .inl (kf 100 (j17 + 1)))), ((r8 1), .inl (cs 0, 64, .inl (kf 100 (j17 + 1)))), ((r8 2), .inl (cs 0, 64, .inl (kf 100 (j17 + 1))))] H _ := hN
      refine lv_iinc (v := (nI (j17 + 1))) (lv' := [(1, .int (nI (j17 + 1))), (0, .ref h0)]) hx hb dX1_init_34 hl (k := 1) rfl (nI_1 _) (by decide) rfl (fun ls hl => ?_)
      refine lv_goto (tgt := 17) hx hb dX1_init_37 (by decide) ?_
      exact ih1 (j17 + 1) H _ ls (by omega) hN (lv_sub hl [1, 0] rfl)
  have hN : kN D A s0.heap [(h0, .inr (1, [.ref q8])), (q8, .inl (cs 4, kO 3 r8)), ((r8 0), .inl (cs 0, 64, .inl (kf 100 0))), ((r8 1), .inl (cs 0, 64, .inl (kf 100 0))), ((r8 2), .inl (cs 0, 64, .inl (kf 100 0)))] H locs := by
    simp only [kf0]; exact hN
  exact L1 64 0 H _ ls rfl hN (lv_sub hl [1, 0] rfl)
