set_option maxHeartbeats 4000000 in
set_option maxRecDepth 100000 in
theorem c_X2_init (l : Launch) {D : va_G} {cs : Nat → ClassId} {h0 sz : Nat} : Met l yX2_init wsX2_init ({ frames := 1, cells := 5, slots := 260, locals := 20 } : Room) (kPc D cs [.ref h0] sz [(h0, .inr (2, [.null]))]) (kQv D (va_A [(h0, .inr (2, [.null]))] sz) (kX2 cs h0)) 5 260 (va_A [(h0, .inr (2, [.null]))] sz) := by
  refine k_met (cc := cX2_init) (maxL := 1) (own := RX2) (by decide +kernel) rfl rfl (Nat.le_of_ble_eq_true rfl) ?_
  intro p0 e0 s0 m0 b0 k0 c0 hx hb hr hts hown hlocks hml hnm hG hN ls hl
  have hl : lv_has ls 1 [(0, .ref h0)] := hl
  generalize hAe : va_A [(h0, .inr (2, [.null]))] s0.heap.size = A at hN ⊢
  have hA : ∀ q, s0.heap.size ≤ q → A q := fun q h => by rw [← hAe]; exact Or.inr h
  have hin_X2 : ∀ w ∈ wsX20, w ∈ wsX2_init := by decide +kernel
  have ho1 := hts (.methodLink RX2 3 objectInit) (by decide +kernel)
  have ho2 := hts (.instanceMethod objectInit) (by decide +kernel)
  have ho3 := hts (.code objectInit ⟨#[0xb1]⟩ 1 none) (by decide +kernel)
  have hac0 := hts (.arrayClass .int) (by decide +kernel)
  have hcl := hts (.classLink RX2 9 "[[I") (by decide +kernel)
  have hk_11 := hts (.fieldLink RX2 11 RX2 "tints" "[[I") (by decide +kernel)
  refine lv_aload_n hx hb dX2_init_0 rfl (lv_at hl 0 rfl) ?_
  refine W.objInit hx hb hown ho1 ho2 ho3 rfl (by rw [hml]; exact hl.1) rfl dX2_init_1 (Nat.le_of_ble_eq_true rfl) (Nat.le_of_ble_eq_true rfl) ?_
  refine W.eq (g2 := F0 m0 4 ls []) rfl ?_
  refine lv_aload_n hx hb dX2_init_4 rfl (lv_at hl 0 rfl) ?_
  refine lv_iconst (v := 4) hx hb dX2_init_5 (by decide) ?_
  refine lv_bipush (v := 64) hx hb dX2_init_6 (by decide) ?_
  refine k_mna (N' := 4) (K' := 64) hx hb hown hcl hac0 hG hN hA (by decide) (by decide) rfl rfl (Nat.le_of_ble_eq_true rfl) (Nat.le_of_ble_eq_true rfl) (Nat.le_of_ble_eq_true rfl) (Nat.le_of_ble_eq_true rfl) dX2_init_8 (fun q8 r8 H hN => ?_)
  refine W.widen (k := 5) (n := 260) (Nat.le_of_ble_eq_true rfl) (Nat.le_of_ble_eq_true rfl) ?_
  have hN : kN D A s0.heap [(h0, .inr (2, [.null])), (q8, .inl (cs 4, kO 4 r8)), ((r8 0), .inl (cs 0, 64, .inl (fun _ => 0))), ((r8 1), .inl (cs 0, 64, .inl (fun _ => 0))), ((r8 2), .inl (cs 0, 64, .inl (fun _ => 0))), ((r8 3), .inl (cs 0, 64, .inl (fun _ => 0)))] H _ := hN
  refine k_putF hx hb hts hin_X2 tyX2 tyX2_ok nmX2 hown hG hN 0 rfl rfl 0 (by decide) hk_11 rfl rfl hnm rfl (ty := .array (.array .int)) (by decide +kernel) rfl rfl (Nat.le_of_ble_eq_true rfl) (ws2 := [(h0, .inr (2, [.ref q8])), (q8, .inl (cs 4, kO 4 r8)), ((r8 0), .inl (cs 0, 64, .inl (fun _ => 0))), ((r8 1), .inl (cs 0, 64, .inl (fun _ => 0))), ((r8 2), .inl (cs 0, 64, .inl (fun _ => 0))), ((r8 3), .inl (cs 0, 64, .inl (fun _ => 0)))]) rfl dX2_init_12 (fun H locs hN => ?_)
  exact k_rv (w1 := (kX2 cs h0)) hx hb hr hlocks (fun i => match i with | 0 => q8 | i + 1 => r8 i) hN dX2_init_15
