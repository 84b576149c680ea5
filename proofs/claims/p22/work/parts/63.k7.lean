set_option maxHeartbeats 4000000 in
set_option maxRecDepth 100000 in
theorem c_X3_init (l : Launch) {D : va_G} {cs : Nat → ClassId} {h0 sz : Nat} : Met l yX3_init wsX3_init ({ frames := 1, cells := 5, slots := 36, locals := 20 } : Room) (kPc D cs [.ref h0] sz [(h0, .inr (3, [.null, .int 0, .int 0, .int 0, .int 0, .int 0]))]) (kQv D (va_A [(h0, .inr (3, [.null, .int 0, .int 0, .int 0, .int 0, .int 0]))] sz) (kX3 cs h0)) 5 36 (va_A [(h0, .inr (3, [.null, .int 0, .int 0, .int 0, .int 0, .int 0]))] sz) := by
  refine k_met (cc := cX3_init) (maxL := 3) (own := RX3) (by decide +kernel) rfl rfl (Nat.le_of_ble_eq_true rfl) ?_
  intro p0 e0 s0 m0 b0 k0 c0 hx hb hr hts hown hlocks hml hnm hG hN ls hl
  have hl : lv_has ls 3 [(0, .ref h0)] := hl
  generalize hAe : va_A [(h0, .inr (3, [.null, .int 0, .int 0, .int 0, .int 0, .int 0]))] s0.heap.size = A at hN ⊢
  have hA : ∀ q, s0.heap.size ≤ q → A q := fun q h => by rw [← hAe]; exact Or.inr h
  have hin_X3 : ∀ w ∈ wsX30, w ∈ wsX3_init := by decide +kernel
  have ho1 := hts (.methodLink RX3 3 objectInit) (by decide +kernel)
  have ho2 := hts (.instanceMethod objectInit) (by decide +kernel)
  have ho3 := hts (.code objectInit ⟨#[0xb1]⟩ 1 none) (by decide +kernel)
  have hac0 := hts (.arrayClass .int) (by decide +kernel)
  have hcl := hts (.classLink RX3 9 "[[I") (by decide +kernel)
  have hk_11 := hts (.fieldLink RX3 11 RX3 "keys" "[[I") (by decide +kernel)
  have hk_16 := hts (.fieldLink RX3 16 RX3 "toLeadIn" "I") (by decide +kernel)
  have hk_20 := hts (.fieldLink RX3 20 RX3 "printed" "I") (by decide +kernel)
  have hk_23 := hts (.fieldLink RX3 23 RX3 "good" "I") (by decide +kernel)
  have hk_26 := hts (.fieldLink RX3 26 RX3 "wasteByRegister" "I") (by decide +kernel)
  have hk_29 := hts (.fieldLink RX3 29 RX3 "wasteByDensity" "I") (by decide +kernel)
  refine lv_aload_n hx hb dX3_init_0 rfl (lv_at hl 0 rfl) ?_
  refine W.objInit hx hb hown ho1 ho2 ho3 rfl (by rw [hml]; exact hl.1) rfl dX3_init_1 (Nat.le_of_ble_eq_true rfl) (Nat.le_of_ble_eq_true rfl) ?_
  refine W.eq (g2 := F0 m0 4 ls []) rfl ?_
  refine lv_aload_n hx hb dX3_init_4 rfl (lv_at hl 0 rfl) ?_
  refine lv_iconst (v := 4) hx hb dX3_init_5 (by decide) ?_
  refine lv_bipush (v := 8) hx hb dX3_init_6 (by decide) ?_
  refine k_mna (N' := 4) (K' := 8) hx hb hown hcl hac0 hG hN hA (by decide) (by decide) rfl rfl (Nat.le_of_ble_eq_true rfl) (Nat.le_of_ble_eq_true rfl) (Nat.le_of_ble_eq_true rfl) (Nat.le_of_ble_eq_true rfl) dX3_init_8 (fun q8 r8 H hN => ?_)
  refine W.widen (k := 5) (n := 36) (Nat.le_of_ble_eq_true rfl) (Nat.le_of_ble_eq_true rfl) ?_
  have hN : kN D A s0.heap [(h0, .inr (3, [.null, .int 0, .int 0, .int 0, .int 0, .int 0])), (q8, .inl (cs 4, kO 4 r8)), ((r8 0), .inl (cs 0, 8, .inl (fun _ => 0))), ((r8 1), .inl (cs 0, 8, .inl (fun _ => 0))), ((r8 2), .inl (cs 0, 8, .inl (fun _ => 0))), ((r8 3), .inl (cs 0, 8, .inl (fun _ => 0)))] H _ := hN
  refine k_putF hx hb hts hin_X3 tyX3 tyX3_ok nmX3 hown hG hN 0 rfl rfl 0 (by decide) hk_11 rfl rfl hnm rfl (ty := .array (.array .int)) (by decide +kernel) rfl rfl (Nat.le_of_ble_eq_true rfl) (ws2 := [(h0, .inr (3, [.ref q8, .int 0, .int 0, .int 0, .int 0, .int 0])), (q8, .inl (cs 4, kO 4 r8)), ((r8 0), .inl (cs 0, 8, .inl (fun _ => 0))), ((r8 1), .inl (cs 0, 8, .inl (fun _ => 0))), ((r8 2), .inl (cs 0, 8, .inl (fun _ => 0))), ((r8 3), .inl (cs 0, 8, .inl (fun _ => 0)))]) rfl dX3_init_12 (fun H locs hN => ?_)
  refine lv_aload_n hx hb dX3_init_15 rfl (lv_at hl 0 rfl) ?_
  refine lv_iconst (v := 0) hx hb dX3_init_16 (by decide) ?_
  refine k_put hx hb hts hin_X3 tyX3 tyX3_ok nmX3 hown hG hN 0 rfl rfl 1 (by decide) hk_16 rfl rfl (ty := .int) (by decide +kernel) rfl rfl (Nat.le_of_ble_eq_true rfl) (ws2 := [(h0, .inr (3, [.ref q8, .int 0, .int 0, .int 0, .int 0, .int 0])), (q8, .inl (cs 4, kO 4 r8)), ((r8 0), .inl (cs 0, 8, .inl (fun _ => 0))), ((r8 1), .inl (cs 0, 8, .inl (fun _ => 0))), ((r8 2), .inl (cs 0, 8, .inl (fun _ => 0))), ((r8 3), .inl (cs 0, 8, .inl (fun _ => 0)))]) rfl dX3_init_17 (fun H locs hN => ?_)
  refine lv_aload_n hx hb dX3_init_20 rfl (lv_at hl 0 rfl) ?_
  refine lv_iconst (v := 0) hx hb dX3_init_21 (by decide) ?_
  refine k_put hx hb hts hin_X3 tyX3 tyX3_ok nmX3 hown hG hN 0 rfl rfl 2 (by decide) hk_20 rfl rfl (ty := .int) (by decide +kernel) rfl rfl (Nat.le_of_ble_eq_true rfl) (ws2 := [(h0, .inr (3, [.ref q8, .int 0, .int 0, .int 0, .int 0, .int 0])), (q8, .inl (cs 4, kO 4 r8)), ((r8 0), .inl (cs 0, 8, .inl (fun _ => 0))), ((r8 1), .inl (cs 0, 8, .inl (fun _ => 0))), ((r8 2), .inl (cs 0, 8, .inl (fun _ => 0))), ((r8 3), .inl (cs 0, 8, .inl (fun _ => 0)))]) rfl dX3_init_22 (fun H locs hN => ?_)
  refine lv_aload_n hx hb dX3_init_25 rfl (lv_at hl 0 rfl) ?_
  refine lv_iconst (v := 0) hx hb dX3_init_26 (by decide) ?_
  refine k_put hx hb hts hin_X3 tyX3 tyX3_ok nmX3 hown hG hN 0 rfl rfl 3 (by decide) hk_23 rfl rfl (ty := .int) (by decide +kernel) rfl rfl (Nat.le_of_ble_eq_true rfl) (ws2 := [(h0, .inr (3, [.ref q8, .int 0, .int 0, .int 0, .int 0, .int 0])), (q8, .inl (cs 4, kO 4 r8)), ((r8 0), .inl (cs 0, 8, .inl (fun _ => 0))), ((r8 1), .inl (cs 0, 8, .inl (fun _ => 0))), ((r8 2), .inl (cs 0, 8, .inl (fun _ => 0))), ((r8 3), .inl (cs 0, 8, .inl (fun _ => 0)))]) rfl dX3_init_27 (fun H locs hN => ?_)
  refine lv_aload_n hx hb dX3_init_30 rfl (lv_at hl 0 rfl) ?_
  refine lv_iconst (v := 0) hx hb dX3_init_31 (by decide) ?_
  refine k_put hx hb hts hin_X3 tyX3 tyX3_ok nmX3 hown hG hN 0 rfl rfl 4 (by decide) hk_26 rfl rfl (ty := .int) (by decide +kernel) rfl rfl (Nat.le_of_ble_eq_true rfl) (ws2 := [(h0, .inr (3, [.ref q8, .int 0, .int 0, .int 0, .int 0, .int 0])), (q8, .inl (cs 4, kO 4 r8)), ((r8 0), .inl (cs 0, 8, .inl (fun _ => 0))), ((r8 1), .inl (cs 0, 8, .inl (fun _ => 0))), ((r8 2), .inl (cs 0, 8, .inl (fun _ => 0))), ((r8 3), .inl (cs 0, 8, .inl (fun _ => 0)))]) rfl dX3_init_32 (fun H locs hN => ?_)
  refine lv_aload_n hx hb dX3_init_35 rfl (lv_at hl 0 rfl) ?_
  refine lv_iconst (v := 0) hx hb dX3_init_36 (by decide) ?_
  refine k_put hx hb hts hin_X3 tyX3 tyX3_ok nmX3 hown hG hN 0 rfl rfl 5 (by decide) hk_29 rfl rfl (ty := .int) (by decide +kernel) rfl rfl (Nat.le_of_ble_eq_true rfl) (ws2 := [(h0, .inr (3, [.ref q8, .int 0, .int 0, .int 0, .int 0, .int 0])), (q8, .inl (cs 4, kO 4 r8)), ((r8 0), .inl (cs 0, 8, .inl (fun _ => 0))), ((r8 1), .inl (cs 0, 8, .inl (fun _ => 0))), ((r8 2), .inl (cs 0, 8, .inl (fun _ => 0))), ((r8 3), .inl (cs 0, 8, .inl (fun _ => 0)))]) rfl dX3_init_37 (fun H locs hN => ?_)
  refine lv_iconst (v := 0) hx hb dX3_init_40 (by decide) ?_
  refine lv_istore_n (lv' := [(1, .int 0), (0, .ref h0)]) hx hb dX3_init_41 rfl hl (by decide) rfl (fun ls hl => ?_)
  refine lv_iload_n hx hb dX3_init_42 rfl (lv_at hl 0 rfl) ?_
  refine lv_iconst (v := 4) hx hb dX3_init_43 (by decide) ?_
  refine lv_icmp_ge (tgt := 77) hx hb dX3_init_44 (by decide) (fun c1 => False.elim (by revert c1; decide)) (fun _ => ?_)
  refine lv_iconst (v := 0) hx hb dX3_init_47 (by decide) ?_
  refine lv_istore_n (lv' := [(2, .int 0), (1, .int 0), (0, .ref h0)]) hx hb dX3_init_48 rfl hl (by decide) rfl (fun ls hl => ?_)
  have L2 : ∀ (d9 j49 : Nat) (H : Heap) (locs : List Loc) (ls : Array Slot), d9 + j49 = 8 → kN D A s0.heap [(h0, .inr (3, [.ref q8, .int 0, .int 0, .int 0, .int 0, .int 0])), (q8, .inl (cs 4, kO 4 r8)), ((r8 0), .inl (cs 0, 8, .inl (kf 50 j49))), ((r8 1), .inl (cs 0, 8, .inl (fun _ => 0))), ((r8 2), .inl (cs 0, 8, .inl (fun _ => 0))), ((r8 3), .inl (cs 0, 8, .inl (fun _ => 0)))] H locs → lv_has ls 3 [(0, .ref h0), (1, .int 0), (2, .int (nI j49))] → W p0 l e0 ({ frames := 1, cells := 5, slots := 36, locals := 20 } : Room) s0 m0 ([.ref h0] : List Value).toArray b0 k0 c0 H locs 5 36 (MQ b0 (kQv D A (kX3 cs h0)) ([.ref h0] : List Value).toArray s0 5 36 A) (F0 m0 49 ls []) := by
    intro d9
    induction d9 with
    | zero =>
      intro j49 H locs ls hd hN hl
      have ej : j49 = 8 := by omega
      subst ej
      refine lv_iload_n hx hb dX3_init_49 rfl (lv_at hl 2 rfl) ?_
      refine lv_bipush (v := 8) hx hb dX3_init_50 (by decide) ?_
      refine g_cN_ge (a := 8) (b := 8) (tgt := 71) hx hb dX3_init_52 (by decide) rfl rfl (by omega) (by omega) (fun _ => ?_) (fun c9 => absurd c9 (by omega))
      refine lv_iinc (v := 1) (lv' := [(1, .int 1), (0, .ref h0), (2, .int (nI 8))]) hx hb dX3_init_71 hl (k := 1) rfl (by decide) (by decide) rfl (fun ls hl => ?_)
      refine lv_goto (tgt := 42) hx hb dX3_init_74 (by decide) ?_
      refine lv_iload_n hx hb dX3_init_42 rfl (lv_at hl 0 rfl) ?_
      refine lv_iconst (v := 4) hx hb dX3_init_43 (by decide) ?_
      refine lv_icmp_ge (tgt := 77) hx hb dX3_init_44 (by decide) (fun c3 => False.elim (by revert c3; decide)) (fun _ => ?_)
      refine lv_iconst (v := 0) hx hb dX3_init_47 (by decide) ?_
      refine lv_istore_n (lv' := [(2, .int 0), (1, .int 1), (0, .ref h0)]) hx hb dX3_init_48 rfl hl (by decide) rfl (fun ls hl => ?_)
      have L4 : ∀ (d9 j49 : Nat) (H : Heap) (locs : List Loc) (ls : Array Slot), d9 + j49 = 8 → kN D A s0.heap [(h0, .inr (3, [.ref q8, .int 0, .int 0, .int 0, .int 0, .int 0])), (q8, .inl (cs 4, kO 4 r8)), ((r8 0), .inl (cs 0, 8, .inl (kf 50 8))), ((r8 1), .inl (cs 0, 8, .inl (kf 50 j49))), ((r8 2), .inl (cs 0, 8, .inl (fun _ => 0))), ((r8 3), .inl (cs 0, 8, .inl (fun _ => 0)))] H locs → lv_has ls 3 [(0, .ref h0), (1, .int 1), (2, .int (nI j49))] → W p0 l e0 ({ frames := 1, cells := 5, slots := 36, locals := 20 } : Room) s0 m0 ([.ref h0] : List Value).toArray b0 k0 c0 H locs 5 36 (MQ b0 (kQv D A (kX3 cs h0)) ([.ref h0] : List Value).toArray s0 5 36 A) (F0 m0 49 ls []) := by
        intro d9
        induction d9 with
        | zero =>
          intro j49 H locs ls hd hN hl
          have ej : j49 = 8 := by omega
          subst ej
          refine lv_iload_n hx hb dX3_init_49 rfl (lv_at hl 2 rfl) ?_
          refine lv_bipush (v := 8) hx hb dX3_init_50 (by decide) ?_
          refine g_cN_ge (a := 8) (b := 8) (tgt := 71) hx hb dX3_init_52 (by decide) rfl rfl (by omega) (by omega) (fun _ => ?_) (fun c9 => absurd c9 (by omega))
          refine lv_iinc (v := 2) (lv' := [(1, .int 2), (0, .ref h0), (2, .int (nI 8))]) hx hb dX3_init_71 hl (k := 1) rfl (by decide) (by decide) rfl (fun ls hl => ?_)
          refine lv_goto (tgt := 42) hx hb dX3_init_74 (by decide) ?_
          refine lv_iload_n hx hb dX3_init_42 rfl (lv_at hl 0 rfl) ?_
          refine lv_iconst (v := 4) hx hb dX3_init_43 (by decide) ?_
          refine lv_icmp_ge (tgt := 77) hx hb dX3_init_44 (by decide) (fun c5 => False.elim (by revert c5; decide)) (fun _ => ?_)
          refine lv_iconst (v := 0) hx hb dX3_init_47 (by decide) ?_
          refine lv_istore_n (lv' := [(2, .int 0), (1, .int 2), (0, .ref h0)]) hx hb dX3_init_48 rfl hl (by decide) rfl (fun ls hl => ?_)
          have L6 : ∀ (d9 j49 : Nat) (H : Heap) (locs : List Loc) (ls : Array Slot), d9 + j49 = 8 → kN D A s0.heap [(h0, .inr (3, [.ref q8, .int 0, .int 0, .int 0, .int 0, .int 0])), (q8, .inl (cs 4, kO 4 r8)), ((r8 0), .inl (cs 0, 8, .inl (kf 50 8))), ((r8 1), .inl (cs 0, 8, .inl (kf 50 8))), ((r8 2), .inl (cs 0, 8, .inl (kf 50 j49))), ((r8 3), .inl (cs 0, 8, .inl (fun _ => 0)))] H locs → lv_has ls 3 [(0, .ref h0), (1, .int 2), (2, .int (nI j49))] → W p0 l e0 ({ frames := 1, cells := 5, slots := 36, locals := 20 } : Room) s0 m0 ([.ref h0] : List Value).toArray b0 k0 c0 H locs 5 36 (MQ b0 (kQv D A (kX3 cs h0)) ([.ref h0] : List Value).toArray s0 5 36 A) (F0 m0 49 ls []) := by
            intro d9
            induction d9 with
            | zero =>
              intro j49 H locs ls hd hN hl
              have ej : j49 = 8 := by omega
              subst ej
              refine lv_iload_n hx hb dX3_init_49 rfl (lv_at hl 2 rfl) ?_
              refine lv_bipush (v := 8) hx hb dX3_init_50 (by decide) ?_
              refine g_cN_ge (a := 8) (b := 8) (tgt := 71) hx hb dX3_init_52 (by decide) rfl rfl (by omega) (by omega) (fun _ => ?_) (fun c9 => absurd c9 (by omega))
              refine lv_iinc (v := 3) (lv' := [(1, .int 3), (0, .ref h0), (2, .int (nI 8))]) hx hb dX3_init_71 hl (k := 1) rfl (by decide) (by decide) rfl (fun ls hl => ?_)
              refine lv_goto (tgt := 42) hx hb dX3_init_74 (by decide) ?_
              refine lv_iload_n hx hb dX3_init_42 rfl (lv_at hl 0 rfl) ?_
              refine lv_iconst (v := 4) hx hb dX3_init_43 (by decide) ?_
              refine lv_icmp_ge (tgt := 77) hx hb dX3_init_44 (by decide) (fun c7 => False.elim (by revert c7; decide)) (fun _ => ?_)
              refine lv_iconst (v := 0) hx hb dX3_init_47 (by decide) ?_
              refine lv_istore_n (lv' := [(2, .int 0), (1, .int 3), (0, .ref h0)]) hx hb dX3_init_48 rfl hl (by decide) rfl (fun ls hl => ?_)
              have L8 : ∀ (d9 j49 : Nat) (H : Heap) (locs : List Loc) (ls : Array Slot), d9 + j49 = 8 → kN D A s0.heap [(h0, .inr (3, [.ref q8, .int 0, .int 0, .int 0, .int 0, .int 0])), (q8, .inl (cs 4, kO 4 r8)), ((r8 0), .inl (cs 0, 8, .inl (kf 50 8))), ((r8 1), .inl (cs 0, 8, .inl (kf 50 8))), ((r8 2), .inl (cs 0, 8, .inl (kf 50 8))), ((r8 3), .inl (cs 0, 8, .inl (kf 50 j49)))] H locs → lv_has ls 3 [(0, .ref h0), (1, .int 3), (2, .int (nI j49))] → W p0 l e0 ({ frames := 1, cells := 5, slots := 36, locals := 20 } : Room) s0 m0 ([.ref h0] : List Value).toArray b0 k0 c0 H locs 5 36 (MQ b0 (kQv D A (kX3 cs h0)) ([.ref h0] : List Value).toArray s0 5 36 A) (F0 m0 49 ls []) := by
                intro d9
                induction d9 with
                | zero =>
                  intro j49 H locs ls hd hN hl
                  have ej : j49 = 8 := by omega
                  subst ej
                  refine lv_iload_n hx hb dX3_init_49 rfl (lv_at hl 2 rfl) ?_
                  refine lv_bipush (v := 8) hx hb dX3_init_50 (by decide) ?_
                  refine g_cN_ge (a := 8) (b := 8) (tgt := 71) hx hb dX3_init_52 (by decide) rfl rfl (by omega) (by omega) (fun _ => ?_) (fun c9 => absurd c9 (by omega))
                  refine lv_iinc (v := 4) (lv' := [(1, .int 4), (0, .ref h0), (2, .int (nI 8))]) hx hb dX3_init_71 hl (k := 1) rfl (by decide) (by decide) rfl (fun ls hl => ?_)
                  refine lv_goto (tgt := 42) hx hb dX3_init_74 (by decide) ?_
                  refine lv_iload_n hx hb dX3_init_42 rfl (lv_at hl 0 rfl) ?_
                  refine lv_iconst (v := 4) hx hb dX3_init_43 (by decide) ?_
                  refine lv_icmp_ge (tgt := 77) hx hb dX3_init_44 (by decide) (fun _ => ?_) (fun c9 => False.elim (by revert c9; decide))
                  exact k_rv (w1 := (kX3 cs h0)) hx hb hr hlocks (fun i => match i with | 0 => q8 | i + 1 => r8 i) hN dX3_init_77
                | succ d9 ih9 =>
                  intro j49 H locs ls hd hN hl
                  refine lv_iload_n hx hb dX3_init_49 rfl (lv_at hl 2 rfl) ?_
                  refine lv_bipush (v := 8) hx hb dX3_init_50 (by decide) ?_
                  refine g_cN_ge (a := j49) (b := 8) (tgt := 71) hx hb dX3_init_52 (by decide) rfl rfl (by omega) (by omega) (fun c9 => absurd c9 (by omega)) (fun _ => ?_)
                  refine lv_aload_n hx hb dX3_init_55 rfl (lv_at hl 0 rfl) ?_
                  refine k_get hx hb hts hin_X3 hown hG hN 0 rfl rfl 0 (by decide) hk_11 rfl rfl dX3_init_56 ?_
                  refine lv_iload_n hx hb dX3_init_59 rfl (lv_at hl 1 rfl) ?_
                  refine k_aald hx hb hG hN 1 (n := 4) (j := 3) rfl (by decide) (by omega) rfl dX3_init_60 ?_
                  refine lv_iload_n hx hb dX3_init_61 rfl (lv_at hl 2 rfl) ?_
                  refine lv_bipush (v := 50) hx hb dX3_init_62 (by decide) ?_
                  refine k_iast hx hb hG hN 5 (j := j49) rfl rfl (by omega) (by decide) (g := (kf 50 (j49 + 1))) (kf_upd _ _) (ws2 := [(h0, .inr (3, [.ref q8, .int 0, .int 0, .int 0, .int 0, .int 0])), (q8, .inl (cs 4, kO 4 r8)), ((r8 0), .inl (cs 0, 8, .inl (kf 50 8))), ((r8 1), .inl (cs 0, 8, .inl (kf 50 8))), ((r8 2), .inl (cs 0, 8, .inl (kf 50 8))), ((r8 3), .inl (cs 0, 8, .inl (kf 50 (j49 + 1))))]) rfl dX3_init_64 (fun H locs hN => ?_)
                  refine lv_iinc (v := (nI (j49 + 1))) (lv' := [(2, .int (nI (j49 + 1))), (0, .ref h0), (1, .int 3)]) hx hb dX3_init_65 hl (k := 2) rfl (nI_1 _) (by decide) rfl (fun ls hl => ?_)
                  refine lv_goto (tgt := 49) hx hb dX3_init_68 (by decide) ?_
                  exact ih9 (j49 + 1) H _ ls (by omega) hN (lv_sub hl [1, 2, 0] rfl)
              have hN : kN D A s0.heap [(h0, .inr (3, [.ref q8, .int 0, .int 0, .int 0, .int 0, .int 0])), (q8, .inl (cs 4, kO 4 r8)), ((r8 0), .inl (cs 0, 8, .inl (kf 50 8))), ((r8 1), .inl (cs 0, 8, .inl (kf 50 8))), ((r8 2), .inl (cs 0, 8, .inl (kf 50 8))), ((r8 3), .inl (cs 0, 8, .inl (kf 50 0)))] H locs := by
                simp only [kf0]; exact hN
              exact L8 8 0 H _ ls rfl hN (lv_sub hl [2, 1, 0] rfl)
            | succ d9 ih9 =>
              intro j49 H locs ls hd hN hl
              refine lv_iload_n hx hb dX3_init_49 rfl (lv_at hl 2 rfl) ?_
              refine lv_bipush (v := 8) hx hb dX3_init_50 (by decide) ?_
              refine g_cN_ge (a := j49) (b := 8) (tgt := 71) hx hb dX3_init_52 (by decide) rfl rfl (by omega) (by omega) (fun c9 => absurd c9 (by omega)) (fun _ => ?_)
              refine lv_aload_n hx hb dX3_init_55 rfl (lv_at hl 0 rfl) ?_
              refine k_get hx hb hts hin_X3 hown hG hN 0 rfl rfl 0 (by decide) hk_11 rfl rfl dX3_init_56 ?_
              refine lv_iload_n hx hb dX3_init_59 rfl (lv_at hl 1 rfl) ?_
              refine k_aald hx hb hG hN 1 (n := 4) (j := 2) rfl (by decide) (by omega) rfl dX3_init_60 ?_
              refine lv_iload_n hx hb dX3_init_61 rfl (lv_at hl 2 rfl) ?_
              refine lv_bipush (v := 50) hx hb dX3_init_62 (by decide) ?_
              refine k_iast hx hb hG hN 4 (j := j49) rfl rfl (by omega) (by decide) (g := (kf 50 (j49 + 1))) (kf_upd _ _) (ws2 := [(h0, .inr (3, [.ref q8, .int 0, .int 0, .int 0, .int 0, .int 0])), (q8, .inl (cs 4, kO 4 r8)), ((r8 0), .inl (cs 0, 8, .inl (kf 50 8))), ((r8 1), .inl (cs 0, 8, .inl (kf 50 8))), ((r8 2), .inl (cs 0, 8, .inl (kf 50 (j49 + 1)))), ((r8 3), .inl (cs 0, 8, .inl (fun _ => 0)))]) rfl dX3_init_64 (fun H locs hN => ?_)
              refine lv_iinc (v := (nI (j49 + 1))) (lv' := [(2, .int (nI (j49 + 1))), (0, .ref h0), (1, .int 2)]) hx hb dX3_init_65 hl (k := 2) rfl (nI_1 _) (by decide) rfl (fun ls hl => ?_)
              refine lv_goto (tgt := 49) hx hb dX3_init_68 (by decide) ?_
              exact ih9 (j49 + 1) H _ ls (by omega) hN (lv_sub hl [1, 2, 0] rfl)
          have hN : kN D A s0.heap [(h0, .inr (3, [.ref q8, .int 0, .int 0, .int 0, .int 0, .int 0])), (q8, .inl (cs 4, kO 4 r8)), ((r8 0), .inl (cs 0, 8, .inl (kf 50 8))), ((r8 1), .inl (cs 0, 8, .inl (kf 50 8))), ((r8 2), .inl (cs 0, 8, .inl (kf 50 0))), ((r8 3), .inl (cs 0, 8, .inl (fun _ => 0)))] H locs := by
            simp only [kf0]; exact hN
          exact L6 8 0 H _ ls rfl hN (lv_sub hl [2, 1, 0] rfl)
        | succ d9 ih9 =>
          intro j49 H locs ls hd hN hl
          refine lv_iload_n hx hb dX3_init_49 rfl (lv_at hl 2 rfl) ?_
          refine lv_bipush (v := 8) hx hb dX3_init_50 (by decide) ?_
          refine g_cN_ge (a := j49) (b := 8) (tgt := 71) hx hb dX3_init_52 (by decide) rfl rfl (by omega) (by omega) (fun c9 => absurd c9 (by omega)) (fun _ => ?_)
          refine lv_aload_n hx hb dX3_init_55 rfl (lv_at hl 0 rfl) ?_
          refine k_get hx hb hts hin_X3 hown hG hN 0 rfl rfl 0 (by decide) hk_11 rfl rfl dX3_init_56 ?_
          refine lv_iload_n hx hb dX3_init_59 rfl (lv_at hl 1 rfl) ?_
          refine k_aald hx hb hG hN 1 (n := 4) (j := 1) rfl (by decide) (by omega) rfl dX3_init_60 ?_
          refine lv_iload_n hx hb dX3_init_61 rfl (lv_at hl 2 rfl) ?_
          refine lv_bipush (v := 50) hx hb dX3_init_62 (by decide) ?_
          refine k_iast hx hb hG hN 3 (j := j49) rfl rfl (by omega) (by decide) (g := (kf 50 (j49 + 1))) (kf_upd _ _) (ws2 := [(h0, .inr (3, [.ref q8, .int 0, .int 0, .int 0, .int 0, .int 0])), (q8, .inl (cs 4, kO 4 r8)), ((r8 0), .inl (cs 0, 8, .inl (kf 50 8))), ((r8 1), .inl (cs 0, 8, .inl (kf 50 (j49 + 1)))), ((r8 2), .inl (cs 0, 8, .inl (fun _ => 0))), ((r8 3), .inl (cs 0, 8, .inl (fun _ => 0)))]) rfl dX3_init_64 (fun H locs hN => ?_)
          refine lv_iinc (v := (nI (j49 + 1))) (lv' := [(2, .int (nI (j49 + 1))), (0, .ref h0), (1, .int 1)]) hx hb dX3_init_65 hl (k := 2) rfl (nI_1 _) (by decide) rfl (fun ls hl => ?_)
          refine lv_goto (tgt := 49) hx hb dX3_init_68 (by decide) ?_
          exact ih9 (j49 + 1) H _ ls (by omega) hN (lv_sub hl [1, 2, 0] rfl)
      have hN : kN D A s0.heap [(h0, .inr (3, [.ref q8, .int 0, .int 0, .int 0, .int 0, .int 0])), (q8, .inl (cs 4, kO 4 r8)), ((r8 0), .inl (cs 0, 8, .inl (kf 50 8))), ((r8 1), .inl (cs 0, 8, .inl (kf 50 0))), ((r8 2), .inl (cs 0, 8, .inl (fun _ => 0))), ((r8 3), .inl (cs 0, 8, .inl (fun _ => 0)))] H locs := by
        simp only [kf0]; exact hN
      exact L4 8 0 H _ ls rfl hN (lv_sub hl [2, 1, 0] rfl)
    | succ d9 ih9 =>
      intro j49 H locs ls hd hN hl
      refine lv_iload_n hx hb dX3_init_49 rfl (lv_at hl 2 rfl) ?_
      refine lv_bipush (v := 8) hx hb dX3_init_50 (by decide) ?_
      refine g_cN_ge (a := j49) (b := 8) (tgt := 71) hx hb dX3_init_52 (by decide) rfl rfl (by omega) (by omega) (fun c9 => absurd c9 (by omega)) (fun _ => ?_)
      refine lv_aload_n hx hb dX3_init_55 rfl (lv_at hl 0 rfl) ?_
      refine k_get hx hb hts hin_X3 hown hG hN 0 rfl rfl 0 (by decide) hk_11 rfl rfl dX3_init_56 ?_
      refine lv_iload_n hx hb dX3_init_59 rfl (lv_at hl 1 rfl) ?_
      refine k_aald hx hb hG hN 1 (n := 4) (j := 0) rfl (by decide) (by omega) rfl dX3_init_60 ?_
      refine lv_iload_n hx hb dX3_init_61 rfl (lv_at hl 2 rfl) ?_
      refine lv_bipush (v := 50) hx hb dX3_init_62 (by decide) ?_
      refine k_iast hx hb hG hN 2 (j := j49) rfl rfl (by omega) (by decide) (g := (kf 50 (j49 + 1))) (kf_upd _ _) (ws2 := [(h0, .inr (3, [.ref q8, .int 0, .int 0, .int 0, .int 0, .int 0])), (q8, .inl (cs 4, kO 4 r8)), ((r8 0), .inl (cs 0, 8, .inl (kf 50 (j49 + 1)))), ((r8 1), .inl (cs 0, 8, .inl (fun _ => 0))), ((r8 2), .inl (cs 0, 8, .inl (fun _ => 0))), ((r8 3), .inl (cs 0, 8, .inl (fun _ => 0)))]) rfl dX3_init_64 (fun H locs hN => ?_)
      refine lv_iinc (v := (nI (j49 + 1))) (lv' := [(2, .int (nI (j49 + 1))), (0, .ref h0), (1, .int 0)]) hx hb dX3_init_65 hl (k := 2) rfl (nI_1 _) (by decide) rfl (fun ls hl => ?_)
      refine lv_goto (tgt := 49) hx hb dX3_init_68 (by decide) ?_
      exact ih9 (j49 + 1) H _ ls (by omega) hN (lv_sub hl [1, 2, 0] rfl)
  have hN : kN D A s0.heap [(h0, .inr (3, [.ref q8, .int 0, .int 0, .int 0, .int 0, .int 0])), (q8, .inl (cs 4, kO 4 r8)), ((r8 0), .inl (cs 0, 8, .inl (kf 50 0))), ((r8 1), .inl (cs 0, 8, .inl (fun _ => 0))), ((r8 2), .inl (cs 0, 8, .inl (fun _ => 0))), ((r8 3), .inl (cs 0, 8, .inl (fun _ => 0)))] H locs := by
    simp only [kf0]; exact hN
  exact L2 8 0 H _ ls rfl hN (lv_sub hl [2, 1, 0] rfl)
