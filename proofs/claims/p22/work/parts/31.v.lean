set_option maxHeartbeats 4000000 in
set_option maxRecDepth 100000 in
theorem c_X8_numberAt (l : Launch) {D : va_G} {ad : Nat → Nat} {cs : Nat → ClassId} {zd : Nat → Nat} {F V : gF} {o : gO} {sz : Nat} (p : Nat) (n N : Nat) (hn2 : n ≤ 60) (hNN : V 3 4 = nI N) (hP : qPar F (F 4) n N) (hE : ¬ qHas (F 4) n N) (hNn : N ≤ n) (hp9 : p ≤ 200) : Met l yX8_numberAt wsX8_numberAt ({ frames := 1, cells := 0, slots := 0, locals := 20 } : Room) (gPc D ad cs zd F V o sz [.ref (ad 3), .int (nI p)]) (gQI D ad cs (qN (F 4) n p) F V o sz) 0 0 (gX ad sz) := by
  refine g_met (Qc := fun z0 => gQI D ad cs (qN (F 4) n p) F V o z0) (cc := cX8_numberAt) (maxL := 4) (ret := (some .int)) (own := RX8) (by decide +kernel) rfl rfl (Nat.le_of_ble_eq_true rfl) ?_
  intro p0 e0 s0 m0 b0 k0 c0 hx hb hr hts hown hlocks hml hG hN ls hl
  have hl : lv_has ls 4 [(0, .ref (ad 3)), (1, .int (nI p))] := hl
  have hin_8 : ∀ w ∈ wsX80, w ∈ wsX8_numberAt := by decide +kernel
  have hk_26 := hts (.fieldLink RX8 26 "GravureHouse$Script" "parts" "I") (by decide +kernel)
  have hk_19 := hts (.fieldLink RX8 19 "GravureHouse$Script" "ends" "[I") (by decide +kernel)
  have hk_15 := hts (.fieldLink RX8 15 "GravureHouse$Script" "begins" "[I") (by decide +kernel)
  have hk_9 := hts (.fieldLink RX8 9 "GravureHouse$Script" "signs" "[C") (by decide +kernel)
  refine lv_iload_n hx hb dX8_numberAt_0 rfl (lv_at hl 1 rfl) ?_
  refine lv_if_lt (tgt := 29) hx hb dX8_numberAt_1 (by decide) (fun c1 => absurd c1 (nI_pos (by omega))) (fun c1 => ?_)
  refine lv_iload_n hx hb dX8_numberAt_4 rfl (lv_at hl 1 rfl) ?_
  refine lv_aload_n hx hb dX8_numberAt_5 rfl (lv_at hl 0 rfl) ?_
  refine gf_3_4 hx hb hts hin_8 hown hG hN hk_26 dX8_numberAt_6 ?_
  refine g_top (y := nI N) hNN ?_
  refine g_cN_ge (a := p) (b := N) (tgt := 29) hx hb dX8_numberAt_9 (by decide) rfl rfl (by omega) (by omega) (fun c2 => ?_) (fun c2 => ?_)
  · refine lv_iconst (v := (-1)) hx hb dX8_numberAt_29 (by decide) ?_
    exact g_ri hx hb hr hlocks hN (⟨by rw [qN, if_neg (qHas_ge hE c2)], rfl⟩) dX8_numberAt_30
  · obtain ⟨h1, h2, h3⟩ := hP p (by omega)
    have h9 := qb_b (S := F 4) (n := n) (p := p)
    refine lv_aload_n hx hb dX8_numberAt_12 rfl (lv_at hl 0 rfl) ?_
    refine gf_3_2 hx hb hts hin_8 hown hG hN hk_19 dX8_numberAt_13 ?_
    refine lv_iload_n hx hb dX8_numberAt_16 rfl (lv_at hl 1 rfl) ?_
    refine g_iald hx hb hG hN (i := 6) (n := 60) (j := p) (by decide) rfl (by decide) (by omega) rfl dX8_numberAt_17 ?_
    refine g_top (y := nI (qAt (F 4) n (p + 1))) (h2) ?_
    refine lv_aload_n hx hb dX8_numberAt_18 rfl (lv_at hl 0 rfl) ?_
    refine gf_3_1 hx hb hts hin_8 hown hG hN hk_15 dX8_numberAt_19 ?_
    refine lv_iload_n hx hb dX8_numberAt_22 rfl (lv_at hl 1 rfl) ?_
    refine g_iald hx hb hG hN (i := 5) (n := 60) (j := p) (by decide) rfl (by decide) (by omega) rfl dX8_numberAt_23 ?_
    refine g_top (y := nI (qb (F 4) n p)) (h1) ?_
    refine g_subN (a := (qAt (F 4) n (p + 1))) (b := (qb (F 4) n p)) hx hb rfl rfl (by omega) dX8_numberAt_24 ?_
    refine lv_iconst (v := 3) hx hb dX8_numberAt_25 (by decide) ?_
    refine g_cN_le (a := (qAt (F 4) n (p + 1)) - (qb (F 4) n p)) (b := 3) (tgt := 31) hx hb dX8_numberAt_26 (by decide) rfl rfl (by omega) (by omega) (fun c3 => ?_) (fun c3 => ?_)
    · refine lv_iconst (v := 0) hx hb dX8_numberAt_31 (by decide) ?_
      refine lv_istore_n (lv' := [(2, .int 0), (0, .ref (ad 3)), (1, .int (nI p))]) hx hb dX8_numberAt_32 rfl hl (by decide) rfl (fun ls hl => ?_)
      refine lv_aload_n hx hb dX8_numberAt_33 rfl (lv_at hl 1 rfl) ?_
      refine gf_3_1 hx hb hts hin_8 hown hG hN hk_15 dX8_numberAt_34 ?_
      refine lv_iload_n hx hb dX8_numberAt_37 rfl (lv_at hl 2 rfl) ?_
      refine g_iald hx hb hG hN (i := 5) (n := 60) (j := p) (by decide) rfl (by decide) (by omega) rfl dX8_numberAt_38 ?_
      refine g_top (y := nI (qb (F 4) n p)) (h1) ?_
      refine lv_istore_n (lv' := [(3, .int (nI (qb (F 4) n p))), (2, .int 0), (0, .ref (ad 3)), (1, .int (nI p))]) hx hb dX8_numberAt_39 rfl hl (by decide) rfl (fun ls hl => ?_)
      have L4 : ∀ (d9_40 : Nat) (k : Nat) (x2 : Int32) (H : Heap) (locs : List Loc) (ls : Array Slot), (qAt (F 4) n (p + 1)) - (qb (F 4) n p) - k = d9_40 → (k ≤ (qAt (F 4) n (p + 1)) - (qb (F 4) n p)) → (x2 = qVl (F 4) (qb (F 4) n p) k) → (∀ v, v < k → qDg (F 4) ((qb (F 4) n p) + v)) → gN D ad cs s0 F V o H locs → lv_has ls 4 [(0, .ref (ad 3)), (1, .int (nI p)), (2, .int x2), (3, .int (nI ((qb (F 4) n p) + k)))] → W p0 l e0 ({ frames := 1, cells := 0, slots := 0, locals := 20 } : Room) s0 m0 ([.ref (ad 3), .int (nI p)] : List Value).toArray b0 k0 c0 H locs 0 0 (MQ b0 (gQI D ad cs (qN (F 4) n p) F V o s0.heap.size) ([.ref (ad 3), .int (nI p)] : List Value).toArray s0 0 0 (gX ad s0.heap.size)) (F0 m0 40 ls []) := by
        intro d9_40
        induction d9_40 with
        | zero =>
          intro k x2 H locs ls hd_40 hk e2 hdg hN hl
          refine lv_iload_n hx hb dX8_numberAt_40 rfl (lv_at hl 3 rfl) ?_
          refine lv_aload_n hx hb dX8_numberAt_41 rfl (lv_at hl 0 rfl) ?_
          refine gf_3_2 hx hb hts hin_8 hown hG hN hk_19 dX8_numberAt_42 ?_
          refine lv_iload_n hx hb dX8_numberAt_45 rfl (lv_at hl 1 rfl) ?_
          refine g_iald hx hb hG hN (i := 6) (n := 60) (j := p) (by decide) rfl (by decide) (by omega) rfl dX8_numberAt_46 ?_
          refine g_top (y := nI (qAt (F 4) n (p + 1))) (h2) ?_
          refine g_cN_ge (a := (qb (F 4) n p) + k) (b := (qAt (F 4) n (p + 1))) (tgt := 85) hx hb dX8_numberAt_47 (by decide) rfl rfl (by omega) (by omega) (fun c5 => ?_) (fun c5 => absurd c5 (by omega))
          refine lv_iload_n hx hb dX8_numberAt_85 rfl (lv_at hl 2 rfl) ?_
          exact g_ri hx hb hr hlocks hN (⟨by rw [e2, qN, if_pos h3, show k = (qAt (F 4) n (p + 1)) - (qb (F 4) n p) by omega, qNum, if_pos ⟨by omega, fun v hv => hdg v (by omega)⟩], rfl⟩) dX8_numberAt_86
        | succ d9_40 ih40 =>
          intro k x2 H locs ls hd_40 hk e2 hdg hN hl
          refine lv_iload_n hx hb dX8_numberAt_40 rfl (lv_at hl 3 rfl) ?_
          refine lv_aload_n hx hb dX8_numberAt_41 rfl (lv_at hl 0 rfl) ?_
          refine gf_3_2 hx hb hts hin_8 hown hG hN hk_19 dX8_numberAt_42 ?_
          refine lv_iload_n hx hb dX8_numberAt_45 rfl (lv_at hl 1 rfl) ?_
          refine g_iald hx hb hG hN (i := 6) (n := 60) (j := p) (by decide) rfl (by decide) (by omega) rfl dX8_numberAt_46 ?_
          refine g_top (y := nI (qAt (F 4) n (p + 1))) (h2) ?_
          refine g_cN_ge (a := (qb (F 4) n p) + k) (b := (qAt (F 4) n (p + 1))) (tgt := 85) hx hb dX8_numberAt_47 (by decide) rfl rfl (by omega) (by omega) (fun c6 => absurd c6 (by omega)) (fun c6 => ?_)
          refine lv_aload_n hx hb dX8_numberAt_50 rfl (lv_at hl 0 rfl) ?_
          refine gf_3_0 hx hb hts hin_8 hown hG hN hk_9 dX8_numberAt_51 ?_
          refine lv_iload_n hx hb dX8_numberAt_54 rfl (lv_at hl 3 rfl) ?_
          refine g_cald hx hb hG hN (i := 4) (n := 60) (j := (qb (F 4) n p) + k) (by decide) rfl (by decide) (by omega) rfl dX8_numberAt_55 ?_
          refine g_SI (As := [.int (F 4 ((qb (F 4) n p) + k))]) (rest := []) ⟨hx, hb, hml, hown, hts⟩ hG hN (c_X8_isFigure l (F 4 ((qb (F 4) n p) + k))) (va_cwS 1 hts gX8_numberAt_X8_isFigure rfl rfl rfl (by decide +kernel) ⟨Nat.le_of_ble_eq_true rfl, Nat.le_of_ble_eq_true rfl⟩) rfl hl.1 rfl (Nat.le_of_ble_eq_true rfl) dX8_numberAt_56 ⟨Nat.le_of_ble_eq_true rfl, Nat.le_of_ble_eq_true rfl⟩ (fun H locs hN => ?_)
          refine g_ifb_ne (gRng (F 4 ((qb (F 4) n p) + k)) 48 57 = true) (tgt := 64) hx hb dX8_numberAt_59 (by decide) rfl (fun c7 => ?_) (fun c7 => ?_)
          · refine lv_iload_n hx hb dX8_numberAt_64 rfl (lv_at hl 2 rfl) ?_
            refine lv_bipush (v := 10) hx hb dX8_numberAt_65 (by decide) ?_
            refine lv_imul hx hb dX8_numberAt_67 ?_
            refine lv_aload_n hx hb dX8_numberAt_68 rfl (lv_at hl 0 rfl) ?_
            refine gf_3_0 hx hb hts hin_8 hown hG hN hk_9 dX8_numberAt_69 ?_
            refine lv_iload_n hx hb dX8_numberAt_72 rfl (lv_at hl 3 rfl) ?_
            refine g_cald hx hb hG hN (i := 4) (n := 60) (j := (qb (F 4) n p) + k) (by decide) rfl (by decide) (by omega) rfl dX8_numberAt_73 ?_
            refine lv_bipush (v := 48) hx hb dX8_numberAt_74 (by decide) ?_
            refine lv_isub hx hb dX8_numberAt_76 ?_
            refine lv_iadd hx hb dX8_numberAt_77 ?_
            refine g_top (y := 10 * x2 + (F 4 ((qb (F 4) n p) + k) - 48)) (by rw [Int32.mul_comm]) ?_
            refine lv_istore_n (lv' := [(2, .int (10 * x2 + (F 4 ((qb (F 4) n p) + k) - 48))), (0, .ref (ad 3)), (1, .int (nI p)), (3, .int (nI ((qb (F 4) n p) + k)))]) hx hb dX8_numberAt_78 rfl hl (by decide) rfl (fun ls hl => ?_)
            refine lv_iinc (v := (nI (((qb (F 4) n p) + k) + 1))) (lv' := [(3, .int (nI (((qb (F 4) n p) + k) + 1))), (2, .int (10 * x2 + (F 4 ((qb (F 4) n p) + k) - 48))), (0, .ref (ad 3)), (1, .int (nI p))]) hx hb dX8_numberAt_79 hl (k := 3) rfl (nI_1 _) (by decide) rfl (fun ls hl => ?_)
            refine lv_goto (tgt := 40) hx hb dX8_numberAt_82 (by decide) ?_
            exact ih40 (k + 1) (10 * x2 + (F 4 ((qb (F 4) n p) + k) - 48)) _ _ ls (by omega) (by omega) (by rw [e2]; rfl) (fun v hv => by by_cases h8 : v = k; exact h8 ▸ c7; exact hdg v (by omega)) hN (lv_sub hl [2, 3, 1, 0] rfl)
          · refine lv_iconst (v := (-1)) hx hb dX8_numberAt_62 (by decide) ?_
            exact g_ri hx hb hr hlocks hN (⟨by rw [qN, if_pos h3, qNum, if_neg (fun z => c7 (z.2 k (by omega)))], rfl⟩) dX8_numberAt_63
      exact L4 _ 0 0 _ _ ls (rfl) (by omega) (rfl) (fun v hv => absurd hv (Nat.not_lt_zero v)) hN (lv_sub hl [2, 3, 1, 0] rfl)
    · refine lv_iconst (v := (-1)) hx hb dX8_numberAt_29 (by decide) ?_
      exact g_ri hx hb hr hlocks hN (⟨by rw [qN, if_pos h3, qNum, if_neg (fun z => z.1 c3)], rfl⟩) dX8_numberAt_30
set_option maxHeartbeats 4000000 in
set_option maxRecDepth 100000 in
theorem c_X7_setGain (l : Launch) {D : va_G} {ad : Nat → Nat} {cs : Nat → ClassId} {zd : Nat → Nat} {F V : gF} {o : gO} {sz : Nat} (k : Nat) (x : Int32) (hk : k < 4) : Met l yX7_setGain wsX7_setGain ({ frames := 0, cells := 0, slots := 0, locals := 0 } : Room) (gPc D ad cs zd F V o sz [.ref (ad 1), .int (nI k), .int x]) (gQV D ad cs (gw F 2 k x) V o sz) 0 0 (gX ad sz) := by
  refine g_met (Qc := fun z0 => gQV D ad cs (gw F 2 k x) V o z0) (cc := cX7_setGain) (maxL := 3) (ret := none) (own := RX7) (by decide +kernel) rfl rfl (Nat.le_of_ble_eq_true rfl) ?_
  intro p0 e0 s0 m0 b0 k0 c0 hx hb hr hts hown hlocks hml hG hN ls hl
  have hl : lv_has ls 3 [(0, .ref (ad 1)), (1, .int (nI k)), (2, .int x)] := hl
  have hin_7 : ∀ w ∈ wsX70, w ∈ wsX7_setGain := by decide +kernel
  have hk_28 := hts (.fieldLink RX7 28 "GravureHouse$Rules" "gains" "[I") (by decide +kernel)
  refine lv_iload_n hx hb dX7_setGain_0 rfl (lv_at hl 1 rfl) ?_
  refine lv_if_lt (tgt := 16) hx hb dX7_setGain_1 (by decide) (fun c1 => absurd c1 (nI_pos (by omega))) (fun c1 => ?_)
  refine lv_iload_n hx hb dX7_setGain_4 rfl (lv_at hl 1 rfl) ?_
  refine lv_iconst (v := 4) hx hb dX7_setGain_5 (by decide) ?_
  refine g_cN_ge (a := k) (b := 4) (tgt := 16) hx hb dX7_setGain_6 (by decide) rfl rfl (by omega) (by omega) (fun c2 => absurd c2 (by omega)) (fun c2 => ?_)
  refine lv_aload_n hx hb dX7_setGain_9 rfl (lv_at hl 0 rfl) ?_
  refine gf_1_5 hx hb hts hin_7 hown hG hN hk_28 dX7_setGain_10 ?_
  refine lv_iload_n hx hb dX7_setGain_13 rfl (lv_at hl 1 rfl) ?_
  refine lv_iload_n hx hb dX7_setGain_14 rfl (lv_at hl 2 rfl) ?_
  refine g_iast hx hb hG hN (i := 2) (n := 4) (j := k) (by decide) (fun _ => rfl) (by decide) (by omega) rfl dX7_setGain_15 (fun H locs hN => ?_)
  exact g_rv hx hb hr hlocks hN (rfl) dX7_setGain_16
