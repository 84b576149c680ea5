set_option maxHeartbeats 4000000 in
set_option maxRecDepth 100000 in
theorem c_X10_print (l : Launch) {D : va_G} {ad : Nat → Nat} {cs : Nat → ClassId} {zd : Nat → Nat} {F V : gF} {o : gO} {sz : Nat} (n : Int32) (b : Nat) (hok : cOK2 (tF F) (tV F V) b) (hb9 : b + 100 ≤ 2 ^ 30) : Met l yX10_print wsX10_print ({ frames := 4, cells := 0, slots := 0, locals := 90 } : Room) (gPc D ad cs zd F V o sz [.ref (ad 43), .int n]) (gQi D ad cs sz (fun r9 u9 => mP F V o (fPri (tV F V) n) r9 (xIt (tF F) (tV F V) (cEven (tF F)) n.toNatClampNeg).2.2 (xIt (tF F) (tV F V) (cEven (tF F)) n.toNatClampNeg).1 (xIt (tF F) (tV F V) (cEven (tF F)) n.toNatClampNeg).2.1 u9)) 0 0 (gX ad sz) := by
  refine g_met (Qc := fun z0 => gQi D ad cs z0 (fun r9 u9 => mP F V o (fPri (tV F V) n) r9 (xIt (tF F) (tV F V) (cEven (tF F)) n.toNatClampNeg).2.2 (xIt (tF F) (tV F V) (cEven (tF F)) n.toNatClampNeg).1 (xIt (tF F) (tV F V) (cEven (tF F)) n.toNatClampNeg).2.1 u9)) (cc := cX10_print) (maxL := 5) (ret := (some .int)) (own := RX10) (by decide +kernel) rfl rfl (Nat.le_of_ble_eq_true rfl) ?_
  intro p0 e0 s0 m0 b0 k0 c0 hx hb hr hts hown hlocks hml hG hN ls hl
  have hl : lv_has ls 5 [(0, .ref (ad 43)), (1, .int n)] := hl
  have hin_10 : ∀ w ∈ wsX100, w ∈ wsX10_print := by decide +kernel
  have hk_154 := hts (.fieldLink RX10 154 "GravureHouseModel" "printed" "I") (by decide +kernel)
  refine lv_aload_n hx hb dX10_print_0 rfl (lv_at hl 0 rfl) ?_
  refine lv_iload_n hx hb dX10_print_1 rfl (lv_at hl 1 rfl) ?_
  refine lv_iconst (v := 1) hx hb dX10_print_2 (by decide) ?_
  refine lv_bipush (v := 100) hx hb dX10_print_3 (by decide) ?_
  refine g_SI (As := [.int n, .int 1, .int 100]) (rest := [.ref (ad 43)]) ⟨hx, hb, hml, hown, hts⟩ hG hN (c_X10_isIn l n 1 100) (va_cwS 3 hts gX10_print_X10_isIn rfl rfl rfl (by decide +kernel) ⟨Nat.le_of_ble_eq_true rfl, Nat.le_of_ble_eq_true rfl⟩) rfl hl.1 rfl (Nat.le_of_ble_eq_true rfl) dX10_print_5 ⟨Nat.le_of_ble_eq_true rfl, Nat.le_of_ble_eq_true rfl⟩ (fun H locs hN => ?_)
  refine g_ifb_ne (gRng n 1 100 = true) (tgt := 15) hx hb dX10_print_8 (by decide) rfl (fun c1 => ?_) (fun c1 => ?_)
  · refine lv_aload_n hx hb dX10_print_15 rfl (lv_at hl 0 rfl) ?_
    refine gf_43_25 hx hb hts hin_10 hown hG hN hk_154 dX10_print_16 ?_
    refine lv_iload_n hx hb dX10_print_19 rfl (lv_at hl 1 rfl) ?_
    refine lv_iadd hx hb dX10_print_20 ?_
    refine lv_sipush (v := 20000) hx hb dX10_print_21 (by decide) ?_
    refine lv_icmp_le (tgt := 31) hx hb dX10_print_24 (by decide) (fun c2 => ?_) (fun c2 => ?_)
    · refine lv_iconst (v := 0) hx hb dX10_print_31 (by decide) ?_
      refine g_VI (As := [.int 0]) (rest := []) ⟨hx, hb, hml, hown, hts⟩ hG hN (i := 43) (by decide) rfl rfl (c_X10_can l 0) (cwV 1 hts gX10_print_X10_can rfl rfl rfl (by decide +kernel) ⟨Nat.le_of_ble_eq_true rfl, Nat.le_of_ble_eq_true rfl⟩) rfl hl.1 rfl (Nat.le_of_ble_eq_true rfl) dX10_print_32 ⟨Nat.le_of_ble_eq_true rfl, Nat.le_of_ble_eq_true rfl⟩ (fun H locs hN => ?_)
      refine g_top (y := 1) (by decide) ?_
      obtain ⟨j, hj, ej⟩ := gRng_n1 100 rfl (by decide) c1
      subst ej
      refine lv_if_ne (tgt := 40) hx hb dX10_print_35 (by decide) (fun _ => ?_) (fun c3 => False.elim (by revert c3; decide))
      refine lv_iconst (v := 0) hx hb dX10_print_40 (by decide) ?_
      refine lv_istore_n (lv' := [(2, .int 0), (0, .ref (ad 43)), (1, .int (nI j))]) hx hb dX10_print_41 rfl hl (by decide) rfl (fun ls hl => ?_)
      refine lv_iconst (v := 0) hx hb dX10_print_42 (by decide) ?_
      refine lv_istore_n (lv' := [(3, .int 0), (2, .int 0), (0, .ref (ad 43)), (1, .int (nI j))]) hx hb dX10_print_43 rfl hl (by decide) rfl (fun ls hl => ?_)
      have L4 : ∀ (d9_44 : Nat) (n : Nat) (F1 : gF) (V1 : gF) (x2 : Int32) (H : Heap) (locs : List Loc) (ls : Array Slot), j - n = d9_44 → (n ≤ j) → (sim F V F1 V1 (xIt (tF F) (tV F V) (cEven (tF F)) n).1 (xIt (tF F) (tV F V) (cEven (tF F)) n).2.1) → (V1 43 31 = 0) → (x2 = (xIt (tF F) (tV F V) (cEven (tF F)) n).2.2) → gN D ad cs s0 F1 V1 o H locs → lv_has ls 5 [(0, .ref (ad 43)), (1, .int (nI j)), (2, .int x2), (3, .int (nI n))] → W p0 l e0 ({ frames := 4, cells := 0, slots := 0, locals := 90 } : Room) s0 m0 ([.ref (ad 43), .int (nI j)] : List Value).toArray b0 k0 c0 H locs 0 0 (MQ b0 (gQi D ad cs s0.heap.size (fun r9 u9 => mP F V o (fPri (tV F V) (nI j)) r9 (xIt (tF F) (tV F V) (cEven (tF F)) (nI j).toNatClampNeg).2.2 (xIt (tF F) (tV F V) (cEven (tF F)) (nI j).toNatClampNeg).1 (xIt (tF F) (tV F V) (cEven (tF F)) (nI j).toNatClampNeg).2.1 u9)) ([.ref (ad 43), .int (nI j)] : List Value).toArray s0 0 0 (gX ad s0.heap.size)) (F0 m0 44 ls []) := by
        intro d9_44
        induction d9_44 with
        | zero =>
          intro n F1 V1 x2 H locs ls hd_44 hn hs hth e2 hN hl
          refine lv_iload_n hx hb dX10_print_44 rfl (lv_at hl 3 rfl) ?_
          refine lv_iload_n hx hb dX10_print_45 rfl (lv_at hl 1 rfl) ?_
          refine g_cN_ge (a := n) (b := j) (tgt := 74) hx hb dX10_print_46 (by decide) rfl rfl (by omega) (by omega) (fun c5 => ?_) (fun c5 => absurd c5 (by omega))
          refine lv_iload_n hx hb dX10_print_74 rfl (lv_at hl 2 rfl) ?_
          exact g_ri hx hb hr hlocks hN (by simp only [nI_clamp (show j < 2 ^ 31 by omega)]; (obtain rfl : n = j := (by omega)); exact mP_ok (by simp [fPri, tV_27_2, c1, c2, Int32.not_lt.mpr c2]) hth e2 hs) dX10_print_75
        | succ d9_44 ih44 =>
          intro n F1 V1 x2 H locs ls hd_44 hn hs hth e2 hN hl
          refine lv_iload_n hx hb dX10_print_44 rfl (lv_at hl 3 rfl) ?_
          refine lv_iload_n hx hb dX10_print_45 rfl (lv_at hl 1 rfl) ?_
          refine g_cN_ge (a := n) (b := j) (tgt := 74) hx hb dX10_print_46 (by decide) rfl rfl (by omega) (by omega) (fun c6 => absurd c6 (by omega)) (fun c6 => ?_)
          obtain ⟨t, pr, h, w, ht2, ht, hpr2, hpr, hh2, hw2, hh, hw, hu, hd, hr9, _⟩ := xIt_ok2 (K := cEven (tF F)) hok n (by omega)
          refine lv_aload_n hx hb dX10_print_49 rfl (lv_at hl 0 rfl) ?_
          refine g_Vi (As := []) (rest := []) ⟨hx, hb, hml, hown, hts⟩ hG hN (i := 43) (by decide) rfl rfl (c_X10_printsOne l F V (xIt (tF F) (tV F V) (cEven (tF F)) n).1 (xIt (tF F) (tV F V) (cEven (tF F)) n).2.1 (cEven (tF F)) pr t h w hs (by rw [xIt_even]) (by omega) hpr ht ht2 hu hd hh hh2 hw hw2 (fun z => by have h9 := hr9 0 (by omega); rw [Nat.add_zero, Nat.mod_eq_of_lt hh2] at h9; exact h9)) (cwV 0 hts gX10_print_X10_printsOne rfl rfl rfl (by decide +kernel) ⟨Nat.le_of_ble_eq_true rfl, Nat.le_of_ble_eq_true rfl⟩) rfl hl.1 rfl (Nat.le_of_ble_eq_true rfl) dX10_print_50 ⟨Nat.le_of_ble_eq_true rfl, Nat.le_of_ble_eq_true rfl⟩ (fun r7 Fq8 Vq9 oq10 H locs hq11 hN => ?_)
          have ho9 : o = oq10 := hq11.2.1.symm
          subst ho9
          have ht9 : Vq9 43 31 = 0 := hq11.2.2.1.trans hth
          have hs9 := hq11.2.2.2
          have hr9 : (if (xG (xIt (tF F) (tV F V) (cEven (tF F)) n).1 (xIt (tF F) (tV F V) (cEven (tF F)) n).2.1 (cEven (tF F))) then 1 else 0) = r7 := hq11.1.symm
          subst hr9
          refine lv_istore (lv' := [(4, .int (if (xG (xIt (tF F) (tV F V) (cEven (tF F)) n).1 (xIt (tF F) (tV F V) (cEven (tF F)) n).2.1 (cEven (tF F))) then 1 else 0)), (0, .ref (ad 43)), (1, .int (nI j)), (2, .int x2), (3, .int (nI n))]) hx hb dX10_print_53 hl (by decide) rfl (fun ls hl => ?_)
          refine lv_iload_n hx hb dX10_print_55 rfl (lv_at hl 3 rfl) ?_
          refine lv_iload hx hb dX10_print_56 (lv_at hl 0 rfl) ?_
          refine g_ifb_eq ((xG (xIt (tF F) (tV F V) (cEven (tF F)) n).1 (xIt (tF F) (tV F V) (cEven (tF F)) n).2.1 (cEven (tF F)))) (tgt := 65) hx hb dX10_print_58 (by decide) rfl (fun c12 => ?_) (fun c12 => ?_)
          · refine lv_iconst (v := 0) hx hb dX10_print_65 (by decide) ?_
            refine lv_iadd hx hb dX10_print_66 ?_
            refine lv_istore_n (lv' := [(2, .int (x2 + 0)), (4, .int (if (xG (xIt (tF F) (tV F V) (cEven (tF F)) n).1 (xIt (tF F) (tV F V) (cEven (tF F)) n).2.1 (cEven (tF F))) then 1 else 0)), (0, .ref (ad 43)), (1, .int (nI j)), (3, .int (nI n))]) hx hb dX10_print_67 rfl hl (by decide) rfl (fun ls hl => ?_)
            refine lv_iinc (v := (nI (n + 1))) (lv' := [(3, .int (nI (n + 1))), (2, .int (x2 + 0)), (4, .int (if (xG (xIt (tF F) (tV F V) (cEven (tF F)) n).1 (xIt (tF F) (tV F V) (cEven (tF F)) n).2.1 (cEven (tF F))) then 1 else 0)), (0, .ref (ad 43)), (1, .int (nI j))]) hx hb dX10_print_68 hl (k := 4) rfl (nI_1 _) (by decide) rfl (fun ls hl => ?_)
            refine lv_goto (tgt := 44) hx hb dX10_print_71 (by decide) ?_
            exact ih44 (n + 1) Fq8 Vq9 (x2 + 0) _ _ ls (by omega) (by omega) (by simp only [xIt]; exact hs9) (ht9) (by simp only [xIt]; rw [if_neg c12, e2, Int32.add_zero]) hN (lv_sub hl [3, 4, 1, 0] rfl)
          · refine lv_iconst (v := 1) hx hb dX10_print_61 (by decide) ?_
            refine lv_goto (tgt := 66) hx hb dX10_print_62 (by decide) ?_
            refine lv_iadd hx hb dX10_print_66 ?_
            refine lv_istore_n (lv' := [(2, .int (x2 + 1)), (4, .int (if (xG (xIt (tF F) (tV F V) (cEven (tF F)) n).1 (xIt (tF F) (tV F V) (cEven (tF F)) n).2.1 (cEven (tF F))) then 1 else 0)), (0, .ref (ad 43)), (1, .int (nI j)), (3, .int (nI n))]) hx hb dX10_print_67 rfl hl (by decide) rfl (fun ls hl => ?_)
            refine lv_iinc (v := (nI (n + 1))) (lv' := [(3, .int (nI (n + 1))), (2, .int (x2 + 1)), (4, .int (if (xG (xIt (tF F) (tV F V) (cEven (tF F)) n).1 (xIt (tF F) (tV F V) (cEven (tF F)) n).2.1 (cEven (tF F))) then 1 else 0)), (0, .ref (ad 43)), (1, .int (nI j))]) hx hb dX10_print_68 hl (k := 4) rfl (nI_1 _) (by decide) rfl (fun ls hl => ?_)
            refine lv_goto (tgt := 44) hx hb dX10_print_71 (by decide) ?_
            exact ih44 (n + 1) Fq8 Vq9 (x2 + 1) _ _ ls (by omega) (by omega) (by simp only [xIt]; exact hs9) (ht9) (by simp only [xIt]; rw [if_pos c12, e2]) hN (lv_sub hl [3, 4, 1, 0] rfl)
      exact L4 _ 0 F (gw V 43 31 0) 0 _ _ ls (rfl) (by omega) (sim.rf.v31) (rfl) (rfl) hN (lv_sub hl [2, 3, 1, 0] rfl)
    · refine lv_iconst (v := 2) hx hb dX10_print_27 (by decide) ?_
      refine lv_goto (tgt := 32) hx hb dX10_print_28 (by decide) ?_
      refine g_VI (As := [.int 2]) (rest := []) ⟨hx, hb, hml, hown, hts⟩ hG hN (i := 43) (by decide) rfl rfl (c_X10_can l 2) (cwV 1 hts gX10_print_X10_can rfl rfl rfl (by decide +kernel) ⟨Nat.le_of_ble_eq_true rfl, Nat.le_of_ble_eq_true rfl⟩) rfl hl.1 rfl (Nat.le_of_ble_eq_true rfl) dX10_print_32 ⟨Nat.le_of_ble_eq_true rfl, Nat.le_of_ble_eq_true rfl⟩ (fun H locs hN => ?_)
      refine g_top (y := 0) (by decide) ?_
      refine lv_if_ne (tgt := 40) hx hb dX10_print_35 (by decide) (fun c13 => False.elim (by revert c13; decide)) (fun _ => ?_)
      refine lv_iconst (v := 0) hx hb dX10_print_38 (by decide) ?_
      exact g_ri hx hb hr hlocks hN (mP_no (n := 2) (by simp [fPri, tV_27_2, c1, c2, Int32.not_le.mp c2]) (by decide)) dX10_print_39
  · refine lv_iconst (v := 1) hx hb dX10_print_11 (by decide) ?_
    refine lv_goto (tgt := 32) hx hb dX10_print_12 (by decide) ?_
    refine g_VI (As := [.int 1]) (rest := []) ⟨hx, hb, hml, hown, hts⟩ hG hN (i := 43) (by decide) rfl rfl (c_X10_can l 1) (cwV 1 hts gX10_print_X10_can rfl rfl rfl (by decide +kernel) ⟨Nat.le_of_ble_eq_true rfl, Nat.le_of_ble_eq_true rfl⟩) rfl hl.1 rfl (Nat.le_of_ble_eq_true rfl) dX10_print_32 ⟨Nat.le_of_ble_eq_true rfl, Nat.le_of_ble_eq_true rfl⟩ (fun H locs hN => ?_)
    refine g_top (y := 0) (by decide) ?_
    refine lv_if_ne (tgt := 40) hx hb dX10_print_35 (by decide) (fun c14 => False.elim (by revert c14; decide)) (fun _ => ?_)
    refine lv_iconst (v := 0) hx hb dX10_print_38 (by decide) ?_
    exact g_ri hx hb hr hlocks hN (mP_no (n := 1) (by simp [fPri, tV_27_2, c1]) (by decide)) dX10_print_39
