set_option maxHeartbeats 4000000 in
set_option maxRecDepth 100000 in
theorem c_X10_plates (l : Launch) {D : va_G} {ad : Nat → Nat} {cs : Nat → ClassId} {zd : Nat → Nat} {F V : gF} {o : gO} {sz : Nat}  (hnz : mNz F V) (hwm : ∀ c k, c < 64 → k < 4 → cWant (tF F) (tV F V) c k ≤ 100) : Met l yX10_plates wsX10_plates ({ frames := 5, cells := 0, slots := 0, locals := 115 } : Room) (gPc D ad cs zd F V o sz [.ref (ad 43)]) (gQi D ad cs sz (fun r9 u9 => mP F V o 0 r9 (cMkN (tF F) (tV F V) 256) (cMkF (tF F) (tV F V) 256) (tV F V) u9)) 0 0 (gX ad sz) := by
  refine g_met (Qc := fun z0 => gQi D ad cs z0 (fun r9 u9 => mP F V o 0 r9 (cMkN (tF F) (tV F V) 256) (cMkF (tF F) (tV F V) 256) (tV F V) u9)) (cc := cX10_plates) (maxL := 4) (ret := (some .int)) (own := RX10) (by decide +kernel) rfl rfl (Nat.le_of_ble_eq_true rfl) ?_
  intro p0 e0 s0 m0 b0 k0 c0 hx hb hr hts hown hlocks hml hG hN ls hl
  have hl : lv_has ls 4 [(0, .ref (ad 43))] := hl
  have hin_10 : ∀ w ∈ wsX100, w ∈ wsX10_plates := by decide +kernel
  have hk_72 := hts (.fieldLink RX10 72 "GravureHouseModel" "thrown" "I") (by decide +kernel)
  have hk_29 := hts (.fieldLink RX10 29 "GravureHouseModel" "plate" "[I") (by decide +kernel)
  refine lv_aload_n hx hb dX10_plates_0 rfl (lv_at hl 0 rfl) ?_
  refine lv_iconst (v := 0) hx hb dX10_plates_1 (by decide) ?_
  refine gp_43_31 hx hb hts hin_10 hown hG hN hk_72 dX10_plates_2 (fun H locs hN => ?_)
  refine lv_iconst (v := 0) hx hb dX10_plates_5 (by decide) ?_
  refine lv_istore_n (lv' := [(1, .int 0), (0, .ref (ad 43))]) hx hb dX10_plates_6 rfl hl (by decide) rfl (fun ls hl => ?_)
  refine lv_iconst (v := 0) hx hb dX10_plates_7 (by decide) ?_
  refine lv_istore_n (lv' := [(2, .int 0), (1, .int 0), (0, .ref (ad 43))]) hx hb dX10_plates_8 rfl hl (by decide) rfl (fun ls hl => ?_)
  have L1 : ∀ (d9_9 : Nat) (n : Nat) (x1 : Int32) (F1 : gF) (H : Heap) (locs : List Loc) (ls : Array Slot), 256 - n = d9_9 → (n ≤ 256) → (sim F V F1 (gw V 43 31 0) (mFil 14 (mPl F V) (tF F) n) (tV F V)) → (x1 = mSum (mDf F V) n) → gN D ad cs s0 F1 (gw V 43 31 0) o H locs → lv_has ls 4 [(0, .ref (ad 43)), (1, .int x1), (2, .int (nI n))] → W p0 l e0 ({ frames := 5, cells := 0, slots := 0, locals := 115 } : Room) s0 m0 ([.ref (ad 43)] : List Value).toArray b0 k0 c0 H locs 0 0 (MQ b0 (gQi D ad cs s0.heap.size (fun r9 u9 => mP F V o 0 r9 (cMkN (tF F) (tV F V) 256) (cMkF (tF F) (tV F V) 256) (tV F V) u9)) ([.ref (ad 43)] : List Value).toArray s0 0 0 (gX ad s0.heap.size)) (F0 m0 9 ls []) := by
    intro d9_9
    induction d9_9 with
    | zero =>
      intro n x1 F1 H locs ls hd_9 hn hs e1 hN hl
      refine lv_iload_n hx hb dX10_plates_9 rfl (lv_at hl 2 rfl) ?_
      refine lv_sipush (v := 256) hx hb dX10_plates_10 (by decide) ?_
      refine g_cN_ge (a := n) (b := 256) (tgt := 65) hx hb dX10_plates_13 (by decide) rfl rfl (by omega) (by omega) (fun c2 => ?_) (fun c2 => absurd c2 (by omega))
      refine lv_iload_n hx hb dX10_plates_65 rfl (lv_at hl 1 rfl) ?_
      exact g_ri hx hb hr hlocks hN (mP_ok rfl rfl (by rw [e1, show n = 256 by omega]; exact mPl_sum) (by (obtain rfl : n = 256 := (by omega)); exact hs.eq (fun a _ b => mPl_fil a b) (fun _ _ _ => rfl))) dX10_plates_66
    | succ d9_9 ih9 =>
      intro n x1 F1 H locs ls hd_9 hn hs e1 hN hl
      refine lv_iload_n hx hb dX10_plates_9 rfl (lv_at hl 2 rfl) ?_
      refine lv_sipush (v := 256) hx hb dX10_plates_10 (by decide) ?_
      refine g_cN_ge (a := n) (b := 256) (tgt := 65) hx hb dX10_plates_13 (by decide) rfl rfl (by omega) (by omega) (fun c3 => absurd c3 (by omega)) (fun c3 => ?_)
      have hlo : ∀ a, a < 14 → ∀ b, tF F1 a b = tF F a b := fun a ha b => (hs.1 a (by omega) b).trans (mFil_o (Or.inl ha) n)
      have hvv : ∀ b, tV F1 (gw V 43 31 0) 1 b = tV F V 1 b := fun b => hs.2.1 1 (by decide) b
      have hnz1 := mNz_cong hlo hvv hnz
      refine lv_aload_n hx hb dX10_plates_16 rfl (lv_at hl 0 rfl) ?_
      refine lv_iload_n hx hb dX10_plates_17 rfl (lv_at hl 2 rfl) ?_
      refine lv_iconst (v := 4) hx hb dX10_plates_18 (by decide) ?_
      refine g_remN (a := n) (b := 4) hx hb rfl rfl (by omega) (by omega) (by omega) dX10_plates_19 ?_
      refine lv_aload_n hx hb dX10_plates_20 rfl (lv_at hl 0 rfl) ?_
      refine lv_iload_n hx hb dX10_plates_21 rfl (lv_at hl 2 rfl) ?_
      refine lv_iconst (v := 4) hx hb dX10_plates_22 (by decide) ?_
      refine g_divN (a := n) (b := 4) hx hb rfl rfl (by omega) (by omega) (by omega) dX10_plates_23 ?_
      refine lv_iload_n hx hb dX10_plates_24 rfl (lv_at hl 2 rfl) ?_
      refine lv_iconst (v := 4) hx hb dX10_plates_25 (by decide) ?_
      refine g_remN (a := n) (b := 4) hx hb rfl rfl (by omega) (by omega) (by omega) dX10_plates_26 ?_
      refine g_VI (As := [.int (nI (n / 4)), .int (nI (n % 4))]) (rest := [.int (nI (n % 4)), .ref (ad 43)]) ⟨hx, hb, hml, hown, hts⟩ hG hN (i := 43) (by decide) rfl rfl (c_X10_wanted l (n / 4) (n % 4) hnz1 (by omega) (by omega)) (cwV 2 hts gX10_plates_X10_wanted rfl rfl rfl (by decide +kernel) ⟨Nat.le_of_ble_eq_true rfl, Nat.le_of_ble_eq_true rfl⟩) rfl hl.1 rfl (Nat.le_of_ble_eq_true rfl) dX10_plates_27 ⟨Nat.le_of_ble_eq_true rfl, Nat.le_of_ble_eq_true rfl⟩ (fun H locs hN => ?_)
      refine g_top (y := cWant (tF F) (tV F V) (n / 4) (n % 4)) (cWant_cong2 (by omega) hlo hvv) ?_
      refine g_VI (As := [.int (nI (n % 4)), .int (cWant (tF F) (tV F V) (n / 4) (n % 4))]) (rest := []) ⟨hx, hb, hml, hown, hts⟩ hG hN (i := 43) (by decide) rfl rfl (c_X10_tint l (n % 4) (cWant (tF F) (tV F V) (n / 4) (n % 4)) (by omega) (hwm _ _ (by omega) (by omega))) (cwV 2 hts gX10_plates_X10_tint rfl rfl rfl (by decide +kernel) ⟨Nat.le_of_ble_eq_true rfl, Nat.le_of_ble_eq_true rfl⟩) rfl hl.1 rfl (Nat.le_of_ble_eq_true rfl) dX10_plates_30 ⟨Nat.le_of_ble_eq_true rfl, Nat.le_of_ble_eq_true rfl⟩ (fun H locs hN => ?_)
      refine g_top (y := mPl F V (n % 4) (n / 4)) (by rw [hlo 2 (by decide)]; rfl) ?_
      refine lv_istore_n (lv' := [(3, .int (mPl F V (n % 4) (n / 4))), (0, .ref (ad 43)), (1, .int x1), (2, .int (nI n))]) hx hb dX10_plates_33 rfl hl (by decide) rfl (fun ls hl => ?_)
      refine lv_iload_n hx hb dX10_plates_34 rfl (lv_at hl 2 rfl) ?_
      refine lv_iload_n hx hb dX10_plates_35 rfl (lv_at hl 0 rfl) ?_
      refine lv_aload_n hx hb dX10_plates_36 rfl (lv_at hl 1 rfl) ?_
      refine gf_43_7 hx hb hts hin_10 hown hG hN hk_29 dX10_plates_37 ?_
      refine lv_iload_n hx hb dX10_plates_40 rfl (lv_at hl 3 rfl) ?_
      refine g_iald hx hb hG hN (i := 50) (n := 256) (j := n) (by decide) rfl (by decide) (by omega) rfl dX10_plates_41 ?_
      refine g_top (y := tF F (14 + n % 4) (n / 4)) (by rw [tF_50 (F := F1) (n := n), hs.1 _ (by omega), mFil_at (by omega), if_neg (by omega)]) ?_
      refine lv_icmp_ne (tgt := 49) hx hb dX10_plates_42 (by decide) (fun c4 => ?_) (fun c4 => ?_)
      · refine lv_iconst (v := 1) hx hb dX10_plates_49 (by decide) ?_
        refine lv_iadd hx hb dX10_plates_50 ?_
        refine lv_istore_n (lv' := [(1, .int (x1 + 1)), (3, .int (mPl F V (n % 4) (n / 4))), (0, .ref (ad 43)), (2, .int (nI n))]) hx hb dX10_plates_51 rfl hl (by decide) rfl (fun ls hl => ?_)
        refine lv_aload_n hx hb dX10_plates_52 rfl (lv_at hl 2 rfl) ?_
        refine gf_43_7 hx hb hts hin_10 hown hG hN hk_29 dX10_plates_53 ?_
        refine lv_iload_n hx hb dX10_plates_56 rfl (lv_at hl 3 rfl) ?_
        refine lv_iload_n hx hb dX10_plates_57 rfl (lv_at hl 1 rfl) ?_
        refine g_iast hx hb hG hN (i := 50) (n := 256) (j := n) (by decide) (fun _ => rfl) (by decide) (by omega) rfl dX10_plates_58 (fun H locs hN => ?_)
        refine lv_iinc (v := (nI (n + 1))) (lv' := [(2, .int (nI (n + 1))), (1, .int (x1 + 1)), (3, .int (mPl F V (n % 4) (n / 4))), (0, .ref (ad 43))]) hx hb dX10_plates_59 hl (k := 3) rfl (nI_1 _) (by decide) rfl (fun ls hl => ?_)
        refine lv_goto (tgt := 9) hx hb dX10_plates_62 (by decide) ?_
        exact ih9 (n + 1) (x1 + 1) (gw F1 50 n (mPl F V (n % 4) (n / 4))) _ _ ls (by omega) (by omega) (mFil_step50 hs) (by show x1 + 1 = mSum (mDf F V) n + mDf F V n; rw [← e1, mDf, if_neg c4]) hN (lv_sub hl [3, 1, 0] rfl)
      · refine lv_iconst (v := 0) hx hb dX10_plates_45 (by decide) ?_
        refine lv_goto (tgt := 50) hx hb dX10_plates_46 (by decide) ?_
        refine lv_iadd hx hb dX10_plates_50 ?_
        refine lv_istore_n (lv' := [(1, .int (x1 + 0)), (3, .int (mPl F V (n % 4) (n / 4))), (0, .ref (ad 43)), (2, .int (nI n))]) hx hb dX10_plates_51 rfl hl (by decide) rfl (fun ls hl => ?_)
        refine lv_aload_n hx hb dX10_plates_52 rfl (lv_at hl 2 rfl) ?_
        refine gf_43_7 hx hb hts hin_10 hown hG hN hk_29 dX10_plates_53 ?_
        refine lv_iload_n hx hb dX10_plates_56 rfl (lv_at hl 3 rfl) ?_
        refine lv_iload_n hx hb dX10_plates_57 rfl (lv_at hl 1 rfl) ?_
        refine g_iast hx hb hG hN (i := 50) (n := 256) (j := n) (by decide) (fun _ => rfl) (by decide) (by omega) rfl dX10_plates_58 (fun H locs hN => ?_)
        refine lv_iinc (v := (nI (n + 1))) (lv' := [(2, .int (nI (n + 1))), (1, .int (x1 + 0)), (3, .int (mPl F V (n % 4) (n / 4))), (0, .ref (ad 43))]) hx hb dX10_plates_59 hl (k := 3) rfl (nI_1 _) (by decide) rfl (fun ls hl => ?_)
        refine lv_goto (tgt := 9) hx hb dX10_plates_62 (by decide) ?_
        exact ih9 (n + 1) (x1 + 0) (gw F1 50 n (mPl F V (n % 4) (n / 4))) _ _ ls (by omega) (by omega) (mFil_step50 hs) (by show x1 + 0 = mSum (mDf F V) n + mDf F V n; rw [← e1, mDf, if_pos c4]) hN (lv_sub hl [3, 1, 0] rfl)
  exact L1 _ 0 0 F _ _ ls (rfl) (by omega) (sim.rf.v31) (rfl) hN (lv_sub hl [2, 1, 0] rfl)
set_option maxHeartbeats 4000000 in
set_option maxRecDepth 100000 in
theorem c_X10_density (l : Launch) {D : va_G} {ad : Nat → Nat} {cs : Nat → ClassId} {zd : Nat → Nat} {F V : gF} {o : gO} {sz : Nat} (u q : Nat) (hu : u < 4) (hq : q < 8) : Met l yX10_density wsX10_density ({ frames := 0, cells := 0, slots := 0, locals := 0 } : Room) (gPc D ad cs zd F V o sz [.ref (ad 43), .int (nI u), .int (nI q)]) (gQI D ad cs (cDens (tF F) u q) F V o sz) 0 0 (gX ad sz) := by
  refine g_met (Qc := fun z0 => gQI D ad cs (cDens (tF F) u q) F V o z0) (cc := cX10_density) (maxL := 5) (ret := (some .int)) (own := RX10) (by decide +kernel) rfl rfl (Nat.le_of_ble_eq_true rfl) ?_
  intro p0 e0 s0 m0 b0 k0 c0 hx hb hr hts hown hlocks hml hG hN ls hl
  have hl : lv_has ls 5 [(0, .ref (ad 43)), (1, .int (nI u)), (2, .int (nI q))] := hl
  have hin_10 : ∀ w ∈ wsX100, w ∈ wsX10_density := by decide +kernel
  have hk_44 := hts (.fieldLink RX10 44 "GravureHouseModel" "key" "[I") (by decide +kernel)
  have hk_29 := hts (.fieldLink RX10 29 "GravureHouseModel" "plate" "[I") (by decide +kernel)
  refine lv_iconst (v := 0) hx hb dX10_density_0 (by decide) ?_
  refine lv_istore_n (lv' := [(3, .int 0), (0, .ref (ad 43)), (1, .int (nI u)), (2, .int (nI q))]) hx hb dX10_density_1 rfl hl (by decide) rfl (fun ls hl => ?_)
  refine lv_iconst (v := 0) hx hb dX10_density_2 (by decide) ?_
  refine lv_istore (lv' := [(4, .int 0), (3, .int 0), (0, .ref (ad 43)), (1, .int (nI u)), (2, .int (nI q))]) hx hb dX10_density_3 hl (by decide) rfl (fun ls hl => ?_)
  have L1 : ∀ (d9_5 : Nat) (n : Nat) (x3 : Int32) (H : Heap) (locs : List Loc) (ls : Array Slot), 8 - n = d9_5 → (n ≤ 8) → (x3 = cSum (tF F) u q n) → gN D ad cs s0 F V o H locs → lv_has ls 5 [(0, .ref (ad 43)), (1, .int (nI u)), (2, .int (nI q)), (3, .int x3), (4, .int (nI n))] → W p0 l e0 ({ frames := 0, cells := 0, slots := 0, locals := 0 } : Room) s0 m0 ([.ref (ad 43), .int (nI u), .int (nI q)] : List Value).toArray b0 k0 c0 H locs 0 0 (MQ b0 (gQI D ad cs (cDens (tF F) u q) F V o s0.heap.size) ([.ref (ad 43), .int (nI u), .int (nI q)] : List Value).toArray s0 0 0 (gX ad s0.heap.size)) (F0 m0 5 ls []) := by
    intro d9_5
    induction d9_5 with
    | zero =>
      intro n x3 H locs ls hd_5 hn e3 hN hl
      refine lv_iload hx hb dX10_density_5 (lv_at hl 4 rfl) ?_
      refine lv_bipush (v := 8) hx hb dX10_density_7 (by decide) ?_
      refine g_cN_ge (a := n) (b := 8) (tgt := 37) hx hb dX10_density_9 (by decide) rfl rfl (by omega) (by omega) (fun c2 => ?_) (fun c2 => absurd c2 (by omega))
      refine lv_bipush (v := 50) hx hb dX10_density_37 (by decide) ?_
      refine lv_aload_n hx hb dX10_density_39 rfl (lv_at hl 0 rfl) ?_
      refine gf_43_12 hx hb hts hin_10 hown hG hN hk_44 dX10_density_40 ?_
      refine lv_bipush (v := 8) hx hb dX10_density_43 (by decide) ?_
      refine lv_iload_n hx hb dX10_density_45 rfl (lv_at hl 1 rfl) ?_
      refine g_mulN (a := 8) (b := u) hx hb rfl rfl dX10_density_46 ?_
      refine lv_iload_n hx hb dX10_density_47 rfl (lv_at hl 2 rfl) ?_
      refine g_addN (a := 8 * u) (b := q) hx hb rfl rfl dX10_density_48 ?_
      refine g_iald hx hb hG hN (i := 55) (n := 32) (j := (8 * u) + q) (by decide) rfl (by decide) (by omega) rfl dX10_density_49 ?_
      refine g_top (y := tF F (29 + u) q) ((tF_29 (by omega) (by omega)).symm) ?_
      refine lv_iadd hx hb dX10_density_50 ?_
      refine lv_iload_n hx hb dX10_density_51 rfl (lv_at hl 3 rfl) ?_
      refine lv_sipush (v := 400) hx hb dX10_density_52 (by decide) ?_
      refine lv_isub hx hb dX10_density_55 ?_
      refine lv_bipush (v := 8) hx hb dX10_density_56 (by decide) ?_
      refine lv_idiv hx hb dX10_density_58 (by decide) ?_
      refine lv_bipush (v := 10) hx hb dX10_density_59 (by decide) ?_
      refine lv_idiv hx hb dX10_density_61 (by decide) ?_
      refine lv_isub hx hb dX10_density_62 ?_
      exact g_ri hx hb hr hlocks hN (⟨by rw [e3, show n = 8 by omega, mDens]; rfl, rfl⟩) dX10_density_63
    | succ d9_5 ih5 =>
      intro n x3 H locs ls hd_5 hn e3 hN hl
      refine lv_iload hx hb dX10_density_5 (lv_at hl 4 rfl) ?_
      refine lv_bipush (v := 8) hx hb dX10_density_7 (by decide) ?_
      refine g_cN_ge (a := n) (b := 8) (tgt := 37) hx hb dX10_density_9 (by decide) rfl rfl (by omega) (by omega) (fun c3 => absurd c3 (by omega)) (fun c3 => ?_)
      refine lv_iload_n hx hb dX10_density_12 rfl (lv_at hl 3 rfl) ?_
      refine lv_aload_n hx hb dX10_density_13 rfl (lv_at hl 0 rfl) ?_
      refine gf_43_7 hx hb hts hin_10 hown hG hN hk_29 dX10_density_14 ?_
      refine lv_iconst (v := 4) hx hb dX10_density_17 (by decide) ?_
      refine lv_bipush (v := 8) hx hb dX10_density_18 (by decide) ?_
      refine lv_iload hx hb dX10_density_20 (lv_at hl 4 rfl) ?_
      refine g_mulN (a := 8) (b := n) hx hb rfl rfl dX10_density_22 ?_
      refine lv_iload_n hx hb dX10_density_23 rfl (lv_at hl 2 rfl) ?_
      refine g_addN (a := 8 * n) (b := q) hx hb rfl rfl dX10_density_24 ?_
      refine g_mulN (a := 4) (b := (8 * n) + q) hx hb rfl rfl dX10_density_25 ?_
      refine lv_iload_n hx hb dX10_density_26 rfl (lv_at hl 1 rfl) ?_
      refine g_addN (a := 4 * ((8 * n) + q)) (b := u) hx hb rfl rfl dX10_density_27 ?_
      refine g_iald hx hb hG hN (i := 50) (n := 256) (j := (4 * ((8 * n) + q)) + u) (by decide) rfl (by decide) (by omega) rfl dX10_density_28 ?_
      refine g_top (y := tF F (14 + u) (n * 8 + q)) (by rw [tF_14 (by omega), show 4 * (n * 8 + q) + u = 4 * (8 * n + q) + u by omega]) ?_
      refine lv_iadd hx hb dX10_density_29 ?_
      refine lv_istore_n (lv' := [(3, .int (x3 + (tF F (14 + u) (n * 8 + q)))), (0, .ref (ad 43)), (1, .int (nI u)), (2, .int (nI q)), (4, .int (nI n))]) hx hb dX10_density_30 rfl hl (by decide) rfl (fun ls hl => ?_)
      refine lv_iinc (v := (nI (n + 1))) (lv' := [(4, .int (nI (n + 1))), (3, .int (x3 + (tF F (14 + u) (n * 8 + q)))), (0, .ref (ad 43)), (1, .int (nI u)), (2, .int (nI q))]) hx hb dX10_density_31 hl (k := 4) rfl (nI_1 _) (by decide) rfl (fun ls hl => ?_)
      refine lv_goto (tgt := 5) hx hb dX10_density_34 (by decide) ?_
      exact ih5 (n + 1) (x3 + (tF F (14 + u) (n * 8 + q))) _ _ ls (by omega) (by omega) (by rw [e3]; rfl) hN (lv_sub hl [2, 3, 4, 1, 0] rfl)
  exact L1 _ 0 0 _ _ ls (rfl) (by omega) (rfl) hN (lv_sub hl [2, 3, 4, 1, 0] rfl)
set_option maxHeartbeats 4000000 in
set_option maxRecDepth 100000 in
theorem c_X10_isOff (l : Launch) {D : va_G} {ad : Nat → Nat} {cs : Nat → ClassId} {zd : Nat → Nat} {F V : gF} {o : gO} {sz : Nat} : Met l yX10_isOff wsX10_isOff ({ frames := 1, cells := 0, slots := 0, locals := 20 } : Room) (gPc D ad cs zd F V o sz [.ref (ad 43)]) (gQI D ad cs (if ¬ cRight (tF F) (tV F V 1 3) then 1 else 0) F V o sz) 0 0 (gX ad sz) := by
  refine g_met (Qc := fun z0 => gQI D ad cs (if ¬ cRight (tF F) (tV F V 1 3) then 1 else 0) F V o z0) (cc := cX10_isOff) (maxL := 3) (ret := (some .boolean)) (own := RX10) (by decide +kernel) rfl rfl (Nat.le_of_ble_eq_true rfl) ?_
  intro p0 e0 s0 m0 b0 k0 c0 hx hb hr hts hown hlocks hml hG hN ls hl
  have hl : lv_has ls 3 [(0, .ref (ad 43))] := hl
  have hin_10 : ∀ w ∈ wsX100, w ∈ wsX10_isOff := by decide +kernel
  have hk_32 := hts (.fieldLink RX10 32 "GravureHouseModel" "x" "[I") (by decide +kernel)
  have hk_19 := hts (.fieldLink RX10 19 "GravureHouseModel" "rule" "[I") (by decide +kernel)
  have hk_35 := hts (.fieldLink RX10 35 "GravureHouseModel" "y" "[I") (by decide +kernel)
  refine lv_iconst (v := 0) hx hb dX10_isOff_0 (by decide) ?_
  refine lv_istore_n (lv' := [(1, .int 0), (0, .ref (ad 43))]) hx hb dX10_isOff_1 rfl hl (by decide) rfl (fun ls hl => ?_)
  refine lv_iconst (v := 0) hx hb dX10_isOff_2 (by decide) ?_
  refine lv_istore_n (lv' := [(2, .int 0), (1, .int 0), (0, .ref (ad 43))]) hx hb dX10_isOff_3 rfl hl (by decide) rfl (fun ls hl => ?_)
  have L1 : ∀ (d9_4 : Nat) (n : Nat) (x1 : Int32) (H : Heap) (locs : List Loc) (ls : Array Slot), 4 - n = d9_4 → (n ≤ 4) → (x1 = if ¬ (∀ v, v < n → ¬ cOff (tF F) (tV F V 1 3) v) then 1 else 0) → gN D ad cs s0 F V o H locs → lv_has ls 3 [(0, .ref (ad 43)), (1, .int x1), (2, .int (nI n))] → W p0 l e0 ({ frames := 1, cells := 0, slots := 0, locals := 20 } : Room) s0 m0 ([.ref (ad 43)] : List Value).toArray b0 k0 c0 H locs 0 0 (MQ b0 (gQI D ad cs (if ¬ cRight (tF F) (tV F V 1 3) then 1 else 0) F V o s0.heap.size) ([.ref (ad 43)] : List Value).toArray s0 0 0 (gX ad s0.heap.size)) (F0 m0 4 ls []) := by
    intro d9_4
    induction d9_4 with
    | zero =>
      intro n x1 H locs ls hd_4 hn e1 hN hl
      refine lv_iload_n hx hb dX10_isOff_4 rfl (lv_at hl 2 rfl) ?_
      refine lv_iconst (v := 4) hx hb dX10_isOff_5 (by decide) ?_
      refine g_cN_ge (a := n) (b := 4) (tgt := 77) hx hb dX10_isOff_6 (by decide) rfl rfl (by omega) (by omega) (fun c2 => ?_) (fun c2 => absurd c2 (by omega))
      refine lv_iload_n hx hb dX10_isOff_77 rfl (lv_at hl 1 rfl) ?_
      exact g_rz hx hb hr hlocks (by rw [e1]; exact g_nz _) hN (⟨by rw [e1, show n = 4 by omega], rfl⟩) dX10_isOff_78
    | succ d9_4 ih4 =>
      intro n x1 H locs ls hd_4 hn e1 hN hl
      refine lv_iload_n hx hb dX10_isOff_4 rfl (lv_at hl 2 rfl) ?_
      refine lv_iconst (v := 4) hx hb dX10_isOff_5 (by decide) ?_
      refine g_cN_ge (a := n) (b := 4) (tgt := 77) hx hb dX10_isOff_6 (by decide) rfl rfl (by omega) (by omega) (fun c3 => absurd c3 (by omega)) (fun c3 => ?_)
      refine lv_iload_n hx hb dX10_isOff_9 rfl (lv_at hl 1 rfl) ?_
      refine g_top (y := (if ¬ (∀ v, v < n → ¬ cOff (tF F) (tV F V 1 3) v) then 1 else 0)) (e1) ?_
      refine g_ifb_ne (¬ (∀ v, v < n → ¬ cOff (tF F) (tV F V 1 3) v)) (tgt := 65) hx hb dX10_isOff_10 (by decide) rfl (fun c4 => ?_) (fun c4 => ?_)
      · refine lv_iconst (v := 1) hx hb dX10_isOff_65 (by decide) ?_
        refine lv_goto (tgt := 70) hx hb dX10_isOff_66 (by decide) ?_
        refine lv_istore_n (lv' := [(1, .int 1), (0, .ref (ad 43)), (2, .int (nI n))]) hx hb dX10_isOff_70 rfl hl (by decide) rfl (fun ls hl => ?_)
        refine lv_iinc (v := (nI (n + 1))) (lv' := [(2, .int (nI (n + 1))), (1, .int 1), (0, .ref (ad 43))]) hx hb dX10_isOff_71 hl (k := 2) rfl (nI_1 _) (by decide) rfl (fun ls hl => ?_)
        refine lv_goto (tgt := 4) hx hb dX10_isOff_74 (by decide) ?_
        exact ih4 (n + 1) 1 _ _ ls (by omega) (by omega) ((if_pos (fun z => c4 (fun v hv => z v (by omega)))).symm) hN (lv_sub hl [2, 1, 0] rfl)
      · refine lv_aload_n hx hb dX10_isOff_13 rfl (lv_at hl 0 rfl) ?_
        refine gf_43_8 hx hb hts hin_10 hown hG hN hk_32 dX10_isOff_14 ?_
        refine lv_iload_n hx hb dX10_isOff_17 rfl (lv_at hl 2 rfl) ?_
        refine g_iald hx hb hG hN (i := 51) (n := 4) (j := n) (by decide) rfl (by decide) (by omega) rfl dX10_isOff_18 ?_
        refine lv_aload_n hx hb dX10_isOff_19 rfl (lv_at hl 0 rfl) ?_
        refine gf_43_8 hx hb hts hin_10 hown hG hN hk_32 dX10_isOff_20 ?_
        refine lv_iconst (v := 3) hx hb dX10_isOff_23 (by decide) ?_
        refine g_iald hx hb hG hN (i := 51) (n := 4) (j := 3) (by decide) rfl (by decide) (by omega) rfl dX10_isOff_24 ?_
        refine lv_isub hx hb dX10_isOff_25 ?_
        refine g_SI (As := [.int ((F 51 n) - (F 51 3))]) (rest := []) ⟨hx, hb, hml, hown, hts⟩ hG hN (c_X10_size l ((F 51 n) - (F 51 3))) (va_cwS 1 hts gX10_isOff_X10_size rfl rfl rfl (by decide +kernel) ⟨Nat.le_of_ble_eq_true rfl, Nat.le_of_ble_eq_true rfl⟩) rfl hl.1 rfl (Nat.le_of_ble_eq_true rfl) dX10_isOff_26 ⟨Nat.le_of_ble_eq_true rfl, Nat.le_of_ble_eq_true rfl⟩ (fun H locs hN => ?_)
        refine lv_aload_n hx hb dX10_isOff_29 rfl (lv_at hl 0 rfl) ?_
        refine gf_43_3 hx hb hts hin_10 hown hG hN hk_19 dX10_isOff_30 ?_
        refine lv_bipush (v := 7) hx hb dX10_isOff_33 (by decide) ?_
        refine g_iald hx hb hG hN (i := 47) (n := 9) (j := 7) (by decide) rfl (by decide) (by omega) rfl dX10_isOff_35 ?_
        refine lv_icmp_gt (tgt := 65) hx hb dX10_isOff_36 (by decide) (fun c5 => ?_) (fun c5 => ?_)
        · refine lv_iconst (v := 1) hx hb dX10_isOff_65 (by decide) ?_
          refine lv_goto (tgt := 70) hx hb dX10_isOff_66 (by decide) ?_
          refine lv_istore_n (lv' := [(1, .int 1), (0, .ref (ad 43)), (2, .int (nI n))]) hx hb dX10_isOff_70 rfl hl (by decide) rfl (fun ls hl => ?_)
          refine lv_iinc (v := (nI (n + 1))) (lv' := [(2, .int (nI (n + 1))), (1, .int 1), (0, .ref (ad 43))]) hx hb dX10_isOff_71 hl (k := 2) rfl (nI_1 _) (by decide) rfl (fun ls hl => ?_)
          refine lv_goto (tgt := 4) hx hb dX10_isOff_74 (by decide) ?_
          exact ih4 (n + 1) 1 _ _ ls (by omega) (by omega) ((if_pos (fun z => z n (by omega) (Or.inl c5))).symm) hN (lv_sub hl [2, 1, 0] rfl)
        · refine lv_aload_n hx hb dX10_isOff_39 rfl (lv_at hl 0 rfl) ?_
          refine gf_43_9 hx hb hts hin_10 hown hG hN hk_35 dX10_isOff_40 ?_
          refine lv_iload_n hx hb dX10_isOff_43 rfl (lv_at hl 2 rfl) ?_
          refine g_iald hx hb hG hN (i := 52) (n := 4) (j := n) (by decide) rfl (by decide) (by omega) rfl dX10_isOff_44 ?_
          refine lv_aload_n hx hb dX10_isOff_45 rfl (lv_at hl 0 rfl) ?_
          refine gf_43_9 hx hb hts hin_10 hown hG hN hk_35 dX10_isOff_46 ?_
          refine lv_iconst (v := 3) hx hb dX10_isOff_49 (by decide) ?_
          refine g_iald hx hb hG hN (i := 52) (n := 4) (j := 3) (by decide) rfl (by decide) (by omega) rfl dX10_isOff_50 ?_
          refine lv_isub hx hb dX10_isOff_51 ?_
          refine g_SI (As := [.int ((F 52 n) - (F 52 3))]) (rest := []) ⟨hx, hb, hml, hown, hts⟩ hG hN (c_X10_size l ((F 52 n) - (F 52 3))) (va_cwS 1 hts gX10_isOff_X10_size rfl rfl rfl (by decide +kernel) ⟨Nat.le_of_ble_eq_true rfl, Nat.le_of_ble_eq_true rfl⟩) rfl hl.1 rfl (Nat.le_of_ble_eq_true rfl) dX10_isOff_52 ⟨Nat.le_of_ble_eq_true rfl, Nat.le_of_ble_eq_true rfl⟩ (fun H locs hN => ?_)
          refine lv_aload_n hx hb dX10_isOff_55 rfl (lv_at hl 0 rfl) ?_
          refine gf_43_3 hx hb hts hin_10 hown hG hN hk_19 dX10_isOff_56 ?_
          refine lv_bipush (v := 7) hx hb dX10_isOff_59 (by decide) ?_
          refine g_iald hx hb hG hN (i := 47) (n := 9) (j := 7) (by decide) rfl (by decide) (by omega) rfl dX10_isOff_61 ?_
          refine lv_icmp_le (tgt := 69) hx hb dX10_isOff_62 (by decide) (fun c6 => ?_) (fun c6 => ?_)
          · refine lv_iconst (v := 0) hx hb dX10_isOff_69 (by decide) ?_
            refine lv_istore_n (lv' := [(1, .int 0), (0, .ref (ad 43)), (2, .int (nI n))]) hx hb dX10_isOff_70 rfl hl (by decide) rfl (fun ls hl => ?_)
            refine lv_iinc (v := (nI (n + 1))) (lv' := [(2, .int (nI (n + 1))), (1, .int 0), (0, .ref (ad 43))]) hx hb dX10_isOff_71 hl (k := 2) rfl (nI_1 _) (by decide) rfl (fun ls hl => ?_)
            refine lv_goto (tgt := 4) hx hb dX10_isOff_74 (by decide) ?_
            exact ih4 (n + 1) 0 _ _ ls (by omega) (by omega) ((if_neg (fun z => z (lt_s (Classical.not_not.mp c4) (fun q => q.elim c5 (Int32.not_lt.mpr c6))))).symm) hN (lv_sub hl [2, 1, 0] rfl)
          · refine lv_iconst (v := 1) hx hb dX10_isOff_65 (by decide) ?_
            refine lv_goto (tgt := 70) hx hb dX10_isOff_66 (by decide) ?_
            refine lv_istore_n (lv' := [(1, .int 1), (0, .ref (ad 43)), (2, .int (nI n))]) hx hb dX10_isOff_70 rfl hl (by decide) rfl (fun ls hl => ?_)
            refine lv_iinc (v := (nI (n + 1))) (lv' := [(2, .int (nI (n + 1))), (1, .int 1), (0, .ref (ad 43))]) hx hb dX10_isOff_71 hl (k := 2) rfl (nI_1 _) (by decide) rfl (fun ls hl => ?_)
            refine lv_goto (tgt := 4) hx hb dX10_isOff_74 (by decide) ?_
            exact ih4 (n + 1) 1 _ _ ls (by omega) (by omega) ((if_pos (fun z => z n (by omega) (Or.inr (Int32.not_le.mp c6)))).symm) hN (lv_sub hl [2, 1, 0] rfl)
  exact L1 _ 0 0 _ _ ls (rfl) (by omega) ((if_neg (fun z => z lt_0)).symm) hN (lv_sub hl [2, 1, 0] rfl)
set_option maxHeartbeats 4000000 in
set_option maxRecDepth 100000 in
theorem c_X10_isUneven (l : Launch) {D : va_G} {ad : Nat → Nat} {cs : Nat → ClassId} {zd : Nat → Nat} {F V : gF} {o : gO} {sz : Nat} : Met l yX10_isUneven wsX10_isUneven ({ frames := 1, cells := 0, slots := 0, locals := 24 } : Room) (gPc D ad cs zd F V o sz [.ref (ad 43)]) (gQI D ad cs (if ¬ cEven (tF F) then 1 else 0) F V o sz) 0 0 (gX ad sz) := by
  refine g_met (Qc := fun z0 => gQI D ad cs (if ¬ cEven (tF F) then 1 else 0) F V o z0) (cc := cX10_isUneven) (maxL := 3) (ret := (some .boolean)) (own := RX10) (by decide +kernel) rfl rfl (Nat.le_of_ble_eq_true rfl) ?_
  intro p0 e0 s0 m0 b0 k0 c0 hx hb hr hts hown hlocks hml hG hN ls hl
  have hl : lv_has ls 3 [(0, .ref (ad 43))] := hl
  refine lv_iconst (v := 0) hx hb dX10_isUneven_0 (by decide) ?_
  refine lv_istore_n (lv' := [(1, .int 0), (0, .ref (ad 43))]) hx hb dX10_isUneven_1 rfl hl (by decide) rfl (fun ls hl => ?_)
  refine lv_iconst (v := 0) hx hb dX10_isUneven_2 (by decide) ?_
  refine lv_istore_n (lv' := [(2, .int 0), (1, .int 0), (0, .ref (ad 43))]) hx hb dX10_isUneven_3 rfl hl (by decide) rfl (fun ls hl => ?_)
  have L1 : ∀ (d9_4 : Nat) (n : Nat) (x1 : Int32) (H : Heap) (locs : List Loc) (ls : Array Slot), 32 - n = d9_4 → (n ≤ 32) → (x1 = if ¬ (∀ v, v < n → ¬ cBad (tF F) (v / 8) (v % 8)) then 1 else 0) → gN D ad cs s0 F V o H locs → lv_has ls 3 [(0, .ref (ad 43)), (1, .int x1), (2, .int (nI n))] → W p0 l e0 ({ frames := 1, cells := 0, slots := 0, locals := 24 } : Room) s0 m0 ([.ref (ad 43)] : List Value).toArray b0 k0 c0 H locs 0 0 (MQ b0 (gQI D ad cs (if ¬ cEven (tF F) then 1 else 0) F V o s0.heap.size) ([.ref (ad 43)] : List Value).toArray s0 0 0 (gX ad s0.heap.size)) (F0 m0 4 ls []) := by
    intro d9_4
    induction d9_4 with
    | zero =>
      intro n x1 H locs ls hd_4 hn e1 hN hl
      refine lv_iload_n hx hb dX10_isUneven_4 rfl (lv_at hl 2 rfl) ?_
      refine lv_bipush (v := 32) hx hb dX10_isUneven_5 (by decide) ?_
      refine g_cN_ge (a := n) (b := 32) (tgt := 48) hx hb dX10_isUneven_7 (by decide) rfl rfl (by omega) (by omega) (fun c2 => ?_) (fun c2 => absurd c2 (by omega))
      refine lv_iload_n hx hb dX10_isUneven_48 rfl (lv_at hl 1 rfl) ?_
      exact g_rz hx hb hr hlocks (by rw [e1]; exact g_nz _) hN (⟨by rw [e1, show n = 32 by omega]; simp only [mEven], rfl⟩) dX10_isUneven_49
    | succ d9_4 ih4 =>
      intro n x1 H locs ls hd_4 hn e1 hN hl
      refine lv_iload_n hx hb dX10_isUneven_4 rfl (lv_at hl 2 rfl) ?_
      refine lv_bipush (v := 32) hx hb dX10_isUneven_5 (by decide) ?_
      refine g_cN_ge (a := n) (b := 32) (tgt := 48) hx hb dX10_isUneven_7 (by decide) rfl rfl (by omega) (by omega) (fun c3 => absurd c3 (by omega)) (fun c3 => ?_)
      refine lv_iload_n hx hb dX10_isUneven_10 rfl (lv_at hl 1 rfl) ?_
      refine g_top (y := (if ¬ (∀ v, v < n → ¬ cBad (tF F) (v / 8) (v % 8)) then 1 else 0)) (e1) ?_
      refine g_ifb_ne (¬ (∀ v, v < n → ¬ cBad (tF F) (v / 8) (v % 8))) (tgt := 36) hx hb dX10_isUneven_11 (by decide) rfl (fun c4 => ?_) (fun c4 => ?_)
      · refine lv_iconst (v := 1) hx hb dX10_isUneven_36 (by decide) ?_
        refine lv_goto (tgt := 41) hx hb dX10_isUneven_37 (by decide) ?_
        refine lv_istore_n (lv' := [(1, .int 1), (0, .ref (ad 43)), (2, .int (nI n))]) hx hb dX10_isUneven_41 rfl hl (by decide) rfl (fun ls hl => ?_)
        refine lv_iinc (v := (nI (n + 1))) (lv' := [(2, .int (nI (n + 1))), (1, .int 1), (0, .ref (ad 43))]) hx hb dX10_isUneven_42 hl (k := 2) rfl (nI_1 _) (by decide) rfl (fun ls hl => ?_)
        refine lv_goto (tgt := 4) hx hb dX10_isUneven_45 (by decide) ?_
        exact ih4 (n + 1) 1 _ _ ls (by omega) (by omega) ((if_pos (fun z => c4 (fun v hv => z v (by omega)))).symm) hN (lv_sub hl [2, 1, 0] rfl)
      · refine lv_aload_n hx hb dX10_isUneven_14 rfl (lv_at hl 0 rfl) ?_
        refine lv_iload_n hx hb dX10_isUneven_15 rfl (lv_at hl 2 rfl) ?_
        refine lv_bipush (v := 8) hx hb dX10_isUneven_16 (by decide) ?_
        refine g_divN (a := n) (b := 8) hx hb rfl rfl (by omega) (by omega) (by omega) dX10_isUneven_18 ?_
        refine lv_iload_n hx hb dX10_isUneven_19 rfl (lv_at hl 2 rfl) ?_
        refine lv_bipush (v := 8) hx hb dX10_isUneven_20 (by decide) ?_
        refine g_remN (a := n) (b := 8) hx hb rfl rfl (by omega) (by omega) (by omega) dX10_isUneven_22 ?_
        refine g_VI (As := [.int (nI (n / 8)), .int (nI (n % 8))]) (rest := []) ⟨hx, hb, hml, hown, hts⟩ hG hN (i := 43) (by decide) rfl rfl (c_X10_density l (n / 8) (n % 8) (by omega) (by omega)) (cwV 2 hts gX10_isUneven_X10_density rfl rfl rfl (by decide +kernel) ⟨Nat.le_of_ble_eq_true rfl, Nat.le_of_ble_eq_true rfl⟩) rfl hl.1 rfl (Nat.le_of_ble_eq_true rfl) dX10_isUneven_23 ⟨Nat.le_of_ble_eq_true rfl, Nat.le_of_ble_eq_true rfl⟩ (fun H locs hN => ?_)
        refine lv_bipush (v := 90) hx hb dX10_isUneven_26 (by decide) ?_
        refine lv_bipush (v := 110) hx hb dX10_isUneven_28 (by decide) ?_
        refine g_SI (As := [.int (cDens (tF F) (n / 8) (n % 8)), .int 90, .int 110]) (rest := []) ⟨hx, hb, hml, hown, hts⟩ hG hN (c_X10_isIn l (cDens (tF F) (n / 8) (n % 8)) 90 110) (va_cwS 3 hts gX10_isUneven_X10_isIn rfl rfl rfl (by decide +kernel) ⟨Nat.le_of_ble_eq_true rfl, Nat.le_of_ble_eq_true rfl⟩) rfl hl.1 rfl (Nat.le_of_ble_eq_true rfl) dX10_isUneven_30 ⟨Nat.le_of_ble_eq_true rfl, Nat.le_of_ble_eq_true rfl⟩ (fun H locs hN => ?_)
        refine g_ifb_ne (gRng (cDens (tF F) (n / 8) (n % 8)) 90 110 = true) (tgt := 40) hx hb dX10_isUneven_33 (by decide) rfl (fun c5 => ?_) (fun c5 => ?_)
        · refine lv_iconst (v := 0) hx hb dX10_isUneven_40 (by decide) ?_
          refine lv_istore_n (lv' := [(1, .int 0), (0, .ref (ad 43)), (2, .int (nI n))]) hx hb dX10_isUneven_41 rfl hl (by decide) rfl (fun ls hl => ?_)
          refine lv_iinc (v := (nI (n + 1))) (lv' := [(2, .int (nI (n + 1))), (1, .int 0), (0, .ref (ad 43))]) hx hb dX10_isUneven_42 hl (k := 2) rfl (nI_1 _) (by decide) rfl (fun ls hl => ?_)
          refine lv_goto (tgt := 4) hx hb dX10_isUneven_45 (by decide) ?_
          exact ih4 (n + 1) 0 _ _ ls (by omega) (by omega) ((if_neg (fun z => z (lt_s (Classical.not_not.mp c4) (mBad_f c5)))).symm) hN (lv_sub hl [2, 1, 0] rfl)
        · refine lv_iconst (v := 1) hx hb dX10_isUneven_36 (by decide) ?_
          refine lv_goto (tgt := 41) hx hb dX10_isUneven_37 (by decide) ?_
          refine lv_istore_n (lv' := [(1, .int 1), (0, .ref (ad 43)), (2, .int (nI n))]) hx hb dX10_isUneven_41 rfl hl (by decide) rfl (fun ls hl => ?_)
          refine lv_iinc (v := (nI (n + 1))) (lv' := [(2, .int (nI (n + 1))), (1, .int 1), (0, .ref (ad 43))]) hx hb dX10_isUneven_42 hl (k := 2) rfl (nI_1 _) (by decide) rfl (fun ls hl => ?_)
          refine lv_goto (tgt := 4) hx hb dX10_isUneven_45 (by decide) ?_
          exact ih4 (n + 1) 1 _ _ ls (by omega) (by omega) ((if_pos (fun z => z n (by omega) (mBad_t c5))).symm) hN (lv_sub hl [2, 1, 0] rfl)
  exact L1 _ 0 0 _ _ ls (rfl) (by omega) ((if_neg (fun z => z lt_0)).symm) hN (lv_sub hl [2, 1, 0] rfl)
set_option maxHeartbeats 4000000 in
set_option maxRecDepth 100000 in
theorem c_X10_looks (l : Launch) {D : va_G} {ad : Nat → Nat} {cs : Nat → ClassId} {zd : Nat → Nat} {F V : gF} {o : gO} {sz : Nat} : Met l yX10_looks wsX10_looks ({ frames := 2, cells := 0, slots := 0, locals := 46 } : Room) (gPc D ad cs zd F V o sz [.ref (ad 43)]) (gQI D ad cs (if cJudge (tV F V) (cRight (tF F) (tV F V 1 3)) (cEven (tF F)) then 1 else 0) F (mLkV F V) o sz) 0 0 (gX ad sz) := by
  refine g_met (Qc := fun z0 => gQI D ad cs (if cJudge (tV F V) (cRight (tF F) (tV F V 1 3)) (cEven (tF F)) then 1 else 0) F (mLkV F V) o z0) (cc := cX10_looks) (maxL := 3) (ret := (some .boolean)) (own := RX10) (by decide +kernel) rfl rfl (Nat.le_of_ble_eq_true rfl) ?_
  intro p0 e0 s0 m0 b0 k0 c0 hx hb hr hts hown hlocks hml hG hN ls hl
  have hl : lv_has ls 3 [(0, .ref (ad 43))] := hl
  have hin_10 : ∀ w ∈ wsX100, w ∈ wsX10_looks := by decide +kernel
  have hk_157 := hts (.fieldLink RX10 157 "GravureHouseModel" "leadIn" "I") (by decide +kernel)
  have hk_181 := hts (.fieldLink RX10 181 "GravureHouseModel" "byRegister" "I") (by decide +kernel)
  have hk_184 := hts (.fieldLink RX10 184 "GravureHouseModel" "byDensity" "I") (by decide +kernel)
  refine lv_aload_n hx hb dX10_looks_0 rfl (lv_at hl 0 rfl) ?_
  refine gf_43_18 hx hb hts hin_10 hown hG hN hk_157 dX10_looks_1 ?_
  refine lv_if_le (tgt := 19) hx hb dX10_looks_4 (by decide) (fun c1 => ?_) (fun c1 => ?_)
  · refine lv_aload_n hx hb dX10_looks_19 rfl (lv_at hl 0 rfl) ?_
    refine g_VI (As := []) (rest := []) ⟨hx, hb, hml, hown, hts⟩ hG hN (i := 43) (by decide) rfl rfl (c_X10_isOff l ) (cwV 0 hts gX10_looks_X10_isOff rfl rfl rfl (by decide +kernel) ⟨Nat.le_of_ble_eq_true rfl, Nat.le_of_ble_eq_true rfl⟩) rfl hl.1 rfl (Nat.le_of_ble_eq_true rfl) dX10_looks_20 ⟨Nat.le_of_ble_eq_true rfl, Nat.le_of_ble_eq_true rfl⟩ (fun H locs hN => ?_)
    refine lv_istore_n (lv' := [(1, .int (if ¬ cRight (tF F) (tV F V 1 3) then 1 else 0)), (0, .ref (ad 43))]) hx hb dX10_looks_23 rfl hl (by decide) rfl (fun ls hl => ?_)
    refine lv_iload_n hx hb dX10_looks_24 rfl (lv_at hl 0 rfl) ?_
    refine g_ifb_ne (¬ cRight (tF F) (tV F V 1 3)) (tgt := 39) hx hb dX10_looks_25 (by decide) rfl (fun c2 => ?_) (fun c2 => ?_)
    · refine lv_iconst (v := 0) hx hb dX10_looks_39 (by decide) ?_
      refine lv_istore_n (lv' := [(2, .int 0), (1, .int (if ¬ cRight (tF F) (tV F V 1 3) then 1 else 0)), (0, .ref (ad 43))]) hx hb dX10_looks_40 rfl hl (by decide) rfl (fun ls hl => ?_)
      refine lv_aload_n hx hb dX10_looks_41 rfl (lv_at hl 2 rfl) ?_
      refine lv_dup hx hb dX10_looks_42 rfl ?_
      refine gf_43_27 hx hb hts hin_10 hown hG hN hk_181 dX10_looks_43 ?_
      refine lv_iload_n hx hb dX10_looks_46 rfl (lv_at hl 1 rfl) ?_
      refine g_ifb_eq (¬ cRight (tF F) (tV F V 1 3)) (tgt := 54) hx hb dX10_looks_47 (by decide) rfl (fun c3 => absurd c3 (fun z => z c2)) (fun c3 => ?_)
      refine lv_iconst (v := 1) hx hb dX10_looks_50 (by decide) ?_
      refine lv_goto (tgt := 55) hx hb dX10_looks_51 (by decide) ?_
      refine lv_iadd hx hb dX10_looks_55 ?_
      refine gp_43_27 hx hb hts hin_10 hown hG hN hk_181 dX10_looks_56 (fun H locs hN => ?_)
      refine lv_aload_n hx hb dX10_looks_59 rfl (lv_at hl 2 rfl) ?_
      refine lv_dup hx hb dX10_looks_60 rfl ?_
      refine gf_43_28 hx hb hts hin_10 hown hG hN hk_184 dX10_looks_61 ?_
      refine g_top (y := (V 43 28)) rfl ?_
      refine lv_iload_n hx hb dX10_looks_64 rfl (lv_at hl 0 rfl) ?_
      refine lv_if_eq (tgt := 72) hx hb dX10_looks_65 (by decide) (fun _ => ?_) (fun c4 => False.elim (by revert c4; decide))
      refine lv_iconst (v := 0) hx hb dX10_looks_72 (by decide) ?_
      refine lv_iadd hx hb dX10_looks_73 ?_
      refine gp_43_28 hx hb hts hin_10 hown hG hN hk_184 dX10_looks_74 (fun H locs hN => ?_)
      refine lv_iload_n hx hb dX10_looks_77 rfl (lv_at hl 1 rfl) ?_
      refine g_ifb_ne (¬ cRight (tF F) (tV F V 1 3)) (tgt := 89) hx hb dX10_looks_78 (by decide) rfl (fun c5 => ?_) (fun c5 => absurd c5 (fun z => z c2))
      refine lv_iconst (v := 0) hx hb dX10_looks_89 (by decide) ?_
      exact g_rz hx hb hr hlocks (by decide) hN (⟨by simp [cJudge, tV_27_1, c1, Int32.not_lt.mpr c1, c2, c3, c5], by simp [mLkV, c1, Int32.not_lt.mpr c1, c2, c3, c5]⟩) dX10_looks_90
    · refine lv_aload_n hx hb dX10_looks_28 rfl (lv_at hl 1 rfl) ?_
      refine g_VI (As := []) (rest := []) ⟨hx, hb, hml, hown, hts⟩ hG hN (i := 43) (by decide) rfl rfl (c_X10_isUneven l ) (cwV 0 hts gX10_looks_X10_isUneven rfl rfl rfl (by decide +kernel) ⟨Nat.le_of_ble_eq_true rfl, Nat.le_of_ble_eq_true rfl⟩) rfl hl.1 rfl (Nat.le_of_ble_eq_true rfl) dX10_looks_29 ⟨Nat.le_of_ble_eq_true rfl, Nat.le_of_ble_eq_true rfl⟩ (fun H locs hN => ?_)
      refine g_ifb_eq (¬ cEven (tF F)) (tgt := 39) hx hb dX10_looks_32 (by decide) rfl (fun c6 => ?_) (fun c6 => ?_)
      · refine lv_iconst (v := 0) hx hb dX10_looks_39 (by decide) ?_
        refine lv_istore_n (lv' := [(2, .int 0), (1, .int (if ¬ cRight (tF F) (tV F V 1 3) then 1 else 0)), (0, .ref (ad 43))]) hx hb dX10_looks_40 rfl hl (by decide) rfl (fun ls hl => ?_)
        refine lv_aload_n hx hb dX10_looks_41 rfl (lv_at hl 2 rfl) ?_
        refine lv_dup hx hb dX10_looks_42 rfl ?_
        refine gf_43_27 hx hb hts hin_10 hown hG hN hk_181 dX10_looks_43 ?_
        refine lv_iload_n hx hb dX10_looks_46 rfl (lv_at hl 1 rfl) ?_
        refine g_ifb_eq (¬ cRight (tF F) (tV F V 1 3)) (tgt := 54) hx hb dX10_looks_47 (by decide) rfl (fun c7 => ?_) (fun c7 => absurd c7 (c2))
        refine lv_iconst (v := 0) hx hb dX10_looks_54 (by decide) ?_
        refine lv_iadd hx hb dX10_looks_55 ?_
        refine gp_43_27 hx hb hts hin_10 hown hG hN hk_181 dX10_looks_56 (fun H locs hN => ?_)
        refine lv_aload_n hx hb dX10_looks_59 rfl (lv_at hl 2 rfl) ?_
        refine lv_dup hx hb dX10_looks_60 rfl ?_
        refine gf_43_28 hx hb hts hin_10 hown hG hN hk_184 dX10_looks_61 ?_
        refine g_top (y := (V 43 28)) rfl ?_
        refine lv_iload_n hx hb dX10_looks_64 rfl (lv_at hl 0 rfl) ?_
        refine lv_if_eq (tgt := 72) hx hb dX10_looks_65 (by decide) (fun _ => ?_) (fun c8 => False.elim (by revert c8; decide))
        refine lv_iconst (v := 0) hx hb dX10_looks_72 (by decide) ?_
        refine lv_iadd hx hb dX10_looks_73 ?_
        refine gp_43_28 hx hb hts hin_10 hown hG hN hk_184 dX10_looks_74 (fun H locs hN => ?_)
        refine lv_iload_n hx hb dX10_looks_77 rfl (lv_at hl 1 rfl) ?_
        refine g_ifb_ne (¬ cRight (tF F) (tV F V 1 3)) (tgt := 89) hx hb dX10_looks_78 (by decide) rfl (fun c9 => absurd c9 (c2)) (fun c9 => ?_)
        refine lv_iload_n hx hb dX10_looks_81 rfl (lv_at hl 0 rfl) ?_
        refine lv_if_ne (tgt := 89) hx hb dX10_looks_82 (by decide) (fun c10 => False.elim (by revert c10; decide)) (fun _ => ?_)
        refine lv_iconst (v := 1) hx hb dX10_looks_85 (by decide) ?_
        refine lv_goto (tgt := 90) hx hb dX10_looks_86 (by decide) ?_
        exact g_rz hx hb hr hlocks (by decide) hN (⟨by simp [cJudge, tV_27_1, c1, Int32.not_lt.mpr c1, c2, c6, c7, c9], by simp [mLkV, c1, Int32.not_lt.mpr c1, c2, c6, c7, c9]⟩) dX10_looks_90
      · refine lv_iconst (v := 1) hx hb dX10_looks_35 (by decide) ?_
        refine lv_goto (tgt := 40) hx hb dX10_looks_36 (by decide) ?_
        refine lv_istore_n (lv' := [(2, .int 1), (1, .int (if ¬ cRight (tF F) (tV F V 1 3) then 1 else 0)), (0, .ref (ad 43))]) hx hb dX10_looks_40 rfl hl (by decide) rfl (fun ls hl => ?_)
        refine lv_aload_n hx hb dX10_looks_41 rfl (lv_at hl 2 rfl) ?_
        refine lv_dup hx hb dX10_looks_42 rfl ?_
        refine gf_43_27 hx hb hts hin_10 hown hG hN hk_181 dX10_looks_43 ?_
        refine lv_iload_n hx hb dX10_looks_46 rfl (lv_at hl 1 rfl) ?_
        refine g_ifb_eq (¬ cRight (tF F) (tV F V 1 3)) (tgt := 54) hx hb dX10_looks_47 (by decide) rfl (fun c11 => ?_) (fun c11 => absurd c11 (c2))
        refine lv_iconst (v := 0) hx hb dX10_looks_54 (by decide) ?_
        refine lv_iadd hx hb dX10_looks_55 ?_
        refine gp_43_27 hx hb hts hin_10 hown hG hN hk_181 dX10_looks_56 (fun H locs hN => ?_)
        refine lv_aload_n hx hb dX10_looks_59 rfl (lv_at hl 2 rfl) ?_
        refine lv_dup hx hb dX10_looks_60 rfl ?_
        refine gf_43_28 hx hb hts hin_10 hown hG hN hk_184 dX10_looks_61 ?_
        refine g_top (y := (V 43 28)) rfl ?_
        refine lv_iload_n hx hb dX10_looks_64 rfl (lv_at hl 0 rfl) ?_
        refine lv_if_eq (tgt := 72) hx hb dX10_looks_65 (by decide) (fun c12 => False.elim (by revert c12; decide)) (fun _ => ?_)
        refine lv_iconst (v := 1) hx hb dX10_looks_68 (by decide) ?_
        refine lv_goto (tgt := 73) hx hb dX10_looks_69 (by decide) ?_
        refine lv_iadd hx hb dX10_looks_73 ?_
        refine gp_43_28 hx hb hts hin_10 hown hG hN hk_184 dX10_looks_74 (fun H locs hN => ?_)
        refine lv_iload_n hx hb dX10_looks_77 rfl (lv_at hl 1 rfl) ?_
        refine g_ifb_ne (¬ cRight (tF F) (tV F V 1 3)) (tgt := 89) hx hb dX10_looks_78 (by decide) rfl (fun c13 => absurd c13 (c2)) (fun c13 => ?_)
        refine lv_iload_n hx hb dX10_looks_81 rfl (lv_at hl 0 rfl) ?_
        refine lv_if_ne (tgt := 89) hx hb dX10_looks_82 (by decide) (fun _ => ?_) (fun c14 => False.elim (by revert c14; decide))
        refine lv_iconst (v := 0) hx hb dX10_looks_89 (by decide) ?_
        exact g_rz hx hb hr hlocks (by decide) hN (⟨by simp [cJudge, tV_27_1, c1, Int32.not_lt.mpr c1, c2, c6, c11, c13], by simp [mLkV, c1, Int32.not_lt.mpr c1, c2, c6, c11, c13]⟩) dX10_looks_90
  · refine lv_aload_n hx hb dX10_looks_7 rfl (lv_at hl 0 rfl) ?_
    refine lv_dup hx hb dX10_looks_8 rfl ?_
    refine gf_43_18 hx hb hts hin_10 hown hG hN hk_157 dX10_looks_9 ?_
    refine lv_iconst (v := 1) hx hb dX10_looks_12 (by decide) ?_
    refine lv_isub hx hb dX10_looks_13 ?_
    refine gp_43_18 hx hb hts hin_10 hown hG hN hk_157 dX10_looks_14 (fun H locs hN => ?_)
    refine lv_iconst (v := 0) hx hb dX10_looks_17 (by decide) ?_
    exact g_rz hx hb hr hlocks (by decide) hN (⟨by simp [cJudge, tV_27_1, c1, Int32.not_le.mp c1], by simp [mLkV, c1, Int32.not_le.mp c1]⟩) dX10_looks_18
set_option maxHeartbeats 4000000 in
set_option maxRecDepth 100000 in
theorem c_X10_printsNow (l : Launch) {D : va_G} {ad : Nat → Nat} {cs : Nat → ClassId} {zd : Nat → Nat} {F V : gF} {o : gO} {sz : Nat} (n : Nat) (hn : n < 256) : Met l yX10_printsNow wsX10_printsNow ({ frames := 1, cells := 0, slots := 0, locals := 22 } : Room) (gPc D ad cs zd F V o sz [.ref (ad 43), .int (nI n)]) (gQI D ad cs (cPrn (tF F) (n / 4) (n % 4)) F V o sz) 0 0 (gX ad sz) := by
  refine g_met (Qc := fun z0 => gQI D ad cs (cPrn (tF F) (n / 4) (n % 4)) F V o z0) (cc := cX10_printsNow) (maxL := 2) (ret := (some .int)) (own := RX10) (by decide +kernel) rfl rfl (Nat.le_of_ble_eq_true rfl) ?_
  intro p0 e0 s0 m0 b0 k0 c0 hx hb hr hts hown hlocks hml hG hN ls hl
  have hl : lv_has ls 2 [(0, .ref (ad 43)), (1, .int (nI n))] := hl
  have hin_10 : ∀ w ∈ wsX100, w ∈ wsX10_printsNow := by decide +kernel
  have hk_29 := hts (.fieldLink RX10 29 "GravureHouseModel" "plate" "[I") (by decide +kernel)
  refine lv_aload_n hx hb dX10_printsNow_0 rfl (lv_at hl 0 rfl) ?_
  refine lv_iload_n hx hb dX10_printsNow_1 rfl (lv_at hl 1 rfl) ?_
  refine lv_iconst (v := 4) hx hb dX10_printsNow_2 (by decide) ?_
  refine g_remN (a := n) (b := 4) hx hb rfl rfl (by omega) (by omega) (by omega) dX10_printsNow_3 ?_
  refine lv_aload_n hx hb dX10_printsNow_4 rfl (lv_at hl 0 rfl) ?_
  refine gf_43_7 hx hb hts hin_10 hown hG hN hk_29 dX10_printsNow_5 ?_
  refine lv_iload_n hx hb dX10_printsNow_8 rfl (lv_at hl 1 rfl) ?_
  refine g_iald hx hb hG hN (i := 50) (n := 256) (j := n) (by decide) rfl (by decide) (by omega) rfl dX10_printsNow_9 ?_
  refine g_top (y := tF F (14 + n % 4) (n / 4)) (tF_50) ?_
  refine g_VI (As := [.int (nI (n % 4)), .int (tF F (14 + n % 4) (n / 4))]) (rest := []) ⟨hx, hb, hml, hown, hts⟩ hG hN (i := 43) (by decide) rfl rfl (c_X10_prints l (n % 4) (tF F (14 + n % 4) (n / 4)) (by omega)) (cwV 2 hts gX10_printsNow_X10_prints rfl rfl rfl (by decide +kernel) ⟨Nat.le_of_ble_eq_true rfl, Nat.le_of_ble_eq_true rfl⟩) rfl hl.1 rfl (Nat.le_of_ble_eq_true rfl) dX10_printsNow_10 ⟨Nat.le_of_ble_eq_true rfl, Nat.le_of_ble_eq_true rfl⟩ (fun H locs hN => ?_)
  exact g_ri hx hb hr hlocks hN (⟨rfl, rfl⟩) dX10_printsNow_13
set_option maxHeartbeats 4000000 in
set_option maxRecDepth 100000 in
theorem c_X10_sign (l : Launch) {D : va_G} {ad : Nat → Nat} {cs : Nat → ClassId} {zd : Nat → Nat} {F V : gF} {o : gO} {sz : Nat} : Met l yX10_sign wsX10_sign ({ frames := 2, cells := 0, slots := 0, locals := 43 } : Room) (gPc D ad cs zd F V o sz [.ref (ad 43)]) (gQi D ad cs sz (fun r9 u9 => mP F V o 0 r9 (cTkN (tF F) 256) (cTkF (tF F) 256) (gw (tV F V) 37 1 1) u9)) 0 0 (gX ad sz) := by
  refine g_met (Qc := fun z0 => gQi D ad cs z0 (fun r9 u9 => mP F V o 0 r9 (cTkN (tF F) 256) (cTkF (tF F) 256) (gw (tV F V) 37 1 1) u9)) (cc := cX10_sign) (maxL := 3) (ret := (some .int)) (own := RX10) (by decide +kernel) rfl rfl (Nat.le_of_ble_eq_true rfl) ?_
  intro p0 e0 s0 m0 b0 k0 c0 hx hb hr hts hown hlocks hml hG hN ls hl
  have hl : lv_has ls 3 [(0, .ref (ad 43))] := hl
  have hin_10 : ∀ w ∈ wsX100, w ∈ wsX10_sign := by decide +kernel
  have hk_72 := hts (.fieldLink RX10 72 "GravureHouseModel" "thrown" "I") (by decide +kernel)
  have hk_202 := hts (.fieldLink RX10 202 "GravureHouseModel" "isSigned" "Z") (by decide +kernel)
  have hk_69 := hts (.fieldLink RX10 69 "GravureHouseModel" "proof" "[I") (by decide +kernel)
  refine lv_aload_n hx hb dX10_sign_0 rfl (lv_at hl 0 rfl) ?_
  refine lv_iconst (v := 0) hx hb dX10_sign_1 (by decide) ?_
  refine gp_43_31 hx hb hts hin_10 hown hG hN hk_72 dX10_sign_2 (fun H locs hN => ?_)
  refine lv_iconst (v := 0) hx hb dX10_sign_5 (by decide) ?_
  refine lv_istore_n (lv' := [(1, .int 0), (0, .ref (ad 43))]) hx hb dX10_sign_6 rfl hl (by decide) rfl (fun ls hl => ?_)
  refine lv_iconst (v := 0) hx hb dX10_sign_7 (by decide) ?_
  refine lv_istore_n (lv' := [(2, .int 0), (1, .int 0), (0, .ref (ad 43))]) hx hb dX10_sign_8 rfl hl (by decide) rfl (fun ls hl => ?_)
  have L1 : ∀ (d9_9 : Nat) (n : Nat) (x1 : Int32) (F1 : gF) (H : Heap) (locs : List Loc) (ls : Array Slot), 256 - n = d9_9 → (n ≤ 256) → (sim F V F1 (gw V 43 31 0) (mFil 39 (mPr F) (tF F) n) (tV F V)) → (x1 = mSum (fun n => mPr F (n % 4) (n / 4)) n) → gN D ad cs s0 F1 (gw V 43 31 0) o H locs → lv_has ls 3 [(0, .ref (ad 43)), (1, .int x1), (2, .int (nI n))] → W p0 l e0 ({ frames := 2, cells := 0, slots := 0, locals := 43 } : Room) s0 m0 ([.ref (ad 43)] : List Value).toArray b0 k0 c0 H locs 0 0 (MQ b0 (gQi D ad cs s0.heap.size (fun r9 u9 => mP F V o 0 r9 (cTkN (tF F) 256) (cTkF (tF F) 256) (gw (tV F V) 37 1 1) u9)) ([.ref (ad 43)] : List Value).toArray s0 0 0 (gX ad s0.heap.size)) (F0 m0 9 ls []) := by
    intro d9_9
    induction d9_9 with
    | zero =>
      intro n x1 F1 H locs ls hd_9 hn hs e1 hN hl
      refine lv_iload_n hx hb dX10_sign_9 rfl (lv_at hl 2 rfl) ?_
      refine lv_sipush (v := 256) hx hb dX10_sign_10 (by decide) ?_
      refine g_cN_ge (a := n) (b := 256) (tgt := 42) hx hb dX10_sign_13 (by decide) rfl rfl (by omega) (by omega) (fun c2 => ?_) (fun c2 => absurd c2 (by omega))
      refine lv_aload_n hx hb dX10_sign_42 rfl (lv_at hl 0 rfl) ?_
      refine lv_iconst (v := 1) hx hb dX10_sign_43 (by decide) ?_
      refine gp_43_29 hx hb hts hin_10 hown hG hN hk_202 (by decide) (by decide) dX10_sign_44 (fun H locs hN => ?_)
      refine lv_iload_n hx hb dX10_sign_47 rfl (lv_at hl 1 rfl) ?_
      exact g_ri hx hb hr hlocks hN (mP_ok rfl rfl (by rw [e1, show n = 256 by omega]; exact mPr_sum) (by (obtain rfl : n = 256 := (by omega)); exact (hs.eq (fun a _ b => mPr_fil a b) (fun _ _ _ => rfl)).v29)) dX10_sign_48
    | succ d9_9 ih9 =>
      intro n x1 F1 H locs ls hd_9 hn hs e1 hN hl
      refine lv_iload_n hx hb dX10_sign_9 rfl (lv_at hl 2 rfl) ?_
      refine lv_sipush (v := 256) hx hb dX10_sign_10 (by decide) ?_
      refine g_cN_ge (a := n) (b := 256) (tgt := 42) hx hb dX10_sign_13 (by decide) rfl rfl (by omega) (by omega) (fun c3 => absurd c3 (by omega)) (fun c3 => ?_)
      have hlo : ∀ a, a < 39 → ∀ b, tF F1 a b = tF F a b := fun a ha b => (hs.1 a (by omega) b).trans (mFil_o (Or.inl ha) n)
      refine lv_aload_n hx hb dX10_sign_16 rfl (lv_at hl 0 rfl) ?_
      refine gf_43_30 hx hb hts hin_10 hown hG hN hk_69 dX10_sign_17 ?_
      refine lv_iload_n hx hb dX10_sign_20 rfl (lv_at hl 2 rfl) ?_
      refine lv_aload_n hx hb dX10_sign_21 rfl (lv_at hl 0 rfl) ?_
      refine lv_iload_n hx hb dX10_sign_22 rfl (lv_at hl 2 rfl) ?_
      refine g_VI (As := [.int (nI n)]) (rest := [.int (nI n), .ref (ad 63)]) ⟨hx, hb, hml, hown, hts⟩ hG hN (i := 43) (by decide) rfl rfl (c_X10_printsNow l n (by omega)) (cwV 1 hts gX10_sign_X10_printsNow rfl rfl rfl (by decide +kernel) ⟨Nat.le_of_ble_eq_true rfl, Nat.le_of_ble_eq_true rfl⟩) rfl hl.1 rfl (Nat.le_of_ble_eq_true rfl) dX10_sign_23 ⟨Nat.le_of_ble_eq_true rfl, Nat.le_of_ble_eq_true rfl⟩ (fun H locs hN => ?_)
      refine g_top (y := mPr F (n % 4) (n / 4)) (by unfold mPr cPrn; rw [hlo (14 + n % 4) (by omega), hlo 2 (by decide)]) ?_
      refine g_iast hx hb hG hN (i := 63) (n := 256) (j := n) (by decide) (fun _ => rfl) (by decide) (by omega) rfl dX10_sign_26 (fun H locs hN => ?_)
      refine lv_iload_n hx hb dX10_sign_27 rfl (lv_at hl 1 rfl) ?_
      refine lv_aload_n hx hb dX10_sign_28 rfl (lv_at hl 0 rfl) ?_
      refine gf_43_30 hx hb hts hin_10 hown hG hN hk_69 dX10_sign_29 ?_
      refine lv_iload_n hx hb dX10_sign_32 rfl (lv_at hl 2 rfl) ?_
      refine g_iald hx hb hG hN (i := 63) (n := 256) (j := n) (by decide) rfl (by decide) (by omega) rfl dX10_sign_33 ?_
      refine g_top (y := (mPr F (n % 4) (n / 4))) (by simp [gw]) ?_
      refine lv_iadd hx hb dX10_sign_34 ?_
      refine lv_istore_n (lv' := [(1, .int (x1 + (mPr F (n % 4) (n / 4)))), (0, .ref (ad 43)), (2, .int (nI n))]) hx hb dX10_sign_35 rfl hl (by decide) rfl (fun ls hl => ?_)
      refine lv_iinc (v := (nI (n + 1))) (lv' := [(2, .int (nI (n + 1))), (1, .int (x1 + (mPr F (n % 4) (n / 4)))), (0, .ref (ad 43))]) hx hb dX10_sign_36 hl (k := 2) rfl (nI_1 _) (by decide) rfl (fun ls hl => ?_)
      refine lv_goto (tgt := 9) hx hb dX10_sign_39 (by decide) ?_
      exact ih9 (n + 1) (x1 + (mPr F (n % 4) (n / 4))) (gw F1 63 n (mPr F (n % 4) (n / 4))) _ _ ls (by omega) (by omega) (mFil_step63 hs) (by rw [e1]; rfl) hN (lv_sub hl [2, 1, 0] rfl)
  exact L1 _ 0 0 F _ _ ls (rfl) (by omega) (sim.rf.v31) (rfl) hN (lv_sub hl [2, 1, 0] rfl)
set_option maxHeartbeats 4000000 in
set_option maxRecDepth 100000 in
theorem c_X10_difference (l : Launch) {D : va_G} {ad : Nat → Nat} {cs : Nat → ClassId} {zd : Nat → Nat} {F V : gF} {o : gO} {sz : Nat} (c : Nat) (hc : c < 64) : Met l yX10_difference wsX10_difference ({ frames := 2, cells := 0, slots := 0, locals := 43 } : Room) (gPc D ad cs zd F V o sz [.ref (ad 43), .int (nI c)]) (gQI D ad cs (cDif (tF F) c 4) F V o sz) 0 0 (gX ad sz) := by
  refine g_met (Qc := fun z0 => gQI D ad cs (cDif (tF F) c 4) F V o z0) (cc := cX10_difference) (maxL := 4) (ret := (some .int)) (own := RX10) (by decide +kernel) rfl rfl (Nat.le_of_ble_eq_true rfl) ?_
  intro p0 e0 s0 m0 b0 k0 c0 hx hb hr hts hown hlocks hml hG hN ls hl
  have hl : lv_has ls 4 [(0, .ref (ad 43)), (1, .int (nI c))] := hl
  have hin_10 : ∀ w ∈ wsX100, w ∈ wsX10_difference := by decide +kernel
  have hk_69 := hts (.fieldLink RX10 69 "GravureHouseModel" "proof" "[I") (by decide +kernel)
  refine lv_iconst (v := 0) hx hb dX10_difference_0 (by decide) ?_
  refine lv_istore_n (lv' := [(2, .int 0), (0, .ref (ad 43)), (1, .int (nI c))]) hx hb dX10_difference_1 rfl hl (by decide) rfl (fun ls hl => ?_)
  refine lv_iconst (v := 4) hx hb dX10_difference_2 (by decide) ?_
  refine lv_iload_n hx hb dX10_difference_3 rfl (lv_at hl 2 rfl) ?_
  refine g_mulN (a := 4) (b := c) hx hb rfl rfl dX10_difference_4 ?_
  refine lv_istore_n (lv' := [(3, .int (nI (4 * c))), (2, .int 0), (0, .ref (ad 43)), (1, .int (nI c))]) hx hb dX10_difference_5 rfl hl (by decide) rfl (fun ls hl => ?_)
  have L1 : ∀ (d9_6 : Nat) (n : Nat) (x2 : Int32) (H : Heap) (locs : List Loc) (ls : Array Slot), 4 - n = d9_6 → (n ≤ 4) → (x2 = cDif (tF F) c n) → gN D ad cs s0 F V o H locs → lv_has ls 4 [(0, .ref (ad 43)), (1, .int (nI c)), (2, .int x2), (3, .int (nI (4 * c + n)))] → W p0 l e0 ({ frames := 2, cells := 0, slots := 0, locals := 43 } : Room) s0 m0 ([.ref (ad 43), .int (nI c)] : List Value).toArray b0 k0 c0 H locs 0 0 (MQ b0 (gQI D ad cs (cDif (tF F) c 4) F V o s0.heap.size) ([.ref (ad 43), .int (nI c)] : List Value).toArray s0 0 0 (gX ad s0.heap.size)) (F0 m0 6 ls []) := by
    intro d9_6
    induction d9_6 with
    | zero =>
      intro n x2 H locs ls hd_6 hn e2 hN hl
      refine lv_iload_n hx hb dX10_difference_6 rfl (lv_at hl 3 rfl) ?_
      refine lv_iconst (v := 4) hx hb dX10_difference_7 (by decide) ?_
      refine lv_iload_n hx hb dX10_difference_8 rfl (lv_at hl 1 rfl) ?_
      refine g_mulN (a := 4) (b := c) hx hb rfl rfl dX10_difference_9 ?_
      refine lv_iconst (v := 4) hx hb dX10_difference_10 (by decide) ?_
      refine g_addN (a := 4 * c) (b := 4) hx hb rfl rfl dX10_difference_11 ?_
      refine g_cN_ge (a := 4 * c + n) (b := (4 * c) + 4) (tgt := 39) hx hb dX10_difference_12 (by decide) rfl rfl (by omega) (by omega) (fun c2 => ?_) (fun c2 => absurd c2 (by omega))
      refine lv_iload_n hx hb dX10_difference_39 rfl (lv_at hl 2 rfl) ?_
      exact g_ri hx hb hr hlocks hN (⟨by rw [e2, show n = 4 by omega], rfl⟩) dX10_difference_40
    | succ d9_6 ih6 =>
      intro n x2 H locs ls hd_6 hn e2 hN hl
      refine lv_iload_n hx hb dX10_difference_6 rfl (lv_at hl 3 rfl) ?_
      refine lv_iconst (v := 4) hx hb dX10_difference_7 (by decide) ?_
      refine lv_iload_n hx hb dX10_difference_8 rfl (lv_at hl 1 rfl) ?_
      refine g_mulN (a := 4) (b := c) hx hb rfl rfl dX10_difference_9 ?_
      refine lv_iconst (v := 4) hx hb dX10_difference_10 (by decide) ?_
      refine g_addN (a := 4 * c) (b := 4) hx hb rfl rfl dX10_difference_11 ?_
      refine g_cN_ge (a := 4 * c + n) (b := (4 * c) + 4) (tgt := 39) hx hb dX10_difference_12 (by decide) rfl rfl (by omega) (by omega) (fun c3 => absurd c3 (by omega)) (fun c3 => ?_)
      refine lv_iload_n hx hb dX10_difference_15 rfl (lv_at hl 2 rfl) ?_
      refine lv_aload_n hx hb dX10_difference_16 rfl (lv_at hl 0 rfl) ?_
      refine lv_iload_n hx hb dX10_difference_17 rfl (lv_at hl 3 rfl) ?_
      refine g_VI (As := [.int (nI (4 * c + n))]) (rest := [.int x2]) ⟨hx, hb, hml, hown, hts⟩ hG hN (i := 43) (by decide) rfl rfl (c_X10_printsNow l (4 * c + n) (by omega)) (cwV 1 hts gX10_difference_X10_printsNow rfl rfl rfl (by decide +kernel) ⟨Nat.le_of_ble_eq_true rfl, Nat.le_of_ble_eq_true rfl⟩) rfl hl.1 rfl (Nat.le_of_ble_eq_true rfl) dX10_difference_18 ⟨Nat.le_of_ble_eq_true rfl, Nat.le_of_ble_eq_true rfl⟩ (fun H locs hN => ?_)
      refine g_top (y := cPrn (tF F) c n) (by rw [show (4 * c + n) / 4 = c by omega, show (4 * c + n) % 4 = n by omega]) ?_
      refine lv_aload_n hx hb dX10_difference_21 rfl (lv_at hl 0 rfl) ?_
      refine gf_43_30 hx hb hts hin_10 hown hG hN hk_69 dX10_difference_22 ?_
      refine lv_iload_n hx hb dX10_difference_25 rfl (lv_at hl 3 rfl) ?_
      refine g_iald hx hb hG hN (i := 63) (n := 256) (j := 4 * c + n) (by decide) rfl (by decide) (by omega) rfl dX10_difference_26 ?_
      refine g_top (y := tF F (39 + n) c) ((tF_39 (by omega)).symm) ?_
      refine lv_isub hx hb dX10_difference_27 ?_
      refine g_SI (As := [.int ((cPrn (tF F) c n) - (tF F (39 + n) c))]) (rest := [.int x2]) ⟨hx, hb, hml, hown, hts⟩ hG hN (c_X10_size l ((cPrn (tF F) c n) - (tF F (39 + n) c))) (va_cwS 1 hts gX10_difference_X10_size rfl rfl rfl (by decide +kernel) ⟨Nat.le_of_ble_eq_true rfl, Nat.le_of_ble_eq_true rfl⟩) rfl hl.1 rfl (Nat.le_of_ble_eq_true rfl) dX10_difference_28 ⟨Nat.le_of_ble_eq_true rfl, Nat.le_of_ble_eq_true rfl⟩ (fun H locs hN => ?_)
      refine lv_iadd hx hb dX10_difference_31 ?_
      refine lv_istore_n (lv' := [(2, .int (x2 + (gabs ((cPrn (tF F) c n) - (tF F (39 + n) c))))), (0, .ref (ad 43)), (1, .int (nI c)), (3, .int (nI (4 * c + n)))]) hx hb dX10_difference_32 rfl hl (by decide) rfl (fun ls hl => ?_)
      refine lv_iinc (v := (nI ((4 * c + n) + 1))) (lv' := [(3, .int (nI ((4 * c + n) + 1))), (2, .int (x2 + (gabs ((cPrn (tF F) c n) - (tF F (39 + n) c))))), (0, .ref (ad 43)), (1, .int (nI c))]) hx hb dX10_difference_33 hl (k := 3) rfl (nI_1 _) (by decide) rfl (fun ls hl => ?_)
      refine lv_goto (tgt := 6) hx hb dX10_difference_36 (by decide) ?_
      exact ih6 (n + 1) (x2 + (gabs ((cPrn (tF F) c n) - (tF F (39 + n) c)))) _ _ ls (by omega) (by omega) (by rw [e2]; rfl) hN (lv_sub hl [2, 3, 1, 0] rfl)
  exact L1 _ 0 0 _ _ ls (rfl) (by omega) (rfl) hN (lv_sub hl [2, 3, 1, 0] rfl)
set_option maxHeartbeats 4000000 in
set_option maxRecDepth 100000 in
theorem c_X10_differs (l : Launch) {D : va_G} {ad : Nat → Nat} {cs : Nat → ClassId} {zd : Nat → Nat} {F V : gF} {o : gO} {sz : Nat} (c : Int32) : Met l yX10_differs wsX10_differs ({ frames := 3, cells := 0, slots := 0, locals := 66 } : Room) (gPc D ad cs zd F V o sz [.ref (ad 43), .int c]) (gQi D ad cs sz (fun r9 u9 => mP F V o (fDif (tV F V) c) r9 (cDif (tF F) c.toNatClampNeg 4) (tF F) (tV F V) u9)) 0 0 (gX ad sz) := by
  refine g_met (Qc := fun z0 => gQi D ad cs z0 (fun r9 u9 => mP F V o (fDif (tV F V) c) r9 (cDif (tF F) c.toNatClampNeg 4) (tF F) (tV F V) u9)) (cc := cX10_differs) (maxL := 2) (ret := (some .int)) (own := RX10) (by decide +kernel) rfl rfl (Nat.le_of_ble_eq_true rfl) ?_
  intro p0 e0 s0 m0 b0 k0 c0 hx hb hr hts hown hlocks hml hG hN ls hl
  have hl : lv_has ls 2 [(0, .ref (ad 43)), (1, .int c)] := hl
  have hin_10 : ∀ w ∈ wsX100, w ∈ wsX10_differs := by decide +kernel
  have hk_202 := hts (.fieldLink RX10 202 "GravureHouseModel" "isSigned" "Z") (by decide +kernel)
  refine lv_aload_n hx hb dX10_differs_0 rfl (lv_at hl 0 rfl) ?_
  refine lv_iload_n hx hb dX10_differs_1 rfl (lv_at hl 1 rfl) ?_
  refine g_SI (As := [.int c]) (rest := [.ref (ad 43)]) ⟨hx, hb, hml, hown, hts⟩ hG hN (c_X10_isCell l c) (va_cwS 1 hts gX10_differs_X10_isCell rfl rfl rfl (by decide +kernel) ⟨Nat.le_of_ble_eq_true rfl, Nat.le_of_ble_eq_true rfl⟩) rfl hl.1 rfl (Nat.le_of_ble_eq_true rfl) dX10_differs_2 ⟨Nat.le_of_ble_eq_true rfl, Nat.le_of_ble_eq_true rfl⟩ (fun H locs hN => ?_)
  refine g_ifb_ne (gIdx c 64 = true) (tgt := 12) hx hb dX10_differs_5 (by decide) rfl (fun c1 => ?_) (fun c1 => ?_)
  · refine lv_aload_n hx hb dX10_differs_12 rfl (lv_at hl 0 rfl) ?_
    refine gf_43_29 hx hb hts hin_10 hown hG hN hk_202 dX10_differs_13 ?_
    refine lv_if_eq (tgt := 23) hx hb dX10_differs_16 (by decide) (fun c2 => ?_) (fun c2 => ?_)
    · refine lv_iconst (v := 2) hx hb dX10_differs_23 (by decide) ?_
      refine g_VI (As := [.int 2]) (rest := []) ⟨hx, hb, hml, hown, hts⟩ hG hN (i := 43) (by decide) rfl rfl (c_X10_can l 2) (cwV 1 hts gX10_differs_X10_can rfl rfl rfl (by decide +kernel) ⟨Nat.le_of_ble_eq_true rfl, Nat.le_of_ble_eq_true rfl⟩) rfl hl.1 rfl (Nat.le_of_ble_eq_true rfl) dX10_differs_24 ⟨Nat.le_of_ble_eq_true rfl, Nat.le_of_ble_eq_true rfl⟩ (fun H locs hN => ?_)
      refine g_top (y := 0) (by decide) ?_
      refine lv_if_eq (tgt := 38) hx hb dX10_differs_27 (by decide) (fun _ => ?_) (fun c3 => False.elim (by revert c3; decide))
      refine lv_iconst (v := 0) hx hb dX10_differs_38 (by decide) ?_
      exact g_ri hx hb hr hlocks hN (mP_no (n := 2) (by simp [fDif, tV_37_1, c1, c2]) (by decide)) dX10_differs_39
    · refine lv_iconst (v := 0) hx hb dX10_differs_19 (by decide) ?_
      refine lv_goto (tgt := 24) hx hb dX10_differs_20 (by decide) ?_
      refine g_VI (As := [.int 0]) (rest := []) ⟨hx, hb, hml, hown, hts⟩ hG hN (i := 43) (by decide) rfl rfl (c_X10_can l 0) (cwV 1 hts gX10_differs_X10_can rfl rfl rfl (by decide +kernel) ⟨Nat.le_of_ble_eq_true rfl, Nat.le_of_ble_eq_true rfl⟩) rfl hl.1 rfl (Nat.le_of_ble_eq_true rfl) dX10_differs_24 ⟨Nat.le_of_ble_eq_true rfl, Nat.le_of_ble_eq_true rfl⟩ (fun H locs hN => ?_)
      refine g_top (y := 1) (by decide) ?_
      obtain ⟨j, hj, ej⟩ := gIdx_n 64 rfl (by decide) c1
      subst ej
      refine lv_if_eq (tgt := 38) hx hb dX10_differs_27 (by decide) (fun c4 => False.elim (by revert c4; decide)) (fun _ => ?_)
      refine lv_aload_n hx hb dX10_differs_30 rfl (lv_at hl 0 rfl) ?_
      refine lv_iload_n hx hb dX10_differs_31 rfl (lv_at hl 1 rfl) ?_
      refine g_VI (As := [.int (nI j)]) (rest := []) ⟨hx, hb, hml, hown, hts⟩ hG hN (i := 43) (by decide) rfl rfl (c_X10_difference l j (by omega)) (cwV 1 hts gX10_differs_X10_difference rfl rfl rfl (by decide +kernel) ⟨Nat.le_of_ble_eq_true rfl, Nat.le_of_ble_eq_true rfl⟩) rfl hl.1 rfl (Nat.le_of_ble_eq_true rfl) dX10_differs_32 ⟨Nat.le_of_ble_eq_true rfl, Nat.le_of_ble_eq_true rfl⟩ (fun H locs hN => ?_)
      refine lv_goto (tgt := 39) hx hb dX10_differs_35 (by decide) ?_
      exact g_ri hx hb hr hlocks hN (by simp only [nI_clamp (show j < 2 ^ 31 by omega)]; exact mP_ok (by simp [fDif, tV_37_1, c1, c2]) rfl (rfl) (sim.rf.v31)) dX10_differs_39
  · refine lv_iconst (v := 1) hx hb dX10_differs_8 (by decide) ?_
    refine lv_goto (tgt := 24) hx hb dX10_differs_9 (by decide) ?_
    refine g_VI (As := [.int 1]) (rest := []) ⟨hx, hb, hml, hown, hts⟩ hG hN (i := 43) (by decide) rfl rfl (c_X10_can l 1) (cwV 1 hts gX10_differs_X10_can rfl rfl rfl (by decide +kernel) ⟨Nat.le_of_ble_eq_true rfl, Nat.le_of_ble_eq_true rfl⟩) rfl hl.1 rfl (Nat.le_of_ble_eq_true rfl) dX10_differs_24 ⟨Nat.le_of_ble_eq_true rfl, Nat.le_of_ble_eq_true rfl⟩ (fun H locs hN => ?_)
    refine g_top (y := 0) (by decide) ?_
    refine lv_if_eq (tgt := 38) hx hb dX10_differs_27 (by decide) (fun _ => ?_) (fun c5 => False.elim (by revert c5; decide))
    refine lv_iconst (v := 0) hx hb dX10_differs_38 (by decide) ?_
    exact g_ri hx hb hr hlocks hN (mP_no (n := 1) (by simp [fDif, tV_37_1, c1]) (by decide)) dX10_differs_39
set_option maxHeartbeats 4000000 in
set_option maxRecDepth 100000 in
theorem c_X10_claim (l : Launch) {D : va_G} {ad : Nat → Nat} {cs : Nat → ClassId} {zd : Nat → Nat} {F V : gF} {o : gO} {sz : Nat} (c : Int32) : Met l yX10_claim wsX10_claim ({ frames := 3, cells := 0, slots := 0, locals := 66 } : Room) (gPc D ad cs zd F V o sz [.ref (ad 43), .int c]) (gQi D ad cs sz (fun r9 u9 => mP F V o (fDif (tV F V) c) r9 (if 5 < cDif (tF F) c.toNatClampNeg 4 then 1 else 0) (tF F) (tV F V) u9)) 0 0 (gX ad sz) := by
  refine g_met (Qc := fun z0 => gQi D ad cs z0 (fun r9 u9 => mP F V o (fDif (tV F V) c) r9 (if 5 < cDif (tF F) c.toNatClampNeg 4 then 1 else 0) (tF F) (tV F V) u9)) (cc := cX10_claim) (maxL := 2) (ret := (some .boolean)) (own := RX10) (by decide +kernel) rfl rfl (Nat.le_of_ble_eq_true rfl) ?_
  intro p0 e0 s0 m0 b0 k0 c0 hx hb hr hts hown hlocks hml hG hN ls hl
  have hl : lv_has ls 2 [(0, .ref (ad 43)), (1, .int c)] := hl
  have hin_10 : ∀ w ∈ wsX100, w ∈ wsX10_claim := by decide +kernel
  have hk_202 := hts (.fieldLink RX10 202 "GravureHouseModel" "isSigned" "Z") (by decide +kernel)
  refine lv_aload_n hx hb dX10_claim_0 rfl (lv_at hl 0 rfl) ?_
  refine lv_iload_n hx hb dX10_claim_1 rfl (lv_at hl 1 rfl) ?_
  refine g_SI (As := [.int c]) (rest := [.ref (ad 43)]) ⟨hx, hb, hml, hown, hts⟩ hG hN (c_X10_isCell l c) (va_cwS 1 hts gX10_claim_X10_isCell rfl rfl rfl (by decide +kernel) ⟨Nat.le_of_ble_eq_true rfl, Nat.le_of_ble_eq_true rfl⟩) rfl hl.1 rfl (Nat.le_of_ble_eq_true rfl) dX10_claim_2 ⟨Nat.le_of_ble_eq_true rfl, Nat.le_of_ble_eq_true rfl⟩ (fun H locs hN => ?_)
  refine g_ifb_ne (gIdx c 64 = true) (tgt := 12) hx hb dX10_claim_5 (by decide) rfl (fun c1 => ?_) (fun c1 => ?_)
  · refine lv_aload_n hx hb dX10_claim_12 rfl (lv_at hl 0 rfl) ?_
    refine gf_43_29 hx hb hts hin_10 hown hG hN hk_202 dX10_claim_13 ?_
    refine lv_if_eq (tgt := 23) hx hb dX10_claim_16 (by decide) (fun c2 => ?_) (fun c2 => ?_)
    · refine lv_iconst (v := 2) hx hb dX10_claim_23 (by decide) ?_
      refine g_VI (As := [.int 2]) (rest := []) ⟨hx, hb, hml, hown, hts⟩ hG hN (i := 43) (by decide) rfl rfl (c_X10_can l 2) (cwV 1 hts gX10_claim_X10_can rfl rfl rfl (by decide +kernel) ⟨Nat.le_of_ble_eq_true rfl, Nat.le_of_ble_eq_true rfl⟩) rfl hl.1 rfl (Nat.le_of_ble_eq_true rfl) dX10_claim_24 ⟨Nat.le_of_ble_eq_true rfl, Nat.le_of_ble_eq_true rfl⟩ (fun H locs hN => ?_)
      refine g_top (y := 0) (by decide) ?_
      refine lv_if_eq (tgt := 43) hx hb dX10_claim_27 (by decide) (fun _ => ?_) (fun c3 => False.elim (by revert c3; decide))
      refine lv_iconst (v := 0) hx hb dX10_claim_43 (by decide) ?_
      exact g_rz hx hb hr hlocks (by decide) hN (mP_no (n := 2) (by simp [fDif, tV_37_1, c1, c2]) (by decide)) dX10_claim_44
    · refine lv_iconst (v := 0) hx hb dX10_claim_19 (by decide) ?_
      refine lv_goto (tgt := 24) hx hb dX10_claim_20 (by decide) ?_
      refine g_VI (As := [.int 0]) (rest := []) ⟨hx, hb, hml, hown, hts⟩ hG hN (i := 43) (by decide) rfl rfl (c_X10_can l 0) (cwV 1 hts gX10_claim_X10_can rfl rfl rfl (by decide +kernel) ⟨Nat.le_of_ble_eq_true rfl, Nat.le_of_ble_eq_true rfl⟩) rfl hl.1 rfl (Nat.le_of_ble_eq_true rfl) dX10_claim_24 ⟨Nat.le_of_ble_eq_true rfl, Nat.le_of_ble_eq_true rfl⟩ (fun H locs hN => ?_)
      refine g_top (y := 1) (by decide) ?_
      obtain ⟨j, hj, ej⟩ := gIdx_n 64 rfl (by decide) c1
      subst ej
      refine lv_if_eq (tgt := 43) hx hb dX10_claim_27 (by decide) (fun c4 => False.elim (by revert c4; decide)) (fun _ => ?_)
      refine lv_aload_n hx hb dX10_claim_30 rfl (lv_at hl 0 rfl) ?_
      refine lv_iload_n hx hb dX10_claim_31 rfl (lv_at hl 1 rfl) ?_
      refine g_VI (As := [.int (nI j)]) (rest := []) ⟨hx, hb, hml, hown, hts⟩ hG hN (i := 43) (by decide) rfl rfl (c_X10_difference l j (by omega)) (cwV 1 hts gX10_claim_X10_difference rfl rfl rfl (by decide +kernel) ⟨Nat.le_of_ble_eq_true rfl, Nat.le_of_ble_eq_true rfl⟩) rfl hl.1 rfl (Nat.le_of_ble_eq_true rfl) dX10_claim_32 ⟨Nat.le_of_ble_eq_true rfl, Nat.le_of_ble_eq_true rfl⟩ (fun H locs hN => ?_)
      refine lv_iconst (v := 5) hx hb dX10_claim_35 (by decide) ?_
      refine lv_icmp_le (tgt := 43) hx hb dX10_claim_36 (by decide) (fun c5 => ?_) (fun c5 => ?_)
      · refine lv_iconst (v := 0) hx hb dX10_claim_43 (by decide) ?_
        exact g_rz hx hb hr hlocks (by decide) hN (by simp only [nI_clamp (show j < 2 ^ 31 by omega)]; exact mP_ok (by simp [fDif, tV_37_1, c1, c2]) rfl (by simp [c5, Int32.not_lt.mpr c5]) (sim.rf.v31)) dX10_claim_44
      · refine lv_iconst (v := 1) hx hb dX10_claim_39 (by decide) ?_
        refine lv_goto (tgt := 44) hx hb dX10_claim_40 (by decide) ?_
        exact g_rz hx hb hr hlocks (by decide) hN (by simp only [nI_clamp (show j < 2 ^ 31 by omega)]; exact mP_ok (by simp [fDif, tV_37_1, c1, c2]) rfl (by simp [c5, Int32.not_le.mp c5]) (sim.rf.v31)) dX10_claim_44
  · refine lv_iconst (v := 1) hx hb dX10_claim_8 (by decide) ?_
    refine lv_goto (tgt := 24) hx hb dX10_claim_9 (by decide) ?_
    refine g_VI (As := [.int 1]) (rest := []) ⟨hx, hb, hml, hown, hts⟩ hG hN (i := 43) (by decide) rfl rfl (c_X10_can l 1) (cwV 1 hts gX10_claim_X10_can rfl rfl rfl (by decide +kernel) ⟨Nat.le_of_ble_eq_true rfl, Nat.le_of_ble_eq_true rfl⟩) rfl hl.1 rfl (Nat.le_of_ble_eq_true rfl) dX10_claim_24 ⟨Nat.le_of_ble_eq_true rfl, Nat.le_of_ble_eq_true rfl⟩ (fun H locs hN => ?_)
    refine g_top (y := 0) (by decide) ?_
    refine lv_if_eq (tgt := 43) hx hb dX10_claim_27 (by decide) (fun _ => ?_) (fun c6 => False.elim (by revert c6; decide))
    refine lv_iconst (v := 0) hx hb dX10_claim_43 (by decide) ?_
    exact g_rz hx hb hr hlocks (by decide) hN (mP_no (n := 1) (by simp [fDif, tV_37_1, c1]) (by decide)) dX10_claim_44
set_option maxHeartbeats 4000000 in
set_option maxRecDepth 100000 in
theorem c_X10_ink (l : Launch) {D : va_G} {ad : Nat → Nat} {cs : Nat → ClassId} {zd : Nat → Nat} {F V : gF} {o : gO} {sz : Nat} (c k w : Int32) (hnz : mNz F V) (hwm : ∀ c k, c < 64 → k < 4 → cWant (tF F) (tV F V) c k ≤ 100) : Met l yX10_ink wsX10_ink ({ frames := 5, cells := 0, slots := 0, locals := 115 } : Room) (gPc D ad cs zd F V o sz [.ref (ad 43), .int c, .int k, .int w]) (gQi D ad cs sz (fun r9 u9 => mP F V o (fInk c k w) r9 (rInk (tF F) (tV F V) (c.toNatClampNeg) (k.toNatClampNeg) w) (tF F) (tV F V) u9)) 0 0 (gX ad sz) := by
  refine g_met (Qc := fun z0 => gQi D ad cs z0 (fun r9 u9 => mP F V o (fInk c k w) r9 (rInk (tF F) (tV F V) (c.toNatClampNeg) (k.toNatClampNeg) w) (tF F) (tV F V) u9)) (cc := cX10_ink) (maxL := 4) (ret := (some .int)) (own := RX10) (by decide +kernel) rfl rfl (Nat.le_of_ble_eq_true rfl) ?_
  intro p0 e0 s0 m0 b0 k0 c0 hx hb hr hts hown hlocks hml hG hN ls hl
  have hl : lv_has ls 4 [(0, .ref (ad 43)), (1, .int c), (2, .int k), (3, .int w)] := hl
  have hin_10 : ∀ w ∈ wsX100, w ∈ wsX10_ink := by decide +kernel
  have hk_29 := hts (.fieldLink RX10 29 "GravureHouseModel" "plate" "[I") (by decide +kernel)
  refine lv_aload_n hx hb dX10_ink_0 rfl (lv_at hl 0 rfl) ?_
  refine lv_iload_n hx hb dX10_ink_1 rfl (lv_at hl 1 rfl) ?_
  refine g_SI (As := [.int c]) (rest := [.ref (ad 43)]) ⟨hx, hb, hml, hown, hts⟩ hG hN (c_X10_isCell l c) (va_cwS 1 hts gX10_ink_X10_isCell rfl rfl rfl (by decide +kernel) ⟨Nat.le_of_ble_eq_true rfl, Nat.le_of_ble_eq_true rfl⟩) rfl hl.1 rfl (Nat.le_of_ble_eq_true rfl) dX10_ink_2 ⟨Nat.le_of_ble_eq_true rfl, Nat.le_of_ble_eq_true rfl⟩ (fun H locs hN => ?_)
  refine g_ifb_eq (gIdx c 64 = true) (tgt := 15) hx hb dX10_ink_5 (by decide) rfl (fun c1 => ?_) (fun c1 => ?_)
  · refine lv_iconst (v := 1) hx hb dX10_ink_15 (by decide) ?_
    refine lv_goto (tgt := 33) hx hb dX10_ink_16 (by decide) ?_
    refine g_VI (As := [.int 1]) (rest := []) ⟨hx, hb, hml, hown, hts⟩ hG hN (i := 43) (by decide) rfl rfl (c_X10_can l 1) (cwV 1 hts gX10_ink_X10_can rfl rfl rfl (by decide +kernel) ⟨Nat.le_of_ble_eq_true rfl, Nat.le_of_ble_eq_true rfl⟩) rfl hl.1 rfl (Nat.le_of_ble_eq_true rfl) dX10_ink_33 ⟨Nat.le_of_ble_eq_true rfl, Nat.le_of_ble_eq_true rfl⟩ (fun H locs hN => ?_)
    refine g_top (y := 0) (by decide) ?_
    refine lv_if_ne (tgt := 41) hx hb dX10_ink_36 (by decide) (fun c2 => False.elim (by revert c2; decide)) (fun _ => ?_)
    refine lv_iconst (v := 0) hx hb dX10_ink_39 (by decide) ?_
    exact g_ri hx hb hr hlocks hN (mP_no (n := 1) (by simp [fInk, c1]) (by decide)) dX10_ink_40
  · refine lv_iload_n hx hb dX10_ink_8 rfl (lv_at hl 2 rfl) ?_
    refine g_SI (As := [.int k]) (rest := [.ref (ad 43)]) ⟨hx, hb, hml, hown, hts⟩ hG hN (c_X10_isInk l k) (va_cwS 1 hts gX10_ink_X10_isInk rfl rfl rfl (by decide +kernel) ⟨Nat.le_of_ble_eq_true rfl, Nat.le_of_ble_eq_true rfl⟩) rfl hl.1 rfl (Nat.le_of_ble_eq_true rfl) dX10_ink_9 ⟨Nat.le_of_ble_eq_true rfl, Nat.le_of_ble_eq_true rfl⟩ (fun H locs hN => ?_)
    refine g_ifb_ne (gIdx k 4 = true) (tgt := 19) hx hb dX10_ink_12 (by decide) rfl (fun c3 => ?_) (fun c3 => ?_)
    · refine lv_iload_n hx hb dX10_ink_19 rfl (lv_at hl 3 rfl) ?_
      refine lv_iconst (v := 0) hx hb dX10_ink_20 (by decide) ?_
      refine lv_iconst (v := 4) hx hb dX10_ink_21 (by decide) ?_
      refine g_SI (As := [.int w, .int 0, .int 4]) (rest := [.ref (ad 43)]) ⟨hx, hb, hml, hown, hts⟩ hG hN (c_X10_isIn l w 0 4) (va_cwS 3 hts gX10_ink_X10_isIn rfl rfl rfl (by decide +kernel) ⟨Nat.le_of_ble_eq_true rfl, Nat.le_of_ble_eq_true rfl⟩) rfl hl.1 rfl (Nat.le_of_ble_eq_true rfl) dX10_ink_22 ⟨Nat.le_of_ble_eq_true rfl, Nat.le_of_ble_eq_true rfl⟩ (fun H locs hN => ?_)
      refine g_ifb_eq (gRng w 0 4 = true) (tgt := 32) hx hb dX10_ink_25 (by decide) rfl (fun c4 => ?_) (fun c4 => ?_)
      · refine lv_iconst (v := 2) hx hb dX10_ink_32 (by decide) ?_
        refine g_VI (As := [.int 2]) (rest := []) ⟨hx, hb, hml, hown, hts⟩ hG hN (i := 43) (by decide) rfl rfl (c_X10_can l 2) (cwV 1 hts gX10_ink_X10_can rfl rfl rfl (by decide +kernel) ⟨Nat.le_of_ble_eq_true rfl, Nat.le_of_ble_eq_true rfl⟩) rfl hl.1 rfl (Nat.le_of_ble_eq_true rfl) dX10_ink_33 ⟨Nat.le_of_ble_eq_true rfl, Nat.le_of_ble_eq_true rfl⟩ (fun H locs hN => ?_)
        refine g_top (y := 0) (by decide) ?_
        refine lv_if_ne (tgt := 41) hx hb dX10_ink_36 (by decide) (fun c5 => False.elim (by revert c5; decide)) (fun _ => ?_)
        refine lv_iconst (v := 0) hx hb dX10_ink_39 (by decide) ?_
        exact g_ri hx hb hr hlocks hN (mP_no (n := 2) (by simp [fInk, c1, c3, c4]) (by decide)) dX10_ink_40
      · refine lv_iconst (v := 0) hx hb dX10_ink_28 (by decide) ?_
        refine lv_goto (tgt := 33) hx hb dX10_ink_29 (by decide) ?_
        refine g_VI (As := [.int 0]) (rest := []) ⟨hx, hb, hml, hown, hts⟩ hG hN (i := 43) (by decide) rfl rfl (c_X10_can l 0) (cwV 1 hts gX10_ink_X10_can rfl rfl rfl (by decide +kernel) ⟨Nat.le_of_ble_eq_true rfl, Nat.le_of_ble_eq_true rfl⟩) rfl hl.1 rfl (Nat.le_of_ble_eq_true rfl) dX10_ink_33 ⟨Nat.le_of_ble_eq_true rfl, Nat.le_of_ble_eq_true rfl⟩ (fun H locs hN => ?_)
        refine g_top (y := 1) (by decide) ?_
        obtain ⟨j, hj, ej⟩ := gIdx_n 64 rfl (by decide) c1
        subst ej
        obtain ⟨i, hi, ei⟩ := gIdx_n 4 rfl (by decide) c3
        subst ei
        refine lv_if_ne (tgt := 41) hx hb dX10_ink_36 (by decide) (fun _ => ?_) (fun c6 => False.elim (by revert c6; decide))
        refine lv_iload_n hx hb dX10_ink_41 rfl (lv_at hl 3 rfl) ?_
        by_cases e7 : w = 0
        · refine lv_tableIn (off := 30) (tgt := 72) hx hb dX10_ink_42 (by rw [e7]; decide) (by rw [e7]; decide) (by rw [e7]; rfl) (by decide) ?_
          refine lv_aload_n hx hb dX10_ink_72 rfl (lv_at hl 0 rfl) ?_
          refine lv_iload_n hx hb dX10_ink_73 rfl (lv_at hl 1 rfl) ?_
          refine lv_iload_n hx hb dX10_ink_74 rfl (lv_at hl 2 rfl) ?_
          refine g_VI (As := [.int (nI j), .int (nI i)]) (rest := []) ⟨hx, hb, hml, hown, hts⟩ hG hN (i := 43) (by decide) rfl rfl (c_X10_plain l j i (show mNz F (gw V 43 31 0) from hnz) (by omega) (by omega)) (cwV 2 hts gX10_ink_X10_plain rfl rfl rfl (by decide +kernel) ⟨Nat.le_of_ble_eq_true rfl, Nat.le_of_ble_eq_true rfl⟩) rfl hl.1 rfl (Nat.le_of_ble_eq_true rfl) dX10_ink_75 ⟨Nat.le_of_ble_eq_true rfl, Nat.le_of_ble_eq_true rfl⟩ (fun H locs hN => ?_)
          refine g_top (y := cAhead (tF F) (tV F V) j i) (rfl) ?_
          exact g_ri hx hb hr hlocks hN (by simp only [nI_clamp (show j < 2 ^ 31 by omega), nI_clamp (show i < 2 ^ 31 by omega)]; exact mP_ok (by simp [fInk, c1, c3, c4]) rfl (by simp [rInk, cPlate, c1, c3, c4, e7]) (sim.rf.v31)) dX10_ink_78
        by_cases e8 : w = 1
        · refine lv_tableIn (off := 37) (tgt := 79) hx hb dX10_ink_42 (by rw [e8]; decide) (by rw [e8]; decide) (by rw [e8]; rfl) (by decide) ?_
          refine lv_aload_n hx hb dX10_ink_79 rfl (lv_at hl 0 rfl) ?_
          refine lv_iload_n hx hb dX10_ink_80 rfl (lv_at hl 1 rfl) ?_
          refine lv_iload_n hx hb dX10_ink_81 rfl (lv_at hl 2 rfl) ?_
          refine g_VI (As := [.int (nI j), .int (nI i)]) (rest := []) ⟨hx, hb, hml, hown, hts⟩ hG hN (i := 43) (by decide) rfl rfl (c_X10_wanted l j i (show mNz F (gw V 43 31 0) from hnz) (by omega) (by omega)) (cwV 2 hts gX10_ink_X10_wanted rfl rfl rfl (by decide +kernel) ⟨Nat.le_of_ble_eq_true rfl, Nat.le_of_ble_eq_true rfl⟩) rfl hl.1 rfl (Nat.le_of_ble_eq_true rfl) dX10_ink_82 ⟨Nat.le_of_ble_eq_true rfl, Nat.le_of_ble_eq_true rfl⟩ (fun H locs hN => ?_)
          refine g_top (y := cWant (tF F) (tV F V) j i) (rfl) ?_
          exact g_ri hx hb hr hlocks hN (by simp only [nI_clamp (show j < 2 ^ 31 by omega), nI_clamp (show i < 2 ^ 31 by omega)]; exact mP_ok (by simp [fInk, c1, c3, c4]) rfl (by simp [rInk, cPlate, c1, c3, c4, e8]) (sim.rf.v31)) dX10_ink_85
        by_cases e9 : w = 2
        · refine lv_tableIn (off := 44) (tgt := 86) hx hb dX10_ink_42 (by rw [e9]; decide) (by rw [e9]; decide) (by rw [e9]; rfl) (by decide) ?_
          refine lv_aload_n hx hb dX10_ink_86 rfl (lv_at hl 0 rfl) ?_
          refine lv_iload_n hx hb dX10_ink_87 rfl (lv_at hl 2 rfl) ?_
          refine lv_aload_n hx hb dX10_ink_88 rfl (lv_at hl 0 rfl) ?_
          refine lv_iload_n hx hb dX10_ink_89 rfl (lv_at hl 1 rfl) ?_
          refine lv_iload_n hx hb dX10_ink_90 rfl (lv_at hl 2 rfl) ?_
          refine g_VI (As := [.int (nI j), .int (nI i)]) (rest := [.int (nI i), .ref (ad 43)]) ⟨hx, hb, hml, hown, hts⟩ hG hN (i := 43) (by decide) rfl rfl (c_X10_wanted l j i (show mNz F (gw V 43 31 0) from hnz) (by omega) (by omega)) (cwV 2 hts gX10_ink_X10_wanted rfl rfl rfl (by decide +kernel) ⟨Nat.le_of_ble_eq_true rfl, Nat.le_of_ble_eq_true rfl⟩) rfl hl.1 rfl (Nat.le_of_ble_eq_true rfl) dX10_ink_91 ⟨Nat.le_of_ble_eq_true rfl, Nat.le_of_ble_eq_true rfl⟩ (fun H locs hN => ?_)
          refine g_top (y := cWant (tF F) (tV F V) j i) (rfl) ?_
          refine g_VI (As := [.int (nI i), .int (cWant (tF F) (tV F V) j i)]) (rest := []) ⟨hx, hb, hml, hown, hts⟩ hG hN (i := 43) (by decide) rfl rfl (c_X10_tint l i (cWant (tF F) (tV F V) j i) (by omega) (hwm _ _ (by omega) (by omega))) (cwV 2 hts gX10_ink_X10_tint rfl rfl rfl (by decide +kernel) ⟨Nat.le_of_ble_eq_true rfl, Nat.le_of_ble_eq_true rfl⟩) rfl hl.1 rfl (Nat.le_of_ble_eq_true rfl) dX10_ink_94 ⟨Nat.le_of_ble_eq_true rfl, Nat.le_of_ble_eq_true rfl⟩ (fun H locs hN => ?_)
          exact g_ri hx hb hr hlocks hN (by simp only [nI_clamp (show j < 2 ^ 31 by omega), nI_clamp (show i < 2 ^ 31 by omega)]; exact mP_ok (by simp [fInk, c1, c3, c4]) rfl (by simp [rInk, cPlate, c1, c3, c4, e9]) (sim.rf.v31)) dX10_ink_97
        by_cases e10 : w = 3
        · refine lv_tableIn (off := 56) (tgt := 98) hx hb dX10_ink_42 (by rw [e10]; decide) (by rw [e10]; decide) (by rw [e10]; rfl) (by decide) ?_
          refine lv_aload_n hx hb dX10_ink_98 rfl (lv_at hl 0 rfl) ?_
          refine gf_43_7 hx hb hts hin_10 hown hG hN hk_29 dX10_ink_99 ?_
          refine lv_iconst (v := 4) hx hb dX10_ink_102 (by decide) ?_
          refine lv_iload_n hx hb dX10_ink_103 rfl (lv_at hl 1 rfl) ?_
          refine g_mulN (a := 4) (b := j) hx hb rfl rfl dX10_ink_104 ?_
          refine lv_iload_n hx hb dX10_ink_105 rfl (lv_at hl 2 rfl) ?_
          refine g_addN (a := 4 * j) (b := i) hx hb rfl rfl dX10_ink_106 ?_
          refine g_iald hx hb hG hN (i := 50) (n := 256) (j := (4 * j) + i) (by decide) rfl (by decide) (by omega) rfl dX10_ink_107 ?_
          refine g_top (y := tF F (14 + i) j) ((tF_14 (by omega)).symm) ?_
          exact g_ri hx hb hr hlocks hN (by simp only [nI_clamp (show j < 2 ^ 31 by omega), nI_clamp (show i < 2 ^ 31 by omega)]; exact mP_ok (by simp [fInk, c1, c3, c4]) rfl (by simp [rInk, cPlate, c1, c3, c4, e10]) (sim.rf.v31)) dX10_ink_108
        have h11 : w.toInt < 0 ∨ 3 < w.toInt := by
          have := lv_neT (a := 0) e7 (by decide)
          have := lv_neT (a := 1) e8 (by decide)
          have := lv_neT (a := 2) e9 (by decide)
          have := lv_neT (a := 3) e10 (by decide)
          omega
        refine lv_tableOut (tgt := 109) hx hb dX10_ink_42 h11 (by decide) ?_
        refine lv_aload_n hx hb dX10_ink_109 rfl (lv_at hl 0 rfl) ?_
        refine lv_iconst (v := 4) hx hb dX10_ink_110 (by decide) ?_
        refine lv_iload_n hx hb dX10_ink_111 rfl (lv_at hl 1 rfl) ?_
        refine g_mulN (a := 4) (b := j) hx hb rfl rfl dX10_ink_112 ?_
        refine lv_iload_n hx hb dX10_ink_113 rfl (lv_at hl 2 rfl) ?_
        refine g_addN (a := 4 * j) (b := i) hx hb rfl rfl dX10_ink_114 ?_
        refine g_VI (As := [.int (nI ((4 * j) + i))]) (rest := []) ⟨hx, hb, hml, hown, hts⟩ hG hN (i := 43) (by decide) rfl rfl (c_X10_printsNow l ((4 * j) + i) (by omega)) (cwV 1 hts gX10_ink_X10_printsNow rfl rfl rfl (by decide +kernel) ⟨Nat.le_of_ble_eq_true rfl, Nat.le_of_ble_eq_true rfl⟩) rfl hl.1 rfl (Nat.le_of_ble_eq_true rfl) dX10_ink_115 ⟨Nat.le_of_ble_eq_true rfl, Nat.le_of_ble_eq_true rfl⟩ (fun H locs hN => ?_)
        refine g_top (y := cPrn (tF F) j i) (by rw [show (4 * j + i) / 4 = j by omega, show (4 * j + i) % 4 = i by omega]) ?_
        exact g_ri hx hb hr hlocks hN (by simp only [nI_clamp (show j < 2 ^ 31 by omega), nI_clamp (show i < 2 ^ 31 by omega)]; exact mP_ok (by simp [fInk, c1, c3, c4]) rfl (by simp [rInk, cPlate, c1, c3, c4, e7, e8, e9, e10, h11]) (sim.rf.v31)) dX10_ink_118
    · refine lv_iconst (v := 1) hx hb dX10_ink_15 (by decide) ?_
      refine lv_goto (tgt := 33) hx hb dX10_ink_16 (by decide) ?_
      refine g_VI (As := [.int 1]) (rest := []) ⟨hx, hb, hml, hown, hts⟩ hG hN (i := 43) (by decide) rfl rfl (c_X10_can l 1) (cwV 1 hts gX10_ink_X10_can rfl rfl rfl (by decide +kernel) ⟨Nat.le_of_ble_eq_true rfl, Nat.le_of_ble_eq_true rfl⟩) rfl hl.1 rfl (Nat.le_of_ble_eq_true rfl) dX10_ink_33 ⟨Nat.le_of_ble_eq_true rfl, Nat.le_of_ble_eq_true rfl⟩ (fun H locs hN => ?_)
      refine g_top (y := 0) (by decide) ?_
      refine lv_if_ne (tgt := 41) hx hb dX10_ink_36 (by decide) (fun c12 => False.elim (by revert c12; decide)) (fun _ => ?_)
      refine lv_iconst (v := 0) hx hb dX10_ink_39 (by decide) ?_
      exact g_ri hx hb hr hlocks hN (mP_no (n := 1) (by simp [fInk, c1, c3]) (by decide)) dX10_ink_40
set_option maxHeartbeats 4000000 in
set_option maxRecDepth 100000 in
theorem c_X10_dot (l : Launch) {D : va_G} {ad : Nat → Nat} {cs : Nat → ClassId} {zd : Nat → Nat} {F V : gF} {o : gO} {sz : Nat} (c k : Int32) : Met l yX10_dot wsX10_dot ({ frames := 2, cells := 0, slots := 0, locals := 42 } : Room) (gPc D ad cs zd F V o sz [.ref (ad 43), .int c, .int k]) (gQi D ad cs sz (fun r9 u9 => mP F V o (fDot c k) r9 (if (cDot1 (tF F) (k.toNatClampNeg) (c.toNatClampNeg - c.toNatClampNeg % 8) (c.toNatClampNeg % 8 + 1)).2 = true then 1 else 0) (tF F) (tV F V) u9)) 0 0 (gX ad sz) := by
  refine g_met (Qc := fun z0 => gQi D ad cs z0 (fun r9 u9 => mP F V o (fDot c k) r9 (if (cDot1 (tF F) (k.toNatClampNeg) (c.toNatClampNeg - c.toNatClampNeg % 8) (c.toNatClampNeg % 8 + 1)).2 = true then 1 else 0) (tF F) (tV F V) u9)) (cc := cX10_dot) (maxL := 7) (ret := (some .boolean)) (own := RX10) (by decide +kernel) rfl rfl (Nat.le_of_ble_eq_true rfl) ?_
  intro p0 e0 s0 m0 b0 k0 c0 hx hb hr hts hown hlocks hml hG hN ls hl
  have hl : lv_has ls 7 [(0, .ref (ad 43)), (1, .int c), (2, .int k)] := hl
  have hin_10 : ∀ w ∈ wsX100, w ∈ wsX10_dot := by decide +kernel
  have hk_29 := hts (.fieldLink RX10 29 "GravureHouseModel" "plate" "[I") (by decide +kernel)
  refine lv_aload_n hx hb dX10_dot_0 rfl (lv_at hl 0 rfl) ?_
  refine lv_iload_n hx hb dX10_dot_1 rfl (lv_at hl 1 rfl) ?_
  refine g_SI (As := [.int c]) (rest := [.ref (ad 43)]) ⟨hx, hb, hml, hown, hts⟩ hG hN (c_X10_isCell l c) (va_cwS 1 hts gX10_dot_X10_isCell rfl rfl rfl (by decide +kernel) ⟨Nat.le_of_ble_eq_true rfl, Nat.le_of_ble_eq_true rfl⟩) rfl hl.1 rfl (Nat.le_of_ble_eq_true rfl) dX10_dot_2 ⟨Nat.le_of_ble_eq_true rfl, Nat.le_of_ble_eq_true rfl⟩ (fun H locs hN => ?_)
  refine g_ifb_eq (gIdx c 64 = true) (tgt := 19) hx hb dX10_dot_5 (by decide) rfl (fun c1 => ?_) (fun c1 => ?_)
  · refine lv_iconst (v := 1) hx hb dX10_dot_19 (by decide) ?_
    refine g_VI (As := [.int 1]) (rest := []) ⟨hx, hb, hml, hown, hts⟩ hG hN (i := 43) (by decide) rfl rfl (c_X10_can l 1) (cwV 1 hts gX10_dot_X10_can rfl rfl rfl (by decide +kernel) ⟨Nat.le_of_ble_eq_true rfl, Nat.le_of_ble_eq_true rfl⟩) rfl hl.1 rfl (Nat.le_of_ble_eq_true rfl) dX10_dot_20 ⟨Nat.le_of_ble_eq_true rfl, Nat.le_of_ble_eq_true rfl⟩ (fun H locs hN => ?_)
    refine g_top (y := 0) (by decide) ?_
    refine lv_if_ne (tgt := 28) hx hb dX10_dot_23 (by decide) (fun c2 => False.elim (by revert c2; decide)) (fun _ => ?_)
    refine lv_iconst (v := 0) hx hb dX10_dot_26 (by decide) ?_
    exact g_rz hx hb hr hlocks (by decide) hN (mP_no (n := 1) (by simp [fDot, c1]) (by decide)) dX10_dot_27
  · refine lv_iload_n hx hb dX10_dot_8 rfl (lv_at hl 2 rfl) ?_
    refine g_SI (As := [.int k]) (rest := [.ref (ad 43)]) ⟨hx, hb, hml, hown, hts⟩ hG hN (c_X10_isInk l k) (va_cwS 1 hts gX10_dot_X10_isInk rfl rfl rfl (by decide +kernel) ⟨Nat.le_of_ble_eq_true rfl, Nat.le_of_ble_eq_true rfl⟩) rfl hl.1 rfl (Nat.le_of_ble_eq_true rfl) dX10_dot_9 ⟨Nat.le_of_ble_eq_true rfl, Nat.le_of_ble_eq_true rfl⟩ (fun H locs hN => ?_)
    refine g_ifb_eq (gIdx k 4 = true) (tgt := 19) hx hb dX10_dot_12 (by decide) rfl (fun c3 => ?_) (fun c3 => ?_)
    · refine lv_iconst (v := 1) hx hb dX10_dot_19 (by decide) ?_
      refine g_VI (As := [.int 1]) (rest := []) ⟨hx, hb, hml, hown, hts⟩ hG hN (i := 43) (by decide) rfl rfl (c_X10_can l 1) (cwV 1 hts gX10_dot_X10_can rfl rfl rfl (by decide +kernel) ⟨Nat.le_of_ble_eq_true rfl, Nat.le_of_ble_eq_true rfl⟩) rfl hl.1 rfl (Nat.le_of_ble_eq_true rfl) dX10_dot_20 ⟨Nat.le_of_ble_eq_true rfl, Nat.le_of_ble_eq_true rfl⟩ (fun H locs hN => ?_)
      refine g_top (y := 0) (by decide) ?_
      refine lv_if_ne (tgt := 28) hx hb dX10_dot_23 (by decide) (fun c4 => False.elim (by revert c4; decide)) (fun _ => ?_)
      refine lv_iconst (v := 0) hx hb dX10_dot_26 (by decide) ?_
      exact g_rz hx hb hr hlocks (by decide) hN (mP_no (n := 1) (by simp [fDot, c1, c3]) (by decide)) dX10_dot_27
    · refine lv_iconst (v := 0) hx hb dX10_dot_15 (by decide) ?_
      refine lv_goto (tgt := 20) hx hb dX10_dot_16 (by decide) ?_
      refine g_VI (As := [.int 0]) (rest := []) ⟨hx, hb, hml, hown, hts⟩ hG hN (i := 43) (by decide) rfl rfl (c_X10_can l 0) (cwV 1 hts gX10_dot_X10_can rfl rfl rfl (by decide +kernel) ⟨Nat.le_of_ble_eq_true rfl, Nat.le_of_ble_eq_true rfl⟩) rfl hl.1 rfl (Nat.le_of_ble_eq_true rfl) dX10_dot_20 ⟨Nat.le_of_ble_eq_true rfl, Nat.le_of_ble_eq_true rfl⟩ (fun H locs hN => ?_)
      refine g_top (y := 1) (by decide) ?_
      obtain ⟨j, hj, ej⟩ := gIdx_n 64 rfl (by decide) c1
      subst ej
      obtain ⟨i, hi, ei⟩ := gIdx_n 4 rfl (by decide) c3
      subst ei
      refine lv_if_ne (tgt := 28) hx hb dX10_dot_23 (by decide) (fun _ => ?_) (fun c5 => False.elim (by revert c5; decide))
      refine lv_iconst (v := 0) hx hb dX10_dot_28 (by decide) ?_
      refine lv_istore_n (lv' := [(3, .int 0), (0, .ref (ad 43)), (1, .int (nI j)), (2, .int (nI i))]) hx hb dX10_dot_29 rfl hl (by decide) rfl (fun ls hl => ?_)
      refine lv_iconst (v := 0) hx hb dX10_dot_30 (by decide) ?_
      refine lv_istore (lv' := [(4, .int 0), (3, .int 0), (0, .ref (ad 43)), (1, .int (nI j)), (2, .int (nI i))]) hx hb dX10_dot_31 hl (by decide) rfl (fun ls hl => ?_)
      refine lv_iload_n hx hb dX10_dot_33 rfl (lv_at hl 3 rfl) ?_
      refine lv_iload_n hx hb dX10_dot_34 rfl (lv_at hl 3 rfl) ?_
      refine lv_bipush (v := 8) hx hb dX10_dot_35 (by decide) ?_
      refine g_remN (a := j) (b := 8) hx hb rfl rfl (by omega) (by omega) (by omega) dX10_dot_37 ?_
      refine g_subN (a := j) (b := j % 8) hx hb rfl rfl (by omega) dX10_dot_38 ?_
      refine lv_istore (lv' := [(5, .int (nI (j - (j % 8)))), (4, .int 0), (3, .int 0), (0, .ref (ad 43)), (1, .int (nI j)), (2, .int (nI i))]) hx hb dX10_dot_39 hl (by decide) rfl (fun ls hl => ?_)
      have L6 : ∀ (d9_41 : Nat) (n : Nat) (x3 : Int32) (x4 : Int32) (H : Heap) (locs : List Loc) (ls : Array Slot), j % 8 + 1 - n = d9_41 → (n ≤ j % 8 + 1) → (x3 = (cDot1 (tF F) i (j - j % 8) n).1) → (x4 = if (cDot1 (tF F) i (j - j % 8) n).2 = true then 1 else 0) → gN D ad cs s0 F (gw V 43 31 0) o H locs → lv_has ls 7 [(0, .ref (ad 43)), (1, .int (nI j)), (2, .int (nI i)), (3, .int x3), (4, .int x4), (5, .int (nI (j - j % 8 + n)))] → W p0 l e0 ({ frames := 2, cells := 0, slots := 0, locals := 42 } : Room) s0 m0 ([.ref (ad 43), .int (nI j), .int (nI i)] : List Value).toArray b0 k0 c0 H locs 0 0 (MQ b0 (gQi D ad cs s0.heap.size (fun r9 u9 => mP F V o (fDot (nI j) (nI i)) r9 (if (cDot1 (tF F) ((nI i).toNatClampNeg) ((nI j).toNatClampNeg - (nI j).toNatClampNeg % 8) ((nI j).toNatClampNeg % 8 + 1)).2 = true then 1 else 0) (tF F) (tV F V) u9)) ([.ref (ad 43), .int (nI j), .int (nI i)] : List Value).toArray s0 0 0 (gX ad s0.heap.size)) (F0 m0 41 ls []) := by
        intro d9_41
        induction d9_41 with
        | zero =>
          intro n x3 x4 H locs ls hd_41 hn e3 e4 hN hl
          refine lv_iload hx hb dX10_dot_41 (lv_at hl 5 rfl) ?_
          refine lv_iload_n hx hb dX10_dot_43 rfl (lv_at hl 1 rfl) ?_
          refine g_cN_gt (a := j - j % 8 + n) (b := j) (tgt := 98) hx hb dX10_dot_44 (by decide) rfl rfl (by omega) (by omega) (fun c7 => ?_) (fun c7 => absurd c7 (by omega))
          refine lv_iload hx hb dX10_dot_98 (lv_at hl 4 rfl) ?_
          exact g_rz hx hb hr hlocks (by rw [e4]; exact g_nz _) hN (by simp only [nI_clamp (show j < 2 ^ 31 by omega), nI_clamp (show i < 2 ^ 31 by omega)]; exact mP_ok (by simp [fDot, c1, c3]) rfl (by rw [e4, show n = j % 8 + 1 by omega]) (sim.rf.v31)) dX10_dot_100
        | succ d9_41 ih41 =>
          intro n x3 x4 H locs ls hd_41 hn e3 e4 hN hl
          refine lv_iload hx hb dX10_dot_41 (lv_at hl 5 rfl) ?_
          refine lv_iload_n hx hb dX10_dot_43 rfl (lv_at hl 1 rfl) ?_
          refine g_cN_gt (a := j - j % 8 + n) (b := j) (tgt := 98) hx hb dX10_dot_44 (by decide) rfl rfl (by omega) (by omega) (fun c8 => absurd c8 (by omega)) (fun c8 => ?_)
          refine lv_aload_n hx hb dX10_dot_47 rfl (lv_at hl 0 rfl) ?_
          refine gf_43_7 hx hb hts hin_10 hown hG hN hk_29 dX10_dot_48 ?_
          refine lv_iconst (v := 4) hx hb dX10_dot_51 (by decide) ?_
          refine lv_iload hx hb dX10_dot_52 (lv_at hl 5 rfl) ?_
          refine g_mulN (a := 4) (b := j - j % 8 + n) hx hb rfl rfl dX10_dot_54 ?_
          refine lv_iload_n hx hb dX10_dot_55 rfl (lv_at hl 2 rfl) ?_
          refine g_addN (a := 4 * (j - j % 8 + n)) (b := i) hx hb rfl rfl dX10_dot_56 ?_
          refine g_iald hx hb hG hN (i := 50) (n := 256) (j := (4 * (j - j % 8 + n)) + i) (by decide) rfl (by decide) (by omega) rfl dX10_dot_57 ?_
          refine g_top (y := tF F (14 + i) (j - j % 8 + n)) ((tF_14 (by omega)).symm) ?_
          refine lv_iload_n hx hb dX10_dot_58 rfl (lv_at hl 3 rfl) ?_
          refine lv_iadd hx hb dX10_dot_59 ?_
          refine g_top (y := x3 + tF F (14 + i) (j - j % 8 + n)) (Int32.add_comm _ _) ?_
          refine lv_istore (lv' := [(6, .int (x3 + tF F (14 + i) (j - j % 8 + n))), (0, .ref (ad 43)), (1, .int (nI j)), (2, .int (nI i)), (3, .int x3), (4, .int x4), (5, .int (nI (j - j % 8 + n)))]) hx hb dX10_dot_60 hl (by decide) rfl (fun ls hl => ?_)
          refine lv_iload hx hb dX10_dot_62 (lv_at hl 0 rfl) ?_
          refine lv_bipush (v := 50) hx hb dX10_dot_64 (by decide) ?_
          refine lv_icmp_lt (tgt := 73) hx hb dX10_dot_66 (by decide) (fun c9 => ?_) (fun c9 => ?_)
          · refine lv_iconst (v := 0) hx hb dX10_dot_73 (by decide) ?_
            refine lv_istore (lv' := [(4, .int 0), (6, .int (x3 + tF F (14 + i) (j - j % 8 + n))), (0, .ref (ad 43)), (1, .int (nI j)), (2, .int (nI i)), (3, .int x3), (5, .int (nI (j - j % 8 + n)))]) hx hb dX10_dot_74 hl (by decide) rfl (fun ls hl => ?_)
            refine lv_iload hx hb dX10_dot_76 (lv_at hl 0 rfl) ?_
            refine lv_if_eq (tgt := 89) hx hb dX10_dot_78 (by decide) (fun _ => ?_) (fun c10 => False.elim (by revert c10; decide))
            refine lv_iload hx hb dX10_dot_89 (lv_at hl 1 rfl) ?_
            refine lv_istore_n (lv' := [(3, .int (x3 + tF F (14 + i) (j - j % 8 + n))), (4, .int 0), (6, .int (x3 + tF F (14 + i) (j - j % 8 + n))), (0, .ref (ad 43)), (1, .int (nI j)), (2, .int (nI i)), (5, .int (nI (j - j % 8 + n)))]) hx hb dX10_dot_91 rfl hl (by decide) rfl (fun ls hl => ?_)
            refine lv_iinc (v := (nI ((j - j % 8 + n) + 1))) (lv' := [(5, .int (nI ((j - j % 8 + n) + 1))), (3, .int (x3 + tF F (14 + i) (j - j % 8 + n))), (4, .int 0), (6, .int (x3 + tF F (14 + i) (j - j % 8 + n))), (0, .ref (ad 43)), (1, .int (nI j)), (2, .int (nI i))]) hx hb dX10_dot_92 hl (k := 6) rfl (nI_1 _) (by decide) rfl (fun ls hl => ?_)
            refine lv_goto (tgt := 41) hx hb dX10_dot_95 (by decide) ?_
            exact ih41 (n + 1) (x3 + tF F (14 + i) (j - j % 8 + n)) 0 _ _ ls (by omega) (by omega) (by simp [cDot1, ← e3, c9, Int32.not_le.mpr c9]) (by simp [cDot1, ← e3, c9, Int32.not_le.mpr c9]) hN (lv_sub hl [4, 5, 6, 1, 2, 0] rfl)
          · refine lv_iconst (v := 1) hx hb dX10_dot_69 (by decide) ?_
            refine lv_goto (tgt := 74) hx hb dX10_dot_70 (by decide) ?_
            refine lv_istore (lv' := [(4, .int 1), (6, .int (x3 + tF F (14 + i) (j - j % 8 + n))), (0, .ref (ad 43)), (1, .int (nI j)), (2, .int (nI i)), (3, .int x3), (5, .int (nI (j - j % 8 + n)))]) hx hb dX10_dot_74 hl (by decide) rfl (fun ls hl => ?_)
            refine lv_iload hx hb dX10_dot_76 (lv_at hl 0 rfl) ?_
            refine lv_if_eq (tgt := 89) hx hb dX10_dot_78 (by decide) (fun c11 => False.elim (by revert c11; decide)) (fun _ => ?_)
            refine lv_iload hx hb dX10_dot_81 (lv_at hl 1 rfl) ?_
            refine lv_bipush (v := 100) hx hb dX10_dot_83 (by decide) ?_
            refine lv_isub hx hb dX10_dot_85 ?_
            refine g_top (y := x3 + tF F (14 + i) (j - j % 8 + n) + (-100)) (by grind) ?_
            refine lv_goto (tgt := 91) hx hb dX10_dot_86 (by decide) ?_
            refine lv_istore_n (lv' := [(3, .int (x3 + tF F (14 + i) (j - j % 8 + n) + (-100))), (4, .int 1), (6, .int (x3 + tF F (14 + i) (j - j % 8 + n))), (0, .ref (ad 43)), (1, .int (nI j)), (2, .int (nI i)), (5, .int (nI (j - j % 8 + n)))]) hx hb dX10_dot_91 rfl hl (by decide) rfl (fun ls hl => ?_)
            refine lv_iinc (v := (nI ((j - j % 8 + n) + 1))) (lv' := [(5, .int (nI ((j - j % 8 + n) + 1))), (3, .int (x3 + tF F (14 + i) (j - j % 8 + n) + (-100))), (4, .int 1), (6, .int (x3 + tF F (14 + i) (j - j % 8 + n))), (0, .ref (ad 43)), (1, .int (nI j)), (2, .int (nI i))]) hx hb dX10_dot_92 hl (k := 6) rfl (nI_1 _) (by decide) rfl (fun ls hl => ?_)
            refine lv_goto (tgt := 41) hx hb dX10_dot_95 (by decide) ?_
            exact ih41 (n + 1) (x3 + tF F (14 + i) (j - j % 8 + n) + (-100)) 1 _ _ ls (by omega) (by omega) (by simp [cDot1, ← e3, c9, Int32.not_lt.mp c9]) (by simp [cDot1, ← e3, c9, Int32.not_lt.mp c9]) hN (lv_sub hl [4, 5, 6, 1, 2, 0] rfl)
      exact L6 _ 0 0 0 _ _ ls (rfl) (by omega) (rfl) (rfl) hN (lv_sub hl [3, 4, 5, 2, 1, 0] rfl)
set_option maxHeartbeats 4000000 in
set_option maxRecDepth 100000 in
theorem c_X10_unit (l : Launch) {D : va_G} {ad : Nat → Nat} {cs : Nat → ClassId} {zd : Nat → Nat} {F V : gF} {o : gO} {sz : Nat} (u w : Int32) : Met l yX10_unit wsX10_unit ({ frames := 2, cells := 0, slots := 0, locals := 42 } : Room) (gPc D ad cs zd F V o sz [.ref (ad 43), .int u, .int w]) (gQi D ad cs sz (fun r9 u9 => mP F V o (fUni u w) r9 (rUni (tF F) (u.toNatClampNeg) (w.toNatClampNeg)) (tF F) (tV F V) u9)) 0 0 (gX ad sz) := by
  refine g_met (Qc := fun z0 => gQi D ad cs z0 (fun r9 u9 => mP F V o (fUni u w) r9 (rUni (tF F) (u.toNatClampNeg) (w.toNatClampNeg)) (tF F) (tV F V) u9)) (cc := cX10_unit) (maxL := 3) (ret := (some .int)) (own := RX10) (by decide +kernel) rfl rfl (Nat.le_of_ble_eq_true rfl) ?_
  intro p0 e0 s0 m0 b0 k0 c0 hx hb hr hts hown hlocks hml hG hN ls hl
  have hl : lv_has ls 3 [(0, .ref (ad 43)), (1, .int u), (2, .int w)] := hl
  have hin_10 : ∀ w ∈ wsX100, w ∈ wsX10_unit := by decide +kernel
  have hk_35 := hts (.fieldLink RX10 35 "GravureHouseModel" "y" "[I") (by decide +kernel)
  have hk_32 := hts (.fieldLink RX10 32 "GravureHouseModel" "x" "[I") (by decide +kernel)
  refine lv_aload_n hx hb dX10_unit_0 rfl (lv_at hl 0 rfl) ?_
  refine lv_iload_n hx hb dX10_unit_1 rfl (lv_at hl 1 rfl) ?_
  refine g_SI (As := [.int u]) (rest := [.ref (ad 43)]) ⟨hx, hb, hml, hown, hts⟩ hG hN (c_X10_isInk l u) (va_cwS 1 hts gX10_unit_X10_isInk rfl rfl rfl (by decide +kernel) ⟨Nat.le_of_ble_eq_true rfl, Nat.le_of_ble_eq_true rfl⟩) rfl hl.1 rfl (Nat.le_of_ble_eq_true rfl) dX10_unit_2 ⟨Nat.le_of_ble_eq_true rfl, Nat.le_of_ble_eq_true rfl⟩ (fun H locs hN => ?_)
  refine g_ifb_ne (gIdx u 4 = true) (tgt := 12) hx hb dX10_unit_5 (by decide) rfl (fun c1 => ?_) (fun c1 => ?_)
  · refine lv_iload_n hx hb dX10_unit_12 rfl (lv_at hl 2 rfl) ?_
    refine lv_iconst (v := 0) hx hb dX10_unit_13 (by decide) ?_
    refine lv_bipush (v := 9) hx hb dX10_unit_14 (by decide) ?_
    refine g_SI (As := [.int w, .int 0, .int 9]) (rest := [.ref (ad 43)]) ⟨hx, hb, hml, hown, hts⟩ hG hN (c_X10_isIn l w 0 9) (va_cwS 3 hts gX10_unit_X10_isIn rfl rfl rfl (by decide +kernel) ⟨Nat.le_of_ble_eq_true rfl, Nat.le_of_ble_eq_true rfl⟩) rfl hl.1 rfl (Nat.le_of_ble_eq_true rfl) dX10_unit_16 ⟨Nat.le_of_ble_eq_true rfl, Nat.le_of_ble_eq_true rfl⟩ (fun H locs hN => ?_)
    refine g_ifb_eq (gRng w 0 9 = true) (tgt := 26) hx hb dX10_unit_19 (by decide) rfl (fun c2 => ?_) (fun c2 => ?_)
    · refine lv_iconst (v := 2) hx hb dX10_unit_26 (by decide) ?_
      refine g_VI (As := [.int 2]) (rest := []) ⟨hx, hb, hml, hown, hts⟩ hG hN (i := 43) (by decide) rfl rfl (c_X10_can l 2) (cwV 1 hts gX10_unit_X10_can rfl rfl rfl (by decide +kernel) ⟨Nat.le_of_ble_eq_true rfl, Nat.le_of_ble_eq_true rfl⟩) rfl hl.1 rfl (Nat.le_of_ble_eq_true rfl) dX10_unit_27 ⟨Nat.le_of_ble_eq_true rfl, Nat.le_of_ble_eq_true rfl⟩ (fun H locs hN => ?_)
      refine g_top (y := 0) (by decide) ?_
      refine lv_if_ne (tgt := 35) hx hb dX10_unit_30 (by decide) (fun c3 => False.elim (by revert c3; decide)) (fun _ => ?_)
      refine lv_iconst (v := 0) hx hb dX10_unit_33 (by decide) ?_
      exact g_ri hx hb hr hlocks hN (mP_no (n := 2) (by simp [fUni, c1, c2]) (by decide)) dX10_unit_34
    · refine lv_iconst (v := 0) hx hb dX10_unit_22 (by decide) ?_
      refine lv_goto (tgt := 27) hx hb dX10_unit_23 (by decide) ?_
      refine g_VI (As := [.int 0]) (rest := []) ⟨hx, hb, hml, hown, hts⟩ hG hN (i := 43) (by decide) rfl rfl (c_X10_can l 0) (cwV 1 hts gX10_unit_X10_can rfl rfl rfl (by decide +kernel) ⟨Nat.le_of_ble_eq_true rfl, Nat.le_of_ble_eq_true rfl⟩) rfl hl.1 rfl (Nat.le_of_ble_eq_true rfl) dX10_unit_27 ⟨Nat.le_of_ble_eq_true rfl, Nat.le_of_ble_eq_true rfl⟩ (fun H locs hN => ?_)
      refine g_top (y := 1) (by decide) ?_
      obtain ⟨j, hj, ej⟩ := gIdx_n 4 rfl (by decide) c1
      subst ej
      obtain ⟨i, hi, ei⟩ := gRng_n 9 rfl (by decide) c2
      subst ei
      refine lv_if_ne (tgt := 35) hx hb dX10_unit_30 (by decide) (fun _ => ?_) (fun c4 => False.elim (by revert c4; decide))
      refine lv_iload_n hx hb dX10_unit_35 rfl (lv_at hl 2 rfl) ?_
      refine g_ifN_ne (a := i) (tgt := 48) hx hb dX10_unit_36 (by decide) rfl (by omega) (fun c5 => ?_) (fun c5 => ?_)
      · refine lv_iload_n hx hb dX10_unit_48 rfl (lv_at hl 2 rfl) ?_
        refine lv_iconst (v := 1) hx hb dX10_unit_49 (by decide) ?_
        refine g_cN_ne (a := i) (b := 1) (tgt := 62) hx hb dX10_unit_50 (by decide) rfl rfl (by omega) (by omega) (fun c6 => ?_) (fun c6 => ?_)
        · refine lv_aload_n hx hb dX10_unit_62 rfl (lv_at hl 0 rfl) ?_
          refine lv_iload_n hx hb dX10_unit_63 rfl (lv_at hl 1 rfl) ?_
          refine lv_iload_n hx hb dX10_unit_64 rfl (lv_at hl 2 rfl) ?_
          refine lv_iconst (v := 2) hx hb dX10_unit_65 (by decide) ?_
          refine g_subN (a := i) (b := 2) hx hb rfl rfl (by omega) dX10_unit_66 ?_
          refine g_VI (As := [.int (nI j), .int (nI (i - 2))]) (rest := []) ⟨hx, hb, hml, hown, hts⟩ hG hN (i := 43) (by decide) rfl rfl (c_X10_density l j (i - 2) (by omega) (by omega)) (cwV 2 hts gX10_unit_X10_density rfl rfl rfl (by decide +kernel) ⟨Nat.le_of_ble_eq_true rfl, Nat.le_of_ble_eq_true rfl⟩) rfl hl.1 rfl (Nat.le_of_ble_eq_true rfl) dX10_unit_67 ⟨Nat.le_of_ble_eq_true rfl, Nat.le_of_ble_eq_true rfl⟩ (fun H locs hN => ?_)
          exact g_ri hx hb hr hlocks hN (by simp only [nI_clamp (show j < 2 ^ 31 by omega), nI_clamp (show i < 2 ^ 31 by omega)]; exact mP_ok (by simp [fUni, c1, c2]) rfl (by simp [rUni, tF_19, tF_20, c5, Nat.ne_of_gt c5, c6]) (sim.rf.v31)) dX10_unit_70
        · refine lv_aload_n hx hb dX10_unit_53 rfl (lv_at hl 0 rfl) ?_
          refine gf_43_9 hx hb hts hin_10 hown hG hN hk_35 dX10_unit_54 ?_
          refine lv_iload_n hx hb dX10_unit_57 rfl (lv_at hl 1 rfl) ?_
          refine g_iald hx hb hG hN (i := 52) (n := 4) (j := j) (by decide) rfl (by decide) (by omega) rfl dX10_unit_58 ?_
          refine lv_goto (tgt := 70) hx hb dX10_unit_59 (by decide) ?_
          exact g_ri hx hb hr hlocks hN (by simp only [nI_clamp (show j < 2 ^ 31 by omega), nI_clamp (show i < 2 ^ 31 by omega)]; exact mP_ok (by simp [fUni, c1, c2]) rfl (by simp [rUni, tF_19, tF_20, c5, Nat.ne_of_gt c5, c6]) (sim.rf.v31)) dX10_unit_70
      · refine lv_aload_n hx hb dX10_unit_39 rfl (lv_at hl 0 rfl) ?_
        refine gf_43_8 hx hb hts hin_10 hown hG hN hk_32 dX10_unit_40 ?_
        refine lv_iload_n hx hb dX10_unit_43 rfl (lv_at hl 1 rfl) ?_
        refine g_iald hx hb hG hN (i := 51) (n := 4) (j := j) (by decide) rfl (by decide) (by omega) rfl dX10_unit_44 ?_
        refine lv_goto (tgt := 70) hx hb dX10_unit_45 (by decide) ?_
        exact g_ri hx hb hr hlocks hN (by simp only [nI_clamp (show j < 2 ^ 31 by omega), nI_clamp (show i < 2 ^ 31 by omega)]; exact mP_ok (by simp [fUni, c1, c2]) rfl (by simp [rUni, tF_19, tF_20, c5]) (sim.rf.v31)) dX10_unit_70
  · refine lv_iconst (v := 1) hx hb dX10_unit_8 (by decide) ?_
    refine lv_goto (tgt := 27) hx hb dX10_unit_9 (by decide) ?_
    refine g_VI (As := [.int 1]) (rest := []) ⟨hx, hb, hml, hown, hts⟩ hG hN (i := 43) (by decide) rfl rfl (c_X10_can l 1) (cwV 1 hts gX10_unit_X10_can rfl rfl rfl (by decide +kernel) ⟨Nat.le_of_ble_eq_true rfl, Nat.le_of_ble_eq_true rfl⟩) rfl hl.1 rfl (Nat.le_of_ble_eq_true rfl) dX10_unit_27 ⟨Nat.le_of_ble_eq_true rfl, Nat.le_of_ble_eq_true rfl⟩ (fun H locs hN => ?_)
    refine g_top (y := 0) (by decide) ?_
    refine lv_if_ne (tgt := 35) hx hb dX10_unit_30 (by decide) (fun c7 => False.elim (by revert c7; decide)) (fun _ => ?_)
    refine lv_iconst (v := 0) hx hb dX10_unit_33 (by decide) ?_
    exact g_ri hx hb hr hlocks hN (mP_no (n := 1) (by simp [fUni, c1]) (by decide)) dX10_unit_34
set_option maxHeartbeats 4000000 in
set_option maxRecDepth 100000 in
theorem c_X10_copy (l : Launch) {D : va_G} {ad : Nat → Nat} {cs : Nat → ClassId} {zd : Nat → Nat} {F V : gF} {o : gO} {sz : Nat} (j w : Int32) (N : Nat) (hN3 : V 43 19 = nI N) (hN4 : N ≤ 200) : Met l yX10_copy wsX10_copy ({ frames := 1, cells := 0, slots := 0, locals := 22 } : Room) (gPc D ad cs zd F V o sz [.ref (ad 43), .int j, .int w]) (gQi D ad cs sz (fun r9 u9 => mP F V o (fCop (tV F V) j w) r9 (rCop (tF F) j.toNatClampNeg w.toNatClampNeg) (tF F) (tV F V) u9)) 0 0 (gX ad sz) := by
  refine g_met (Qc := fun z0 => gQi D ad cs z0 (fun r9 u9 => mP F V o (fCop (tV F V) j w) r9 (rCop (tF F) j.toNatClampNeg w.toNatClampNeg) (tF F) (tV F V) u9)) (cc := cX10_copy) (maxL := 3) (ret := (some .int)) (own := RX10) (by decide +kernel) rfl rfl (Nat.le_of_ble_eq_true rfl) ?_
  intro p0 e0 s0 m0 b0 k0 c0 hx hb hr hts hown hlocks hml hG hN ls hl
  have hl : lv_has ls 3 [(0, .ref (ad 43)), (1, .int j), (2, .int w)] := hl
  have hin_10 : ∀ w ∈ wsX100, w ∈ wsX10_copy := by decide +kernel
  have hk_163 := hts (.fieldLink RX10 163 "GravureHouseModel" "copies" "I") (by decide +kernel)
  have hk_59 := hts (.fieldLink RX10 59 "GravureHouseModel" "isGood" "[Z") (by decide +kernel)
  have hk_63 := hts (.fieldLink RX10 63 "GravureHouseModel" "times" "[I") (by decide +kernel)
  refine lv_aload_n hx hb dX10_copy_0 rfl (lv_at hl 0 rfl) ?_
  refine lv_iload_n hx hb dX10_copy_1 rfl (lv_at hl 1 rfl) ?_
  refine lv_iconst (v := 0) hx hb dX10_copy_2 (by decide) ?_
  refine lv_aload_n hx hb dX10_copy_3 rfl (lv_at hl 0 rfl) ?_
  refine gf_43_19 hx hb hts hin_10 hown hG hN hk_163 dX10_copy_4 ?_
  refine g_top (y := nI N) hN3 ?_
  refine lv_iconst (v := 1) hx hb dX10_copy_7 (by decide) ?_
  refine lv_isub hx hb dX10_copy_8 ?_
  refine g_SI (As := [.int j, .int 0, .int ((nI N) - 1)]) (rest := [.ref (ad 43)]) ⟨hx, hb, hml, hown, hts⟩ hG hN (c_X10_isIn l j 0 ((nI N) - 1)) (va_cwS 3 hts gX10_copy_X10_isIn rfl rfl rfl (by decide +kernel) ⟨Nat.le_of_ble_eq_true rfl, Nat.le_of_ble_eq_true rfl⟩) rfl hl.1 rfl (Nat.le_of_ble_eq_true rfl) dX10_copy_9 ⟨Nat.le_of_ble_eq_true rfl, Nat.le_of_ble_eq_true rfl⟩ (fun H locs hN => ?_)
  refine g_ifb_ne (gRng j 0 ((nI N) - 1) = true) (tgt := 19) hx hb dX10_copy_12 (by decide) rfl (fun c1 => ?_) (fun c1 => ?_)
  · refine lv_iload_n hx hb dX10_copy_19 rfl (lv_at hl 2 rfl) ?_
    refine lv_iconst (v := 0) hx hb dX10_copy_20 (by decide) ?_
    refine lv_iconst (v := 1) hx hb dX10_copy_21 (by decide) ?_
    refine g_SI (As := [.int w, .int 0, .int 1]) (rest := [.ref (ad 43)]) ⟨hx, hb, hml, hown, hts⟩ hG hN (c_X10_isIn l w 0 1) (va_cwS 3 hts gX10_copy_X10_isIn rfl rfl rfl (by decide +kernel) ⟨Nat.le_of_ble_eq_true rfl, Nat.le_of_ble_eq_true rfl⟩) rfl hl.1 rfl (Nat.le_of_ble_eq_true rfl) dX10_copy_22 ⟨Nat.le_of_ble_eq_true rfl, Nat.le_of_ble_eq_true rfl⟩ (fun H locs hN => ?_)
    refine g_ifb_eq (gRng w 0 1 = true) (tgt := 32) hx hb dX10_copy_25 (by decide) rfl (fun c2 => ?_) (fun c2 => ?_)
    · refine lv_iconst (v := 2) hx hb dX10_copy_32 (by decide) ?_
      refine g_VI (As := [.int 2]) (rest := []) ⟨hx, hb, hml, hown, hts⟩ hG hN (i := 43) (by decide) rfl rfl (c_X10_can l 2) (cwV 1 hts gX10_copy_X10_can rfl rfl rfl (by decide +kernel) ⟨Nat.le_of_ble_eq_true rfl, Nat.le_of_ble_eq_true rfl⟩) rfl hl.1 rfl (Nat.le_of_ble_eq_true rfl) dX10_copy_33 ⟨Nat.le_of_ble_eq_true rfl, Nat.le_of_ble_eq_true rfl⟩ (fun H locs hN => ?_)
      refine g_top (y := 0) (by decide) ?_
      refine lv_if_ne (tgt := 41) hx hb dX10_copy_36 (by decide) (fun c3 => False.elim (by revert c3; decide)) (fun _ => ?_)
      refine lv_iconst (v := 0) hx hb dX10_copy_39 (by decide) ?_
      exact g_ri hx hb hr hlocks hN (mP_no (n := 2) (by simp [fCop, tV_33_3, hN3, ← gRng_cop hN4, c1, c2]) (by decide)) dX10_copy_40
    · refine lv_iconst (v := 0) hx hb dX10_copy_28 (by decide) ?_
      refine lv_goto (tgt := 33) hx hb dX10_copy_29 (by decide) ?_
      refine g_VI (As := [.int 0]) (rest := []) ⟨hx, hb, hml, hown, hts⟩ hG hN (i := 43) (by decide) rfl rfl (c_X10_can l 0) (cwV 1 hts gX10_copy_X10_can rfl rfl rfl (by decide +kernel) ⟨Nat.le_of_ble_eq_true rfl, Nat.le_of_ble_eq_true rfl⟩) rfl hl.1 rfl (Nat.le_of_ble_eq_true rfl) dX10_copy_33 ⟨Nat.le_of_ble_eq_true rfl, Nat.le_of_ble_eq_true rfl⟩ (fun H locs hN => ?_)
      refine g_top (y := 1) (by decide) ?_
      obtain ⟨i, hi, ei⟩ := gIdx_n N rfl (by omega) ((gRng_cop hN4).symm.trans c1)
      subst ei
      obtain ⟨q, hq, eq⟩ := gRng_n 1 rfl (by decide) c2
      subst eq
      refine lv_if_ne (tgt := 41) hx hb dX10_copy_36 (by decide) (fun _ => ?_) (fun c4 => False.elim (by revert c4; decide))
      refine lv_iload_n hx hb dX10_copy_41 rfl (lv_at hl 2 rfl) ?_
      refine lv_iconst (v := 1) hx hb dX10_copy_42 (by decide) ?_
      refine g_cN_ne (a := q) (b := 1) (tgt := 55) hx hb dX10_copy_43 (by decide) rfl rfl (by omega) (by omega) (fun c5 => ?_) (fun c5 => ?_)
      · refine lv_aload_n hx hb dX10_copy_55 rfl (lv_at hl 0 rfl) ?_
        refine gf_43_20 hx hb hts hin_10 hown hG hN hk_59 dX10_copy_56 ?_
        refine lv_iload_n hx hb dX10_copy_59 rfl (lv_at hl 1 rfl) ?_
        refine g_zald hx hb hG hN (i := 60) (n := 200) (j := i) (by decide) rfl (by decide) (by omega) rfl dX10_copy_60 ?_
        refine lv_if_eq (tgt := 68) hx hb dX10_copy_61 (by decide) (fun c6 => ?_) (fun c6 => ?_)
        · refine lv_iconst (v := 0) hx hb dX10_copy_68 (by decide) ?_
          exact g_ri hx hb hr hlocks hN (by simp only [nI_clamp (show i < 2 ^ 31 by omega), nI_clamp (show q < 2 ^ 31 by omega)]; exact mP_ok (by simp [fCop, tV_33_3, hN3, ← gRng_cop hN4, c1, c2]) rfl (by simp [rCop, tF_34, tF_35, show q = 0 by omega, c6]) (sim.rf.v31)) dX10_copy_69
        · refine lv_iconst (v := 1) hx hb dX10_copy_64 (by decide) ?_
          refine lv_goto (tgt := 69) hx hb dX10_copy_65 (by decide) ?_
          exact g_ri hx hb hr hlocks hN (by simp only [nI_clamp (show i < 2 ^ 31 by omega), nI_clamp (show q < 2 ^ 31 by omega)]; exact mP_ok (by simp [fCop, tV_33_3, hN3, ← gRng_cop hN4, c1, c2]) rfl (by simp [rCop, tF_34, tF_35, show q = 0 by omega, c6]) (sim.rf.v31)) dX10_copy_69
      · refine lv_aload_n hx hb dX10_copy_46 rfl (lv_at hl 0 rfl) ?_
        refine gf_43_21 hx hb hts hin_10 hown hG hN hk_63 dX10_copy_47 ?_
        refine lv_iload_n hx hb dX10_copy_50 rfl (lv_at hl 1 rfl) ?_
        refine g_iald hx hb hG hN (i := 61) (n := 200) (j := i) (by decide) rfl (by decide) (by omega) rfl dX10_copy_51 ?_
        refine lv_goto (tgt := 69) hx hb dX10_copy_52 (by decide) ?_
        exact g_ri hx hb hr hlocks hN (by simp only [nI_clamp (show i < 2 ^ 31 by omega), nI_clamp (show q < 2 ^ 31 by omega)]; exact mP_ok (by simp [fCop, tV_33_3, hN3, ← gRng_cop hN4, c1, c2]) rfl (by simp [rCop, tF_34, tF_35, c5]) (sim.rf.v31)) dX10_copy_69
  · refine lv_iconst (v := 1) hx hb dX10_copy_15 (by decide) ?_
    refine lv_goto (tgt := 33) hx hb dX10_copy_16 (by decide) ?_
    refine g_VI (As := [.int 1]) (rest := []) ⟨hx, hb, hml, hown, hts⟩ hG hN (i := 43) (by decide) rfl rfl (c_X10_can l 1) (cwV 1 hts gX10_copy_X10_can rfl rfl rfl (by decide +kernel) ⟨Nat.le_of_ble_eq_true rfl, Nat.le_of_ble_eq_true rfl⟩) rfl hl.1 rfl (Nat.le_of_ble_eq_true rfl) dX10_copy_33 ⟨Nat.le_of_ble_eq_true rfl, Nat.le_of_ble_eq_true rfl⟩ (fun H locs hN => ?_)
    refine g_top (y := 0) (by decide) ?_
    refine lv_if_ne (tgt := 41) hx hb dX10_copy_36 (by decide) (fun c7 => False.elim (by revert c7; decide)) (fun _ => ?_)
    refine lv_iconst (v := 0) hx hb dX10_copy_39 (by decide) ?_
    exact g_ri hx hb hr hlocks hN (mP_no (n := 1) (by simp [fCop, tV_33_3, hN3, ← gRng_cop hN4, c1]) (by decide)) dX10_copy_40
set_option maxHeartbeats 4000000 in
set_option maxRecDepth 100000 in
theorem c_X10_next (l : Launch) {D : va_G} {ad : Nat → Nat} {cs : Nat → ClassId} {zd : Nat → Nat} {F V : gF} {o : gO} {sz : Nat} (h w : Nat) (hh : V 43 23 = nI h) (hh2 : h < 200) (hw : V 43 24 = nI w) (hw2 : w ≤ 200) : Met l yX10_next wsX10_next ({ frames := 0, cells := 0, slots := 0, locals := 0 } : Room) (gPc D ad cs zd F V o sz [.ref (ad 43)]) (gQi D ad cs sz (fun r9 u9 => mP F V o 0 r9 (if w = 0 then -1 else tF F 36 h) (tF F) (tV F V) u9)) 0 0 (gX ad sz) := by
  refine g_met (Qc := fun z0 => gQi D ad cs z0 (fun r9 u9 => mP F V o 0 r9 (if w = 0 then -1 else tF F 36 h) (tF F) (tV F V) u9)) (cc := cX10_next) (maxL := 1) (ret := (some .int)) (own := RX10) (by decide +kernel) rfl rfl (Nat.le_of_ble_eq_true rfl) ?_
  intro p0 e0 s0 m0 b0 k0 c0 hx hb hr hts hown hlocks hml hG hN ls hl
  have hl : lv_has ls 1 [(0, .ref (ad 43))] := hl
  have hin_10 : ∀ w ∈ wsX100, w ∈ wsX10_next := by decide +kernel
  have hk_72 := hts (.fieldLink RX10 72 "GravureHouseModel" "thrown" "I") (by decide +kernel)
  have hk_160 := hts (.fieldLink RX10 160 "GravureHouseModel" "left" "I") (by decide +kernel)
  have hk_66 := hts (.fieldLink RX10 66 "GravureHouseModel" "ring" "[I") (by decide +kernel)
  have hk_166 := hts (.fieldLink RX10 166 "GravureHouseModel" "begin" "I") (by decide +kernel)
  refine lv_aload_n hx hb dX10_next_0 rfl (lv_at hl 0 rfl) ?_
  refine lv_iconst (v := 0) hx hb dX10_next_1 (by decide) ?_
  refine gp_43_31 hx hb hts hin_10 hown hG hN hk_72 dX10_next_2 (fun H locs hN => ?_)
  refine lv_aload_n hx hb dX10_next_5 rfl (lv_at hl 0 rfl) ?_
  refine gf_43_24 hx hb hts hin_10 hown hG hN hk_160 dX10_next_6 ?_
  refine g_top (y := (V 43 24)) rfl ?_
  refine g_top (y := nI w) hw ?_
  refine g_ifN_le (a := w) (tgt := 24) hx hb dX10_next_9 (by decide) rfl (by omega) (fun c1 => ?_) (fun c1 => ?_)
  · refine lv_iconst (v := (-1)) hx hb dX10_next_24 (by decide) ?_
    exact g_ri hx hb hr hlocks hN (mP_ok rfl rfl ((if_pos c1).symm) sim.rf.v31) dX10_next_25
  · refine lv_aload_n hx hb dX10_next_12 rfl (lv_at hl 0 rfl) ?_
    refine gf_43_22 hx hb hts hin_10 hown hG hN hk_66 dX10_next_13 ?_
    refine lv_aload_n hx hb dX10_next_16 rfl (lv_at hl 0 rfl) ?_
    refine gf_43_23 hx hb hts hin_10 hown hG hN hk_166 dX10_next_17 ?_
    refine g_top (y := (V 43 23)) rfl ?_
    refine g_top (y := nI h) hh ?_
    refine g_iald hx hb hG hN (i := 62) (n := 200) (j := h) (by decide) rfl (by decide) (by omega) rfl dX10_next_20 ?_
    refine lv_goto (tgt := 25) hx hb dX10_next_21 (by decide) ?_
    exact g_ri hx hb hr hlocks hN (mP_ok rfl rfl ((if_neg (by omega)).symm) sim.rf.v31) dX10_next_25
set_option maxHeartbeats 4000000 in
set_option maxRecDepth 100000 in
theorem c_X10_all (l : Launch) {D : va_G} {ad : Nat → Nat} {cs : Nat → ClassId} {zd : Nat → Nat} {F V : gF} {o : gO} {sz : Nat} (w : Int32) : Met l yX10_all wsX10_all ({ frames := 1, cells := 0, slots := 0, locals := 22 } : Room) (gPc D ad cs zd F V o sz [.ref (ad 43), .int w]) (gQi D ad cs sz (fun r9 u9 => mP F V o (fAll w) r9 (rAll (tV F V) w) (tF F) (tV F V) u9)) 0 0 (gX ad sz) := by
  refine g_met (Qc := fun z0 => gQi D ad cs z0 (fun r9 u9 => mP F V o (fAll w) r9 (rAll (tV F V) w) (tF F) (tV F V) u9)) (cc := cX10_all) (maxL := 2) (ret := (some .int)) (own := RX10) (by decide +kernel) rfl rfl (Nat.le_of_ble_eq_true rfl) ?_
  intro p0 e0 s0 m0 b0 k0 c0 hx hb hr hts hown hlocks hml hG hN ls hl
  have hl : lv_has ls 2 [(0, .ref (ad 43)), (1, .int w)] := hl
  have hin_10 : ∀ w ∈ wsX100, w ∈ wsX10_all := by decide +kernel
  have hk_154 := hts (.fieldLink RX10 154 "GravureHouseModel" "printed" "I") (by decide +kernel)
  have hk_190 := hts (.fieldLink RX10 190 "GravureHouseModel" "good" "I") (by decide +kernel)
  have hk_181 := hts (.fieldLink RX10 181 "GravureHouseModel" "byRegister" "I") (by decide +kernel)
  have hk_184 := hts (.fieldLink RX10 184 "GravureHouseModel" "byDensity" "I") (by decide +kernel)
  have hk_160 := hts (.fieldLink RX10 160 "GravureHouseModel" "left" "I") (by decide +kernel)
  have hk_151 := hts (.fieldLink RX10 151 "GravureHouseModel" "coming" "I") (by decide +kernel)
  refine lv_aload_n hx hb dX10_all_0 rfl (lv_at hl 0 rfl) ?_
  refine lv_iload_n hx hb dX10_all_1 rfl (lv_at hl 1 rfl) ?_
  refine lv_iconst (v := 0) hx hb dX10_all_2 (by decide) ?_
  refine lv_bipush (v := 6) hx hb dX10_all_3 (by decide) ?_
  refine g_SI (As := [.int w, .int 0, .int 6]) (rest := [.ref (ad 43)]) ⟨hx, hb, hml, hown, hts⟩ hG hN (c_X10_isIn l w 0 6) (va_cwS 3 hts gX10_all_X10_isIn rfl rfl rfl (by decide +kernel) ⟨Nat.le_of_ble_eq_true rfl, Nat.le_of_ble_eq_true rfl⟩) rfl hl.1 rfl (Nat.le_of_ble_eq_true rfl) dX10_all_5 ⟨Nat.le_of_ble_eq_true rfl, Nat.le_of_ble_eq_true rfl⟩ (fun H locs hN => ?_)
  refine g_ifb_eq (gRng w 0 6 = true) (tgt := 15) hx hb dX10_all_8 (by decide) rfl (fun c1 => ?_) (fun c1 => ?_)
  · refine lv_iconst (v := 1) hx hb dX10_all_15 (by decide) ?_
    refine g_VI (As := [.int 1]) (rest := []) ⟨hx, hb, hml, hown, hts⟩ hG hN (i := 43) (by decide) rfl rfl (c_X10_can l 1) (cwV 1 hts gX10_all_X10_can rfl rfl rfl (by decide +kernel) ⟨Nat.le_of_ble_eq_true rfl, Nat.le_of_ble_eq_true rfl⟩) rfl hl.1 rfl (Nat.le_of_ble_eq_true rfl) dX10_all_16 ⟨Nat.le_of_ble_eq_true rfl, Nat.le_of_ble_eq_true rfl⟩ (fun H locs hN => ?_)
    refine g_top (y := 0) (by decide) ?_
    refine lv_if_ne (tgt := 24) hx hb dX10_all_19 (by decide) (fun c2 => False.elim (by revert c2; decide)) (fun _ => ?_)
    refine lv_iconst (v := 0) hx hb dX10_all_22 (by decide) ?_
    exact g_ri hx hb hr hlocks hN (mP_no (n := 1) (by simp [fAll, c1]) (by decide)) dX10_all_23
  · refine lv_iconst (v := 0) hx hb dX10_all_11 (by decide) ?_
    refine lv_goto (tgt := 16) hx hb dX10_all_12 (by decide) ?_
    refine g_VI (As := [.int 0]) (rest := []) ⟨hx, hb, hml, hown, hts⟩ hG hN (i := 43) (by decide) rfl rfl (c_X10_can l 0) (cwV 1 hts gX10_all_X10_can rfl rfl rfl (by decide +kernel) ⟨Nat.le_of_ble_eq_true rfl, Nat.le_of_ble_eq_true rfl⟩) rfl hl.1 rfl (Nat.le_of_ble_eq_true rfl) dX10_all_16 ⟨Nat.le_of_ble_eq_true rfl, Nat.le_of_ble_eq_true rfl⟩ (fun H locs hN => ?_)
    refine g_top (y := 1) (by decide) ?_
    refine lv_if_ne (tgt := 24) hx hb dX10_all_19 (by decide) (fun _ => ?_) (fun c3 => False.elim (by revert c3; decide))
    refine lv_iload_n hx hb dX10_all_24 rfl (lv_at hl 1 rfl) ?_
    by_cases e4 : w = 0
    · refine lv_tableIn (off := 39) (tgt := 64) hx hb dX10_all_25 (by rw [e4]; decide) (by rw [e4]; decide) (by rw [e4]; rfl) (by decide) ?_
      refine lv_aload_n hx hb dX10_all_64 rfl (lv_at hl 0 rfl) ?_
      refine gf_43_25 hx hb hts hin_10 hown hG hN hk_154 dX10_all_65 ?_
      refine g_top (y := (V 43 25)) rfl ?_
      exact g_ri hx hb hr hlocks hN (mP_ok (by simp [fAll, c1]) rfl (by simp [rAll, tV_27_2, tV_27_3, tV_27_4, tV_27_5, tV_33_5, tV_18_8, c1, e4]) (sim.rf.v31)) dX10_all_68
    by_cases e5 : w = 1
    · refine lv_tableIn (off := 44) (tgt := 69) hx hb dX10_all_25 (by rw [e5]; decide) (by rw [e5]; decide) (by rw [e5]; rfl) (by decide) ?_
      refine lv_aload_n hx hb dX10_all_69 rfl (lv_at hl 0 rfl) ?_
      refine gf_43_26 hx hb hts hin_10 hown hG hN hk_190 dX10_all_70 ?_
      refine g_top (y := (V 43 26)) rfl ?_
      exact g_ri hx hb hr hlocks hN (mP_ok (by simp [fAll, c1]) rfl (by simp [rAll, tV_27_2, tV_27_3, tV_27_4, tV_27_5, tV_33_5, tV_18_8, c1, e5]) (sim.rf.v31)) dX10_all_73
    by_cases e6 : w = 2
    · refine lv_tableIn (off := 49) (tgt := 74) hx hb dX10_all_25 (by rw [e6]; decide) (by rw [e6]; decide) (by rw [e6]; rfl) (by decide) ?_
      refine lv_aload_n hx hb dX10_all_74 rfl (lv_at hl 0 rfl) ?_
      refine gf_43_25 hx hb hts hin_10 hown hG hN hk_154 dX10_all_75 ?_
      refine g_top (y := (V 43 25)) rfl ?_
      refine lv_aload_n hx hb dX10_all_78 rfl (lv_at hl 0 rfl) ?_
      refine gf_43_26 hx hb hts hin_10 hown hG hN hk_190 dX10_all_79 ?_
      refine g_top (y := (V 43 26)) rfl ?_
      refine lv_isub hx hb dX10_all_82 ?_
      exact g_ri hx hb hr hlocks hN (mP_ok (by simp [fAll, c1]) rfl (by simp [rAll, tV_27_2, tV_27_3, tV_27_4, tV_27_5, tV_33_5, tV_18_8, c1, e6]) (sim.rf.v31)) dX10_all_83
    by_cases e7 : w = 3
    · refine lv_tableIn (off := 59) (tgt := 84) hx hb dX10_all_25 (by rw [e7]; decide) (by rw [e7]; decide) (by rw [e7]; rfl) (by decide) ?_
      refine lv_aload_n hx hb dX10_all_84 rfl (lv_at hl 0 rfl) ?_
      refine gf_43_27 hx hb hts hin_10 hown hG hN hk_181 dX10_all_85 ?_
      refine g_top (y := (V 43 27)) rfl ?_
      exact g_ri hx hb hr hlocks hN (mP_ok (by simp [fAll, c1]) rfl (by simp [rAll, tV_27_2, tV_27_3, tV_27_4, tV_27_5, tV_33_5, tV_18_8, c1, e7]) (sim.rf.v31)) dX10_all_88
    by_cases e8 : w = 4
    · refine lv_tableIn (off := 64) (tgt := 89) hx hb dX10_all_25 (by rw [e8]; decide) (by rw [e8]; decide) (by rw [e8]; rfl) (by decide) ?_
      refine lv_aload_n hx hb dX10_all_89 rfl (lv_at hl 0 rfl) ?_
      refine gf_43_28 hx hb hts hin_10 hown hG hN hk_184 dX10_all_90 ?_
      refine g_top (y := (V 43 28)) rfl ?_
      exact g_ri hx hb hr hlocks hN (mP_ok (by simp [fAll, c1]) rfl (by simp [rAll, tV_27_2, tV_27_3, tV_27_4, tV_27_5, tV_33_5, tV_18_8, c1, e8]) (sim.rf.v31)) dX10_all_93
    by_cases e9 : w = 5
    · refine lv_tableIn (off := 69) (tgt := 94) hx hb dX10_all_25 (by rw [e9]; decide) (by rw [e9]; decide) (by rw [e9]; rfl) (by decide) ?_
      refine lv_aload_n hx hb dX10_all_94 rfl (lv_at hl 0 rfl) ?_
      refine gf_43_24 hx hb hts hin_10 hown hG hN hk_160 dX10_all_95 ?_
      refine g_top (y := (V 43 24)) rfl ?_
      exact g_ri hx hb hr hlocks hN (mP_ok (by simp [fAll, c1]) rfl (by simp [rAll, tV_27_2, tV_27_3, tV_27_4, tV_27_5, tV_33_5, tV_18_8, c1, e9]) (sim.rf.v31)) dX10_all_98
    have h10 : w.toInt < 0 ∨ 5 < w.toInt := by
      have := lv_neT (a := 0) e4 (by decide)
      have := lv_neT (a := 1) e5 (by decide)
      have := lv_neT (a := 2) e6 (by decide)
      have := lv_neT (a := 3) e7 (by decide)
      have := lv_neT (a := 4) e8 (by decide)
      have := lv_neT (a := 5) e9 (by decide)
      omega
    refine lv_tableOut (tgt := 99) hx hb dX10_all_25 h10 (by decide) ?_
    refine lv_aload_n hx hb dX10_all_99 rfl (lv_at hl 0 rfl) ?_
    refine gf_43_13 hx hb hts hin_10 hown hG hN hk_151 dX10_all_100 ?_
    refine g_top (y := (V 43 13)) rfl ?_
    exact g_ri hx hb hr hlocks hN (mP_ok (by simp [fAll, c1]) rfl (by simp [rAll, tV_27_2, tV_27_3, tV_27_4, tV_27_5, tV_33_5, tV_18_8, c1, e4, e5, e6, e7, e8, e9, h10]) (sim.rf.v31)) dX10_all_103
