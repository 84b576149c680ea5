set_option maxHeartbeats 4000000 in
set_option maxRecDepth 100000 in
theorem c_X10_reads (l : Launch) {D : va_G} {ad : Nat → Nat} {cs : Nat → ClassId} {zd : Nat → Nat} {F V : gF} {o : gO} {sz : Nat}  (n i w : Nat) (hn : V 43 6 = nI n) (hn2 : n ≤ 60) (hi : V 43 32 = nI i) (hi2 : i ≤ n) (hw : V 43 34 = nI w) (hw2 : w ≤ 200) : Met l yX10_reads wsX10_reads ({ frames := 0, cells := 0, slots := 0, locals := 0 } : Room) (gPc D ad cs zd F V o sz [.ref (ad 43)]) (gQI D ad cs (if (qB (F 49) n i) < (qE (F 49) n (qB (F 49) n i)) then 1 else 0) F (mRd V w (qB (F 49) n i) (qE (F 49) n (qB (F 49) n i))) o sz) 0 0 (gX ad sz) := by
  refine g_met (Qc := fun z0 => gQI D ad cs (if (qB (F 49) n i) < (qE (F 49) n (qB (F 49) n i)) then 1 else 0) F (mRd V w (qB (F 49) n i) (qE (F 49) n (qB (F 49) n i))) o z0) (cc := cX10_reads) (maxL := 1) (ret := (some .boolean)) (own := RX10) (by decide +kernel) rfl rfl (Nat.le_of_ble_eq_true rfl) ?_
  intro p0 e0 s0 m0 b0 k0 c0 hx hb hr hts hown hlocks hml hG hN ls hl
  have hl : lv_has ls 1 [(0, .ref (ad 43))] := hl
  have hin_10 : ∀ w ∈ wsX100, w ∈ wsX10_reads := by decide +kernel
  have hk_96 := hts (.fieldLink RX10 96 "GravureHouseModel" "words" "I") (by decide +kernel)
  have hk_90 := hts (.fieldLink RX10 90 "GravureHouseModel" "at" "I") (by decide +kernel)
  have hk_93 := hts (.fieldLink RX10 93 "GravureHouseModel" "from" "I") (by decide +kernel)
  have hk_87 := hts (.fieldLink RX10 87 "GravureHouseModel" "signs" "I") (by decide +kernel)
  have hk_25 := hts (.fieldLink RX10 25 "GravureHouseModel" "sign" "[C") (by decide +kernel)
  have J1 : ∀ (V1 : gF) (H : Heap) (locs : List Loc) (ls : Array Slot), (V1 = gw V 43 32 (nI (qB (F 49) n i))) → gN D ad cs s0 F V1 o H locs → lv_has ls 1 [(0, .ref (ad 43))] → W p0 l e0 ({ frames := 0, cells := 0, slots := 0, locals := 0 } : Room) s0 m0 ([.ref (ad 43)] : List Value).toArray b0 k0 c0 H locs 0 0 (MQ b0 (gQI D ad cs (if (qB (F 49) n i) < (qE (F 49) n (qB (F 49) n i)) then 1 else 0) F (mRd V w (qB (F 49) n i) (qE (F 49) n (qB (F 49) n i))) o s0.heap.size) ([.ref (ad 43)] : List Value).toArray s0 0 0 (gX ad s0.heap.size)) (F0 m0 38 ls []) := by
    intro V1 H locs ls hV1 hN hl
    have J2 : ∀ (V3 : gF) (H : Heap) (locs : List Loc) (ls : Array Slot), (V3 = gw (gw V 43 33 (nI (qB (F 49) n i))) 43 32 (nI (qE (F 49) n (qB (F 49) n i)))) → gN D ad cs s0 F V3 o H locs → lv_has ls 1 [(0, .ref (ad 43))] → W p0 l e0 ({ frames := 0, cells := 0, slots := 0, locals := 0 } : Room) s0 m0 ([.ref (ad 43)] : List Value).toArray b0 k0 c0 H locs 0 0 (MQ b0 (gQI D ad cs (if (qB (F 49) n i) < (qE (F 49) n (qB (F 49) n i)) then 1 else 0) F (mRd V w (qB (F 49) n i) (qE (F 49) n (qB (F 49) n i))) o s0.heap.size) ([.ref (ad 43)] : List Value).toArray s0 0 0 (gX ad s0.heap.size)) (F0 m0 84 ls []) := by
      intro V3 H locs ls hV3 hN hl
      have hb9 := qB_b (S := F 49) hi2
      have he9 := qE_b (S := F 49) hb9.2
      refine lv_aload_n hx hb dX10_reads_84 rfl (lv_at hl 0 rfl) ?_
      refine lv_dup hx hb dX10_reads_85 rfl ?_
      refine gf_43_34 hx hb hts hin_10 hown hG hN hk_96 dX10_reads_86 ?_
      refine g_top (y := nI w) (by rw [hV3, gw_sn _ _ (by decide), gw_sn _ _ (by decide)]; exact hw) ?_
      refine lv_aload_n hx hb dX10_reads_89 rfl (lv_at hl 0 rfl) ?_
      refine gf_43_32 hx hb hts hin_10 hown hG hN hk_90 dX10_reads_90 ?_
      refine g_top (y := nI (qE (F 49) n (qB (F 49) n i))) (by rw [hV3, gw_ss]) ?_
      refine lv_aload_n hx hb dX10_reads_93 rfl (lv_at hl 0 rfl) ?_
      refine gf_43_33 hx hb hts hin_10 hown hG hN hk_93 dX10_reads_94 ?_
      refine g_top (y := nI (qB (F 49) n i)) (by rw [hV3, gw_sn _ _ (by decide), gw_ss]) ?_
      refine g_cN_le (a := (qE (F 49) n (qB (F 49) n i))) (b := (qB (F 49) n i)) (tgt := 104) hx hb dX10_reads_97 (by decide) rfl rfl (by omega) (by omega) (fun c3 => ?_) (fun c3 => ?_)
      · refine lv_iconst (v := 0) hx hb dX10_reads_104 (by decide) ?_
        refine g_addN (a := w) (b := 0) hx hb rfl rfl dX10_reads_105 ?_
        refine gp_43_34 hx hb hts hin_10 hown hG hN hk_96 dX10_reads_106 (fun H locs hN => ?_)
        refine lv_aload_n hx hb dX10_reads_109 rfl (lv_at hl 0 rfl) ?_
        refine gf_43_32 hx hb hts hin_10 hown hG hN hk_90 dX10_reads_110 ?_
        refine g_top (y := (V3 43 32)) rfl ?_
        refine g_top (y := nI (qE (F 49) n (qB (F 49) n i))) (by rw [hV3, gw_ss]) ?_
        refine lv_aload_n hx hb dX10_reads_113 rfl (lv_at hl 0 rfl) ?_
        refine gf_43_33 hx hb hts hin_10 hown hG hN hk_93 dX10_reads_114 ?_
        refine g_top (y := (V3 43 33)) rfl ?_
        refine g_top (y := nI (qB (F 49) n i)) (by rw [hV3, gw_sn _ _ (by decide), gw_ss]) ?_
        refine g_cN_le (a := (qE (F 49) n (qB (F 49) n i))) (b := (qB (F 49) n i)) (tgt := 124) hx hb dX10_reads_117 (by decide) rfl rfl (by omega) (by omega) (fun c4 => ?_) (fun c4 => absurd c4 (by omega))
        refine lv_iconst (v := 0) hx hb dX10_reads_124 (by decide) ?_
        exact g_rz hx hb hr hlocks (by decide) hN (⟨by simp [hV1, hV3, c3, Nat.not_lt.mpr c3, c4, Nat.not_lt.mpr c4], by simp [mRd, hV3, hV1, hV3, c3, Nat.not_lt.mpr c3, c4, Nat.not_lt.mpr c4]⟩) dX10_reads_125
      · refine lv_iconst (v := 1) hx hb dX10_reads_100 (by decide) ?_
        refine lv_goto (tgt := 105) hx hb dX10_reads_101 (by decide) ?_
        refine g_addN (a := w) (b := 1) hx hb rfl rfl dX10_reads_105 ?_
        refine gp_43_34 hx hb hts hin_10 hown hG hN hk_96 dX10_reads_106 (fun H locs hN => ?_)
        refine lv_aload_n hx hb dX10_reads_109 rfl (lv_at hl 0 rfl) ?_
        refine gf_43_32 hx hb hts hin_10 hown hG hN hk_90 dX10_reads_110 ?_
        refine g_top (y := (V3 43 32)) rfl ?_
        refine g_top (y := nI (qE (F 49) n (qB (F 49) n i))) (by rw [hV3, gw_ss]) ?_
        refine lv_aload_n hx hb dX10_reads_113 rfl (lv_at hl 0 rfl) ?_
        refine gf_43_33 hx hb hts hin_10 hown hG hN hk_93 dX10_reads_114 ?_
        refine g_top (y := (V3 43 33)) rfl ?_
        refine g_top (y := nI (qB (F 49) n i)) (by rw [hV3, gw_sn _ _ (by decide), gw_ss]) ?_
        refine g_cN_le (a := (qE (F 49) n (qB (F 49) n i))) (b := (qB (F 49) n i)) (tgt := 124) hx hb dX10_reads_117 (by decide) rfl rfl (by omega) (by omega) (fun c5 => absurd c5 (by omega)) (fun c5 => ?_)
        refine lv_iconst (v := 1) hx hb dX10_reads_120 (by decide) ?_
        refine lv_goto (tgt := 125) hx hb dX10_reads_121 (by decide) ?_
        exact g_rz hx hb hr hlocks (by decide) hN (⟨by simp [hV1, hV3, c3, Nat.not_le.mpr c3, c5, Nat.not_le.mpr c5], by simp [mRd, hV3, hV1, hV3, c3, Nat.not_le.mpr c3, c5, Nat.not_le.mpr c5]⟩) dX10_reads_125
    have hb9 := qB_b (S := F 49) hi2
    have he9 := qE_b (S := F 49) hb9.2
    refine lv_aload_n hx hb dX10_reads_38 rfl (lv_at hl 0 rfl) ?_
    refine lv_aload_n hx hb dX10_reads_39 rfl (lv_at hl 0 rfl) ?_
    refine gf_43_32 hx hb hts hin_10 hown hG hN hk_90 dX10_reads_40 ?_
    refine g_top (y := nI (qB (F 49) n i)) (by rw [hV1, gw_ss]) ?_
    refine gp_43_33 hx hb hts hin_10 hown hG hN hk_93 dX10_reads_43 (fun H locs hN => ?_)
    have L6 : ∀ (d9_46 : Nat) (j : Nat) (V2 : gF) (H : Heap) (locs : List Loc) (ls : Array Slot), n - j = d9_46 → (j ≤ n) → (V2 = gw (gw V 43 33 (nI (qB (F 49) n i))) 43 32 (nI j)) → (qSt (F 49) (n - j) j = qSt (F 49) (n - (qB (F 49) n i)) (qB (F 49) n i)) → gN D ad cs s0 F V2 o H locs → lv_has ls 1 [(0, .ref (ad 43))] → W p0 l e0 ({ frames := 0, cells := 0, slots := 0, locals := 0 } : Room) s0 m0 ([.ref (ad 43)] : List Value).toArray b0 k0 c0 H locs 0 0 (MQ b0 (gQI D ad cs (if (qB (F 49) n i) < (qE (F 49) n (qB (F 49) n i)) then 1 else 0) F (mRd V w (qB (F 49) n i) (qE (F 49) n (qB (F 49) n i))) o s0.heap.size) ([.ref (ad 43)] : List Value).toArray s0 0 0 (gX ad s0.heap.size)) (F0 m0 46 ls []) := by
      intro d9_46
      induction d9_46 with
      | zero =>
        intro j V2 H locs ls hd_46 hj hV2 he2 hN hl
        refine lv_aload_n hx hb dX10_reads_46 rfl (lv_at hl 0 rfl) ?_
        refine gf_43_32 hx hb hts hin_10 hown hG hN hk_90 dX10_reads_47 ?_
        refine g_top (y := nI j) (by rw [hV2, gw_ss]) ?_
        refine lv_aload_n hx hb dX10_reads_50 rfl (lv_at hl 0 rfl) ?_
        refine gf_43_6 hx hb hts hin_10 hown hG hN hk_87 dX10_reads_51 ?_
        refine g_top (y := nI n) (by rw [hV2, gw_sn _ _ (by decide), gw_sn _ _ (by decide)]; exact hn) ?_
        refine g_cN_ge (a := j) (b := n) (tgt := 84) hx hb dX10_reads_54 (by decide) rfl rfl (by omega) (by omega) (fun c7 => ?_) (fun c7 => absurd c7 (by omega))
        exact J2 V2 _ _ ls (by rw [hV2]; congr 1; rw [show j = (qE (F 49) n (qB (F 49) n i)) from by unfold qE; rw [← he2, hd_46]; rfl]) hN (lv_sub hl [0] rfl)
      | succ d9_46 ih46 =>
        intro j V2 H locs ls hd_46 hj hV2 he2 hN hl
        refine lv_aload_n hx hb dX10_reads_46 rfl (lv_at hl 0 rfl) ?_
        refine gf_43_32 hx hb hts hin_10 hown hG hN hk_90 dX10_reads_47 ?_
        refine g_top (y := nI j) (by rw [hV2, gw_ss]) ?_
        refine lv_aload_n hx hb dX10_reads_50 rfl (lv_at hl 0 rfl) ?_
        refine gf_43_6 hx hb hts hin_10 hown hG hN hk_87 dX10_reads_51 ?_
        refine g_top (y := nI n) (by rw [hV2, gw_sn _ _ (by decide), gw_sn _ _ (by decide)]; exact hn) ?_
        refine g_cN_ge (a := j) (b := n) (tgt := 84) hx hb dX10_reads_54 (by decide) rfl rfl (by omega) (by omega) (fun c8 => absurd c8 (by omega)) (fun c8 => ?_)
        refine lv_aload_n hx hb dX10_reads_57 rfl (lv_at hl 0 rfl) ?_
        refine gf_43_5 hx hb hts hin_10 hown hG hN hk_25 dX10_reads_58 ?_
        refine lv_aload_n hx hb dX10_reads_61 rfl (lv_at hl 0 rfl) ?_
        refine gf_43_32 hx hb hts hin_10 hown hG hN hk_90 dX10_reads_62 ?_
        refine g_top (y := nI j) (by rw [hV2, gw_ss]) ?_
        refine g_cald hx hb hG hN (i := 49) (n := 60) (j := j) (by decide) rfl (by decide) (by omega) rfl dX10_reads_65 ?_
        refine lv_bipush (v := 32) hx hb dX10_reads_66 (by decide) ?_
        refine lv_icmp_eq (tgt := 84) hx hb dX10_reads_68 (by decide) (fun c9 => ?_) (fun c9 => ?_)
        · exact J2 V2 _ _ ls (by rw [hV2]; congr 1; rw [show j = (qE (F 49) n (qB (F 49) n i)) from by unfold qE; rw [← he2, hd_46]; simp [qSt, c9]]) hN (lv_sub hl [0] rfl)
        · refine lv_aload_n hx hb dX10_reads_71 rfl (lv_at hl 0 rfl) ?_
          refine lv_dup hx hb dX10_reads_72 rfl ?_
          refine gf_43_32 hx hb hts hin_10 hown hG hN hk_90 dX10_reads_73 ?_
          refine g_top (y := nI j) (by rw [hV2, gw_ss]) ?_
          refine lv_iconst (v := 1) hx hb dX10_reads_76 (by decide) ?_
          refine g_addN (a := j) (b := 1) hx hb rfl rfl dX10_reads_77 ?_
          refine gp_43_32 hx hb hts hin_10 hown hG hN hk_90 dX10_reads_78 (fun H locs hN => ?_)
          refine lv_goto (tgt := 46) hx hb dX10_reads_81 (by decide) ?_
          exact ih46 (j + 1) (gw V2 43 32 (nI (j + 1))) _ _ ls (by omega) (by omega) (by rw [hV2, gw_gw]) (by rw [← he2, hd_46]; simp [qSt, c9]; congr 1; omega) hN (lv_sub hl [0] rfl)
    exact L6 _ (qB (F 49) n i) (gw V1 43 33 (nI (qB (F 49) n i))) _ _ ls (rfl) ((qB_b hi2).2) (by rw [hV1, gw_comm2 (k := 32) (n := 33) (by decide)]) (rfl) hN (lv_sub hl [0] rfl)
  have L10 : ∀ (d9_0 : Nat) (j : Nat) (V1 : gF) (H : Heap) (locs : List Loc) (ls : Array Slot), n - j = d9_0 → (j ≤ n) → (V1 = gw V 43 32 (nI j)) → (qSk (F 49) (n - j) j = qSk (F 49) (n - i) i) → gN D ad cs s0 F V1 o H locs → lv_has ls 1 [(0, .ref (ad 43))] → W p0 l e0 ({ frames := 0, cells := 0, slots := 0, locals := 0 } : Room) s0 m0 ([.ref (ad 43)] : List Value).toArray b0 k0 c0 H locs 0 0 (MQ b0 (gQI D ad cs (if (qB (F 49) n i) < (qE (F 49) n (qB (F 49) n i)) then 1 else 0) F (mRd V w (qB (F 49) n i) (qE (F 49) n (qB (F 49) n i))) o s0.heap.size) ([.ref (ad 43)] : List Value).toArray s0 0 0 (gX ad s0.heap.size)) (F0 m0 0 ls []) := by
    intro d9_0
    induction d9_0 with
    | zero =>
      intro j V1 H locs ls hd_0 hj hV he hN hl
      refine lv_aload_n hx hb dX10_reads_0 rfl (lv_at hl 0 rfl) ?_
      refine gf_43_32 hx hb hts hin_10 hown hG hN hk_90 dX10_reads_1 ?_
      refine g_top (y := nI j) (by rw [hV, gw_ss]) ?_
      refine lv_aload_n hx hb dX10_reads_4 rfl (lv_at hl 0 rfl) ?_
      refine gf_43_6 hx hb hts hin_10 hown hG hN hk_87 dX10_reads_5 ?_
      refine g_top (y := nI n) (by rw [hV, gw_sn _ _ (by decide)]; exact hn) ?_
      refine g_cN_ge (a := j) (b := n) (tgt := 38) hx hb dX10_reads_8 (by decide) rfl rfl (by omega) (by omega) (fun c11 => ?_) (fun c11 => absurd c11 (by omega))
      exact J1 V1 _ _ ls (by rw [hV]; congr 1; rw [show j = (qB (F 49) n i) from by unfold qB; rw [← he, hd_0]; rfl]) hN (lv_sub hl [0] rfl)
    | succ d9_0 ih0 =>
      intro j V1 H locs ls hd_0 hj hV he hN hl
      refine lv_aload_n hx hb dX10_reads_0 rfl (lv_at hl 0 rfl) ?_
      refine gf_43_32 hx hb hts hin_10 hown hG hN hk_90 dX10_reads_1 ?_
      refine g_top (y := nI j) (by rw [hV, gw_ss]) ?_
      refine lv_aload_n hx hb dX10_reads_4 rfl (lv_at hl 0 rfl) ?_
      refine gf_43_6 hx hb hts hin_10 hown hG hN hk_87 dX10_reads_5 ?_
      refine g_top (y := nI n) (by rw [hV, gw_sn _ _ (by decide)]; exact hn) ?_
      refine g_cN_ge (a := j) (b := n) (tgt := 38) hx hb dX10_reads_8 (by decide) rfl rfl (by omega) (by omega) (fun c12 => absurd c12 (by omega)) (fun c12 => ?_)
      refine lv_aload_n hx hb dX10_reads_11 rfl (lv_at hl 0 rfl) ?_
      refine gf_43_5 hx hb hts hin_10 hown hG hN hk_25 dX10_reads_12 ?_
      refine lv_aload_n hx hb dX10_reads_15 rfl (lv_at hl 0 rfl) ?_
      refine gf_43_32 hx hb hts hin_10 hown hG hN hk_90 dX10_reads_16 ?_
      refine g_top (y := nI j) (by rw [hV, gw_ss]) ?_
      refine g_cald hx hb hG hN (i := 49) (n := 60) (j := j) (by decide) rfl (by decide) (by omega) rfl dX10_reads_19 ?_
      refine lv_bipush (v := 32) hx hb dX10_reads_20 (by decide) ?_
      refine lv_icmp_ne (tgt := 38) hx hb dX10_reads_22 (by decide) (fun c13 => ?_) (fun c13 => ?_)
      · exact J1 V1 _ _ ls (by rw [hV]; congr 1; rw [show j = (qB (F 49) n i) from by unfold qB; rw [← he, hd_0]; simp [qSk, c13]]) hN (lv_sub hl [0] rfl)
      · refine lv_aload_n hx hb dX10_reads_25 rfl (lv_at hl 0 rfl) ?_
        refine lv_dup hx hb dX10_reads_26 rfl ?_
        refine gf_43_32 hx hb hts hin_10 hown hG hN hk_90 dX10_reads_27 ?_
        refine g_top (y := nI j) (by rw [hV, gw_ss]) ?_
        refine lv_iconst (v := 1) hx hb dX10_reads_30 (by decide) ?_
        refine g_addN (a := j) (b := 1) hx hb rfl rfl dX10_reads_31 ?_
        refine gp_43_32 hx hb hts hin_10 hown hG hN hk_90 dX10_reads_32 (fun H locs hN => ?_)
        refine lv_goto (tgt := 0) hx hb dX10_reads_35 (by decide) ?_
        exact ih0 (j + 1) (gw V1 43 32 (nI (j + 1))) _ _ ls (by omega) (by omega) (by rw [hV, gw_gw]) (by rw [← he, hd_0]; simp [qSk, c13]; congr 1; omega) hN (lv_sub hl [0] rfl)
  exact L10 _ i V _ _ ls (rfl) (by omega) ((gw_id hi).symm) (rfl) hN (lv_sub hl [0] rfl)
set_option maxHeartbeats 4000000 in
set_option maxRecDepth 100000 in
theorem c_X10_number (l : Launch) {D : va_G} {ad : Nat → Nat} {cs : Nat → ClassId} {zd : Nat → Nat} {F V : gF} {o : gO} {sz : Nat}  (b e : Nat) (hb0 : V 43 33 = nI b) (he0 : V 43 32 = nI e) (hbe : b ≤ e) (he2 : e ≤ 60) : Met l yX10_number wsX10_number ({ frames := 1, cells := 0, slots := 0, locals := 22 } : Room) (gPc D ad cs zd F V o sz [.ref (ad 43)]) (gQI D ad cs (qNum (F 49) b (e - b)) F V o sz) 0 0 (gX ad sz) := by
  refine g_met (Qc := fun z0 => gQI D ad cs (qNum (F 49) b (e - b)) F V o z0) (cc := cX10_number) (maxL := 4) (ret := (some .int)) (own := RX10) (by decide +kernel) rfl rfl (Nat.le_of_ble_eq_true rfl) ?_
  intro p0 e0 s0 m0 b0 k0 c0 hx hb hr hts hown hlocks hml hG hN ls hl
  have hl : lv_has ls 4 [(0, .ref (ad 43))] := hl
  have hin_10 : ∀ w ∈ wsX100, w ∈ wsX10_number := by decide +kernel
  have hk_90 := hts (.fieldLink RX10 90 "GravureHouseModel" "at" "I") (by decide +kernel)
  have hk_93 := hts (.fieldLink RX10 93 "GravureHouseModel" "from" "I") (by decide +kernel)
  have hk_25 := hts (.fieldLink RX10 25 "GravureHouseModel" "sign" "[C") (by decide +kernel)
  refine lv_aload_n hx hb dX10_number_0 rfl (lv_at hl 0 rfl) ?_
  refine gf_43_32 hx hb hts hin_10 hown hG hN hk_90 dX10_number_1 ?_
  refine g_top (y := nI e) he0 ?_
  refine lv_aload_n hx hb dX10_number_4 rfl (lv_at hl 0 rfl) ?_
  refine gf_43_33 hx hb hts hin_10 hown hG hN hk_93 dX10_number_5 ?_
  refine g_top (y := nI b) hb0 ?_
  refine g_subN (a := e) (b := b) hx hb rfl rfl (by omega) dX10_number_8 ?_
  refine lv_iconst (v := 3) hx hb dX10_number_9 (by decide) ?_
  have J1 : ∀ (x1 : Int32) (H : Heap) (locs : List Loc) (ls : Array Slot), (x1 = if ¬ 3 < e - b then 0 else -1) → gN D ad cs s0 F V o H locs → lv_has ls 4 [(0, .ref (ad 43)), (1, .int x1), (2, .int (nI b))] → W p0 l e0 ({ frames := 1, cells := 0, slots := 0, locals := 22 } : Room) s0 m0 ([.ref (ad 43)] : List Value).toArray b0 k0 c0 H locs 0 0 (MQ b0 (gQI D ad cs (qNum (F 49) b (e - b)) F V o s0.heap.size) ([.ref (ad 43)] : List Value).toArray s0 0 0 (gX ad s0.heap.size)) (F0 m0 24 ls []) := by
    intro x1 H locs ls e1 hN hl
    have L2 : ∀ (d9_24 : Nat) (k : Nat) (x1 : Int32) (H : Heap) (locs : List Loc) (ls : Array Slot), e - b - k = d9_24 → (k ≤ e - b) → (x1 = if (¬ 3 < e - b ∧ ∀ v, v < k → qDg (F 49) (b + v)) then qVl (F 49) b k else -1) → gN D ad cs s0 F V o H locs → lv_has ls 4 [(0, .ref (ad 43)), (1, .int x1), (2, .int (nI (b + k)))] → W p0 l e0 ({ frames := 1, cells := 0, slots := 0, locals := 22 } : Room) s0 m0 ([.ref (ad 43)] : List Value).toArray b0 k0 c0 H locs 0 0 (MQ b0 (gQI D ad cs (qNum (F 49) b (e - b)) F V o s0.heap.size) ([.ref (ad 43)] : List Value).toArray s0 0 0 (gX ad s0.heap.size)) (F0 m0 24 ls []) := by
      intro d9_24
      induction d9_24 with
      | zero =>
        intro k x1 H locs ls hd_24 hk e1 hN hl
        refine lv_iload_n hx hb dX10_number_24 rfl (lv_at hl 2 rfl) ?_
        refine lv_aload_n hx hb dX10_number_25 rfl (lv_at hl 0 rfl) ?_
        refine gf_43_32 hx hb hts hin_10 hown hG hN hk_90 dX10_number_26 ?_
        refine g_top (y := nI e) he0 ?_
        refine g_cN_ge (a := b + k) (b := e) (tgt := 80) hx hb dX10_number_29 (by decide) rfl rfl (by omega) (by omega) (fun c3 => ?_) (fun c3 => absurd c3 (by omega))
        refine lv_iload_n hx hb dX10_number_80 rfl (lv_at hl 1 rfl) ?_
        exact g_ri hx hb hr hlocks hN (⟨by rw [e1, qNum, show k = e - b by omega], rfl⟩) dX10_number_81
      | succ d9_24 ih24 =>
        intro k x1 H locs ls hd_24 hk e1 hN hl
        refine lv_iload_n hx hb dX10_number_24 rfl (lv_at hl 2 rfl) ?_
        refine lv_aload_n hx hb dX10_number_25 rfl (lv_at hl 0 rfl) ?_
        refine gf_43_32 hx hb hts hin_10 hown hG hN hk_90 dX10_number_26 ?_
        refine g_top (y := nI e) he0 ?_
        refine g_cN_ge (a := b + k) (b := e) (tgt := 80) hx hb dX10_number_29 (by decide) rfl rfl (by omega) (by omega) (fun c4 => absurd c4 (by omega)) (fun c4 => ?_)
        refine lv_aload_n hx hb dX10_number_32 rfl (lv_at hl 0 rfl) ?_
        refine gf_43_5 hx hb hts hin_10 hown hG hN hk_25 dX10_number_33 ?_
        refine lv_iload_n hx hb dX10_number_36 rfl (lv_at hl 2 rfl) ?_
        refine g_cald hx hb hG hN (i := 49) (n := 60) (j := b + k) (by decide) rfl (by decide) (by omega) rfl dX10_number_37 ?_
        refine lv_bipush (v := 48) hx hb dX10_number_38 (by decide) ?_
        refine lv_isub hx hb dX10_number_40 ?_
        refine lv_istore_n (lv' := [(3, .int ((F 49 (b + k)) - 48)), (0, .ref (ad 43)), (1, .int x1), (2, .int (nI (b + k)))]) hx hb dX10_number_41 rfl hl (by decide) rfl (fun ls hl => ?_)
        refine lv_iload_n hx hb dX10_number_42 rfl (lv_at hl 2 rfl) ?_
        refine lv_iconst (v := (-1)) hx hb dX10_number_43 (by decide) ?_
        refine lv_icmp_eq (tgt := 63) hx hb dX10_number_44 (by decide) (fun c5 => ?_) (fun c5 => ?_)
        · refine lv_iconst (v := (-1)) hx hb dX10_number_63 (by decide) ?_
          refine lv_goto (tgt := 73) hx hb dX10_number_64 (by decide) ?_
          refine lv_istore_n (lv' := [(1, .int (-1)), (3, .int ((F 49 (b + k)) - 48)), (0, .ref (ad 43)), (2, .int (nI (b + k)))]) hx hb dX10_number_73 rfl hl (by decide) rfl (fun ls hl => ?_)
          refine lv_iinc (v := (nI ((b + k) + 1))) (lv' := [(2, .int (nI ((b + k) + 1))), (1, .int (-1)), (3, .int ((F 49 (b + k)) - 48)), (0, .ref (ad 43))]) hx hb dX10_number_74 hl (k := 3) rfl (nI_1 _) (by decide) rfl (fun ls hl => ?_)
          refine lv_goto (tgt := 24) hx hb dX10_number_77 (by decide) ?_
          exact ih24 (k + 1) (-1) _ _ ls (by omega) (by omega) (mNm_a e1 c5) hN (lv_sub hl [3, 1, 0] rfl)
        · refine lv_aload_n hx hb dX10_number_47 rfl (lv_at hl 1 rfl) ?_
          refine gf_43_5 hx hb hts hin_10 hown hG hN hk_25 dX10_number_48 ?_
          refine lv_iload_n hx hb dX10_number_51 rfl (lv_at hl 3 rfl) ?_
          refine g_cald hx hb hG hN (i := 49) (n := 60) (j := b + k) (by decide) rfl (by decide) (by omega) rfl dX10_number_52 ?_
          refine lv_bipush (v := 48) hx hb dX10_number_53 (by decide) ?_
          refine lv_bipush (v := 57) hx hb dX10_number_55 (by decide) ?_
          refine g_SI (As := [.int (F 49 (b + k)), .int 48, .int 57]) (rest := []) ⟨hx, hb, hml, hown, hts⟩ hG hN (c_X10_isIn l (F 49 (b + k)) 48 57) (va_cwS 3 hts gX10_number_X10_isIn rfl rfl rfl (by decide +kernel) ⟨Nat.le_of_ble_eq_true rfl, Nat.le_of_ble_eq_true rfl⟩) rfl hl.1 rfl (Nat.le_of_ble_eq_true rfl) dX10_number_57 ⟨Nat.le_of_ble_eq_true rfl, Nat.le_of_ble_eq_true rfl⟩ (fun H locs hN => ?_)
          refine g_ifb_ne (gRng (F 49 (b + k)) 48 57 = true) (tgt := 67) hx hb dX10_number_60 (by decide) rfl (fun c6 => ?_) (fun c6 => ?_)
          · refine lv_bipush (v := 10) hx hb dX10_number_67 (by decide) ?_
            refine lv_iload_n hx hb dX10_number_69 rfl (lv_at hl 2 rfl) ?_
            refine lv_imul hx hb dX10_number_70 ?_
            refine lv_iload_n hx hb dX10_number_71 rfl (lv_at hl 0 rfl) ?_
            refine lv_iadd hx hb dX10_number_72 ?_
            refine lv_istore_n (lv' := [(1, .int ((10 * x1) + ((F 49 (b + k)) - 48))), (3, .int ((F 49 (b + k)) - 48)), (0, .ref (ad 43)), (2, .int (nI (b + k)))]) hx hb dX10_number_73 rfl hl (by decide) rfl (fun ls hl => ?_)
            refine lv_iinc (v := (nI ((b + k) + 1))) (lv' := [(2, .int (nI ((b + k) + 1))), (1, .int ((10 * x1) + ((F 49 (b + k)) - 48))), (3, .int ((F 49 (b + k)) - 48)), (0, .ref (ad 43))]) hx hb dX10_number_74 hl (k := 3) rfl (nI_1 _) (by decide) rfl (fun ls hl => ?_)
            refine lv_goto (tgt := 24) hx hb dX10_number_77 (by decide) ?_
            exact ih24 (k + 1) ((10 * x1) + ((F 49 (b + k)) - 48)) _ _ ls (by omega) (by omega) (mNm_c e1 c5 c6) hN (lv_sub hl [3, 1, 0] rfl)
          · refine lv_iconst (v := (-1)) hx hb dX10_number_63 (by decide) ?_
            refine lv_goto (tgt := 73) hx hb dX10_number_64 (by decide) ?_
            refine lv_istore_n (lv' := [(1, .int (-1)), (3, .int ((F 49 (b + k)) - 48)), (0, .ref (ad 43)), (2, .int (nI (b + k)))]) hx hb dX10_number_73 rfl hl (by decide) rfl (fun ls hl => ?_)
            refine lv_iinc (v := (nI ((b + k) + 1))) (lv' := [(2, .int (nI ((b + k) + 1))), (1, .int (-1)), (3, .int ((F 49 (b + k)) - 48)), (0, .ref (ad 43))]) hx hb dX10_number_74 hl (k := 3) rfl (nI_1 _) (by decide) rfl (fun ls hl => ?_)
            refine lv_goto (tgt := 24) hx hb dX10_number_77 (by decide) ?_
            exact ih24 (k + 1) (-1) _ _ ls (by omega) (by omega) (mNm_b c6) hN (lv_sub hl [3, 1, 0] rfl)
    exact L2 _ 0 x1 _ _ ls (rfl) (by omega) (by rw [e1]; by_cases h9 : 3 < e - b <;> simp [h9, qVl]) hN (lv_sub hl [0, 1, 2] rfl)
  refine g_cN_le (a := e - b) (b := 3) (tgt := 17) hx hb dX10_number_10 (by decide) rfl rfl (by omega) (by omega) (fun c7 => ?_) (fun c7 => ?_)
  · refine lv_iconst (v := 0) hx hb dX10_number_17 (by decide) ?_
    refine lv_istore_n (lv' := [(1, .int 0), (0, .ref (ad 43))]) hx hb dX10_number_18 rfl hl (by decide) rfl (fun ls hl => ?_)
    refine lv_aload_n hx hb dX10_number_19 rfl (lv_at hl 1 rfl) ?_
    refine gf_43_33 hx hb hts hin_10 hown hG hN hk_93 dX10_number_20 ?_
    refine g_top (y := nI b) hb0 ?_
    refine lv_istore_n (lv' := [(2, .int (nI b)), (1, .int 0), (0, .ref (ad 43))]) hx hb dX10_number_23 rfl hl (by decide) rfl (fun ls hl => ?_)
    exact J1 0 _ _ ls (by simp [c7, Nat.not_lt.mpr c7]) hN (lv_sub hl [2, 1, 0] rfl)
  · refine lv_iconst (v := (-1)) hx hb dX10_number_13 (by decide) ?_
    refine lv_goto (tgt := 18) hx hb dX10_number_14 (by decide) ?_
    refine lv_istore_n (lv' := [(1, .int (-1)), (0, .ref (ad 43))]) hx hb dX10_number_18 rfl hl (by decide) rfl (fun ls hl => ?_)
    refine lv_aload_n hx hb dX10_number_19 rfl (lv_at hl 1 rfl) ?_
    refine gf_43_33 hx hb hts hin_10 hown hG hN hk_93 dX10_number_20 ?_
    refine g_top (y := nI b) hb0 ?_
    refine lv_istore_n (lv' := [(2, .int (nI b)), (1, .int (-1)), (0, .ref (ad 43))]) hx hb dX10_number_23 rfl hl (by decide) rfl (fun ls hl => ?_)
    exact J1 (-1) _ _ ls (by simp [c7, Nat.not_le.mpr c7]) hN (lv_sub hl [2, 1, 0] rfl)
