set_option maxHeartbeats 4000000 in
set_option maxRecDepth 100000 in
theorem c_X7_set (l : Launch) {D : va_G} {ad : Nat → Nat} {cs : Nat → ClassId} {zd : Nat → Nat} {F V : gF} {o : gO} {sz : Nat} (k : Nat) (x : Int32) (hk : k < 6) : Met l yX7_set wsX7_set ({ frames := 0, cells := 0, slots := 0, locals := 0 } : Room) (gPc D ad cs zd F V o sz [.ref (ad 1), .ref (zd k), .int x]) (gQV D ad cs F (cSet V k x) o sz) 0 0 (gX ad sz) := by
  refine g_met (Qc := fun z0 => gQV D ad cs F (cSet V k x) o z0) (cc := cX7_set) (maxL := 3) (ret := none) (own := RX7) (by decide +kernel) rfl rfl (Nat.le_of_ble_eq_true rfl) ?_
  intro p0 e0 s0 m0 b0 k0 c0 hx hb hr hts hown hlocks hml hG hN ls hl
  have hl : lv_has ls 3 [(0, .ref (ad 1)), (1, .ref (zd k)), (2, .int x)] := hl
  have hin_7 : ∀ w ∈ wsX70, w ∈ wsX7_set := by decide +kernel
  have hk_32 := hts (.fieldLink RX7 32 RX6 "SHARE" gRd) (by decide +kernel)
  have hk_38 := hts (.fieldLink RX7 38 RX6 "LIMIT" gRd) (by decide +kernel)
  have hk_41 := hts (.fieldLink RX7 41 RX6 "TRAP" gRd) (by decide +kernel)
  have hk_44 := hts (.fieldLink RX7 44 RX6 "TOLERANCE" gRd) (by decide +kernel)
  have hk_47 := hts (.fieldLink RX7 47 RX6 "DELAY" gRd) (by decide +kernel)
  have hk_25 := hts (.fieldLink RX7 25 "GravureHouse$Rules" "delay" "I") (by decide +kernel)
  have hk_22 := hts (.fieldLink RX7 22 "GravureHouse$Rules" "tolerance" "I") (by decide +kernel)
  have hk_18 := hts (.fieldLink RX7 18 "GravureHouse$Rules" "trap" "Z") (by decide +kernel)
  have hk_15 := hts (.fieldLink RX7 15 "GravureHouse$Rules" "limit" "I") (by decide +kernel)
  have hk_9 := hts (.fieldLink RX7 9 "GravureHouse$Rules" "share" "I") (by decide +kernel)
  refine lv_aload_n hx hb dX7_set_0 rfl (lv_at hl 1 rfl) ?_
  refine g_est hx hb hown hG hN (i := 0) (by decide) hk_32 dX7_set_1 ?_
  refine g_eac (i := k) (j := 0) (tgt := 15) hx hb hG (by omega) (by omega) dX7_set_4 (by decide) (fun c1 => ?_) (fun c1 => ?_)
  · refine lv_aload_n hx hb dX7_set_15 rfl (lv_at hl 1 rfl) ?_
    refine g_est hx hb hown hG hN (i := 1) (by decide) hk_38 dX7_set_16 ?_
    refine g_eac (i := k) (j := 1) (tgt := 30) hx hb hG (by omega) (by omega) dX7_set_19 (by decide) (fun c2 => ?_) (fun c2 => ?_)
    · refine lv_aload_n hx hb dX7_set_30 rfl (lv_at hl 1 rfl) ?_
      refine g_est hx hb hown hG hN (i := 2) (by decide) hk_41 dX7_set_31 ?_
      refine g_eac (i := k) (j := 2) (tgt := 54) hx hb hG (by omega) (by omega) dX7_set_34 (by decide) (fun c3 => ?_) (fun c3 => ?_)
      · refine lv_aload_n hx hb dX7_set_54 rfl (lv_at hl 1 rfl) ?_
        refine g_est hx hb hown hG hN (i := 4) (by decide) hk_44 dX7_set_55 ?_
        refine g_eac (i := k) (j := 4) (tgt := 69) hx hb hG (by omega) (by omega) dX7_set_58 (by decide) (fun c4 => ?_) (fun c4 => ?_)
        · refine lv_aload_n hx hb dX7_set_69 rfl (lv_at hl 1 rfl) ?_
          refine g_est hx hb hown hG hN (i := 5) (by decide) hk_47 dX7_set_70 ?_
          refine g_eac (i := k) (j := 5) (tgt := 81) hx hb hG (by omega) (by omega) dX7_set_73 (by decide) (fun c5 => ?_) (fun c5 => ?_)
          · exact g_rv hx hb hr hlocks hN (by simp [cSet, c1, c2, c3, c4, c5]) dX7_set_81
          · refine lv_aload_n hx hb dX7_set_76 rfl (lv_at hl 0 rfl) ?_
            refine lv_iload_n hx hb dX7_set_77 rfl (lv_at hl 2 rfl) ?_
            refine gp_1_4 hx hb hts hin_7 hown hG hN hk_25 dX7_set_78 (fun H locs hN => ?_)
            exact g_rv hx hb hr hlocks hN (by simp [cSet, c1, c2, c3, c4, c5]) dX7_set_81
        · refine lv_aload_n hx hb dX7_set_61 rfl (lv_at hl 0 rfl) ?_
          refine lv_iload_n hx hb dX7_set_62 rfl (lv_at hl 2 rfl) ?_
          refine gp_1_3 hx hb hts hin_7 hown hG hN hk_22 dX7_set_63 (fun H locs hN => ?_)
          refine lv_goto (tgt := 81) hx hb dX7_set_66 (by decide) ?_
          exact g_rv hx hb hr hlocks hN (by simp [cSet, c1, c2, c3, c4]) dX7_set_81
      · refine lv_aload_n hx hb dX7_set_37 rfl (lv_at hl 0 rfl) ?_
        refine lv_iload_n hx hb dX7_set_38 rfl (lv_at hl 2 rfl) ?_
        refine lv_iconst (v := 1) hx hb dX7_set_39 (by decide) ?_
        refine lv_icmp_ne (tgt := 47) hx hb dX7_set_40 (by decide) (fun c6 => ?_) (fun c6 => ?_)
        · refine lv_iconst (v := 0) hx hb dX7_set_47 (by decide) ?_
          refine gp_1_2 hx hb hts hin_7 hown hG hN hk_18 (by decide) (by decide) dX7_set_48 (fun H locs hN => ?_)
          refine lv_goto (tgt := 81) hx hb dX7_set_51 (by decide) ?_
          exact g_rv hx hb hr hlocks hN (by simp [cSet, c1, c2, c3, c6]) dX7_set_81
        · refine lv_iconst (v := 1) hx hb dX7_set_43 (by decide) ?_
          refine lv_goto (tgt := 48) hx hb dX7_set_44 (by decide) ?_
          refine gp_1_2 hx hb hts hin_7 hown hG hN hk_18 (by decide) (by decide) dX7_set_48 (fun H locs hN => ?_)
          refine lv_goto (tgt := 81) hx hb dX7_set_51 (by decide) ?_
          exact g_rv hx hb hr hlocks hN (by simp [cSet, c1, c2, c3, c6]) dX7_set_81
    · refine lv_aload_n hx hb dX7_set_22 rfl (lv_at hl 0 rfl) ?_
      refine lv_iload_n hx hb dX7_set_23 rfl (lv_at hl 2 rfl) ?_
      refine gp_1_1 hx hb hts hin_7 hown hG hN hk_15 dX7_set_24 (fun H locs hN => ?_)
      refine lv_goto (tgt := 81) hx hb dX7_set_27 (by decide) ?_
      exact g_rv hx hb hr hlocks hN (by simp [cSet, c1, c2]) dX7_set_81
  · refine lv_aload_n hx hb dX7_set_7 rfl (lv_at hl 0 rfl) ?_
    refine lv_iload_n hx hb dX7_set_8 rfl (lv_at hl 2 rfl) ?_
    refine gp_1_0 hx hb hts hin_7 hown hG hN hk_9 dX7_set_9 (fun H locs hN => ?_)
    refine lv_goto (tgt := 81) hx hb dX7_set_12 (by decide) ?_
    exact g_rv hx hb hr hlocks hN (by simp [cSet, c1]) dX7_set_81
set_option maxHeartbeats 4000000 in
set_option maxRecDepth 100000 in
theorem c_X8_hasRightNumbers (l : Launch) {D : va_G} {ad : Nat → Nat} {cs : Nat → ClassId} {zd : Nat → Nat} {F V : gF} {o : gO} {sz : Nat} (k p : Nat) (hk : k < 6) (hp8 : p ≤ 100) (n N : Nat) (hn2 : n ≤ 60) (hNN : V 3 4 = nI N) (hP : qPar F (F 4) n N) (hE : ¬ qHas (F 4) n N) (hNn : N ≤ n) : Met l yX8_hasRightNumbers wsX8_hasRightNumbers ({ frames := 2, cells := 0, slots := 0, locals := 43 } : Room) (gPc D ad cs zd F V o sz [.ref (ad 3), .ref (zd k), .int (nI p)]) (gQI D ad cs (if qRt (F 4) n p k then 1 else 0) F V o sz) 0 0 (gX ad sz) := by
  refine g_met (Qc := fun z0 => gQI D ad cs (if qRt (F 4) n p k then 1 else 0) F V o z0) (cc := cX8_hasRightNumbers) (maxL := 4) (ret := (some .boolean)) (own := RX8) (by decide +kernel) rfl rfl (Nat.le_of_ble_eq_true rfl) ?_
  intro p0 e0 s0 m0 b0 k0 c0 hx hb hr hts hown hlocks hml hG hN ls hl
  have hl : lv_has ls 4 [(0, .ref (ad 3)), (1, .ref (zd k)), (2, .int (nI p))] := hl
  have hk_69 := hts (.fieldLink RX8 69 RX6 "GAIN" gRd) (by decide +kernel)
  have he9 := e_le k
  refine lv_aload_n hx hb dX8_hasRightNumbers_0 rfl (lv_at hl 1 rfl) ?_
  refine g_est hx hb hown hG hN (i := 3) (by decide) hk_69 dX8_hasRightNumbers_1 ?_
  refine g_eac (i := k) (j := 3) (tgt := 26) hx hb hG (by omega) (by omega) dX8_hasRightNumbers_4 (by decide) (fun c1 => ?_) (fun c1 => ?_)
  · refine lv_aload_n hx hb dX8_hasRightNumbers_26 rfl (lv_at hl 0 rfl) ?_
    refine lv_iload_n hx hb dX8_hasRightNumbers_27 rfl (lv_at hl 2 rfl) ?_
    refine lv_aload_n hx hb dX8_hasRightNumbers_28 rfl (lv_at hl 1 rfl) ?_
    refine g_efn hx hb hown hG hN (i := k) (q := (RX6, "numbers", "I", [1, 1, 1, 2, 1, 1])) (by omega) (by decide) rfl (by decide) dX8_hasRightNumbers_29 ?_
    refine g_top (y := nI (if k = 3 then 2 else 1)) (e_numbers k (by omega)) ?_
    refine g_addN (a := p) (b := if k = 3 then 2 else 1) hx hb rfl rfl dX8_hasRightNumbers_32 ?_
    refine g_VI (As := [.int (nI (p + (if k = 3 then 2 else 1)))]) (rest := []) ⟨hx, hb, hml, hown, hts⟩ hG hN (i := 3) (by decide) rfl rfl (c_X8_numberAt l (p + (if k = 3 then 2 else 1)) n N hn2 hNN hP hE hNn (by omega)) (cwV 1 hts gX8_hasRightNumbers_X8_numberAt rfl rfl rfl (by decide +kernel) ⟨Nat.le_of_ble_eq_true rfl, Nat.le_of_ble_eq_true rfl⟩) rfl hl.1 rfl (Nat.le_of_ble_eq_true rfl) dX8_hasRightNumbers_33 ⟨Nat.le_of_ble_eq_true rfl, Nat.le_of_ble_eq_true rfl⟩ (fun H locs hN => ?_)
    refine lv_istore_n (lv' := [(3, .int (qN (F 4) n (p + (if k = 3 then 2 else 1)))), (0, .ref (ad 3)), (1, .ref (zd k)), (2, .int (nI p))]) hx hb dX8_hasRightNumbers_36 rfl hl (by decide) rfl (fun ls hl => ?_)
    refine lv_iload_n hx hb dX8_hasRightNumbers_37 rfl (lv_at hl 0 rfl) ?_
    refine lv_aload_n hx hb dX8_hasRightNumbers_38 rfl (lv_at hl 2 rfl) ?_
    refine g_efn hx hb hown hG hN (i := k) (q := (RX6, "least", "I", [0, 100, 0, 0, 0, 0])) (by omega) (by decide) rfl (by decide) dX8_hasRightNumbers_39 ?_
    refine g_top (y := qLo (eW k)) (e_least k (by omega)) ?_
    refine lv_icmp_lt (tgt := 57) hx hb dX8_hasRightNumbers_42 (by decide) (fun c2 => ?_) (fun c2 => ?_)
    · refine lv_iconst (v := 0) hx hb dX8_hasRightNumbers_57 (by decide) ?_
      exact g_rz hx hb hr hlocks (by decide) hN (⟨by rw [if_neg (fun z => absurd (z.2.symm.trans (gRng_f1 c2)) (by decide))], rfl⟩) dX8_hasRightNumbers_58
    · refine lv_iload_n hx hb dX8_hasRightNumbers_45 rfl (lv_at hl 0 rfl) ?_
      refine lv_aload_n hx hb dX8_hasRightNumbers_46 rfl (lv_at hl 2 rfl) ?_
      refine g_efn hx hb hown hG hN (i := k) (q := (RX6, "most", "I", [100, 400, 1, 40, 9, 50])) (by omega) (by decide) rfl (by decide) dX8_hasRightNumbers_47 ?_
      refine g_top (y := qHi (eW k)) (e_most k (by omega)) ?_
      refine lv_icmp_gt (tgt := 57) hx hb dX8_hasRightNumbers_50 (by decide) (fun c3 => ?_) (fun c3 => ?_)
      · refine lv_iconst (v := 0) hx hb dX8_hasRightNumbers_57 (by decide) ?_
        exact g_rz hx hb hr hlocks (by decide) hN (⟨by rw [if_neg (fun z => absurd (z.2.symm.trans (gRng_f2 (Int32.not_le.mpr c3))) (by decide))], rfl⟩) dX8_hasRightNumbers_58
      · refine lv_iconst (v := 1) hx hb dX8_hasRightNumbers_53 (by decide) ?_
        refine lv_goto (tgt := 58) hx hb dX8_hasRightNumbers_54 (by decide) ?_
        exact g_rz hx hb hr hlocks (by decide) hN (⟨by rw [if_pos ⟨fun z => absurd z c1, gRng_t c2 (Int32.not_lt.mp c3)⟩], rfl⟩) dX8_hasRightNumbers_58
  · refine lv_aload_n hx hb dX8_hasRightNumbers_7 rfl (lv_at hl 0 rfl) ?_
    refine lv_iload_n hx hb dX8_hasRightNumbers_8 rfl (lv_at hl 2 rfl) ?_
    refine lv_iconst (v := 1) hx hb dX8_hasRightNumbers_9 (by decide) ?_
    refine g_addN (a := p) (b := 1) hx hb rfl rfl dX8_hasRightNumbers_10 ?_
    refine g_VI (As := [.int (nI (p + 1))]) (rest := []) ⟨hx, hb, hml, hown, hts⟩ hG hN (i := 3) (by decide) rfl rfl (c_X8_numberAt l (p + 1) n N hn2 hNN hP hE hNn (by omega)) (cwV 1 hts gX8_hasRightNumbers_X8_numberAt rfl rfl rfl (by decide +kernel) ⟨Nat.le_of_ble_eq_true rfl, Nat.le_of_ble_eq_true rfl⟩) rfl hl.1 rfl (Nat.le_of_ble_eq_true rfl) dX8_hasRightNumbers_11 ⟨Nat.le_of_ble_eq_true rfl, Nat.le_of_ble_eq_true rfl⟩ (fun H locs hN => ?_)
    refine lv_istore_n (lv' := [(3, .int (qN (F 4) n (p + 1))), (0, .ref (ad 3)), (1, .ref (zd k)), (2, .int (nI p))]) hx hb dX8_hasRightNumbers_14 rfl hl (by decide) rfl (fun ls hl => ?_)
    refine lv_iload_n hx hb dX8_hasRightNumbers_15 rfl (lv_at hl 0 rfl) ?_
    refine lv_if_lt (tgt := 24) hx hb dX8_hasRightNumbers_16 (by decide) (fun c4 => ?_) (fun c4 => ?_)
    · refine lv_iconst (v := 0) hx hb dX8_hasRightNumbers_24 (by decide) ?_
      exact g_rz hx hb hr hlocks (by decide) hN (⟨by rw [if_neg (fun z => absurd ((z.1 c1).symm.trans (gIdx_f1 c4)) (by decide))], rfl⟩) dX8_hasRightNumbers_25
    · refine lv_iload_n hx hb dX8_hasRightNumbers_19 rfl (lv_at hl 0 rfl) ?_
      refine lv_iconst (v := 4) hx hb dX8_hasRightNumbers_20 (by decide) ?_
      refine lv_icmp_lt (tgt := 26) hx hb dX8_hasRightNumbers_21 (by decide) (fun c5 => ?_) (fun c5 => ?_)
      · refine lv_aload_n hx hb dX8_hasRightNumbers_26 rfl (lv_at hl 1 rfl) ?_
        refine lv_iload_n hx hb dX8_hasRightNumbers_27 rfl (lv_at hl 3 rfl) ?_
        refine lv_aload_n hx hb dX8_hasRightNumbers_28 rfl (lv_at hl 2 rfl) ?_
        refine g_efn hx hb hown hG hN (i := k) (q := (RX6, "numbers", "I", [1, 1, 1, 2, 1, 1])) (by omega) (by decide) rfl (by decide) dX8_hasRightNumbers_29 ?_
        refine g_top (y := nI (if k = 3 then 2 else 1)) (e_numbers k (by omega)) ?_
        refine g_addN (a := p) (b := if k = 3 then 2 else 1) hx hb rfl rfl dX8_hasRightNumbers_32 ?_
        refine g_VI (As := [.int (nI (p + (if k = 3 then 2 else 1)))]) (rest := []) ⟨hx, hb, hml, hown, hts⟩ hG hN (i := 3) (by decide) rfl rfl (c_X8_numberAt l (p + (if k = 3 then 2 else 1)) n N hn2 hNN hP hE hNn (by omega)) (cwV 1 hts gX8_hasRightNumbers_X8_numberAt rfl rfl rfl (by decide +kernel) ⟨Nat.le_of_ble_eq_true rfl, Nat.le_of_ble_eq_true rfl⟩) rfl hl.1 rfl (Nat.le_of_ble_eq_true rfl) dX8_hasRightNumbers_33 ⟨Nat.le_of_ble_eq_true rfl, Nat.le_of_ble_eq_true rfl⟩ (fun H locs hN => ?_)
        refine lv_istore_n (lv' := [(3, .int (qN (F 4) n (p + (if k = 3 then 2 else 1)))), (0, .ref (ad 3)), (1, .ref (zd k)), (2, .int (nI p))]) hx hb dX8_hasRightNumbers_36 rfl hl (by decide) rfl (fun ls hl => ?_)
        refine lv_iload_n hx hb dX8_hasRightNumbers_37 rfl (lv_at hl 0 rfl) ?_
        refine lv_aload_n hx hb dX8_hasRightNumbers_38 rfl (lv_at hl 2 rfl) ?_
        refine g_efn hx hb hown hG hN (i := k) (q := (RX6, "least", "I", [0, 100, 0, 0, 0, 0])) (by omega) (by decide) rfl (by decide) dX8_hasRightNumbers_39 ?_
        refine g_top (y := qLo (eW k)) (e_least k (by omega)) ?_
        refine lv_icmp_lt (tgt := 57) hx hb dX8_hasRightNumbers_42 (by decide) (fun c6 => ?_) (fun c6 => ?_)
        · refine lv_iconst (v := 0) hx hb dX8_hasRightNumbers_57 (by decide) ?_
          exact g_rz hx hb hr hlocks (by decide) hN (⟨by rw [if_neg (fun z => absurd (z.2.symm.trans (gRng_f1 c6)) (by decide))], rfl⟩) dX8_hasRightNumbers_58
        · refine lv_iload_n hx hb dX8_hasRightNumbers_45 rfl (lv_at hl 0 rfl) ?_
          refine lv_aload_n hx hb dX8_hasRightNumbers_46 rfl (lv_at hl 2 rfl) ?_
          refine g_efn hx hb hown hG hN (i := k) (q := (RX6, "most", "I", [100, 400, 1, 40, 9, 50])) (by omega) (by decide) rfl (by decide) dX8_hasRightNumbers_47 ?_
          refine g_top (y := qHi (eW k)) (e_most k (by omega)) ?_
          refine lv_icmp_gt (tgt := 57) hx hb dX8_hasRightNumbers_50 (by decide) (fun c7 => ?_) (fun c7 => ?_)
          · refine lv_iconst (v := 0) hx hb dX8_hasRightNumbers_57 (by decide) ?_
            exact g_rz hx hb hr hlocks (by decide) hN (⟨by rw [if_neg (fun z => absurd (z.2.symm.trans (gRng_f2 (Int32.not_le.mpr c7))) (by decide))], rfl⟩) dX8_hasRightNumbers_58
          · refine lv_iconst (v := 1) hx hb dX8_hasRightNumbers_53 (by decide) ?_
            refine lv_goto (tgt := 58) hx hb dX8_hasRightNumbers_54 (by decide) ?_
            exact g_rz hx hb hr hlocks (by decide) hN (⟨by rw [if_pos ⟨fun _ => gIdx_t c4 c5, gRng_t c6 (Int32.not_lt.mp c7)⟩], rfl⟩) dX8_hasRightNumbers_58
      · refine lv_iconst (v := 0) hx hb dX8_hasRightNumbers_24 (by decide) ?_
        exact g_rz hx hb hr hlocks (by decide) hN (⟨by rw [if_neg (fun z => absurd ((z.1 c1).symm.trans (gIdx_f2 c5)) (by decide))], rfl⟩) dX8_hasRightNumbers_25
