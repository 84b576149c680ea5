set_option maxHeartbeats 4000000 in
set_option maxRecDepth 100000 in
theorem c_X8_checkParts (l : Launch) {D : va_G} {ad : Nat → Nat} {cs : Nat → ClassId} {zd : Nat → Nat} {F V : gF} {o : gO} {sz : Nat}  (n N : Nat) (hn2 : n ≤ 60) (hNN : V 3 4 = nI N) (hP : qPar F (F 4) n N) (hE : ¬ qHas (F 4) n N) (hNn : N ≤ n) : Met l yX8_checkParts wsX8_checkParts ({ frames := 6, cells := 0, slots := 0, locals := 135 } : Room) (gPc D ad cs zd F V o sz [.ref (ad 3)]) (gQI D ad cs (qRun (F 4) n 64 0 0) F V o sz) 0 0 (gX ad sz) := by
  refine g_met (Qc := fun z0 => gQI D ad cs (qRun (F 4) n 64 0 0) F V o z0) (cc := cX8_checkParts) (maxL := 5) (ret := (some .int)) (own := RX8) (by decide +kernel) rfl rfl (Nat.le_of_ble_eq_true rfl) ?_
  intro p0 e0 s0 m0 b0 k0 c0 hx hb hr hts hown hlocks hml hG hN ls hl
  have hl : lv_has ls 5 [(0, .ref (ad 3))] := hl
  have hin_8 : ∀ w ∈ wsX80, w ∈ wsX8_checkParts := by decide +kernel
  have hk_26 := hts (.fieldLink RX8 26 "GravureHouse$Script" "parts" "I") (by decide +kernel)
  refine lv_iconst (v := 0) hx hb dX8_checkParts_0 (by decide) ?_
  refine lv_istore_n (lv' := [(1, .int 0), (0, .ref (ad 3))]) hx hb dX8_checkParts_1 rfl hl (by decide) rfl (fun ls hl => ?_)
  refine lv_iconst (v := 0) hx hb dX8_checkParts_2 (by decide) ?_
  refine lv_istore_n (lv' := [(2, .int 0), (1, .int 0), (0, .ref (ad 3))]) hx hb dX8_checkParts_3 rfl hl (by decide) rfl (fun ls hl => ?_)
  refine lv_iconst (v := 0) hx hb dX8_checkParts_4 (by decide) ?_
  refine lv_istore_n (lv' := [(3, .int 0), (2, .int 0), (1, .int 0), (0, .ref (ad 3))]) hx hb dX8_checkParts_5 rfl hl (by decide) rfl (fun ls hl => ?_)
  have L1 : ∀ (d9_6 : Nat) (m : Nat) (p : Nat) (nb : Nat) (x1 : Int32) (H : Heap) (locs : List Loc) (ls : Array Slot), N - p = d9_6 → (64 ≤ m + (p + nb)) → (nb ≤ 2) → (p ≤ N) → (qRun (F 4) n m (p + nb) x1 = qRun (F 4) n 64 0 0) → gN D ad cs s0 F V o H locs → lv_has ls 5 [(0, .ref (ad 3)), (1, .int x1), (2, .int (nI nb)), (3, .int (nI p))] → W p0 l e0 ({ frames := 6, cells := 0, slots := 0, locals := 135 } : Room) s0 m0 ([.ref (ad 3)] : List Value).toArray b0 k0 c0 H locs 0 0 (MQ b0 (gQI D ad cs (qRun (F 4) n 64 0 0) F V o s0.heap.size) ([.ref (ad 3)] : List Value).toArray s0 0 0 (gX ad s0.heap.size)) (F0 m0 6 ls []) := by
    intro d9_6
    induction d9_6 with
    | zero =>
      intro m p nb x1 H locs ls hd_6 hmp hn2b hpN1 hrun hN hl
      refine lv_iload_n hx hb dX8_checkParts_6 rfl (lv_at hl 3 rfl) ?_
      refine lv_aload_n hx hb dX8_checkParts_7 rfl (lv_at hl 0 rfl) ?_
      refine gf_3_4 hx hb hts hin_8 hown hG hN hk_26 dX8_checkParts_8 ?_
      refine g_top (y := nI N) hNN ?_
      refine g_cN_ge (a := p) (b := N) (tgt := 66) hx hb dX8_checkParts_11 (by decide) rfl rfl (by omega) (by omega) (fun c2 => ?_) (fun c2 => absurd c2 (by omega))
      refine lv_iload_n hx hb dX8_checkParts_66 rfl (lv_at hl 1 rfl) ?_
      exact g_ri hx hb hr hlocks hN (⟨(qRun_nh (qHas_ge hE (by omega))).symm.trans hrun, rfl⟩) dX8_checkParts_67
    | succ d9_6 ih6 =>
      intro m p nb x1 H locs ls hd_6 hmp hn2b hpN1 hrun hN hl
      refine lv_iload_n hx hb dX8_checkParts_6 rfl (lv_at hl 3 rfl) ?_
      refine lv_aload_n hx hb dX8_checkParts_7 rfl (lv_at hl 0 rfl) ?_
      refine gf_3_4 hx hb hts hin_8 hown hG hN hk_26 dX8_checkParts_8 ?_
      refine g_top (y := nI N) hNN ?_
      refine g_cN_ge (a := p) (b := N) (tgt := 66) hx hb dX8_checkParts_11 (by decide) rfl rfl (by omega) (by omega) (fun c3 => absurd c3 (by omega)) (fun c3 => ?_)
      have hpN : p < N := by omega
      refine lv_iload_n hx hb dX8_checkParts_14 rfl (lv_at hl 2 rfl) ?_
      refine g_ifN_le (a := nb) (tgt := 24) hx hb dX8_checkParts_15 (by decide) rfl (by omega) (fun c4 => ?_) (fun c4 => ?_)
      · have hn0 : nb = 0 := c4
        refine lv_aload_n hx hb dX8_checkParts_24 rfl (lv_at hl 0 rfl) ?_
        refine lv_iload_n hx hb dX8_checkParts_25 rfl (lv_at hl 3 rfl) ?_
        refine g_Ve (As := [.int (nI p)]) (rest := []) ⟨hx, hb, hml, hown, hts⟩ hG hN (i := 3) (by decide) rfl rfl (c_X8_wordAt l p n N hn2 hNN hP hE hNn hpN) (cwV 1 hts gX8_checkParts_X8_wordAt rfl rfl rfl (by decide +kernel) ⟨Nat.le_of_ble_eq_true rfl, Nat.le_of_ble_eq_true rfl⟩) rfl hl.1 rfl (Nat.le_of_ble_eq_true rfl) dX8_checkParts_26 ⟨Nat.le_of_ble_eq_true rfl, Nat.le_of_ble_eq_true rfl⟩ (fun H locs hN => ?_)
        rcases hw9 : qFk (F 4) (qb (F 4) n p) ((qAt (F 4) n (p + 1)) - (qb (F 4) n p)) 6 0 with _ | k9
        · skip
          refine W.eq (g2 := F0 m0 29 ls [.null]) rfl ?_
          refine lv_astoreN (lv' := [(4, .null), (0, .ref (ad 3)), (1, .int x1), (2, .int (nI nb)), (3, .int (nI p))]) hx hb dX8_checkParts_29 hl (by decide) rfl (fun ls hl => ?_)
          refine lv_aloadN hx hb dX8_checkParts_31 (lv_at hl 0 rfl) ?_
          refine lv_ifnullN (tgt := 46) hx hb dX8_checkParts_33 (by decide) ?_
          refine lv_iload_n hx hb dX8_checkParts_46 rfl (lv_at hl 4 rfl) ?_
          refine lv_iconst (v := 1) hx hb dX8_checkParts_47 (by decide) ?_
          refine g_addN (a := p) (b := 1) hx hb rfl rfl dX8_checkParts_48 ?_
          refine lv_ineg hx hb dX8_checkParts_49 ?_
          exact g_ri hx hb hr hlocks hN (⟨(qRun_st hmp hn0 (by omega) (hP p hpN).2.2 (mOk_none hw9)).symm.trans hrun, rfl⟩) dX8_checkParts_50
        · skip
          refine W.eq (g2 := F0 m0 29 ls [.ref (zd k9)]) rfl ?_
          have hk9 := qFk_lt 6 0 hw9
          refine lv_astore (lv' := [(4, .ref (zd k9)), (0, .ref (ad 3)), (1, .int x1), (2, .int (nI nb)), (3, .int (nI p))]) hx hb dX8_checkParts_29 hl (by decide) rfl (fun ls hl => ?_)
          refine lv_aload hx hb dX8_checkParts_31 (lv_at hl 0 rfl) ?_
          refine lv_ifnull hx hb dX8_checkParts_33 ?_
          have he9 := e_le k9
          refine lv_aload_n hx hb dX8_checkParts_36 rfl (lv_at hl 1 rfl) ?_
          refine lv_aload hx hb dX8_checkParts_37 (lv_at hl 0 rfl) ?_
          refine lv_iload_n hx hb dX8_checkParts_39 rfl (lv_at hl 4 rfl) ?_
          refine g_VI (As := [.ref (zd k9), .int (nI p)]) (rest := []) ⟨hx, hb, hml, hown, hts⟩ hG hN (i := 3) (by decide) rfl rfl (c_X8_hasRightNumbers l k9 p (by omega) (by omega) n N hn2 hNN hP hE hNn) (cwV 2 hts gX8_checkParts_X8_hasRightNumbers rfl rfl rfl (by decide +kernel) ⟨Nat.le_of_ble_eq_true rfl, Nat.le_of_ble_eq_true rfl⟩) rfl hl.1 rfl (Nat.le_of_ble_eq_true rfl) dX8_checkParts_40 ⟨Nat.le_of_ble_eq_true rfl, Nat.le_of_ble_eq_true rfl⟩ (fun H locs hN => ?_)
          refine g_ifb_ne (qRt (F 4) n p k9) (tgt := 51) hx hb dX8_checkParts_43 (by decide) rfl (fun c5 => ?_) (fun c5 => ?_)
          · refine lv_aload hx hb dX8_checkParts_51 (lv_at hl 0 rfl) ?_
            refine g_efn hx hb hown hG hN (i := k9) (q := (RX6, "numbers", "I", [1, 1, 1, 2, 1, 1])) (by omega) (by decide) rfl (by decide) dX8_checkParts_53 ?_
            refine g_top (y := nI (if k9 = 3 then 2 else 1)) (e_numbers k9 (by omega)) ?_
            refine lv_istore_n (lv' := [(2, .int (nI (if k9 = 3 then 2 else 1))), (4, .ref (zd k9)), (0, .ref (ad 3)), (1, .int x1), (3, .int (nI p))]) hx hb dX8_checkParts_56 rfl hl (by decide) rfl (fun ls hl => ?_)
            refine lv_iinc (v := (x1 + 1)) (lv' := [(1, .int (x1 + 1)), (2, .int (nI (if k9 = 3 then 2 else 1))), (4, .ref (zd k9)), (0, .ref (ad 3)), (3, .int (nI p))]) hx hb dX8_checkParts_57 hl (k := 3) rfl (rfl) (by decide) rfl (fun ls hl => ?_)
            refine lv_iinc (v := (nI (p + 1))) (lv' := [(3, .int (nI (p + 1))), (1, .int (x1 + 1)), (2, .int (nI (if k9 = 3 then 2 else 1))), (4, .ref (zd k9)), (0, .ref (ad 3))]) hx hb dX8_checkParts_60 hl (k := 4) rfl (nI_1 _) (by decide) rfl (fun ls hl => ?_)
            refine lv_goto (tgt := 6) hx hb dX8_checkParts_63 (by decide) ?_
            exact ih6 (m - 1) (p + 1) (if k9 = 3 then 2 else 1) (x1 + 1) _ _ ls (by omega) (by omega) (by omega) (by omega) (by rw [← hrun, qRun_go hmp hn0 (by omega) (hP p hpN).2.2 hw9 (by omega) c5]) hN (lv_sub hl [4, 1, 2, 0] rfl)
          · refine lv_iload_n hx hb dX8_checkParts_46 rfl (lv_at hl 4 rfl) ?_
            refine lv_iconst (v := 1) hx hb dX8_checkParts_47 (by decide) ?_
            refine g_addN (a := p) (b := 1) hx hb rfl rfl dX8_checkParts_48 ?_
            refine lv_ineg hx hb dX8_checkParts_49 ?_
            exact g_ri hx hb hr hlocks hN (⟨(qRun_st hmp hn0 (by omega) (hP p hpN).2.2 (fun z => c5 ((mOk_some hw9 (by omega)).mp z))).symm.trans hrun, rfl⟩) dX8_checkParts_50
      · refine lv_iinc (v := (nI (nb - 1))) (lv' := [(2, .int (nI (nb - 1))), (0, .ref (ad 3)), (1, .int x1), (3, .int (nI p))]) hx hb dX8_checkParts_18 hl (k := 2) rfl (nI_dec (by omega)) (by decide) rfl (fun ls hl => ?_)
        refine lv_goto (tgt := 60) hx hb dX8_checkParts_21 (by decide) ?_
        refine lv_iinc (v := (nI (p + 1))) (lv' := [(3, .int (nI (p + 1))), (2, .int (nI (nb - 1))), (0, .ref (ad 3)), (1, .int x1)]) hx hb dX8_checkParts_60 hl (k := 3) rfl (nI_1 _) (by decide) rfl (fun ls hl => ?_)
        refine lv_goto (tgt := 6) hx hb dX8_checkParts_63 (by decide) ?_
        exact ih6 m (p + 1) (nb - 1) x1 _ _ ls (by omega) (by omega) (by omega) (by omega) (by rw [show p + 1 + (nb - 1) = p + nb by omega]; exact hrun) hN (lv_sub hl [2, 3, 1, 0] rfl)
  exact L1 _ 64 0 0 0 _ _ ls (rfl) (by omega) (by omega) (by omega) (rfl) hN (lv_sub hl [3, 2, 1, 0] rfl)
set_option maxHeartbeats 4000000 in
set_option maxRecDepth 100000 in
theorem c_X8_set (l : Launch) {D : va_G} {ad : Nat → Nat} {cs : Nat → ClassId} {zd : Nat → Nat} {F V : gF} {o : gO} {sz : Nat} (p k : Nat) (n N : Nat) (hn2 : n ≤ 60) (hNN : V 3 4 = nI N) (hP : qPar F (F 4) n N) (hE : ¬ qHas (F 4) n N) (hNn : N ≤ n) (hpN : p < N) (hk6 : k < 6) (hw9 : qFk (F 4) (qb (F 4) n p) ((qAt (F 4) n (p + 1)) - (qb (F 4) n p)) 6 0 = some k) (hok : qOk (F 4) n p) : Met l yX8_set wsX8_set ({ frames := 2, cells := 0, slots := 0, locals := 43 } : Room) (gPc D ad cs zd F V o sz [.ref (ad 3), .ref (ad 1), .ref (zd k), .int (nI p)]) (gQV D ad cs ((qUp (F 4) n p (F, V)).1) ((qUp (F 4) n p (F, V)).2) o sz) 0 0 (gX ad sz) := by
  refine g_met (Qc := fun z0 => gQV D ad cs ((qUp (F 4) n p (F, V)).1) ((qUp (F 4) n p (F, V)).2) o z0) (cc := cX8_set) (maxL := 5) (ret := none) (own := RX8) (by decide +kernel) rfl rfl (Nat.le_of_ble_eq_true rfl) ?_
  intro p0 e0 s0 m0 b0 k0 c0 hx hb hr hts hown hlocks hml hG hN ls hl
  have hl : lv_has ls 5 [(0, .ref (ad 3)), (1, .ref (ad 1)), (2, .ref (zd k)), (3, .int (nI p))] := hl
  have hk_69 := hts (.fieldLink RX8 69 RX6 "GAIN" gRd) (by decide +kernel)
  have he9 := e_le k
  refine lv_aload_n hx hb dX8_set_0 rfl (lv_at hl 0 rfl) ?_
  refine lv_iload_n hx hb dX8_set_1 rfl (lv_at hl 3 rfl) ?_
  refine lv_aload_n hx hb dX8_set_2 rfl (lv_at hl 2 rfl) ?_
  refine g_efn hx hb hown hG hN (i := k) (q := (RX6, "numbers", "I", [1, 1, 1, 2, 1, 1])) (by omega) (by decide) rfl (by decide) dX8_set_3 ?_
  refine g_top (y := nI (if k = 3 then 2 else 1)) (e_numbers k (by omega)) ?_
  refine g_addN (a := p) (b := if k = 3 then 2 else 1) hx hb rfl rfl dX8_set_6 ?_
  refine g_VI (As := [.int (nI (p + (if k = 3 then 2 else 1)))]) (rest := []) ⟨hx, hb, hml, hown, hts⟩ hG hN (i := 3) (by decide) rfl rfl (c_X8_numberAt l (p + (if k = 3 then 2 else 1)) n N hn2 hNN hP hE hNn (by omega)) (cwV 1 hts gX8_set_X8_numberAt rfl rfl rfl (by decide +kernel) ⟨Nat.le_of_ble_eq_true rfl, Nat.le_of_ble_eq_true rfl⟩) rfl hl.1 rfl (Nat.le_of_ble_eq_true rfl) dX8_set_7 ⟨Nat.le_of_ble_eq_true rfl, Nat.le_of_ble_eq_true rfl⟩ (fun H locs hN => ?_)
  refine lv_istore (lv' := [(4, .int (qN (F 4) n (p + (if k = 3 then 2 else 1)))), (0, .ref (ad 3)), (1, .ref (ad 1)), (2, .ref (zd k)), (3, .int (nI p))]) hx hb dX8_set_10 hl (by decide) rfl (fun ls hl => ?_)
  refine lv_aload_n hx hb dX8_set_12 rfl (lv_at hl 3 rfl) ?_
  refine g_est hx hb hown hG hN (i := 3) (by decide) hk_69 dX8_set_13 ?_
  refine g_eac (i := k) (j := 3) (tgt := 35) hx hb hG (by omega) (by omega) dX8_set_16 (by decide) (fun c1 => ?_) (fun c1 => ?_)
  · refine lv_aload_n hx hb dX8_set_35 rfl (lv_at hl 2 rfl) ?_
    refine lv_aload_n hx hb dX8_set_36 rfl (lv_at hl 3 rfl) ?_
    refine lv_iload hx hb dX8_set_37 (lv_at hl 0 rfl) ?_
    refine g_VV (As := [.ref (zd k), .int (qN (F 4) n (p + (if k = 3 then 2 else 1)))]) (rest := []) ⟨hx, hb, hml, hown, hts⟩ hG hN (i := 1) (by decide) rfl rfl (c_X7_set l k (qN (F 4) n (p + (if k = 3 then 2 else 1))) hk6) (cwV 2 hts gX8_set_X7_set rfl rfl rfl (by decide +kernel) ⟨Nat.le_of_ble_eq_true rfl, Nat.le_of_ble_eq_true rfl⟩) rfl hl.1 rfl (Nat.le_of_ble_eq_true rfl) dX8_set_39 ⟨Nat.le_of_ble_eq_true rfl, Nat.le_of_ble_eq_true rfl⟩ (fun H locs hN => ?_)
    exact g_rv hx hb hr hlocks hN (by rw [← mSet hw9 hk6 c1 hok]) dX8_set_42
  · obtain ⟨j, hj, ej⟩ := gIdx_n 4 rfl (by decide) (((mOk_some hw9 hk6).mp hok).1 c1)
    refine lv_aload_n hx hb dX8_set_19 rfl (lv_at hl 2 rfl) ?_
    refine lv_aload_n hx hb dX8_set_20 rfl (lv_at hl 1 rfl) ?_
    refine lv_iload_n hx hb dX8_set_21 rfl (lv_at hl 4 rfl) ?_
    refine lv_iconst (v := 1) hx hb dX8_set_22 (by decide) ?_
    refine g_addN (a := p) (b := 1) hx hb rfl rfl dX8_set_23 ?_
    refine g_VI (As := [.int (nI (p + 1))]) (rest := [.ref (ad 1)]) ⟨hx, hb, hml, hown, hts⟩ hG hN (i := 3) (by decide) rfl rfl (c_X8_numberAt l (p + 1) n N hn2 hNN hP hE hNn (by omega)) (cwV 1 hts gX8_set_X8_numberAt rfl rfl rfl (by decide +kernel) ⟨Nat.le_of_ble_eq_true rfl, Nat.le_of_ble_eq_true rfl⟩) rfl hl.1 rfl (Nat.le_of_ble_eq_true rfl) dX8_set_24 ⟨Nat.le_of_ble_eq_true rfl, Nat.le_of_ble_eq_true rfl⟩ (fun H locs hN => ?_)
    refine g_top (y := nI j) (ej) ?_
    refine lv_iload hx hb dX8_set_27 (lv_at hl 0 rfl) ?_
    refine g_VV (As := [.int (nI j), .int (qN (F 4) n (p + (if k = 3 then 2 else 1)))]) (rest := []) ⟨hx, hb, hml, hown, hts⟩ hG hN (i := 1) (by decide) rfl rfl (c_X7_setGain l j (qN (F 4) n (p + (if k = 3 then 2 else 1))) hj) (cwV 2 hts gX8_set_X7_setGain rfl rfl rfl (by decide +kernel) ⟨Nat.le_of_ble_eq_true rfl, Nat.le_of_ble_eq_true rfl⟩) rfl hl.1 rfl (Nat.le_of_ble_eq_true rfl) dX8_set_29 ⟨Nat.le_of_ble_eq_true rfl, Nat.le_of_ble_eq_true rfl⟩ (fun H locs hN => ?_)
    refine lv_goto (tgt := 42) hx hb dX8_set_32 (by decide) ?_
    exact g_rv hx hb hr hlocks hN (by rw [← mGain hw9 hk6 c1 hj ej]) dX8_set_42
set_option maxHeartbeats 4000000 in
set_option maxRecDepth 100000 in
theorem c_X8_setParts (l : Launch) {D : va_G} {ad : Nat → Nat} {cs : Nat → ClassId} {zd : Nat → Nat} {F V : gF} {o : gO} {sz : Nat}  (n N : Nat) (hn2 : n ≤ 60) (hNN : V 3 4 = nI N) (hP : qPar F (F 4) n N) (hE : ¬ qHas (F 4) n N) (hNn : N ≤ n) (hfine : qFine (F 4) n 64 0 = true) : Met l yX8_setParts wsX8_setParts ({ frames := 6, cells := 0, slots := 0, locals := 135 } : Room) (gPc D ad cs zd F V o sz [.ref (ad 3), .ref (ad 1)]) (gQV D ad cs ((qRuF (F 4) n 64 0 (F, V)).1) ((qRuF (F 4) n 64 0 (F, V)).2) o sz) 0 0 (gX ad sz) := by
  refine g_met (Qc := fun z0 => gQV D ad cs ((qRuF (F 4) n 64 0 (F, V)).1) ((qRuF (F 4) n 64 0 (F, V)).2) o z0) (cc := cX8_setParts) (maxL := 4) (ret := none) (own := RX8) (by decide +kernel) rfl rfl (Nat.le_of_ble_eq_true rfl) ?_
  intro p0 e0 s0 m0 b0 k0 c0 hx hb hr hts hown hlocks hml hG hN ls hl
  have hl : lv_has ls 4 [(0, .ref (ad 3)), (1, .ref (ad 1))] := hl
  have hin_8 : ∀ w ∈ wsX80, w ∈ wsX8_setParts := by decide +kernel
  have hk_26 := hts (.fieldLink RX8 26 "GravureHouse$Script" "parts" "I") (by decide +kernel)
  refine lv_iconst (v := 0) hx hb dX8_setParts_0 (by decide) ?_
  refine lv_istore_n (lv' := [(2, .int 0), (0, .ref (ad 3)), (1, .ref (ad 1))]) hx hb dX8_setParts_1 rfl hl (by decide) rfl (fun ls hl => ?_)
  have L1 : ∀ (d9_2 : Nat) (m : Nat) (p : Nat) (nb : Nat) (X : gF × gF) (H : Heap) (locs : List Loc) (ls : Array Slot), N - p = d9_2 → (64 ≤ m + (p + nb)) → (nb ≤ 2) → (p ≤ N) → (qRuF (F 4) n m (p + nb) X = (qRuF (F 4) n 64 0 (F, V))) → (qFr (F, V) X) → (qFine (F 4) n m (p + nb) = true) → (∀ j, j < nb → qN (F 4) n (p + j) ≠ -1) → gN D ad cs s0 X.1 X.2 o H locs → lv_has ls 4 [(0, .ref (ad 3)), (1, .ref (ad 1)), (2, .int (nI p))] → W p0 l e0 ({ frames := 6, cells := 0, slots := 0, locals := 135 } : Room) s0 m0 ([.ref (ad 3), .ref (ad 1)] : List Value).toArray b0 k0 c0 H locs 0 0 (MQ b0 (gQV D ad cs ((qRuF (F 4) n 64 0 (F, V)).1) ((qRuF (F 4) n 64 0 (F, V)).2) o s0.heap.size) ([.ref (ad 3), .ref (ad 1)] : List Value).toArray s0 0 0 (gX ad s0.heap.size)) (F0 m0 2 ls []) := by
    intro d9_2
    induction d9_2 with
    | zero =>
      intro m p nb X H locs ls hd_2 hmp hn2b hpN1 hruf hX hfin hnum hN hl
      refine lv_iload_n hx hb dX8_setParts_2 rfl (lv_at hl 2 rfl) ?_
      refine lv_aload_n hx hb dX8_setParts_3 rfl (lv_at hl 0 rfl) ?_
      have e4 : X.1 4 = F 4 := funext (fun b => hX.1 4 b (Or.inl (by decide)))
      have e5 : X.1 5 = F 5 := funext (fun b => hX.1 5 b (Or.inl (by decide)))
      have e6 : X.1 6 = F 6 := funext (fun b => hX.1 6 b (Or.inl (by decide)))
      have hP4 : qPar X.1 (X.1 4) n N := by rw [e4]; exact fun p hp => ⟨by rw [e5]; exact (hP p hp).1, by rw [e6]; exact (hP p hp).2.1, (hP p hp).2.2⟩
      have hE4 : ¬ qHas (X.1 4) n N := by rw [e4]; exact hE
      refine gf_3_4 hx hb hts hin_8 hown hG hN hk_26 dX8_setParts_4 ?_
      refine g_top (y := nI N) (by rw [hX.2 3 4 (Or.inl (by decide))]; exact hNN) ?_
      refine g_cN_ge (a := p) (b := N) (tgt := 33) hx hb dX8_setParts_7 (by decide) rfl rfl (by omega) (by omega) (fun c2 => ?_) (fun c2 => absurd c2 (by omega))
      exact g_rv hx hb hr hlocks hN (by rw [← hruf, qRuF_nh (qHas_ge hE (by omega))]) dX8_setParts_33
    | succ d9_2 ih2 =>
      intro m p nb X H locs ls hd_2 hmp hn2b hpN1 hruf hX hfin hnum hN hl
      refine lv_iload_n hx hb dX8_setParts_2 rfl (lv_at hl 2 rfl) ?_
      refine lv_aload_n hx hb dX8_setParts_3 rfl (lv_at hl 0 rfl) ?_
      have e4 : X.1 4 = F 4 := funext (fun b => hX.1 4 b (Or.inl (by decide)))
      have e5 : X.1 5 = F 5 := funext (fun b => hX.1 5 b (Or.inl (by decide)))
      have e6 : X.1 6 = F 6 := funext (fun b => hX.1 6 b (Or.inl (by decide)))
      have hP4 : qPar X.1 (X.1 4) n N := by rw [e4]; exact fun p hp => ⟨by rw [e5]; exact (hP p hp).1, by rw [e6]; exact (hP p hp).2.1, (hP p hp).2.2⟩
      have hE4 : ¬ qHas (X.1 4) n N := by rw [e4]; exact hE
      refine gf_3_4 hx hb hts hin_8 hown hG hN hk_26 dX8_setParts_4 ?_
      refine g_top (y := nI N) (by rw [hX.2 3 4 (Or.inl (by decide))]; exact hNN) ?_
      refine g_cN_ge (a := p) (b := N) (tgt := 33) hx hb dX8_setParts_7 (by decide) rfl rfl (by omega) (by omega) (fun c3 => absurd c3 (by omega)) (fun c3 => ?_)
      have hpN : p < N := by omega
      refine lv_aload_n hx hb dX8_setParts_10 rfl (lv_at hl 0 rfl) ?_
      refine lv_iload_n hx hb dX8_setParts_11 rfl (lv_at hl 2 rfl) ?_
      refine g_Ve (As := [.int (nI p)]) (rest := []) ⟨hx, hb, hml, hown, hts⟩ hG hN (i := 3) (by decide) rfl rfl (c_X8_wordAt l p n N hn2 (by rw [hX.2 3 4 (Or.inl (by decide))]; exact hNN) hP4 hE4 hNn hpN) (cwV 1 hts gX8_setParts_X8_wordAt rfl rfl rfl (by decide +kernel) ⟨Nat.le_of_ble_eq_true rfl, Nat.le_of_ble_eq_true rfl⟩) rfl hl.1 rfl (Nat.le_of_ble_eq_true rfl) dX8_setParts_12 ⟨Nat.le_of_ble_eq_true rfl, Nat.le_of_ble_eq_true rfl⟩ (fun H locs hN => ?_)
      rcases hw9 : qFk (X.1 4) (qb (X.1 4) n p) ((qAt (X.1 4) n (p + 1)) - (qb (X.1 4) n p)) 6 0 with _ | k9
      · skip
        refine W.eq (g2 := F0 m0 15 ls [.null]) rfl ?_
        rw [e4] at hw9
        refine lv_astore_nN (lv' := [(3, .null), (0, .ref (ad 3)), (1, .ref (ad 1)), (2, .int (nI p))]) hx hb dX8_setParts_15 rfl hl (by decide) rfl (fun ls hl => ?_)
        refine lv_aload_nN hx hb dX8_setParts_16 rfl (lv_at hl 0 rfl) ?_
        refine lv_ifnullN (tgt := 27) hx hb dX8_setParts_17 (by decide) ?_
        have hnp : 0 < nb := by by_cases h8 : nb = 0; exact absurd (qFine_ok hmp h8 (by omega) (hP p hpN).2.2 hfin) (mOk_none hw9); omega
        refine lv_iinc (v := (nI (p + 1))) (lv' := [(2, .int (nI (p + 1))), (3, .null), (0, .ref (ad 3)), (1, .ref (ad 1))]) hx hb dX8_setParts_27 hl (k := 3) rfl (nI_1 _) (by decide) rfl (fun ls hl => ?_)
        refine lv_goto (tgt := 2) hx hb dX8_setParts_30 (by decide) ?_
        exact ih2 m (p + 1) (nb - 1) X _ _ ls (by omega) (by omega) (by omega) (by omega) (by rw [show p + 1 + (nb - 1) = p + nb by omega]; exact hruf) (hX) (by rw [show p + 1 + (nb - 1) = p + nb by omega]; exact hfin) (fun j hj => by rw [show p + 1 + j = p + (j + 1) by omega]; exact hnum (j + 1) (by omega)) hN (lv_sub hl [2, 3, 0] rfl)
      · skip
        refine W.eq (g2 := F0 m0 15 ls [.ref (zd k9)]) rfl ?_
        have hk9 := qFk_lt 6 0 hw9
        rw [e4] at hw9
        refine lv_astore_n (lv' := [(3, .ref (zd k9)), (0, .ref (ad 3)), (1, .ref (ad 1)), (2, .int (nI p))]) hx hb dX8_setParts_15 rfl hl (by decide) rfl (fun ls hl => ?_)
        refine lv_aload_n hx hb dX8_setParts_16 rfl (lv_at hl 0 rfl) ?_
        refine lv_ifnull hx hb dX8_setParts_17 ?_
        have he9 := e_le k9
        have hn0 : nb = 0 := by by_cases h8 : nb = 0; exact h8; exact absurd (hw9.symm.trans (qN_word (hP p hpN).2.2 (hnum 0 (by omega)))) (by simp)
        have hok : qOk (F 4) n p := qFine_ok hmp hn0 (by omega) (hP p hpN).2.2 hfin
        refine lv_aload_n hx hb dX8_setParts_20 rfl (lv_at hl 1 rfl) ?_
        refine lv_aload_n hx hb dX8_setParts_21 rfl (lv_at hl 2 rfl) ?_
        refine lv_aload_n hx hb dX8_setParts_22 rfl (lv_at hl 0 rfl) ?_
        refine lv_iload_n hx hb dX8_setParts_23 rfl (lv_at hl 3 rfl) ?_
        refine g_VV (As := [.ref (ad 1), .ref (zd k9), .int (nI p)]) (rest := []) ⟨hx, hb, hml, hown, hts⟩ hG hN (i := 3) (by decide) rfl rfl (c_X8_set l p k9 n N hn2 (by rw [hX.2 3 4 (Or.inl (by decide))]; exact hNN) hP4 hE4 hNn hpN (by omega) (by rw [e4]; exact hw9) (by rw [e4]; exact hok)) (cwV 3 hts gX8_setParts_X8_set rfl rfl rfl (by decide +kernel) ⟨Nat.le_of_ble_eq_true rfl, Nat.le_of_ble_eq_true rfl⟩) rfl hl.1 rfl (Nat.le_of_ble_eq_true rfl) dX8_setParts_24 ⟨Nat.le_of_ble_eq_true rfl, Nat.le_of_ble_eq_true rfl⟩ (fun H locs hN => ?_)
        refine lv_iinc (v := (nI (p + 1))) (lv' := [(2, .int (nI (p + 1))), (3, .ref (zd k9)), (0, .ref (ad 3)), (1, .ref (ad 1))]) hx hb dX8_setParts_27 hl (k := 3) rfl (nI_1 _) (by decide) rfl (fun ls hl => ?_)
        refine lv_goto (tgt := 2) hx hb dX8_setParts_30 (by decide) ?_
        exact ih2 (m - 1) (p + 1) (if k9 = 3 then 2 else 1) (qUp (X.1 4) n p (X.1, X.2)) _ _ ls (by omega) (by omega) (by omega) (by omega) (by rw [e4, ← hruf, qRuF_go hmp hn0 (by omega) (hP p hpN).2.2 hw9 (by omega) hok]) (by rw [e4]; exact qUp_fr hX hok) (qFine_go hmp hn0 (by omega) (hP p hpN).2.2 hw9 (by omega) hfin) (qOk_num hw9 (by omega) hok) hN (lv_sub hl [2, 3, 0] rfl)
  exact L1 _ 64 0 0 (F, V) _ _ ls (rfl) (by omega) (by omega) (by omega) (rfl) (qFr.rf) (hfine) (fun j hj => absurd hj (Nat.not_lt_zero j)) hN (lv_sub hl [1, 2, 0] rfl)
