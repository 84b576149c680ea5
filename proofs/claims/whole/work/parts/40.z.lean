set_option maxHeartbeats 4000000 in
set_option maxRecDepth 100000 in
theorem c_X8_checkParts (l : Launch) {D : va_G} {ad : Nat → Nat} {cs : Nat → ClassId} {zd : Nat → Nat} {F V : gF} {o : gO} {sz : Nat}  (n N : Nat) (hn2 : n ≤ 60) (hNN : V 3 4 = nI N) (hP : qPar F (F 4) n N) (hE : ¬ qHas (F 4) n N) (hNn : N ≤ n) : Met l yX8_checkParts wsX8_checkParts ({ frames := 6, cells := 0, slots := 0, locals := 135 } : Room) (gPc D ad cs zd F V o sz [.ref (ad 3)]) (gQI D ad cs (qRun (F 4) n 64 0 0) F V o sz) 0 0 (gX ad sz) := by
  refine g_met (Qc := fun z0 => gQI D ad cs (qRun (F 4) n 64 0 0) F V o z0) (cc := cX8_checkParts) (maxL := 4) (ret := (some .int)) (own := RX8) (by decide +kernel) rfl rfl (Nat.le_of_ble_eq_true rfl) ?_
  intro p0 e0 s0 m0 b0 k0 c0 hx hb hr hts hown hlocks hml hG hN ls hl
  have hl : lv_has ls 4 [(0, .ref (ad 3))] := hl
  have hin_8 : ∀ w ∈ wsX80, w ∈ wsX8_checkParts := by decide +kernel
  have hk_26 := hts (.fieldLink RX8 26 "GravureHouse$Script" "parts" "I") (by decide +kernel)
  refine lv_iconst (v := 0) hx hb dX8_checkParts_0 (by decide) ?_
  refine lv_istore_n (lv' := [(1, .int 0), (0, .ref (ad 3))]) hx hb dX8_checkParts_1 rfl hl (by decide) rfl (fun ls hl => ?_)
  refine lv_iconst (v := 0) hx hb dX8_checkParts_2 (by decide) ?_
  refine lv_istore_n (lv' := [(2, .int 0), (1, .int 0), (0, .ref (ad 3))]) hx hb dX8_checkParts_3 rfl hl (by decide) rfl (fun ls hl => ?_)
  have L1 : ∀ (d9_4 : Nat) (m : Nat) (p : Nat) (x1 : Int32) (H : Heap) (locs : List Loc) (ls : Array Slot), m = d9_4 → (64 ≤ m + p) → (p ≤ 63) → (qRun (F 4) n m p x1 = qRun (F 4) n 64 0 0) → gN D ad cs s0 F V o H locs → lv_has ls 4 [(0, .ref (ad 3)), (1, .int x1), (2, .int (nI p))] → W p0 l e0 ({ frames := 6, cells := 0, slots := 0, locals := 135 } : Room) s0 m0 ([.ref (ad 3)] : List Value).toArray b0 k0 c0 H locs 0 0 (MQ b0 (gQI D ad cs (qRun (F 4) n 64 0 0) F V o s0.heap.size) ([.ref (ad 3)] : List Value).toArray s0 0 0 (gX ad s0.heap.size)) (F0 m0 4 ls []) := by
    intro d9_4
    induction d9_4 with
    | zero =>
      intro m p x1 H locs ls hd_4 hmp hp63 hrun hN hl
      refine lv_iload_n hx hb dX8_checkParts_4 rfl (lv_at hl 2 rfl) ?_
      refine lv_aload_n hx hb dX8_checkParts_5 rfl (lv_at hl 0 rfl) ?_
      refine gf_3_4 hx hb hts hin_8 hown hG hN hk_26 dX8_checkParts_6 ?_
      refine g_top (y := nI N) hNN ?_
      refine g_cN_ge (a := p) (b := N) (tgt := 51) hx hb dX8_checkParts_9 (by decide) rfl rfl (by omega) (by omega) (fun c2 => ?_) (fun c2 => absurd c2 (by omega))
      refine lv_iload_n hx hb dX8_checkParts_51 rfl (lv_at hl 1 rfl) ?_
      exact g_ri hx hb hr hlocks hN (⟨by rw [← hrun, hd_4]; rfl, rfl⟩) dX8_checkParts_52
    | succ d9_4 ih4 =>
      intro m p x1 H locs ls hd_4 hmp hp63 hrun hN hl
      refine lv_iload_n hx hb dX8_checkParts_4 rfl (lv_at hl 2 rfl) ?_
      refine lv_aload_n hx hb dX8_checkParts_5 rfl (lv_at hl 0 rfl) ?_
      refine gf_3_4 hx hb hts hin_8 hown hG hN hk_26 dX8_checkParts_6 ?_
      refine g_top (y := nI N) hNN ?_
      refine g_cN_ge (a := p) (b := N) (tgt := 51) hx hb dX8_checkParts_9 (by decide) rfl rfl (by omega) (by omega) (fun c3 => ?_) (fun c3 => ?_)
      · refine lv_iload_n hx hb dX8_checkParts_51 rfl (lv_at hl 1 rfl) ?_
        exact g_ri hx hb hr hlocks hN (⟨by rw [← hrun, hd_4]; simp only [qRun]; rw [if_neg (qHas_ge hE c3)], rfl⟩) dX8_checkParts_52
      · have hpN : p < N := c3
        refine lv_aload_n hx hb dX8_checkParts_12 rfl (lv_at hl 0 rfl) ?_
        refine lv_iload_n hx hb dX8_checkParts_13 rfl (lv_at hl 2 rfl) ?_
        refine g_Ve (As := [.int (nI p)]) (rest := []) ⟨hx, hb, hml, hown, hts⟩ hG hN (i := 3) (by decide) rfl rfl (c_X8_wordAt l p n N hn2 hNN hP hE hNn hpN) (cwV 1 hts gX8_checkParts_X8_wordAt rfl rfl rfl (by decide +kernel) ⟨Nat.le_of_ble_eq_true rfl, Nat.le_of_ble_eq_true rfl⟩) rfl hl.1 rfl (Nat.le_of_ble_eq_true rfl) dX8_checkParts_14 ⟨Nat.le_of_ble_eq_true rfl, Nat.le_of_ble_eq_true rfl⟩ (fun H locs hN => ?_)
        rcases hw9 : qFk (F 4) (qb (F 4) n p) ((qAt (F 4) n (p + 1)) - (qb (F 4) n p)) 6 0 with _ | k9
        · skip
          refine W.eq (g2 := F0 m0 17 ls [.null]) rfl ?_
          refine lv_astore_nN (lv' := [(3, .null), (0, .ref (ad 3)), (1, .int x1), (2, .int (nI p))]) hx hb dX8_checkParts_17 rfl hl (by decide) rfl (fun ls hl => ?_)
          refine lv_aload_nN hx hb dX8_checkParts_18 rfl (lv_at hl 0 rfl) ?_
          refine lv_ifnullN (tgt := 31) hx hb dX8_checkParts_19 (by decide) ?_
          refine lv_iload_n hx hb dX8_checkParts_31 rfl (lv_at hl 3 rfl) ?_
          refine lv_iconst (v := 1) hx hb dX8_checkParts_32 (by decide) ?_
          refine g_addN (a := p) (b := 1) hx hb rfl rfl dX8_checkParts_33 ?_
          refine lv_ineg hx hb dX8_checkParts_34 ?_
          exact g_ri hx hb hr hlocks hN (⟨by rw [← hrun, hd_4]; simp only [qRun]; rw [if_pos ((hP p hpN).2.2), if_neg (mOk_none hw9)], rfl⟩) dX8_checkParts_35
        · skip
          refine W.eq (g2 := F0 m0 17 ls [.ref (zd k9)]) rfl ?_
          have hk9 := qFk_lt 6 0 hw9
          refine lv_astore_n (lv' := [(3, .ref (zd k9)), (0, .ref (ad 3)), (1, .int x1), (2, .int (nI p))]) hx hb dX8_checkParts_17 rfl hl (by decide) rfl (fun ls hl => ?_)
          refine lv_aload_n hx hb dX8_checkParts_18 rfl (lv_at hl 0 rfl) ?_
          refine lv_ifnull hx hb dX8_checkParts_19 ?_
          have he9 := e_le k9
          refine lv_aload_n hx hb dX8_checkParts_22 rfl (lv_at hl 1 rfl) ?_
          refine lv_aload_n hx hb dX8_checkParts_23 rfl (lv_at hl 0 rfl) ?_
          refine lv_iload_n hx hb dX8_checkParts_24 rfl (lv_at hl 3 rfl) ?_
          refine g_VI (As := [.ref (zd k9), .int (nI p)]) (rest := []) ⟨hx, hb, hml, hown, hts⟩ hG hN (i := 3) (by decide) rfl rfl (c_X8_hasRightNumbers l k9 p (by omega) (by omega) n N hn2 hNN hP hE hNn) (cwV 2 hts gX8_checkParts_X8_hasRightNumbers rfl rfl rfl (by decide +kernel) ⟨Nat.le_of_ble_eq_true rfl, Nat.le_of_ble_eq_true rfl⟩) rfl hl.1 rfl (Nat.le_of_ble_eq_true rfl) dX8_checkParts_25 ⟨Nat.le_of_ble_eq_true rfl, Nat.le_of_ble_eq_true rfl⟩ (fun H locs hN => ?_)
          refine g_ifb_ne (qRt (F 4) n p k9) (tgt := 36) hx hb dX8_checkParts_28 (by decide) rfl (fun c4 => ?_) (fun c4 => ?_)
          · refine lv_iload_n hx hb dX8_checkParts_36 rfl (lv_at hl 3 rfl) ?_
            refine lv_iconst (v := 1) hx hb dX8_checkParts_37 (by decide) ?_
            refine lv_aload_n hx hb dX8_checkParts_38 rfl (lv_at hl 0 rfl) ?_
            refine g_efn hx hb hown hG hN (i := k9) (q := (RX6, "numbers", "I", [1, 1, 1, 2, 1, 1])) (by omega) (by decide) rfl (by decide) dX8_checkParts_39 ?_
            refine g_top (y := nI (if k9 = 3 then 2 else 1)) (e_numbers k9 (by omega)) ?_
            refine g_addN (a := 1) (b := if k9 = 3 then 2 else 1) hx hb rfl rfl dX8_checkParts_42 ?_
            refine g_addN (a := p) (b := 1 + (if k9 = 3 then 2 else 1)) hx hb rfl rfl dX8_checkParts_43 ?_
            refine lv_istore_n (lv' := [(2, .int (nI (p + (1 + (if k9 = 3 then 2 else 1))))), (3, .ref (zd k9)), (0, .ref (ad 3)), (1, .int x1)]) hx hb dX8_checkParts_44 rfl hl (by decide) rfl (fun ls hl => ?_)
            refine lv_iinc (v := (x1 + 1)) (lv' := [(1, .int (x1 + 1)), (2, .int (nI (p + (1 + (if k9 = 3 then 2 else 1))))), (3, .ref (zd k9)), (0, .ref (ad 3))]) hx hb dX8_checkParts_45 hl (k := 3) rfl (rfl) (by decide) rfl (fun ls hl => ?_)
            refine lv_goto (tgt := 4) hx hb dX8_checkParts_48 (by decide) ?_
            exact ih4 d9_4 (p + (1 + (if k9 = 3 then 2 else 1))) (x1 + 1) _ _ ls (by omega) (by omega) (by omega) (by rw [← hrun, hd_4]; simp only [qRun]; rw [if_pos ((hP p hpN).2.2), if_pos ((mOk_some hw9 (by omega)).mpr c4), qNp_k1 hw9 (by omega)]) hN (lv_sub hl [3, 0, 1] rfl)
          · refine lv_iload_n hx hb dX8_checkParts_31 rfl (lv_at hl 3 rfl) ?_
            refine lv_iconst (v := 1) hx hb dX8_checkParts_32 (by decide) ?_
            refine g_addN (a := p) (b := 1) hx hb rfl rfl dX8_checkParts_33 ?_
            refine lv_ineg hx hb dX8_checkParts_34 ?_
            exact g_ri hx hb hr hlocks hN (⟨by rw [← hrun, hd_4]; simp only [qRun]; rw [if_pos ((hP p hpN).2.2), if_neg (fun z => c4 ((mOk_some hw9 (by omega)).mp z))], rfl⟩) dX8_checkParts_35
  exact L1 _ 64 0 0 _ _ ls (rfl) (by omega) (by omega) (rfl) hN (lv_sub hl [2, 1, 0] rfl)
set_option maxHeartbeats 4000000 in
set_option maxRecDepth 100000 in
theorem c_X8_setParts (l : Launch) {D : va_G} {ad : Nat → Nat} {cs : Nat → ClassId} {zd : Nat → Nat} {F V : gF} {o : gO} {sz : Nat}  (n N : Nat) (hn2 : n ≤ 60) (hNN : V 3 4 = nI N) (hP : qPar F (F 4) n N) (hE : ¬ qHas (F 4) n N) (hNn : N ≤ n) (hfine : qFine (F 4) n 64 0 = true) : Met l yX8_setParts wsX8_setParts ({ frames := 6, cells := 0, slots := 0, locals := 135 } : Room) (gPc D ad cs zd F V o sz [.ref (ad 3), .ref (ad 1)]) (gQV D ad cs ((qRuF (F 4) n 64 0 (F, V)).1) ((qRuF (F 4) n 64 0 (F, V)).2) o sz) 0 0 (gX ad sz) := by
  refine g_met (Qc := fun z0 => gQV D ad cs ((qRuF (F 4) n 64 0 (F, V)).1) ((qRuF (F 4) n 64 0 (F, V)).2) o z0) (cc := cX8_setParts) (maxL := 5) (ret := none) (own := RX8) (by decide +kernel) rfl rfl (Nat.le_of_ble_eq_true rfl) ?_
  intro p0 e0 s0 m0 b0 k0 c0 hx hb hr hts hown hlocks hml hG hN ls hl
  have hl : lv_has ls 5 [(0, .ref (ad 3)), (1, .ref (ad 1))] := hl
  have hin_8 : ∀ w ∈ wsX80, w ∈ wsX8_setParts := by decide +kernel
  have hk_26 := hts (.fieldLink RX8 26 "GravureHouse$Script" "parts" "I") (by decide +kernel)
  have hk_65 := hts (.fieldLink RX8 65 RX6 "GAIN" gRd) (by decide +kernel)
  refine lv_iconst (v := 0) hx hb dX8_setParts_0 (by decide) ?_
  refine lv_istore_n (lv' := [(2, .int 0), (0, .ref (ad 3)), (1, .ref (ad 1))]) hx hb dX8_setParts_1 rfl hl (by decide) rfl (fun ls hl => ?_)
  have L1 : ∀ (d9_2 : Nat) (m : Nat) (p : Nat) (X : gF × gF) (H : Heap) (locs : List Loc) (ls : Array Slot), m = d9_2 → (64 ≤ m + p) → (p ≤ 63) → (qRuF (F 4) n m p X = (qRuF (F 4) n 64 0 (F, V))) → (qFr (F, V) X) → (qFine (F 4) n m p = true) → gN D ad cs s0 X.1 X.2 o H locs → lv_has ls 5 [(0, .ref (ad 3)), (1, .ref (ad 1)), (2, .int (nI p))] → W p0 l e0 ({ frames := 6, cells := 0, slots := 0, locals := 135 } : Room) s0 m0 ([.ref (ad 3), .ref (ad 1)] : List Value).toArray b0 k0 c0 H locs 0 0 (MQ b0 (gQV D ad cs ((qRuF (F 4) n 64 0 (F, V)).1) ((qRuF (F 4) n 64 0 (F, V)).2) o s0.heap.size) ([.ref (ad 3), .ref (ad 1)] : List Value).toArray s0 0 0 (gX ad s0.heap.size)) (F0 m0 2 ls []) := by
    intro d9_2
    induction d9_2 with
    | zero =>
      intro m p X H locs ls hd_2 hmp hp63 hruf hX hfin hN hl
      refine lv_iload_n hx hb dX8_setParts_2 rfl (lv_at hl 2 rfl) ?_
      have e4 : X.1 4 = F 4 := funext (fun b => hX.1 4 b (Or.inl (by decide)))
      have e5 : X.1 5 = F 5 := funext (fun b => hX.1 5 b (Or.inl (by decide)))
      have e6 : X.1 6 = F 6 := funext (fun b => hX.1 6 b (Or.inl (by decide)))
      have hP4 : qPar X.1 (X.1 4) n N := by rw [e4]; exact fun p hp => ⟨by rw [e5]; exact (hP p hp).1, by rw [e6]; exact (hP p hp).2.1, (hP p hp).2.2⟩
      have hE4 : ¬ qHas (X.1 4) n N := by rw [e4]; exact hE
      refine lv_aload_n hx hb dX8_setParts_3 rfl (lv_at hl 0 rfl) ?_
      refine gf_3_4 hx hb hts hin_8 hown hG hN hk_26 dX8_setParts_4 ?_
      refine g_top (y := nI N) (by rw [hX.2 3 4 (Or.inl (by decide))]; exact hNN) ?_
      refine g_cN_ge (a := p) (b := N) (tgt := 75) hx hb dX8_setParts_7 (by decide) rfl rfl (by omega) (by omega) (fun c2 => ?_) (fun c2 => absurd c2 (by omega))
      exact g_rv hx hb hr hlocks hN (absurd hmp (by omega)) dX8_setParts_75
    | succ d9_2 ih2 =>
      intro m p X H locs ls hd_2 hmp hp63 hruf hX hfin hN hl
      refine lv_iload_n hx hb dX8_setParts_2 rfl (lv_at hl 2 rfl) ?_
      have e4 : X.1 4 = F 4 := funext (fun b => hX.1 4 b (Or.inl (by decide)))
      have e5 : X.1 5 = F 5 := funext (fun b => hX.1 5 b (Or.inl (by decide)))
      have e6 : X.1 6 = F 6 := funext (fun b => hX.1 6 b (Or.inl (by decide)))
      have hP4 : qPar X.1 (X.1 4) n N := by rw [e4]; exact fun p hp => ⟨by rw [e5]; exact (hP p hp).1, by rw [e6]; exact (hP p hp).2.1, (hP p hp).2.2⟩
      have hE4 : ¬ qHas (X.1 4) n N := by rw [e4]; exact hE
      refine lv_aload_n hx hb dX8_setParts_3 rfl (lv_at hl 0 rfl) ?_
      refine gf_3_4 hx hb hts hin_8 hown hG hN hk_26 dX8_setParts_4 ?_
      refine g_top (y := nI N) (by rw [hX.2 3 4 (Or.inl (by decide))]; exact hNN) ?_
      refine g_cN_ge (a := p) (b := N) (tgt := 75) hx hb dX8_setParts_7 (by decide) rfl rfl (by omega) (by omega) (fun c3 => ?_) (fun c3 => ?_)
      · exact g_rv hx hb hr hlocks hN (by rw [← hruf, hd_2]; simp only [qRuF]; rw [if_neg (fun z => qHas_ge hE c3 z.1)]) dX8_setParts_75
      · have hpN : p < N := c3
        have hok : qOk (F 4) n p := by have h9 := hfin; rw [hd_2] at h9; simp only [qFine] at h9; rw [if_pos ((hP p hpN).2.2)] at h9; by_cases h8 : qOk (F 4) n p; exact h8; rw [if_neg h8] at h9; exact absurd h9 (by decide)
        refine lv_aload_n hx hb dX8_setParts_10 rfl (lv_at hl 0 rfl) ?_
        refine lv_iload_n hx hb dX8_setParts_11 rfl (lv_at hl 2 rfl) ?_
        refine g_Ve (As := [.int (nI p)]) (rest := []) ⟨hx, hb, hml, hown, hts⟩ hG hN (i := 3) (by decide) rfl rfl (c_X8_wordAt l p n N hn2 (by rw [hX.2 3 4 (Or.inl (by decide))]; exact hNN) hP4 hE4 hNn hpN) (cwV 1 hts gX8_setParts_X8_wordAt rfl rfl rfl (by decide +kernel) ⟨Nat.le_of_ble_eq_true rfl, Nat.le_of_ble_eq_true rfl⟩) rfl hl.1 rfl (Nat.le_of_ble_eq_true rfl) dX8_setParts_12 ⟨Nat.le_of_ble_eq_true rfl, Nat.le_of_ble_eq_true rfl⟩ (fun H locs hN => ?_)
        rcases hw9 : qFk (X.1 4) (qb (X.1 4) n p) ((qAt (X.1 4) n (p + 1)) - (qb (X.1 4) n p)) 6 0 with _ | k9
        · skip
          refine W.eq (g2 := F0 m0 15 ls [.null]) rfl ?_
          rw [e4] at hw9
          refine lv_astore_nN (lv' := [(3, .null), (0, .ref (ad 3)), (1, .ref (ad 1)), (2, .int (nI p))]) hx hb dX8_setParts_15 rfl hl (by decide) rfl (fun ls hl => ?_)
          refine lv_aload_nN hx hb dX8_setParts_16 rfl (lv_at hl 0 rfl) ?_
          refine lv_ifnonnullN hx hb dX8_setParts_17 ?_
          exact g_rv hx hb hr hlocks hN (absurd hok (mOk_none hw9)) dX8_setParts_20
        · skip
          refine W.eq (g2 := F0 m0 15 ls [.ref (zd k9)]) rfl ?_
          have hk9 := qFk_lt 6 0 hw9
          rw [e4] at hw9
          refine lv_astore_n (lv' := [(3, .ref (zd k9)), (0, .ref (ad 3)), (1, .ref (ad 1)), (2, .int (nI p))]) hx hb dX8_setParts_15 rfl hl (by decide) rfl (fun ls hl => ?_)
          refine lv_aload_n hx hb dX8_setParts_16 rfl (lv_at hl 0 rfl) ?_
          refine lv_ifnonnull (tgt := 21) hx hb dX8_setParts_17 (by decide) ?_
          have he9 := e_le k9
          refine lv_aload_n hx hb dX8_setParts_21 rfl (lv_at hl 1 rfl) ?_
          refine lv_iload_n hx hb dX8_setParts_22 rfl (lv_at hl 3 rfl) ?_
          refine lv_aload_n hx hb dX8_setParts_23 rfl (lv_at hl 0 rfl) ?_
          refine g_efn hx hb hown hG hN (i := k9) (q := (RX6, "numbers", "I", [1, 1, 1, 2, 1, 1])) (by omega) (by decide) rfl (by decide) dX8_setParts_24 ?_
          refine g_top (y := nI (if k9 = 3 then 2 else 1)) (e_numbers k9 (by omega)) ?_
          refine g_addN (a := p) (b := if k9 = 3 then 2 else 1) hx hb rfl rfl dX8_setParts_27 ?_
          refine g_VI (As := [.int (nI (p + (if k9 = 3 then 2 else 1)))]) (rest := []) ⟨hx, hb, hml, hown, hts⟩ hG hN (i := 3) (by decide) rfl rfl (c_X8_numberAt l (p + (if k9 = 3 then 2 else 1)) n N hn2 (by rw [hX.2 3 4 (Or.inl (by decide))]; exact hNN) hP4 hE4 hNn (by omega)) (cwV 1 hts gX8_setParts_X8_numberAt rfl rfl rfl (by decide +kernel) ⟨Nat.le_of_ble_eq_true rfl, Nat.le_of_ble_eq_true rfl⟩) rfl hl.1 rfl (Nat.le_of_ble_eq_true rfl) dX8_setParts_28 ⟨Nat.le_of_ble_eq_true rfl, Nat.le_of_ble_eq_true rfl⟩ (fun H locs hN => ?_)
          refine g_top (y := (qN (F 4) n (p + (if k9 = 3 then 2 else 1)))) (by rw [e4]) ?_
          refine lv_istore (lv' := [(4, .int (qN (F 4) n (p + (if k9 = 3 then 2 else 1)))), (3, .ref (zd k9)), (0, .ref (ad 3)), (1, .ref (ad 1)), (2, .int (nI p))]) hx hb dX8_setParts_31 hl (by decide) rfl (fun ls hl => ?_)
          have J4 : ∀ (X2 : gF × gF) (H : Heap) (locs : List Loc) (ls : Array Slot), (X2 = qUp (F 4) n p X) → gN D ad cs s0 X2.1 X2.2 o H locs → lv_has ls 5 [(0, .ref (ad 3)), (1, .ref (ad 1)), (2, .int (nI p)), (3, .ref (zd k9))] → W p0 l e0 ({ frames := 6, cells := 0, slots := 0, locals := 135 } : Room) s0 m0 ([.ref (ad 3), .ref (ad 1)] : List Value).toArray b0 k0 c0 H locs 0 0 (MQ b0 (gQV D ad cs ((qRuF (F 4) n 64 0 (F, V)).1) ((qRuF (F 4) n 64 0 (F, V)).2) o s0.heap.size) ([.ref (ad 3), .ref (ad 1)] : List Value).toArray s0 0 0 (gX ad s0.heap.size)) (F0 m0 63 ls []) := by
            intro X2 H locs ls hX2 hN hl
            refine lv_iload_n hx hb dX8_setParts_63 rfl (lv_at hl 2 rfl) ?_
            refine lv_iconst (v := 1) hx hb dX8_setParts_64 (by decide) ?_
            refine lv_aload_n hx hb dX8_setParts_65 rfl (lv_at hl 3 rfl) ?_
            refine g_efn hx hb hown hG hN (i := k9) (q := (RX6, "numbers", "I", [1, 1, 1, 2, 1, 1])) (by omega) (by decide) rfl (by decide) dX8_setParts_66 ?_
            refine g_top (y := nI (if k9 = 3 then 2 else 1)) (e_numbers k9 (by omega)) ?_
            refine g_addN (a := 1) (b := if k9 = 3 then 2 else 1) hx hb rfl rfl dX8_setParts_69 ?_
            refine g_addN (a := p) (b := 1 + (if k9 = 3 then 2 else 1)) hx hb rfl rfl dX8_setParts_70 ?_
            refine lv_istore_n (lv' := [(2, .int (nI (p + (1 + (if k9 = 3 then 2 else 1))))), (0, .ref (ad 3)), (1, .ref (ad 1)), (3, .ref (zd k9))]) hx hb dX8_setParts_71 rfl hl (by decide) rfl (fun ls hl => ?_)
            refine lv_goto (tgt := 2) hx hb dX8_setParts_72 (by decide) ?_
            exact ih2 d9_2 (p + (1 + (if k9 = 3 then 2 else 1))) X2 _ _ ls (by omega) (by omega) (by omega) (by rw [← hruf, hd_2]; simp only [qRuF]; rw [if_pos (And.intro ((hP p hpN).2.2) hok), qNp_k1 hw9 (by omega), hX2]) (by rw [hX2]; exact qUp_fr hX hok) (by have h9 := hfin; rw [hd_2] at h9; simp only [qFine] at h9; rw [if_pos ((hP p hpN).2.2), if_pos hok, qNp_k1 hw9 (by omega)] at h9; exact h9) hN (lv_sub hl [1, 2, 0] rfl)
          refine lv_aload_n hx hb dX8_setParts_33 rfl (lv_at hl 1 rfl) ?_
          refine g_est hx hb hown hG hN (i := 3) (by decide) hk_65 dX8_setParts_34 ?_
          refine g_eac (i := k9) (j := 3) (tgt := 56) hx hb hG (by omega) (by omega) dX8_setParts_37 (by decide) (fun c5 => ?_) (fun c5 => ?_)
          · refine lv_aload_n hx hb dX8_setParts_56 rfl (lv_at hl 3 rfl) ?_
            refine lv_aload_n hx hb dX8_setParts_57 rfl (lv_at hl 1 rfl) ?_
            refine lv_iload hx hb dX8_setParts_58 (lv_at hl 0 rfl) ?_
            refine g_VV (As := [.ref (zd k9), .int (qN (F 4) n (p + (if k9 = 3 then 2 else 1)))]) (rest := []) ⟨hx, hb, hml, hown, hts⟩ hG hN (i := 1) (by decide) rfl rfl (c_X7_set l k9 (qN (F 4) n (p + (if k9 = 3 then 2 else 1))) (by omega)) (cwV 2 hts gX8_setParts_X7_set rfl rfl rfl (by decide +kernel) ⟨Nat.le_of_ble_eq_true rfl, Nat.le_of_ble_eq_true rfl⟩) rfl hl.1 rfl (Nat.le_of_ble_eq_true rfl) dX8_setParts_60 ⟨Nat.le_of_ble_eq_true rfl, Nat.le_of_ble_eq_true rfl⟩ (fun H locs hN => ?_)
            exact J4 (X.1, (cSet X.2 k9 (qN (F 4) n (p + (if k9 = 3 then 2 else 1))))) _ _ ls (mSet hw9 (by omega) c5 hok) hN (lv_sub hl [2, 3, 4, 1] rfl)
          · obtain ⟨j, hj, ej⟩ := gIdx_n 4 rfl (by decide) (((mOk_some hw9 (by omega)).mp hok).1 c5)
            refine lv_aload_n hx hb dX8_setParts_40 rfl (lv_at hl 3 rfl) ?_
            refine lv_aload_n hx hb dX8_setParts_41 rfl (lv_at hl 2 rfl) ?_
            refine lv_iload_n hx hb dX8_setParts_42 rfl (lv_at hl 4 rfl) ?_
            refine lv_iconst (v := 1) hx hb dX8_setParts_43 (by decide) ?_
            refine g_addN (a := p) (b := 1) hx hb rfl rfl dX8_setParts_44 ?_
            refine g_VI (As := [.int (nI (p + 1))]) (rest := [.ref (ad 1)]) ⟨hx, hb, hml, hown, hts⟩ hG hN (i := 3) (by decide) rfl rfl (c_X8_numberAt l (p + 1) n N hn2 (by rw [hX.2 3 4 (Or.inl (by decide))]; exact hNN) hP4 hE4 hNn (by omega)) (cwV 1 hts gX8_setParts_X8_numberAt rfl rfl rfl (by decide +kernel) ⟨Nat.le_of_ble_eq_true rfl, Nat.le_of_ble_eq_true rfl⟩) rfl hl.1 rfl (Nat.le_of_ble_eq_true rfl) dX8_setParts_45 ⟨Nat.le_of_ble_eq_true rfl, Nat.le_of_ble_eq_true rfl⟩ (fun H locs hN => ?_)
            refine g_top (y := nI j) (by rw [e4]; exact ej) ?_
            refine lv_iload hx hb dX8_setParts_48 (lv_at hl 0 rfl) ?_
            refine g_VV (As := [.int (nI j), .int (qN (F 4) n (p + (if k9 = 3 then 2 else 1)))]) (rest := []) ⟨hx, hb, hml, hown, hts⟩ hG hN (i := 1) (by decide) rfl rfl (c_X7_setGain l j (qN (F 4) n (p + (if k9 = 3 then 2 else 1))) hj) (cwV 2 hts gX8_setParts_X7_setGain rfl rfl rfl (by decide +kernel) ⟨Nat.le_of_ble_eq_true rfl, Nat.le_of_ble_eq_true rfl⟩) rfl hl.1 rfl (Nat.le_of_ble_eq_true rfl) dX8_setParts_50 ⟨Nat.le_of_ble_eq_true rfl, Nat.le_of_ble_eq_true rfl⟩ (fun H locs hN => ?_)
            refine lv_goto (tgt := 63) hx hb dX8_setParts_53 (by decide) ?_
            exact J4 ((gw X.1 2 j (qN (F 4) n (p + (if k9 = 3 then 2 else 1)))), X.2) _ _ ls (mGain hw9 (by omega) c5 hj ej) hN (lv_sub hl [2, 3, 4, 1] rfl)
  exact L1 _ 64 0 (F, V) _ _ ls (rfl) (by omega) (by omega) (rfl) (qFr.rf) (hfine) hN (lv_sub hl [1, 2, 0] rfl)
