set_option maxHeartbeats 4000000 in
set_option maxRecDepth 100000 in
theorem c_X8_reads (l : Launch) {D : va_G} {ad : Nat → Nat} {cs : Nat → ClassId} {zd : Nat → Nat} {F V : gF} {o : gO} {sz : Nat} (p i : Nat) (hi : i < 6) (n N : Nat) (hn2 : n ≤ 60) (hNN : V 3 4 = nI N) (hP : qPar F (F 4) n N) (hE : ¬ qHas (F 4) n N) (hNn : N ≤ n) (hpN : p < N) : Met l yX8_reads wsX8_reads ({ frames := 4, cells := 0, slots := 0, locals := 85 } : Room) (gPc D ad cs zd F V o sz [.ref (ad 3), .int (nI p), .ref (zd (10 + i))]) (gQI D ad cs (if qRd (F 4) (qb (F 4) n p) ((qAt (F 4) n (p + 1)) - (qb (F 4) n p)) i = true then 1 else 0) F V o sz) 0 0 (gX ad sz) := by
  refine g_met (Qc := fun z0 => gQI D ad cs (if qRd (F 4) (qb (F 4) n p) ((qAt (F 4) n (p + 1)) - (qb (F 4) n p)) i = true then 1 else 0) F V o z0) (cc := cX8_reads) (maxL := 6) (ret := (some .boolean)) (own := RX8) (by decide +kernel) rfl rfl (Nat.le_of_ble_eq_true rfl) ?_
  intro p0 e0 s0 m0 b0 k0 c0 hx hb hr hts hown hlocks hml hG hN ls hl
  have hl : lv_has ls 6 [(0, .ref (ad 3)), (1, .int (nI p)), (2, .ref (zd (10 + i)))] := hl
  have hin_8 : ∀ w ∈ wsX80, w ∈ wsX8_reads := by decide +kernel
  have hk_15 := hts (.fieldLink RX8 15 "GravureHouse$Script" "begins" "[I") (by decide +kernel)
  have hk_19 := hts (.fieldLink RX8 19 "GravureHouse$Script" "ends" "[I") (by decide +kernel)
  have hk_9 := hts (.fieldLink RX8 9 "GravureHouse$Script" "signs" "[C") (by decide +kernel)
  obtain ⟨h1, h2, h3⟩ := hP p hpN
  have h9 := qb_b (S := F 4) (n := n) (p := p)
  have hb8 := e_lenb i hi
  refine lv_aload_n hx hb dX8_reads_0 rfl (lv_at hl 0 rfl) ?_
  refine gf_3_1 hx hb hts hin_8 hown hG hN hk_15 dX8_reads_1 ?_
  refine lv_iload_n hx hb dX8_reads_4 rfl (lv_at hl 1 rfl) ?_
  refine g_iald hx hb hG hN (i := 5) (n := 60) (j := p) (by decide) rfl (by decide) (by omega) rfl dX8_reads_5 ?_
  refine g_top (y := nI (qb (F 4) n p)) (h1) ?_
  refine lv_istore_n (lv' := [(3, .int (nI (qb (F 4) n p))), (0, .ref (ad 3)), (1, .int (nI p)), (2, .ref (zd (10 + i)))]) hx hb dX8_reads_6 rfl hl (by decide) rfl (fun ls hl => ?_)
  refine lv_aload_n hx hb dX8_reads_7 rfl (lv_at hl 1 rfl) ?_
  refine gf_3_2 hx hb hts hin_8 hown hG hN hk_19 dX8_reads_8 ?_
  refine lv_iload_n hx hb dX8_reads_11 rfl (lv_at hl 2 rfl) ?_
  refine g_iald hx hb hG hN (i := 6) (n := 60) (j := p) (by decide) rfl (by decide) (by omega) rfl dX8_reads_12 ?_
  refine g_top (y := nI (qAt (F 4) n (p + 1))) (h2) ?_
  refine lv_iload_n hx hb dX8_reads_13 rfl (lv_at hl 0 rfl) ?_
  refine g_subN (a := (qAt (F 4) n (p + 1))) (b := (qb (F 4) n p)) hx hb rfl rfl (by omega) dX8_reads_14 ?_
  refine lv_istore (lv' := [(4, .int (nI ((qAt (F 4) n (p + 1)) - (qb (F 4) n p)))), (3, .int (nI (qb (F 4) n p))), (0, .ref (ad 3)), (1, .int (nI p)), (2, .ref (zd (10 + i)))]) hx hb dX8_reads_15 hl (by decide) rfl (fun ls hl => ?_)
  refine lv_iload hx hb dX8_reads_17 (lv_at hl 0 rfl) ?_
  refine lv_aload_n hx hb dX8_reads_19 rfl (lv_at hl 4 rfl) ?_
  refine g_KI (As := []) (rest := [.int (nI ((qAt (F 4) n (p + 1)) - (qb (F 4) n p)))]) ⟨hx, hb, hml, hown, hts⟩ hG hN (i := i) (by omega) (c_J0_length_8abf5 l i hi) (cwV 0 hts gX8_reads_J0_length_8abf5 rfl rfl rfl (by decide +kernel) ⟨Nat.le_of_ble_eq_true rfl, Nat.le_of_ble_eq_true rfl⟩) rfl hl.1 rfl (Nat.le_of_ble_eq_true rfl) dX8_reads_20 ⟨Nat.le_of_ble_eq_true rfl, Nat.le_of_ble_eq_true rfl⟩ (fun H locs hN => ?_)
  refine g_cN_eq (a := (qAt (F 4) n (p + 1)) - (qb (F 4) n p)) (b := gLen.getD i 0) (tgt := 28) hx hb dX8_reads_23 (by decide) rfl rfl (by omega) (by omega) (fun c1 => ?_) (fun c1 => ?_)
  · have hlen : ((qAt (F 4) n (p + 1)) - (qb (F 4) n p)) = gLen.getD i 0 := c1
    refine lv_iconst (v := 0) hx hb dX8_reads_28 (by decide) ?_
    refine lv_istore (lv' := [(5, .int 0), (4, .int (nI ((qAt (F 4) n (p + 1)) - (qb (F 4) n p)))), (3, .int (nI (qb (F 4) n p))), (0, .ref (ad 3)), (1, .int (nI p)), (2, .ref (zd (10 + i)))]) hx hb dX8_reads_29 hl (by decide) rfl (fun ls hl => ?_)
    have L2 : ∀ (d9_31 : Nat) (v : Nat) (H : Heap) (locs : List Loc) (ls : Array Slot), ((qAt (F 4) n (p + 1)) - (qb (F 4) n p)) - v = d9_31 → (v ≤ ((qAt (F 4) n (p + 1)) - (qb (F 4) n p))) → (∀ w, w < v → F 4 ((qb (F 4) n p) + w) = (gByt.getD i []).getD w 0) → gN D ad cs s0 F V o H locs → lv_has ls 6 [(0, .ref (ad 3)), (1, .int (nI p)), (2, .ref (zd (10 + i))), (3, .int (nI (qb (F 4) n p))), (4, .int (nI ((qAt (F 4) n (p + 1)) - (qb (F 4) n p)))), (5, .int (nI v))] → W p0 l e0 ({ frames := 4, cells := 0, slots := 0, locals := 85 } : Room) s0 m0 ([.ref (ad 3), .int (nI p), .ref (zd (10 + i))] : List Value).toArray b0 k0 c0 H locs 0 0 (MQ b0 (gQI D ad cs (if qRd (F 4) (qb (F 4) n p) ((qAt (F 4) n (p + 1)) - (qb (F 4) n p)) i = true then 1 else 0) F V o s0.heap.size) ([.ref (ad 3), .int (nI p), .ref (zd (10 + i))] : List Value).toArray s0 0 0 (gX ad s0.heap.size)) (F0 m0 31 ls []) := by
      intro d9_31
      induction d9_31 with
      | zero =>
        intro v H locs ls hd_31 hvm hv hN hl
        refine lv_iload hx hb dX8_reads_31 (lv_at hl 5 rfl) ?_
        refine lv_iload hx hb dX8_reads_33 (lv_at hl 4 rfl) ?_
        refine g_cN_ge (a := v) (b := (qAt (F 4) n (p + 1)) - (qb (F 4) n p)) (tgt := 64) hx hb dX8_reads_35 (by decide) rfl rfl (by omega) (by omega) (fun c3 => ?_) (fun c3 => absurd c3 (by omega))
        refine lv_iconst (v := 1) hx hb dX8_reads_64 (by decide) ?_
        exact g_rz hx hb hr hlocks (by decide) hN (⟨by rw [if_pos (show qRd (F 4) (qb (F 4) n p) ((qAt (F 4) n (p + 1)) - (qb (F 4) n p)) i = true from decide_eq_true ⟨hlen, fun w hw => hv w (by omega)⟩)], rfl⟩) dX8_reads_65
      | succ d9_31 ih31 =>
        intro v H locs ls hd_31 hvm hv hN hl
        refine lv_iload hx hb dX8_reads_31 (lv_at hl 5 rfl) ?_
        refine lv_iload hx hb dX8_reads_33 (lv_at hl 4 rfl) ?_
        refine g_cN_ge (a := v) (b := (qAt (F 4) n (p + 1)) - (qb (F 4) n p)) (tgt := 64) hx hb dX8_reads_35 (by decide) rfl rfl (by omega) (by omega) (fun c4 => absurd c4 (by omega)) (fun c4 => ?_)
        refine lv_aload_n hx hb dX8_reads_38 rfl (lv_at hl 0 rfl) ?_
        refine gf_3_0 hx hb hts hin_8 hown hG hN hk_9 dX8_reads_39 ?_
        refine lv_iload_n hx hb dX8_reads_42 rfl (lv_at hl 3 rfl) ?_
        refine lv_iload hx hb dX8_reads_43 (lv_at hl 5 rfl) ?_
        refine g_addN (a := (qb (F 4) n p)) (b := v) hx hb rfl rfl dX8_reads_45 ?_
        refine g_cald hx hb hG hN (i := 4) (n := 60) (j := (qb (F 4) n p) + v) (by decide) rfl (by decide) (by omega) rfl dX8_reads_46 ?_
        refine lv_aload_n hx hb dX8_reads_47 rfl (lv_at hl 2 rfl) ?_
        refine lv_iload hx hb dX8_reads_48 (lv_at hl 5 rfl) ?_
        refine g_KI (As := [.int (nI v)]) (rest := [.int (F 4 ((qb (F 4) n p) + v))]) ⟨hx, hb, hml, hown, hts⟩ hG hN (i := i) (by omega) (c_J0_charAt_5068e l i v hi (by omega)) (cwV 1 hts gX8_reads_J0_charAt_5068e rfl rfl rfl (by decide +kernel) ⟨Nat.le_of_ble_eq_true rfl, Nat.le_of_ble_eq_true rfl⟩) rfl hl.1 rfl (Nat.le_of_ble_eq_true rfl) dX8_reads_50 ⟨Nat.le_of_ble_eq_true rfl, Nat.le_of_ble_eq_true rfl⟩ (fun H locs hN => ?_)
        refine lv_icmp_eq (tgt := 58) hx hb dX8_reads_53 (by decide) (fun c5 => ?_) (fun c5 => ?_)
        · refine lv_iinc (v := (nI (v + 1))) (lv' := [(5, .int (nI (v + 1))), (0, .ref (ad 3)), (1, .int (nI p)), (2, .ref (zd (10 + i))), (3, .int (nI (qb (F 4) n p))), (4, .int (nI ((qAt (F 4) n (p + 1)) - (qb (F 4) n p))))]) hx hb dX8_reads_58 hl (k := 5) rfl (nI_1 _) (by decide) rfl (fun ls hl => ?_)
          refine lv_goto (tgt := 31) hx hb dX8_reads_61 (by decide) ?_
          exact ih31 (v + 1) _ _ ls (by omega) (by omega) (fun w hw => by by_cases h8 : w = v; exact h8 ▸ c5; exact hv w (by omega)) hN (lv_sub hl [1, 2, 3, 4, 5, 0] rfl)
        · refine lv_iconst (v := 0) hx hb dX8_reads_56 (by decide) ?_
          exact g_rz hx hb hr hlocks (by decide) hN (⟨by rw [if_neg (fun z => c5 ((of_decide_eq_true z).2 v (by omega)))], rfl⟩) dX8_reads_57
    exact L2 _ 0 _ _ ls (rfl) (by omega) (fun w hw => absurd hw (Nat.not_lt_zero w)) hN (lv_sub hl [3, 4, 5, 2, 1, 0] rfl)
  · refine lv_iconst (v := 0) hx hb dX8_reads_26 (by decide) ?_
    exact g_rz hx hb hr hlocks (by decide) hN (⟨by rw [if_neg (fun z => c1 (qRd_len z))], rfl⟩) dX8_reads_27
set_option maxHeartbeats 4000000 in
set_option maxRecDepth 100000 in
theorem c_X8_wordAt (l : Launch) {D : va_G} {ad : Nat → Nat} {cs : Nat → ClassId} {zd : Nat → Nat} {F V : gF} {o : gO} {sz : Nat} (p : Nat) (n N : Nat) (hn2 : n ≤ 60) (hNN : V 3 4 = nI N) (hP : qPar F (F 4) n N) (hE : ¬ qHas (F 4) n N) (hNn : N ≤ n) (hpN : p < N) : Met l yX8_wordAt wsX8_wordAt ({ frames := 5, cells := 0, slots := 0, locals := 110 } : Room) (gPc D ad cs zd F V o sz [.ref (ad 3), .int (nI p)]) (va_Qe zd (fun r u => r = (qFk (F 4) (qb (F 4) n p) ((qAt (F 4) n (p + 1)) - (qb (F 4) n p)) 6 0) ∧ u = (F, V, o)) (gB D ad cs) (gX ad sz)) 0 0 (gX ad sz) := by
  refine g_met (Qc := fun z0 => va_Qe zd (fun r u => r = (qFk (F 4) (qb (F 4) n p) ((qAt (F 4) n (p + 1)) - (qb (F 4) n p)) 6 0) ∧ u = (F, V, o)) (gB D ad cs) (gX ad z0)) (cc := cX8_wordAt) (maxL := 6) (ret := (some (.object "GravureHouse$RuleWord"))) (own := RX8) (by decide +kernel) rfl rfl (Nat.le_of_ble_eq_true rfl) ?_
  intro p0 e0 s0 m0 b0 k0 c0 hx hb hr hts hown hlocks hml hG hN ls hl
  have hl : lv_has ls 6 [(0, .ref (ad 3)), (1, .int (nI p))] := hl
  refine g_eal hx hb hown hG hN dX8_wordAt_0 ?_
  refine lv_astore_n (lv' := [(2, .ref (zd 30)), (0, .ref (ad 3)), (1, .int (nI p))]) hx hb dX8_wordAt_3 rfl hl (by decide) rfl (fun ls hl => ?_)
  refine lv_aload_n hx hb dX8_wordAt_4 rfl (lv_at hl 0 rfl) ?_
  refine g_eln hx hb hG hN dX8_wordAt_5 ?_
  refine lv_istore_n (lv' := [(3, .int (nI 6)), (2, .ref (zd 30)), (0, .ref (ad 3)), (1, .int (nI p))]) hx hb dX8_wordAt_6 rfl hl (by decide) rfl (fun ls hl => ?_)
  refine lv_iconst (v := 0) hx hb dX8_wordAt_7 (by decide) ?_
  refine lv_istore (lv' := [(4, .int 0), (3, .int (nI 6)), (2, .ref (zd 30)), (0, .ref (ad 3)), (1, .int (nI p))]) hx hb dX8_wordAt_8 hl (by decide) rfl (fun ls hl => ?_)
  have L1 : ∀ (d9_10 : Nat) (k : Nat) (H : Heap) (locs : List Loc) (ls : Array Slot), 6 - k = d9_10 → (k ≤ 6) → (qFk (F 4) (qb (F 4) n p) ((qAt (F 4) n (p + 1)) - (qb (F 4) n p)) (6 - k) k = qFk (F 4) (qb (F 4) n p) ((qAt (F 4) n (p + 1)) - (qb (F 4) n p)) 6 0) → gN D ad cs s0 F V o H locs → lv_has ls 6 [(0, .ref (ad 3)), (1, .int (nI p)), (2, .ref (zd 30)), (3, .int (nI 6)), (4, .int (nI k))] → W p0 l e0 ({ frames := 5, cells := 0, slots := 0, locals := 110 } : Room) s0 m0 ([.ref (ad 3), .int (nI p)] : List Value).toArray b0 k0 c0 H locs 0 0 (MQ b0 (va_Qe zd (fun r u => r = (qFk (F 4) (qb (F 4) n p) ((qAt (F 4) n (p + 1)) - (qb (F 4) n p)) 6 0) ∧ u = (F, V, o)) (gB D ad cs) (gX ad s0.heap.size)) ([.ref (ad 3), .int (nI p)] : List Value).toArray s0 0 0 (gX ad s0.heap.size)) (F0 m0 10 ls []) := by
    intro d9_10
    induction d9_10 with
    | zero =>
      intro k H locs ls hd_10 hk hq hN hl
      refine lv_iload hx hb dX8_wordAt_10 (lv_at hl 4 rfl) ?_
      refine lv_iload_n hx hb dX8_wordAt_12 rfl (lv_at hl 3 rfl) ?_
      refine g_cN_ge (a := k) (b := 6) (tgt := 44) hx hb dX8_wordAt_13 (by decide) rfl rfl (by omega) (by omega) (fun c2 => ?_) (fun c2 => absurd c2 (by omega))
      refine lv_null hx hb dX8_wordAt_44 ?_
      exact g_re (r := none) hx hb hr hlocks hN (⟨by rw [← hq, hd_10]; rfl, rfl⟩) dX8_wordAt_45
    | succ d9_10 ih10 =>
      intro k H locs ls hd_10 hk hq hN hl
      refine lv_iload hx hb dX8_wordAt_10 (lv_at hl 4 rfl) ?_
      refine lv_iload_n hx hb dX8_wordAt_12 rfl (lv_at hl 3 rfl) ?_
      refine g_cN_ge (a := k) (b := 6) (tgt := 44) hx hb dX8_wordAt_13 (by decide) rfl rfl (by omega) (by omega) (fun c3 => absurd c3 (by omega)) (fun c3 => ?_)
      refine lv_aload_n hx hb dX8_wordAt_16 rfl (lv_at hl 2 rfl) ?_
      refine lv_iload hx hb dX8_wordAt_17 (lv_at hl 4 rfl) ?_
      refine g_eaa hx hb hG hN (j := k) (by omega) dX8_wordAt_19 ?_
      refine lv_astore (lv' := [(5, .ref (zd k)), (0, .ref (ad 3)), (1, .int (nI p)), (2, .ref (zd 30)), (3, .int (nI 6)), (4, .int (nI k))]) hx hb dX8_wordAt_20 hl (by decide) rfl (fun ls hl => ?_)
      refine lv_aload_n hx hb dX8_wordAt_22 rfl (lv_at hl 1 rfl) ?_
      refine lv_iload_n hx hb dX8_wordAt_23 rfl (lv_at hl 2 rfl) ?_
      refine lv_aload hx hb dX8_wordAt_24 (lv_at hl 0 rfl) ?_
      refine g_etx hx hb hown hG hN (i := k) (by omega) dX8_wordAt_26 ?_
      refine g_VI (As := [.int (nI p), .ref (zd (10 + k))]) (rest := []) ⟨hx, hb, hml, hown, hts⟩ hG hN (i := 3) (by decide) rfl rfl (c_X8_reads l p k (by omega) n N hn2 hNN hP hE hNn hpN) (cwV 2 hts gX8_wordAt_X8_reads rfl rfl rfl (by decide +kernel) ⟨Nat.le_of_ble_eq_true rfl, Nat.le_of_ble_eq_true rfl⟩) rfl hl.1 rfl (Nat.le_of_ble_eq_true rfl) dX8_wordAt_29 ⟨Nat.le_of_ble_eq_true rfl, Nat.le_of_ble_eq_true rfl⟩ (fun H locs hN => ?_)
      refine g_ifb_eq (qRd (F 4) (qb (F 4) n p) ((qAt (F 4) n (p + 1)) - (qb (F 4) n p)) k = true) (tgt := 38) hx hb dX8_wordAt_32 (by decide) rfl (fun c4 => ?_) (fun c4 => ?_)
      · refine lv_iinc (v := (nI (k + 1))) (lv' := [(4, .int (nI (k + 1))), (5, .ref (zd k)), (0, .ref (ad 3)), (1, .int (nI p)), (2, .ref (zd 30)), (3, .int (nI 6))]) hx hb dX8_wordAt_38 hl (k := 5) rfl (nI_1 _) (by decide) rfl (fun ls hl => ?_)
        refine lv_goto (tgt := 10) hx hb dX8_wordAt_41 (by decide) ?_
        exact ih10 (k + 1) _ _ ls (by omega) (by omega) (by rw [← hq, hd_10]; simp only [qFk]; rw [if_neg c4]; congr 1; omega) hN (lv_sub hl [2, 3, 4, 5, 0] rfl)
      · refine lv_aload hx hb dX8_wordAt_35 (lv_at hl 0 rfl) ?_
        exact g_re (r := (some k)) hx hb hr hlocks hN (⟨by rw [← hq, hd_10]; simp only [qFk]; rw [if_pos c4], rfl⟩) dX8_wordAt_37
  exact L1 _ 0 _ _ ls (rfl) (by omega) (rfl) hN (lv_sub hl [3, 4, 2, 1, 0] rfl)
