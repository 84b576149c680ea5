set_option maxHeartbeats 4000000 in
set_option maxRecDepth 100000 in
theorem c_X8_isBlank (l : Launch) {D : va_G} {ad : Nat → Nat} {cs : Nat → ClassId} {zd : Nat → Nat} {F V : gF} {o : gO} {sz : Nat} (x : Int32) (n : Nat) (hn : V 3 3 = nI n) (hn2 : n ≤ 60) : Met l yX8_isBlank wsX8_isBlank ({ frames := 0, cells := 0, slots := 0, locals := 0 } : Room) (gPc D ad cs zd F V o sz [.ref (ad 3), .int x]) (gQI D ad cs (if qBl (F 4) n x = true then 1 else 0) F V o sz) 0 0 (gX ad sz) := by
  refine g_met (Qc := fun z0 => gQI D ad cs (if qBl (F 4) n x = true then 1 else 0) F V o z0) (cc := cX8_isBlank) (maxL := 2) (ret := (some .boolean)) (own := RX8) (by decide +kernel) rfl rfl (Nat.le_of_ble_eq_true rfl) ?_
  intro p0 e0 s0 m0 b0 k0 c0 hx hb hr hts hown hlocks hml hG hN ls hl
  have hl : lv_has ls 2 [(0, .ref (ad 3)), (1, .int x)] := hl
  have hin_8 : ∀ w ∈ wsX80, w ∈ wsX8_isBlank := by decide +kernel
  have hk_22 := hts (.fieldLink RX8 22 "GravureHouse$Script" "length" "I") (by decide +kernel)
  have hk_9 := hts (.fieldLink RX8 9 "GravureHouse$Script" "signs" "[C") (by decide +kernel)
  refine lv_iload_n hx hb dX8_isBlank_0 rfl (lv_at hl 1 rfl) ?_
  refine lv_if_lt (tgt := 23) hx hb dX8_isBlank_1 (by decide) (fun c1 => ?_) (fun c1 => ?_)
  · refine lv_iconst (v := 1) hx hb dX8_isBlank_23 (by decide) ?_
    refine lv_goto (tgt := 28) hx hb dX8_isBlank_24 (by decide) ?_
    exact g_rz hx hb hr hlocks (by decide) hN (⟨by rw [if_pos (show qBl (F 4) n x = true from decide_eq_true (Or.inl c1))], rfl⟩) dX8_isBlank_28
  · refine lv_iload_n hx hb dX8_isBlank_4 rfl (lv_at hl 1 rfl) ?_
    refine lv_aload_n hx hb dX8_isBlank_5 rfl (lv_at hl 0 rfl) ?_
    refine gf_3_3 hx hb hts hin_8 hown hG hN hk_22 dX8_isBlank_6 ?_
    refine g_top (y := nI n) hn ?_
    refine lv_icmp_ge (tgt := 23) hx hb dX8_isBlank_9 (by decide) (fun c2 => ?_) (fun c2 => ?_)
    · refine lv_iconst (v := 1) hx hb dX8_isBlank_23 (by decide) ?_
      refine lv_goto (tgt := 28) hx hb dX8_isBlank_24 (by decide) ?_
      exact g_rz hx hb hr hlocks (by decide) hN (⟨by rw [if_pos (show qBl (F 4) n x = true from decide_eq_true (Or.inr (Or.inl c2)))], rfl⟩) dX8_isBlank_28
    · obtain ⟨j, hj, ej⟩ := gIdx_n n rfl (by omega) (gIdx_t c1 (Int32.not_le.mp c2))
      subst ej
      refine lv_aload_n hx hb dX8_isBlank_12 rfl (lv_at hl 0 rfl) ?_
      refine gf_3_0 hx hb hts hin_8 hown hG hN hk_9 dX8_isBlank_13 ?_
      refine lv_iload_n hx hb dX8_isBlank_16 rfl (lv_at hl 1 rfl) ?_
      refine g_cald hx hb hG hN (i := 4) (n := 60) (j := j) (by decide) rfl (by decide) (by omega) rfl dX8_isBlank_17 ?_
      refine lv_bipush (v := 32) hx hb dX8_isBlank_18 (by decide) ?_
      refine lv_icmp_ne (tgt := 27) hx hb dX8_isBlank_20 (by decide) (fun c3 => ?_) (fun c3 => ?_)
      · refine lv_iconst (v := 0) hx hb dX8_isBlank_27 (by decide) ?_
        exact g_rz hx hb hr hlocks (by decide) hN (⟨by rw [if_neg (fun z => (of_decide_eq_true z).elim c1 (fun z => z.elim (Int32.not_le.mpr (Int32.not_le.mp c2)) (by rw [nI_clamp (show j < 2 ^ 31 by omega)]; exact c3)))], rfl⟩) dX8_isBlank_28
      · refine lv_iconst (v := 1) hx hb dX8_isBlank_23 (by decide) ?_
        refine lv_goto (tgt := 28) hx hb dX8_isBlank_24 (by decide) ?_
        exact g_rz hx hb hr hlocks (by decide) hN (⟨by rw [if_pos (show qBl (F 4) n (nI j) = true from decide_eq_true (Or.inr (Or.inr (by rw [nI_clamp (show j < 2 ^ 31 by omega)]; exact c3))))], rfl⟩) dX8_isBlank_28
set_option maxHeartbeats 4000000 in
set_option maxRecDepth 100000 in
theorem c_X8_split (l : Launch) {D : va_G} {ad : Nat → Nat} {cs : Nat → ClassId} {zd : Nat → Nat} {F V : gF} {o : gO} {sz : Nat}  (n : Nat) (hn : V 3 3 = nI n) (hn2 : n ≤ 60) : Met l yX8_split wsX8_split ({ frames := 1, cells := 0, slots := 0, locals := 21 } : Room) (gPc D ad cs zd F V o sz [.ref (ad 3)]) (gQv D ad cs sz (fun u9 => u9.2.2 = o ∧ (∀ a, a ≠ 5 → a ≠ 6 → u9.1 a = F a) ∧ ∃ N, N ≤ n ∧ u9.2.1 = gw V 3 4 (nI N) ∧ qPar u9.1 (F 4) n N ∧ ¬ qHas (F 4) n N)) 0 0 (gX ad sz) := by
  refine g_met (Qc := fun z0 => gQv D ad cs z0 (fun u9 => u9.2.2 = o ∧ (∀ a, a ≠ 5 → a ≠ 6 → u9.1 a = F a) ∧ ∃ N, N ≤ n ∧ u9.2.1 = gw V 3 4 (nI N) ∧ qPar u9.1 (F 4) n N ∧ ¬ qHas (F 4) n N)) (cc := cX8_split) (maxL := 2) (ret := none) (own := RX8) (by decide +kernel) rfl rfl (Nat.le_of_ble_eq_true rfl) ?_
  intro p0 e0 s0 m0 b0 k0 c0 hx hb hr hts hown hlocks hml hG hN ls hl
  have hl : lv_has ls 2 [(0, .ref (ad 3))] := hl
  have hin_8 : ∀ w ∈ wsX80, w ∈ wsX8_split := by decide +kernel
  have hk_26 := hts (.fieldLink RX8 26 "GravureHouse$Script" "parts" "I") (by decide +kernel)
  have hk_22 := hts (.fieldLink RX8 22 "GravureHouse$Script" "length" "I") (by decide +kernel)
  have hk_19 := hts (.fieldLink RX8 19 "GravureHouse$Script" "ends" "[I") (by decide +kernel)
  have hk_15 := hts (.fieldLink RX8 15 "GravureHouse$Script" "begins" "[I") (by decide +kernel)
  refine lv_aload_n hx hb dX8_split_0 rfl (lv_at hl 0 rfl) ?_
  refine lv_iconst (v := 0) hx hb dX8_split_1 (by decide) ?_
  refine gp_3_4 hx hb hts hin_8 hown hG hN hk_26 dX8_split_2 (fun H locs hN => ?_)
  refine lv_iconst (v := 0) hx hb dX8_split_5 (by decide) ?_
  refine lv_istore_n (lv' := [(1, .int 0), (0, .ref (ad 3))]) hx hb dX8_split_6 rfl hl (by decide) rfl (fun ls hl => ?_)
  have L1 : ∀ (d9_7 : Nat) (i : Nat) (c : Nat) (F1 : gF) (V1 : gF) (H : Heap) (locs : List Loc) (ls : Array Slot), n - i = d9_7 → (i ≤ n) → (c ≤ i) → (∀ a, a ≠ 5 → a ≠ 6 → F1 a = F a) → (V1 = gw V 3 4 (nI c)) → (qPar F1 (F 4) n c) → (qA (F 4) n i c ∨ qI (F 4) n i c (F1 5 c)) → gN D ad cs s0 F1 V1 o H locs → lv_has ls 2 [(0, .ref (ad 3)), (1, .int (nI i))] → W p0 l e0 ({ frames := 1, cells := 0, slots := 0, locals := 21 } : Room) s0 m0 ([.ref (ad 3)] : List Value).toArray b0 k0 c0 H locs 0 0 (MQ b0 (gQv D ad cs s0.heap.size (fun u9 => u9.2.2 = o ∧ (∀ a, a ≠ 5 → a ≠ 6 → u9.1 a = F a) ∧ ∃ N, N ≤ n ∧ u9.2.1 = gw V 3 4 (nI N) ∧ qPar u9.1 (F 4) n N ∧ ¬ qHas (F 4) n N)) ([.ref (ad 3)] : List Value).toArray s0 0 0 (gX ad s0.heap.size)) (F0 m0 7 ls []) := by
    intro d9_7
    induction d9_7 with
    | zero =>
      intro i c F1 V1 H locs ls hd_7 hi hc hF hV hP hst hN hl
      refine lv_iload_n hx hb dX8_split_7 rfl (lv_at hl 1 rfl) ?_
      refine lv_aload_n hx hb dX8_split_8 rfl (lv_at hl 0 rfl) ?_
      refine gf_3_3 hx hb hts hin_8 hown hG hN hk_22 dX8_split_9 ?_
      refine g_top (y := nI n) (by rw [hV, gw_sn _ _ (by decide)]; exact hn) ?_
      refine g_cN_ge (a := i) (b := n) (tgt := 89) hx hb dX8_split_12 (by decide) rfl rfl (by omega) (by omega) (fun c2 => ?_) (fun c2 => absurd c2 (by omega))
      exact g_rv hx hb hr hlocks hN (by (obtain rfl : i = n := (by omega)); exact ⟨rfl, hF, c, hc, hV, hP, qA_end (hst.resolve_right (fun z => absurd z.2.1 (Nat.lt_irrefl _)))⟩) dX8_split_89
    | succ d9_7 ih7 =>
      intro i c F1 V1 H locs ls hd_7 hi hc hF hV hP hst hN hl
      refine lv_iload_n hx hb dX8_split_7 rfl (lv_at hl 1 rfl) ?_
      refine lv_aload_n hx hb dX8_split_8 rfl (lv_at hl 0 rfl) ?_
      refine gf_3_3 hx hb hts hin_8 hown hG hN hk_22 dX8_split_9 ?_
      refine g_top (y := nI n) (by rw [hV, gw_sn _ _ (by decide)]; exact hn) ?_
      refine g_cN_ge (a := i) (b := n) (tgt := 89) hx hb dX8_split_12 (by decide) rfl rfl (by omega) (by omega) (fun c3 => absurd c3 (by omega)) (fun c3 => ?_)
      have hin : i < n := by omega
      have e4 : F1 4 = F 4 := hF 4 (by decide) (by decide)
      refine lv_aload_n hx hb dX8_split_15 rfl (lv_at hl 0 rfl) ?_
      refine lv_iload_n hx hb dX8_split_16 rfl (lv_at hl 1 rfl) ?_
      refine g_VI (As := [.int (nI i)]) (rest := []) ⟨hx, hb, hml, hown, hts⟩ hG hN (i := 3) (by decide) rfl rfl (c_X8_isBlank l (nI i) n (by rw [hV, gw_sn _ _ (by decide)]; exact hn) hn2) (cwV 1 hts gX8_split_X8_isBlank rfl rfl rfl (by decide +kernel) ⟨Nat.le_of_ble_eq_true rfl, Nat.le_of_ble_eq_true rfl⟩) rfl hl.1 rfl (Nat.le_of_ble_eq_true rfl) dX8_split_17 ⟨Nat.le_of_ble_eq_true rfl, Nat.le_of_ble_eq_true rfl⟩ (fun H locs hN => ?_)
      refine g_top (y := (if qBl (F 4) n (nI i) = true then 1 else 0)) (by rw [e4]) ?_
      refine g_ifb_ne (qBl (F 4) n (nI i) = true) (tgt := 43) hx hb dX8_split_20 (by decide) rfl (fun c4 => ?_) (fun c4 => ?_)
      · have hbl : F 4 i = 32 := (qBl_i hin hn2).mp c4
        have hqA : qA (F 4) n i c := hst.resolve_right (fun z => z.2.2.2 i (by have := z.1; omega) (Nat.le_refl i) hbl)
        refine lv_aload_n hx hb dX8_split_43 rfl (lv_at hl 0 rfl) ?_
        refine lv_iload_n hx hb dX8_split_44 rfl (lv_at hl 1 rfl) ?_
        refine g_VI (As := [.int (nI i)]) (rest := []) ⟨hx, hb, hml, hown, hts⟩ hG hN (i := 3) (by decide) rfl rfl (c_X8_isBlank l (nI i) n (by rw [hV, gw_sn _ _ (by decide)]; exact hn) hn2) (cwV 1 hts gX8_split_X8_isBlank rfl rfl rfl (by decide +kernel) ⟨Nat.le_of_ble_eq_true rfl, Nat.le_of_ble_eq_true rfl⟩) rfl hl.1 rfl (Nat.le_of_ble_eq_true rfl) dX8_split_45 ⟨Nat.le_of_ble_eq_true rfl, Nat.le_of_ble_eq_true rfl⟩ (fun H locs hN => ?_)
        refine g_top (y := (if qBl (F 4) n (nI i) = true then 1 else 0)) (by rw [e4]) ?_
        refine g_ifb_ne (qBl (F 4) n (nI i) = true) (tgt := 83) hx hb dX8_split_48 (by decide) rfl (fun c5 => ?_) (fun c5 => absurd c5 (fun z => z ((qBl_i hin hn2).mpr hbl)))
        refine lv_iinc (v := (nI (i + 1))) (lv' := [(1, .int (nI (i + 1))), (0, .ref (ad 3))]) hx hb dX8_split_83 hl (k := 1) rfl (nI_1 _) (by decide) rfl (fun ls hl => ?_)
        refine lv_goto (tgt := 7) hx hb dX8_split_86 (by decide) ?_
        exact ih7 (i + 1) c F1 V1 _ _ ls (by omega) (by omega) (by omega) (hF) (hV) (hP) (Or.inl ⟨Nat.le_succ_of_le hqA.1, fun j h1 h2 => by rcases Nat.lt_succ_iff_lt_or_eq.mp h2 with h3 | h3; exact hqA.2 j h1 h3; exact h3 ▸ hbl⟩) hN (lv_sub hl [1, 0] rfl)
      · have hnb : ¬ F 4 i = 32 := fun z => c4 ((qBl_i hin hn2).mpr z)
        refine lv_aload_n hx hb dX8_split_23 rfl (lv_at hl 0 rfl) ?_
        refine lv_iload_n hx hb dX8_split_24 rfl (lv_at hl 1 rfl) ?_
        refine lv_iconst (v := 1) hx hb dX8_split_25 (by decide) ?_
        refine lv_isub hx hb dX8_split_26 ?_
        refine g_VI (As := [.int ((nI i) - 1)]) (rest := []) ⟨hx, hb, hml, hown, hts⟩ hG hN (i := 3) (by decide) rfl rfl (c_X8_isBlank l ((nI i) - 1) n (by rw [hV, gw_sn _ _ (by decide)]; exact hn) hn2) (cwV 1 hts gX8_split_X8_isBlank rfl rfl rfl (by decide +kernel) ⟨Nat.le_of_ble_eq_true rfl, Nat.le_of_ble_eq_true rfl⟩) rfl hl.1 rfl (Nat.le_of_ble_eq_true rfl) dX8_split_27 ⟨Nat.le_of_ble_eq_true rfl, Nat.le_of_ble_eq_true rfl⟩ (fun H locs hN => ?_)
        refine g_top (y := (if qBl (F 4) n (nI i - 1) = true then 1 else 0)) (by rw [e4]) ?_
        refine g_ifb_eq (qBl (F 4) n (nI i - 1) = true) (tgt := 43) hx hb dX8_split_30 (by decide) rfl (fun c6 => ?_) (fun c6 => ?_)
        · have hqI : qI (F 4) n i c (F1 5 c) := hst.resolve_left (fun z => c6 (qA_prev z hin hn2 hnb))
          have hF9 := hF
          have hb9 := hqI.2.2.1
          have hP9 := hP
          have hqi : qb (F 4) n c ≤ i ∧ ∀ j, qb (F 4) n c ≤ j → j ≤ i → F 4 j ≠ 32 := ⟨Nat.le_of_lt hqI.1, hqI.2.2.2⟩
          refine lv_aload_n hx hb dX8_split_43 rfl (lv_at hl 0 rfl) ?_
          refine lv_iload_n hx hb dX8_split_44 rfl (lv_at hl 1 rfl) ?_
          refine g_VI (As := [.int (nI i)]) (rest := []) ⟨hx, hb, hml, hown, hts⟩ hG hN (i := 3) (by decide) rfl rfl (c_X8_isBlank l (nI i) n (by rw [hV, gw_sn _ _ (by decide)]; exact hn) hn2) (cwV 1 hts gX8_split_X8_isBlank rfl rfl rfl (by decide +kernel) ⟨Nat.le_of_ble_eq_true rfl, Nat.le_of_ble_eq_true rfl⟩) rfl hl.1 rfl (Nat.le_of_ble_eq_true rfl) dX8_split_45 ⟨Nat.le_of_ble_eq_true rfl, Nat.le_of_ble_eq_true rfl⟩ (fun H locs hN => ?_)
          refine g_top (y := (if qBl (F 4) n (nI i) = true then 1 else 0)) (by rw [e4]) ?_
          refine g_ifb_ne (qBl (F 4) n (nI i) = true) (tgt := 83) hx hb dX8_split_48 (by decide) rfl (fun c7 => absurd c7 (fun z => hnb ((qBl_i hin hn2).mp z))) (fun c7 => ?_)
          refine lv_aload_n hx hb dX8_split_51 rfl (lv_at hl 0 rfl) ?_
          refine lv_iload_n hx hb dX8_split_52 rfl (lv_at hl 1 rfl) ?_
          refine lv_iconst (v := 1) hx hb dX8_split_53 (by decide) ?_
          refine g_addN (a := i) (b := 1) hx hb rfl rfl dX8_split_54 ?_
          refine g_VI (As := [.int (nI (i + 1))]) (rest := []) ⟨hx, hb, hml, hown, hts⟩ hG hN (i := 3) (by decide) rfl rfl (c_X8_isBlank l (nI (i + 1)) n (by rw [hV, gw_sn _ _ (by decide)]; exact hn) hn2) (cwV 1 hts gX8_split_X8_isBlank rfl rfl rfl (by decide +kernel) ⟨Nat.le_of_ble_eq_true rfl, Nat.le_of_ble_eq_true rfl⟩) rfl hl.1 rfl (Nat.le_of_ble_eq_true rfl) dX8_split_55 ⟨Nat.le_of_ble_eq_true rfl, Nat.le_of_ble_eq_true rfl⟩ (fun H locs hN => ?_)
          refine g_top (y := (if qBl (F 4) n (nI (i + 1)) = true then 1 else 0)) (by rw [e4]) ?_
          refine g_ifb_eq (qBl (F 4) n (nI (i + 1)) = true) (tgt := 83) hx hb dX8_split_58 (by decide) rfl (fun c8 => ?_) (fun c8 => ?_)
          · have hq9n : i + 1 < n := by have h9 : ¬ i + 1 = n := fun z => c8 ((qBl_s hin hn2).mpr (Or.inl z)); omega
            have hq9r : ∀ j, qb (F 4) n c ≤ j → j ≤ i + 1 → F 4 j ≠ 32 := fun j h1 h2 => by by_cases h3 : j = i + 1; rw [h3]; exact fun z => c8 ((qBl_s hin hn2).mpr (Or.inr z)); exact hqi.2 j h1 (by omega)
            refine lv_iinc (v := (nI (i + 1))) (lv' := [(1, .int (nI (i + 1))), (0, .ref (ad 3))]) hx hb dX8_split_83 hl (k := 1) rfl (nI_1 _) (by decide) rfl (fun ls hl => ?_)
            refine lv_goto (tgt := 7) hx hb dX8_split_86 (by decide) ?_
            exact ih7 (i + 1) c F1 V1 _ _ ls (by omega) (by omega) (by omega) (hF9) (hV) (hP9) (Or.inr ⟨by omega, hq9n, hb9, hq9r⟩) hN (lv_sub hl [1, 0] rfl)
          · have hq9e : qAt (F 4) n (c + 1) = i + 1 := qI_e hqi.1 hin hqi.2 ((qBl_s hin hn2).mp c8)
            refine lv_aload_n hx hb dX8_split_61 rfl (lv_at hl 0 rfl) ?_
            refine gf_3_2 hx hb hts hin_8 hown hG hN hk_19 dX8_split_62 ?_
            refine lv_aload_n hx hb dX8_split_65 rfl (lv_at hl 0 rfl) ?_
            refine gf_3_4 hx hb hts hin_8 hown hG hN hk_26 dX8_split_66 ?_
            refine g_top (y := nI c) (by rw [hV, gw_ss]) ?_
            refine lv_iload_n hx hb dX8_split_69 rfl (lv_at hl 1 rfl) ?_
            refine lv_iconst (v := 1) hx hb dX8_split_70 (by decide) ?_
            refine g_addN (a := i) (b := 1) hx hb rfl rfl dX8_split_71 ?_
            refine g_iast hx hb hG hN (i := 6) (n := 60) (j := c) (by decide) (fun _ => rfl) (by decide) (by omega) rfl dX8_split_72 (fun H locs hN => ?_)
            refine lv_aload_n hx hb dX8_split_73 rfl (lv_at hl 0 rfl) ?_
            refine lv_dup hx hb dX8_split_74 rfl ?_
            refine gf_3_4 hx hb hts hin_8 hown hG hN hk_26 dX8_split_75 ?_
            refine g_top (y := nI c) (by rw [hV, gw_ss]) ?_
            refine lv_iconst (v := 1) hx hb dX8_split_78 (by decide) ?_
            refine g_addN (a := c) (b := 1) hx hb rfl rfl dX8_split_79 ?_
            refine gp_3_4 hx hb hts hin_8 hown hG hN hk_26 dX8_split_80 (fun H locs hN => ?_)
            refine lv_iinc (v := (nI (i + 1))) (lv' := [(1, .int (nI (i + 1))), (0, .ref (ad 3))]) hx hb dX8_split_83 hl (k := 1) rfl (nI_1 _) (by decide) rfl (fun ls hl => ?_)
            refine lv_goto (tgt := 7) hx hb dX8_split_86 (by decide) ?_
            exact ih7 (i + 1) (c + 1) (gw F1 6 c (nI (i + 1))) (gw V1 3 4 (nI (c + 1))) _ _ ls (by omega) (by omega) (by omega) (fun a h1 h2 => (gw_n _ _ _ h2).trans (hF9 a h1 h2)) (by rw [hV, gw_gw]) (qPar_s hP9 hb9 hq9e hqi.1) (Or.inl ⟨by rw [hq9e]; exact Nat.le_refl _, fun j h1 h2 => by rw [hq9e] at h1; omega⟩) hN (lv_sub hl [1, 0] rfl)
        · have hqa : qA (F 4) n i c := hst.resolve_right (fun z => qI_prev z hn2 c6)
          have hqb := qA_b hqa hin hnb
          refine lv_aload_n hx hb dX8_split_33 rfl (lv_at hl 0 rfl) ?_
          refine gf_3_1 hx hb hts hin_8 hown hG hN hk_15 dX8_split_34 ?_
          refine lv_aload_n hx hb dX8_split_37 rfl (lv_at hl 0 rfl) ?_
          refine gf_3_4 hx hb hts hin_8 hown hG hN hk_26 dX8_split_38 ?_
          refine g_top (y := nI c) (by rw [hV, gw_ss]) ?_
          refine lv_iload_n hx hb dX8_split_41 rfl (lv_at hl 1 rfl) ?_
          refine g_iast hx hb hG hN (i := 5) (n := 60) (j := c) (by decide) (fun _ => rfl) (by decide) (by omega) rfl dX8_split_42 (fun H locs hN => ?_)
          have hF9 : ∀ a, a ≠ 5 → a ≠ 6 → gw F1 5 c (nI i) a = F a := fun a h1 h2 => (gw_n _ _ _ h1).trans (hF a h1 h2)
          have hb9 : gw F1 5 c (nI i) 5 c = nI (qb (F 4) n c) := by rw [gw_ss, hqb]
          have hP9 : qPar (gw F1 5 c (nI i)) (F 4) n c := fun p hp => ⟨by rw [gw_sn _ _ (by omega)]; exact (hP p hp).1, by rw [gw_n _ _ _ (by decide)]; exact (hP p hp).2⟩
          have hqi : qb (F 4) n c ≤ i ∧ ∀ j, qb (F 4) n c ≤ j → j ≤ i → F 4 j ≠ 32 := ⟨Nat.le_of_eq hqb, fun j h1 h2 => by rw [show j = i by omega]; exact hnb⟩
          refine lv_aload_n hx hb dX8_split_43 rfl (lv_at hl 0 rfl) ?_
          refine lv_iload_n hx hb dX8_split_44 rfl (lv_at hl 1 rfl) ?_
          refine g_VI (As := [.int (nI i)]) (rest := []) ⟨hx, hb, hml, hown, hts⟩ hG hN (i := 3) (by decide) rfl rfl (c_X8_isBlank l (nI i) n (by rw [hV, gw_sn _ _ (by decide)]; exact hn) hn2) (cwV 1 hts gX8_split_X8_isBlank rfl rfl rfl (by decide +kernel) ⟨Nat.le_of_ble_eq_true rfl, Nat.le_of_ble_eq_true rfl⟩) rfl hl.1 rfl (Nat.le_of_ble_eq_true rfl) dX8_split_45 ⟨Nat.le_of_ble_eq_true rfl, Nat.le_of_ble_eq_true rfl⟩ (fun H locs hN => ?_)
          refine g_top (y := (if qBl (F 4) n (nI i) = true then 1 else 0)) (by rw [gw_n _ _ _ (show 4 ≠ 5 by decide), e4]) ?_
          refine g_ifb_ne (qBl (F 4) n (nI i) = true) (tgt := 83) hx hb dX8_split_48 (by decide) rfl (fun c9 => absurd c9 (fun z => hnb ((qBl_i hin hn2).mp z))) (fun c9 => ?_)
          refine lv_aload_n hx hb dX8_split_51 rfl (lv_at hl 0 rfl) ?_
          refine lv_iload_n hx hb dX8_split_52 rfl (lv_at hl 1 rfl) ?_
          refine lv_iconst (v := 1) hx hb dX8_split_53 (by decide) ?_
          refine g_addN (a := i) (b := 1) hx hb rfl rfl dX8_split_54 ?_
          refine g_VI (As := [.int (nI (i + 1))]) (rest := []) ⟨hx, hb, hml, hown, hts⟩ hG hN (i := 3) (by decide) rfl rfl (c_X8_isBlank l (nI (i + 1)) n (by rw [hV, gw_sn _ _ (by decide)]; exact hn) hn2) (cwV 1 hts gX8_split_X8_isBlank rfl rfl rfl (by decide +kernel) ⟨Nat.le_of_ble_eq_true rfl, Nat.le_of_ble_eq_true rfl⟩) rfl hl.1 rfl (Nat.le_of_ble_eq_true rfl) dX8_split_55 ⟨Nat.le_of_ble_eq_true rfl, Nat.le_of_ble_eq_true rfl⟩ (fun H locs hN => ?_)
          refine g_top (y := (if qBl (F 4) n (nI (i + 1)) = true then 1 else 0)) (by rw [gw_n _ _ _ (show 4 ≠ 5 by decide), e4]) ?_
          refine g_ifb_eq (qBl (F 4) n (nI (i + 1)) = true) (tgt := 83) hx hb dX8_split_58 (by decide) rfl (fun c10 => ?_) (fun c10 => ?_)
          · have hq9n : i + 1 < n := by have h9 : ¬ i + 1 = n := fun z => c10 ((qBl_s hin hn2).mpr (Or.inl z)); omega
            have hq9r : ∀ j, qb (F 4) n c ≤ j → j ≤ i + 1 → F 4 j ≠ 32 := fun j h1 h2 => by by_cases h3 : j = i + 1; rw [h3]; exact fun z => c10 ((qBl_s hin hn2).mpr (Or.inr z)); exact hqi.2 j h1 (by omega)
            refine lv_iinc (v := (nI (i + 1))) (lv' := [(1, .int (nI (i + 1))), (0, .ref (ad 3))]) hx hb dX8_split_83 hl (k := 1) rfl (nI_1 _) (by decide) rfl (fun ls hl => ?_)
            refine lv_goto (tgt := 7) hx hb dX8_split_86 (by decide) ?_
            exact ih7 (i + 1) c (gw F1 5 c (nI i)) V1 _ _ ls (by omega) (by omega) (by omega) (hF9) (hV) (hP9) (Or.inr ⟨by omega, hq9n, hb9, hq9r⟩) hN (lv_sub hl [1, 0] rfl)
          · have hq9e : qAt (F 4) n (c + 1) = i + 1 := qI_e hqi.1 hin hqi.2 ((qBl_s hin hn2).mp c10)
            refine lv_aload_n hx hb dX8_split_61 rfl (lv_at hl 0 rfl) ?_
            refine gf_3_2 hx hb hts hin_8 hown hG hN hk_19 dX8_split_62 ?_
            refine lv_aload_n hx hb dX8_split_65 rfl (lv_at hl 0 rfl) ?_
            refine gf_3_4 hx hb hts hin_8 hown hG hN hk_26 dX8_split_66 ?_
            refine g_top (y := nI c) (by rw [hV, gw_ss]) ?_
            refine lv_iload_n hx hb dX8_split_69 rfl (lv_at hl 1 rfl) ?_
            refine lv_iconst (v := 1) hx hb dX8_split_70 (by decide) ?_
            refine g_addN (a := i) (b := 1) hx hb rfl rfl dX8_split_71 ?_
            refine g_iast hx hb hG hN (i := 6) (n := 60) (j := c) (by decide) (fun _ => rfl) (by decide) (by omega) rfl dX8_split_72 (fun H locs hN => ?_)
            refine lv_aload_n hx hb dX8_split_73 rfl (lv_at hl 0 rfl) ?_
            refine lv_dup hx hb dX8_split_74 rfl ?_
            refine gf_3_4 hx hb hts hin_8 hown hG hN hk_26 dX8_split_75 ?_
            refine g_top (y := nI c) (by rw [hV, gw_ss]) ?_
            refine lv_iconst (v := 1) hx hb dX8_split_78 (by decide) ?_
            refine g_addN (a := c) (b := 1) hx hb rfl rfl dX8_split_79 ?_
            refine gp_3_4 hx hb hts hin_8 hown hG hN hk_26 dX8_split_80 (fun H locs hN => ?_)
            refine lv_iinc (v := (nI (i + 1))) (lv' := [(1, .int (nI (i + 1))), (0, .ref (ad 3))]) hx hb dX8_split_83 hl (k := 1) rfl (nI_1 _) (by decide) rfl (fun ls hl => ?_)
            refine lv_goto (tgt := 7) hx hb dX8_split_86 (by decide) ?_
            exact ih7 (i + 1) (c + 1) (gw (gw F1 5 c (nI i)) 6 c (nI (i + 1))) (gw V1 3 4 (nI (c + 1))) _ _ ls (by omega) (by omega) (by omega) (fun a h1 h2 => (gw_n _ _ _ h2).trans (hF9 a h1 h2)) (by rw [hV, gw_gw]) (qPar_s hP9 hb9 hq9e hqi.1) (Or.inl ⟨by rw [hq9e]; exact Nat.le_refl _, fun j h1 h2 => by rw [hq9e] at h1; omega⟩) hN (lv_sub hl [1, 0] rfl)
  exact L1 _ 0 0 F (gw V 3 4 0) _ _ ls (rfl) (by omega) (by omega) (fun _ _ _ => rfl) (rfl) (fun p hp => absurd hp (Nat.not_lt_zero p)) (Or.inl ⟨Nat.le_refl 0, fun j _ h => absurd h (Nat.not_lt_zero j)⟩) hN (lv_sub hl [1, 0] rfl)
