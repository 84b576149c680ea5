set_option maxHeartbeats 4000000 in
set_option maxRecDepth 100000 in
theorem c_L_digits (l : Launch) {D : va_G} {ad : Nat → Nat} {cs : Nat → ClassId} {zd : Nat → Nat} {F V : gF} {o : gO} {sz : Nat} (hl9 : l.stackTraces = false) (m n0 : Nat) (hm : m < 1000) (hn : V 3 3 = nI n0) (hn0 : n0 + 3 ≤ 60) : Met l yL_digits wsL_digits ({ frames := 7, cells := 3, slots := 18, locals := 111 } : Room) (gPc D ad cs zd F V o sz [.ref (ad 0), .int (nI m)]) (gQi D ad cs sz (fun r9 u9 => u9 = (tyF F n0 (dg m), gw V 3 3 (nI (n0 + (dg m).length)), o))) 3 18 (gX ad sz) := by
  refine g_met (Qc := fun z0 => gQi D ad cs z0 (fun r9 u9 => u9 = (tyF F n0 (dg m), gw V 3 3 (nI (n0 + (dg m).length)), o))) (cc := cL_digits) (maxL := 2) (ret := (some .int)) (own := RL) (by decide +kernel) rfl rfl (Nat.le_of_ble_eq_true rfl) ?_
  intro p0 e0 s0 m0 b0 k0 c0 hx hb hr hts hown hlocks hml hG hN ls hl
  have hl : lv_has ls 2 [(0, .ref (ad 0)), (1, .int (nI m))] := hl
  refine lv_iload_n hx hb dL_digits_0 rfl (lv_at hl 1 rfl) ?_
  refine lv_bipush (v := 99) hx hb dL_digits_1 (by decide) ?_
  refine g_cN_le (a := m) (b := 99) (tgt := 19) hx hb dL_digits_3 (by decide) rfl rfl (by omega) (by omega) (fun c1 => ?_) (fun c1 => ?_)
  · refine lv_iload_n hx hb dL_digits_19 rfl (lv_at hl 1 rfl) ?_
    refine lv_bipush (v := 9) hx hb dL_digits_20 (by decide) ?_
    refine g_cN_le (a := m) (b := 9) (tgt := 41) hx hb dL_digits_22 (by decide) rfl rfl (by omega) (by omega) (fun c2 => ?_) (fun c2 => ?_)
    · refine lv_aload_n hx hb dL_digits_41 rfl (lv_at hl 0 rfl) ?_
      refine lv_bipush (v := 48) hx hb dL_digits_42 (by decide) ?_
      refine lv_iload_n hx hb dL_digits_44 rfl (lv_at hl 1 rfl) ?_
      refine lv_bipush (v := 10) hx hb dL_digits_45 (by decide) ?_
      refine g_remN (a := m) (b := 10) hx hb rfl rfl (by omega) (by omega) (by omega) dL_digits_47 ?_
      refine g_addN (a := 48) (b := m % 10) hx hb rfl rfl dL_digits_48 ?_
      refine lv_i2c hx hb dL_digits_49 rfl ?_
      refine g_top (y := nI (48 + (m % 10))) (i2c_k _ (by omega)) ?_
      refine g_nVI (As := [.int (nI (48 + (m % 10)))]) (rest := []) ⟨hx, hb, hml, hown, hts⟩ hG hN (i := 0) (by decide) rfl rfl (c_X9_type l hl9 (nI (48 + (m % 10))) n0 hn (by omega) (nar_k _ (by omega))) (cwV 1 hts gL_digits_X9_type rfl rfl rfl (by decide +kernel) ⟨Nat.le_of_ble_eq_true rfl, Nat.le_of_ble_eq_true rfl⟩) rfl hl.1 rfl (Nat.le_of_ble_eq_true rfl) dL_digits_50 ⟨Nat.le_of_ble_eq_true rfl, Nat.le_of_ble_eq_true rfl⟩ (no2 (fTyp0 (n := n0) hn (by omega) (gTk_d _ (by omega)))) (fun hz3 H locs hN => ?_)
      refine W.widen (k := 3) (n := 18) (by omega) (by omega) ?_
      exact g_ri hx hb hr hlocks hN (by rw [dg_1 (by omega)] <;> rfl) dL_digits_53
    · refine lv_aload_n hx hb dL_digits_25 rfl (lv_at hl 0 rfl) ?_
      refine lv_bipush (v := 48) hx hb dL_digits_26 (by decide) ?_
      refine lv_iload_n hx hb dL_digits_28 rfl (lv_at hl 1 rfl) ?_
      refine lv_bipush (v := 10) hx hb dL_digits_29 (by decide) ?_
      refine g_divN (a := m) (b := 10) hx hb rfl rfl (by omega) (by omega) (by omega) dL_digits_31 ?_
      refine lv_bipush (v := 10) hx hb dL_digits_32 (by decide) ?_
      refine g_remN (a := m / 10) (b := 10) hx hb rfl rfl (by omega) (by omega) (by omega) dL_digits_34 ?_
      refine g_addN (a := 48) (b := (m / 10) % 10) hx hb rfl rfl dL_digits_35 ?_
      refine lv_i2c hx hb dL_digits_36 rfl ?_
      refine g_top (y := nI (48 + ((m / 10) % 10))) (i2c_k _ (by omega)) ?_
      refine g_nVI (As := [.int (nI (48 + ((m / 10) % 10)))]) (rest := []) ⟨hx, hb, hml, hown, hts⟩ hG hN (i := 0) (by decide) rfl rfl (c_X9_type l hl9 (nI (48 + ((m / 10) % 10))) n0 hn (by omega) (nar_k _ (by omega))) (cwV 1 hts gL_digits_X9_type rfl rfl rfl (by decide +kernel) ⟨Nat.le_of_ble_eq_true rfl, Nat.le_of_ble_eq_true rfl⟩) rfl hl.1 rfl (Nat.le_of_ble_eq_true rfl) dL_digits_37 ⟨Nat.le_of_ble_eq_true rfl, Nat.le_of_ble_eq_true rfl⟩ (no2 (fTyp0 (n := n0) hn (by omega) (gTk_d _ (by omega)))) (fun hz4 H locs hN => ?_)
      refine lv_pop hx hb dL_digits_40 rfl ?_
      refine lv_aload_n hx hb dL_digits_41 rfl (lv_at hl 0 rfl) ?_
      refine lv_bipush (v := 48) hx hb dL_digits_42 (by decide) ?_
      refine lv_iload_n hx hb dL_digits_44 rfl (lv_at hl 1 rfl) ?_
      refine lv_bipush (v := 10) hx hb dL_digits_45 (by decide) ?_
      refine g_remN (a := m) (b := 10) hx hb rfl rfl (by omega) (by omega) (by omega) dL_digits_47 ?_
      refine g_addN (a := 48) (b := m % 10) hx hb rfl rfl dL_digits_48 ?_
      refine lv_i2c hx hb dL_digits_49 rfl ?_
      refine g_top (y := nI (48 + (m % 10))) (i2c_k _ (by omega)) ?_
      refine g_nVI (As := [.int (nI (48 + (m % 10)))]) (rest := []) ⟨hx, hb, hml, hown, hts⟩ hG hN (i := 0) (by decide) rfl rfl (c_X9_type l hl9 (nI (48 + (m % 10))) (n0 + 1) (gw_ss _ _ _ _) (by omega) (nar_k _ (by omega))) (cwV 1 hts gL_digits_X9_type rfl rfl rfl (by decide +kernel) ⟨Nat.le_of_ble_eq_true rfl, Nat.le_of_ble_eq_true rfl⟩) rfl hl.1 rfl (Nat.le_of_ble_eq_true rfl) dL_digits_50 ⟨Nat.le_of_ble_eq_true rfl, Nat.le_of_ble_eq_true rfl⟩ (no2 (fTyp0 (n := (n0 + 1)) (gw_ss _ _ _ _) (by omega) (gTk_d _ (by omega)))) (fun hz5 H locs hN => ?_)
      refine W.widen (k := 3) (n := 18) (by omega) (by omega) ?_
      exact g_ri hx hb hr hlocks hN (by rw [dg_2 (by omega) c2, gw_gw] <;> rfl) dL_digits_53
  · refine lv_aload_n hx hb dL_digits_6 rfl (lv_at hl 0 rfl) ?_
    refine lv_bipush (v := 48) hx hb dL_digits_7 (by decide) ?_
    refine lv_iload_n hx hb dL_digits_9 rfl (lv_at hl 1 rfl) ?_
    refine lv_bipush (v := 100) hx hb dL_digits_10 (by decide) ?_
    refine g_divN (a := m) (b := 100) hx hb rfl rfl (by omega) (by omega) (by omega) dL_digits_12 ?_
    refine g_addN (a := 48) (b := m / 100) hx hb rfl rfl dL_digits_13 ?_
    refine lv_i2c hx hb dL_digits_14 rfl ?_
    refine g_top (y := nI (48 + (m / 100))) (i2c_k _ (by omega)) ?_
    refine g_nVI (As := [.int (nI (48 + (m / 100)))]) (rest := []) ⟨hx, hb, hml, hown, hts⟩ hG hN (i := 0) (by decide) rfl rfl (c_X9_type l hl9 (nI (48 + (m / 100))) n0 hn (by omega) (nar_k _ (by omega))) (cwV 1 hts gL_digits_X9_type rfl rfl rfl (by decide +kernel) ⟨Nat.le_of_ble_eq_true rfl, Nat.le_of_ble_eq_true rfl⟩) rfl hl.1 rfl (Nat.le_of_ble_eq_true rfl) dL_digits_15 ⟨Nat.le_of_ble_eq_true rfl, Nat.le_of_ble_eq_true rfl⟩ (no2 (fTyp0 (n := n0) hn (by omega) (gTk_d _ (by omega)))) (fun hz6 H locs hN => ?_)
    refine lv_pop hx hb dL_digits_18 rfl ?_
    refine lv_iload_n hx hb dL_digits_19 rfl (lv_at hl 1 rfl) ?_
    refine lv_bipush (v := 9) hx hb dL_digits_20 (by decide) ?_
    refine g_cN_le (a := m) (b := 9) (tgt := 41) hx hb dL_digits_22 (by decide) rfl rfl (by omega) (by omega) (fun c7 => absurd c7 (by omega)) (fun c7 => ?_)
    refine lv_aload_n hx hb dL_digits_25 rfl (lv_at hl 0 rfl) ?_
    refine lv_bipush (v := 48) hx hb dL_digits_26 (by decide) ?_
    refine lv_iload_n hx hb dL_digits_28 rfl (lv_at hl 1 rfl) ?_
    refine lv_bipush (v := 10) hx hb dL_digits_29 (by decide) ?_
    refine g_divN (a := m) (b := 10) hx hb rfl rfl (by omega) (by omega) (by omega) dL_digits_31 ?_
    refine lv_bipush (v := 10) hx hb dL_digits_32 (by decide) ?_
    refine g_remN (a := m / 10) (b := 10) hx hb rfl rfl (by omega) (by omega) (by omega) dL_digits_34 ?_
    refine g_addN (a := 48) (b := (m / 10) % 10) hx hb rfl rfl dL_digits_35 ?_
    refine lv_i2c hx hb dL_digits_36 rfl ?_
    refine g_top (y := nI (48 + ((m / 10) % 10))) (i2c_k _ (by omega)) ?_
    refine g_nVI (As := [.int (nI (48 + ((m / 10) % 10)))]) (rest := []) ⟨hx, hb, hml, hown, hts⟩ hG hN (i := 0) (by decide) rfl rfl (c_X9_type l hl9 (nI (48 + ((m / 10) % 10))) (n0 + 1) (gw_ss _ _ _ _) (by omega) (nar_k _ (by omega))) (cwV 1 hts gL_digits_X9_type rfl rfl rfl (by decide +kernel) ⟨Nat.le_of_ble_eq_true rfl, Nat.le_of_ble_eq_true rfl⟩) rfl hl.1 rfl (Nat.le_of_ble_eq_true rfl) dL_digits_37 ⟨Nat.le_of_ble_eq_true rfl, Nat.le_of_ble_eq_true rfl⟩ (no2 (fTyp0 (n := (n0 + 1)) (gw_ss _ _ _ _) (by omega) (gTk_d _ (by omega)))) (fun hz8 H locs hN => ?_)
    refine lv_pop hx hb dL_digits_40 rfl ?_
    refine lv_aload_n hx hb dL_digits_41 rfl (lv_at hl 0 rfl) ?_
    refine lv_bipush (v := 48) hx hb dL_digits_42 (by decide) ?_
    refine lv_iload_n hx hb dL_digits_44 rfl (lv_at hl 1 rfl) ?_
    refine lv_bipush (v := 10) hx hb dL_digits_45 (by decide) ?_
    refine g_remN (a := m) (b := 10) hx hb rfl rfl (by omega) (by omega) (by omega) dL_digits_47 ?_
    refine g_addN (a := 48) (b := m % 10) hx hb rfl rfl dL_digits_48 ?_
    refine lv_i2c hx hb dL_digits_49 rfl ?_
    refine g_top (y := nI (48 + (m % 10))) (i2c_k _ (by omega)) ?_
    refine g_nVI (As := [.int (nI (48 + (m % 10)))]) (rest := []) ⟨hx, hb, hml, hown, hts⟩ hG hN (i := 0) (by decide) rfl rfl (c_X9_type l hl9 (nI (48 + (m % 10))) (n0 + 1 + 1) (gw_ss _ _ _ _) (by omega) (nar_k _ (by omega))) (cwV 1 hts gL_digits_X9_type rfl rfl rfl (by decide +kernel) ⟨Nat.le_of_ble_eq_true rfl, Nat.le_of_ble_eq_true rfl⟩) rfl hl.1 rfl (Nat.le_of_ble_eq_true rfl) dL_digits_50 ⟨Nat.le_of_ble_eq_true rfl, Nat.le_of_ble_eq_true rfl⟩ (no2 (fTyp0 (n := (n0 + 1 + 1)) (gw_ss _ _ _ _) (by omega) (gTk_d _ (by omega)))) (fun hz9 H locs hN => ?_)
    exact g_ri hx hb hr hlocks hN (by rw [dg_3 c1, gw_gw, gw_gw] <;> rfl) dL_digits_53
set_option maxHeartbeats 4000000 in
set_option maxRecDepth 100000 in
theorem c_L_word0 (l : Launch) {D : va_G} {ad : Nat → Nat} {cs : Nat → ClassId} {zd : Nat → Nat} {F V : gF} {o : gO} {sz : Nat} (hl9 : l.stackTraces = false)  (hn : V 3 3 = 0) : Met l yL_word wsL_word ({ frames := 7, cells := 10, slots := 60, locals := 111 } : Room) (gPc D ad cs zd F V o sz [.ref (ad 0), .int 0]) (gQV D ad cs (tyF F 0 (wordL 0)) (gw V 3 3 (nI 6)) o sz) 10 60 (gX ad sz) := by
  refine g_met (Qc := fun z0 => gQV D ad cs (tyF F 0 (wordL 0)) (gw V 3 3 (nI 6)) o z0) (cc := cL_word) (maxL := 4) (ret := none) (own := RL) (by decide +kernel) rfl rfl (Nat.le_of_ble_eq_true rfl) ?_
  intro p0 e0 s0 m0 b0 k0 c0 hx hb hr hts hown hlocks hml hG hN ls hl
  have hl : lv_has ls 4 [(0, .ref (ad 0)), (1, .int 0)] := hl
  refine lv_iload_n hx hb dL_word_0 rfl (lv_at hl 1 rfl) ?_
  refine lv_if_ne (tgt := 10) hx hb dL_word_1 (by decide) (fun c1 => False.elim (by revert c1; decide)) (fun _ => ?_)
  refine lv_sipush (v := 12652) hx hb dL_word_4 (by decide) ?_
  refine lv_goto (tgt := 57) hx hb dL_word_7 (by decide) ?_
  refine lv_istore_n (lv' := [(2, .int 12652), (0, .ref (ad 0)), (1, .int 0)]) hx hb dL_word_57 rfl hl (by decide) rfl (fun ls hl => ?_)
  refine lv_iload_n hx hb dL_word_58 rfl (lv_at hl 2 rfl) ?_
  refine lv_if_ne (tgt := 68) hx hb dL_word_59 (by decide) (fun c2 => False.elim (by revert c2; decide)) (fun _ => ?_)
  refine lv_sipush (v := 12515) hx hb dL_word_62 (by decide) ?_
  refine lv_goto (tgt := 115) hx hb dL_word_65 (by decide) ?_
  refine lv_istore_n (lv' := [(3, .int 12515), (2, .int 12652), (0, .ref (ad 0)), (1, .int 0)]) hx hb dL_word_115 rfl hl (by decide) rfl (fun ls hl => ?_)
  refine lv_aload_n hx hb dL_word_116 rfl (lv_at hl 2 rfl) ?_
  refine lv_iload_n hx hb dL_word_117 rfl (lv_at hl 1 rfl) ?_
  refine lv_sipush (v := 128) hx hb dL_word_118 (by decide) ?_
  refine g_divN (a := 12652) (b := 128) hx hb rfl rfl (by omega) (by omega) (by omega) dL_word_121 ?_
  refine lv_i2c hx hb dL_word_122 rfl ?_
  refine g_top (y := 98) (by decide) ?_
  refine g_nVI (As := [.int 98]) (rest := []) ⟨hx, hb, hml, hown, hts⟩ hG hN (i := 0) (by decide) rfl rfl (c_X9_type l hl9 98 0 hn (by omega) (by decide)) (cwV 1 hts gL_word_X9_type rfl rfl rfl (by decide +kernel) ⟨Nat.le_of_ble_eq_true rfl, Nat.le_of_ble_eq_true rfl⟩) rfl hl.1 rfl (Nat.le_of_ble_eq_true rfl) dL_word_123 ⟨Nat.le_of_ble_eq_true rfl, Nat.le_of_ble_eq_true rfl⟩ (no2 (fTyp0 (n := 0) hn (by omega) (by decide))) (fun hz3 H locs hN => ?_)
  refine lv_pop hx hb dL_word_126 rfl ?_
  refine lv_aload_n hx hb dL_word_127 rfl (lv_at hl 2 rfl) ?_
  refine lv_iload_n hx hb dL_word_128 rfl (lv_at hl 1 rfl) ?_
  refine lv_sipush (v := 128) hx hb dL_word_129 (by decide) ?_
  refine g_remN (a := 12652) (b := 128) hx hb rfl rfl (by omega) (by omega) (by omega) dL_word_132 ?_
  refine lv_i2c hx hb dL_word_133 rfl ?_
  refine g_top (y := 108) (by decide) ?_
  refine g_nVI (As := [.int 108]) (rest := []) ⟨hx, hb, hml, hown, hts⟩ hG hN (i := 0) (by decide) rfl rfl (c_X9_type l hl9 108 1 (gw_ss _ _ _ _) (by omega) (by decide)) (cwV 1 hts gL_word_X9_type rfl rfl rfl (by decide +kernel) ⟨Nat.le_of_ble_eq_true rfl, Nat.le_of_ble_eq_true rfl⟩) rfl hl.1 rfl (Nat.le_of_ble_eq_true rfl) dL_word_134 ⟨Nat.le_of_ble_eq_true rfl, Nat.le_of_ble_eq_true rfl⟩ (no2 (fTyp0 (n := 1) (gw_ss _ _ _ _) (by omega) (by decide))) (fun hz4 H locs hN => ?_)
  refine lv_pop hx hb dL_word_137 rfl ?_
  refine lv_aload_n hx hb dL_word_138 rfl (lv_at hl 2 rfl) ?_
  refine lv_iload_n hx hb dL_word_139 rfl (lv_at hl 0 rfl) ?_
  refine lv_sipush (v := 128) hx hb dL_word_140 (by decide) ?_
  refine g_divN (a := 12515) (b := 128) hx hb rfl rfl (by omega) (by omega) (by omega) dL_word_143 ?_
  refine lv_i2c hx hb dL_word_144 rfl ?_
  refine g_top (y := 97) (by decide) ?_
  refine g_nVI (As := [.int 97]) (rest := []) ⟨hx, hb, hml, hown, hts⟩ hG hN (i := 0) (by decide) rfl rfl (c_X9_type l hl9 97 2 (gw_ss _ _ _ _) (by omega) (by decide)) (cwV 1 hts gL_word_X9_type rfl rfl rfl (by decide +kernel) ⟨Nat.le_of_ble_eq_true rfl, Nat.le_of_ble_eq_true rfl⟩) rfl hl.1 rfl (Nat.le_of_ble_eq_true rfl) dL_word_145 ⟨Nat.le_of_ble_eq_true rfl, Nat.le_of_ble_eq_true rfl⟩ (no2 (fTyp0 (n := 2) (gw_ss _ _ _ _) (by omega) (by decide))) (fun hz5 H locs hN => ?_)
  refine lv_pop hx hb dL_word_148 rfl ?_
  refine lv_aload_n hx hb dL_word_149 rfl (lv_at hl 2 rfl) ?_
  refine lv_iload_n hx hb dL_word_150 rfl (lv_at hl 0 rfl) ?_
  refine lv_sipush (v := 128) hx hb dL_word_151 (by decide) ?_
  refine g_remN (a := 12515) (b := 128) hx hb rfl rfl (by omega) (by omega) (by omega) dL_word_154 ?_
  refine lv_i2c hx hb dL_word_155 rfl ?_
  refine g_top (y := 99) (by decide) ?_
  refine g_nVI (As := [.int 99]) (rest := []) ⟨hx, hb, hml, hown, hts⟩ hG hN (i := 0) (by decide) rfl rfl (c_X9_type l hl9 99 3 (gw_ss _ _ _ _) (by omega) (by decide)) (cwV 1 hts gL_word_X9_type rfl rfl rfl (by decide +kernel) ⟨Nat.le_of_ble_eq_true rfl, Nat.le_of_ble_eq_true rfl⟩) rfl hl.1 rfl (Nat.le_of_ble_eq_true rfl) dL_word_156 ⟨Nat.le_of_ble_eq_true rfl, Nat.le_of_ble_eq_true rfl⟩ (no2 (fTyp0 (n := 3) (gw_ss _ _ _ _) (by omega) (by decide))) (fun hz6 H locs hN => ?_)
  refine lv_pop hx hb dL_word_159 rfl ?_
  refine lv_iload_n hx hb dL_word_160 rfl (lv_at hl 3 rfl) ?_
  refine lv_if_eq (tgt := 174) hx hb dL_word_161 (by decide) (fun _ => ?_) (fun c7 => False.elim (by revert c7; decide))
  refine lv_aload_n hx hb dL_word_174 rfl (lv_at hl 2 rfl) ?_
  refine lv_iload_n hx hb dL_word_175 rfl (lv_at hl 3 rfl) ?_
  refine lv_if_ne (tgt := 184) hx hb dL_word_176 (by decide) (fun c8 => False.elim (by revert c8; decide)) (fun _ => ?_)
  refine lv_bipush (v := 107) hx hb dL_word_179 (by decide) ?_
  refine lv_goto (tgt := 196) hx hb dL_word_181 (by decide) ?_
  refine g_nVI (As := [.int 107]) (rest := []) ⟨hx, hb, hml, hown, hts⟩ hG hN (i := 0) (by decide) rfl rfl (c_X9_type l hl9 107 4 (gw_ss _ _ _ _) (by omega) (by decide)) (cwV 1 hts gL_word_X9_type rfl rfl rfl (by decide +kernel) ⟨Nat.le_of_ble_eq_true rfl, Nat.le_of_ble_eq_true rfl⟩) rfl hl.1 rfl (Nat.le_of_ble_eq_true rfl) dL_word_196 ⟨Nat.le_of_ble_eq_true rfl, Nat.le_of_ble_eq_true rfl⟩ (no2 (fTyp0 (n := 4) (gw_ss _ _ _ _) (by omega) (by decide))) (fun hz9 H locs hN => ?_)
  refine lv_pop hx hb dL_word_199 rfl ?_
  refine lv_iload_n hx hb dL_word_200 rfl (lv_at hl 3 rfl) ?_
  refine lv_iconst (v := 4) hx hb dL_word_201 (by decide) ?_
  refine lv_icmp_ne (tgt := 240) hx hb dL_word_202 (by decide) (fun _ => ?_) (fun c10 => False.elim (by revert c10; decide))
  refine lv_aload_n hx hb dL_word_240 rfl (lv_at hl 2 rfl) ?_
  refine lv_bipush (v := 32) hx hb dL_word_241 (by decide) ?_
  refine g_nVI (As := [.int 32]) (rest := []) ⟨hx, hb, hml, hown, hts⟩ hG hN (i := 0) (by decide) rfl rfl (c_X9_type l hl9 32 5 (gw_ss _ _ _ _) (by omega) (by decide)) (cwV 1 hts gL_word_X9_type rfl rfl rfl (by decide +kernel) ⟨Nat.le_of_ble_eq_true rfl, Nat.le_of_ble_eq_true rfl⟩) rfl hl.1 rfl (Nat.le_of_ble_eq_true rfl) dL_word_243 ⟨Nat.le_of_ble_eq_true rfl, Nat.le_of_ble_eq_true rfl⟩ (no2 (fTyp0 (n := 5) (gw_ss _ _ _ _) (by omega) (by decide))) (fun hz11 H locs hN => ?_)
  refine lv_pop hx hb dL_word_246 rfl ?_
  refine W.widen (k := 10) (n := 60) (by omega) (by omega) ?_
  exact g_rv hx hb hr hlocks hN (by rw [gw_gw, gw_gw, gw_gw, gw_gw, gw_gw] <;> rfl) dL_word_247
set_option maxHeartbeats 4000000 in
set_option maxRecDepth 100000 in
theorem c_L_word1 (l : Launch) {D : va_G} {ad : Nat → Nat} {cs : Nat → ClassId} {zd : Nat → Nat} {F V : gF} {o : gO} {sz : Nat} (hl9 : l.stackTraces = false)  (hn : V 3 3 = 0) : Met l yL_word wsL_word ({ frames := 7, cells := 10, slots := 60, locals := 111 } : Room) (gPc D ad cs zd F V o sz [.ref (ad 0), .int 1]) (gQV D ad cs (tyF F 0 (wordL 1)) (gw V 3 3 (nI 6)) o sz) 10 60 (gX ad sz) := by
  refine g_met (Qc := fun z0 => gQV D ad cs (tyF F 0 (wordL 1)) (gw V 3 3 (nI 6)) o z0) (cc := cL_word) (maxL := 4) (ret := none) (own := RL) (by decide +kernel) rfl rfl (Nat.le_of_ble_eq_true rfl) ?_
  intro p0 e0 s0 m0 b0 k0 c0 hx hb hr hts hown hlocks hml hG hN ls hl
  have hl : lv_has ls 4 [(0, .ref (ad 0)), (1, .int 1)] := hl
  refine lv_iload_n hx hb dL_word_0 rfl (lv_at hl 1 rfl) ?_
  refine lv_if_ne (tgt := 10) hx hb dL_word_1 (by decide) (fun _ => ?_) (fun c1 => False.elim (by revert c1; decide))
  refine lv_iload_n hx hb dL_word_10 rfl (lv_at hl 1 rfl) ?_
  refine lv_iconst (v := 1) hx hb dL_word_11 (by decide) ?_
  refine lv_icmp_ne (tgt := 21) hx hb dL_word_12 (by decide) (fun c2 => False.elim (by revert c2; decide)) (fun _ => ?_)
  refine lv_sipush (v := 13929) hx hb dL_word_15 (by decide) ?_
  refine lv_goto (tgt := 57) hx hb dL_word_18 (by decide) ?_
  refine lv_istore_n (lv' := [(2, .int 13929), (0, .ref (ad 0)), (1, .int 1)]) hx hb dL_word_57 rfl hl (by decide) rfl (fun ls hl => ?_)
  refine lv_iload_n hx hb dL_word_58 rfl (lv_at hl 2 rfl) ?_
  refine lv_if_ne (tgt := 68) hx hb dL_word_59 (by decide) (fun _ => ?_) (fun c3 => False.elim (by revert c3; decide))
  refine lv_iload_n hx hb dL_word_68 rfl (lv_at hl 2 rfl) ?_
  refine lv_iconst (v := 1) hx hb dL_word_69 (by decide) ?_
  refine lv_icmp_ne (tgt := 79) hx hb dL_word_70 (by decide) (fun c4 => False.elim (by revert c4; decide)) (fun _ => ?_)
  refine lv_sipush (v := 14057) hx hb dL_word_73 (by decide) ?_
  refine lv_goto (tgt := 115) hx hb dL_word_76 (by decide) ?_
  refine lv_istore_n (lv' := [(3, .int 14057), (2, .int 13929), (0, .ref (ad 0)), (1, .int 1)]) hx hb dL_word_115 rfl hl (by decide) rfl (fun ls hl => ?_)
  refine lv_aload_n hx hb dL_word_116 rfl (lv_at hl 2 rfl) ?_
  refine lv_iload_n hx hb dL_word_117 rfl (lv_at hl 1 rfl) ?_
  refine lv_sipush (v := 128) hx hb dL_word_118 (by decide) ?_
  refine g_divN (a := 13929) (b := 128) hx hb rfl rfl (by omega) (by omega) (by omega) dL_word_121 ?_
  refine lv_i2c hx hb dL_word_122 rfl ?_
  refine g_top (y := 108) (by decide) ?_
  refine g_nVI (As := [.int 108]) (rest := []) ⟨hx, hb, hml, hown, hts⟩ hG hN (i := 0) (by decide) rfl rfl (c_X9_type l hl9 108 0 hn (by omega) (by decide)) (cwV 1 hts gL_word_X9_type rfl rfl rfl (by decide +kernel) ⟨Nat.le_of_ble_eq_true rfl, Nat.le_of_ble_eq_true rfl⟩) rfl hl.1 rfl (Nat.le_of_ble_eq_true rfl) dL_word_123 ⟨Nat.le_of_ble_eq_true rfl, Nat.le_of_ble_eq_true rfl⟩ (no2 (fTyp0 (n := 0) hn (by omega) (by decide))) (fun hz5 H locs hN => ?_)
  refine lv_pop hx hb dL_word_126 rfl ?_
  refine lv_aload_n hx hb dL_word_127 rfl (lv_at hl 2 rfl) ?_
  refine lv_iload_n hx hb dL_word_128 rfl (lv_at hl 1 rfl) ?_
  refine lv_sipush (v := 128) hx hb dL_word_129 (by decide) ?_
  refine g_remN (a := 13929) (b := 128) hx hb rfl rfl (by omega) (by omega) (by omega) dL_word_132 ?_
  refine lv_i2c hx hb dL_word_133 rfl ?_
  refine g_top (y := 105) (by decide) ?_
  refine g_nVI (As := [.int 105]) (rest := []) ⟨hx, hb, hml, hown, hts⟩ hG hN (i := 0) (by decide) rfl rfl (c_X9_type l hl9 105 1 (gw_ss _ _ _ _) (by omega) (by decide)) (cwV 1 hts gL_word_X9_type rfl rfl rfl (by decide +kernel) ⟨Nat.le_of_ble_eq_true rfl, Nat.le_of_ble_eq_true rfl⟩) rfl hl.1 rfl (Nat.le_of_ble_eq_true rfl) dL_word_134 ⟨Nat.le_of_ble_eq_true rfl, Nat.le_of_ble_eq_true rfl⟩ (no2 (fTyp0 (n := 1) (gw_ss _ _ _ _) (by omega) (by decide))) (fun hz6 H locs hN => ?_)
  refine lv_pop hx hb dL_word_137 rfl ?_
  refine lv_aload_n hx hb dL_word_138 rfl (lv_at hl 2 rfl) ?_
  refine lv_iload_n hx hb dL_word_139 rfl (lv_at hl 0 rfl) ?_
  refine lv_sipush (v := 128) hx hb dL_word_140 (by decide) ?_
  refine g_divN (a := 14057) (b := 128) hx hb rfl rfl (by omega) (by omega) (by omega) dL_word_143 ?_
  refine lv_i2c hx hb dL_word_144 rfl ?_
  refine g_top (y := 109) (by decide) ?_
  refine g_nVI (As := [.int 109]) (rest := []) ⟨hx, hb, hml, hown, hts⟩ hG hN (i := 0) (by decide) rfl rfl (c_X9_type l hl9 109 2 (gw_ss _ _ _ _) (by omega) (by decide)) (cwV 1 hts gL_word_X9_type rfl rfl rfl (by decide +kernel) ⟨Nat.le_of_ble_eq_true rfl, Nat.le_of_ble_eq_true rfl⟩) rfl hl.1 rfl (Nat.le_of_ble_eq_true rfl) dL_word_145 ⟨Nat.le_of_ble_eq_true rfl, Nat.le_of_ble_eq_true rfl⟩ (no2 (fTyp0 (n := 2) (gw_ss _ _ _ _) (by omega) (by decide))) (fun hz7 H locs hN => ?_)
  refine lv_pop hx hb dL_word_148 rfl ?_
  refine lv_aload_n hx hb dL_word_149 rfl (lv_at hl 2 rfl) ?_
  refine lv_iload_n hx hb dL_word_150 rfl (lv_at hl 0 rfl) ?_
  refine lv_sipush (v := 128) hx hb dL_word_151 (by decide) ?_
  refine g_remN (a := 14057) (b := 128) hx hb rfl rfl (by omega) (by omega) (by omega) dL_word_154 ?_
  refine lv_i2c hx hb dL_word_155 rfl ?_
  refine g_top (y := 105) (by decide) ?_
  refine g_nVI (As := [.int 105]) (rest := []) ⟨hx, hb, hml, hown, hts⟩ hG hN (i := 0) (by decide) rfl rfl (c_X9_type l hl9 105 3 (gw_ss _ _ _ _) (by omega) (by decide)) (cwV 1 hts gL_word_X9_type rfl rfl rfl (by decide +kernel) ⟨Nat.le_of_ble_eq_true rfl, Nat.le_of_ble_eq_true rfl⟩) rfl hl.1 rfl (Nat.le_of_ble_eq_true rfl) dL_word_156 ⟨Nat.le_of_ble_eq_true rfl, Nat.le_of_ble_eq_true rfl⟩ (no2 (fTyp0 (n := 3) (gw_ss _ _ _ _) (by omega) (by decide))) (fun hz8 H locs hN => ?_)
  refine lv_pop hx hb dL_word_159 rfl ?_
  refine lv_iload_n hx hb dL_word_160 rfl (lv_at hl 3 rfl) ?_
  refine lv_if_eq (tgt := 174) hx hb dL_word_161 (by decide) (fun c9 => False.elim (by revert c9; decide)) (fun _ => ?_)
  refine lv_iload_n hx hb dL_word_164 rfl (lv_at hl 3 rfl) ?_
  refine lv_iconst (v := 1) hx hb dL_word_165 (by decide) ?_
  refine lv_icmp_eq (tgt := 174) hx hb dL_word_166 (by decide) (fun _ => ?_) (fun c10 => False.elim (by revert c10; decide))
  refine lv_aload_n hx hb dL_word_174 rfl (lv_at hl 2 rfl) ?_
  refine lv_iload_n hx hb dL_word_175 rfl (lv_at hl 3 rfl) ?_
  refine lv_if_ne (tgt := 184) hx hb dL_word_176 (by decide) (fun _ => ?_) (fun c11 => False.elim (by revert c11; decide))
  refine lv_iload_n hx hb dL_word_184 rfl (lv_at hl 3 rfl) ?_
  refine lv_iconst (v := 1) hx hb dL_word_185 (by decide) ?_
  refine lv_icmp_ne (tgt := 194) hx hb dL_word_186 (by decide) (fun c12 => False.elim (by revert c12; decide)) (fun _ => ?_)
  refine lv_bipush (v := 116) hx hb dL_word_189 (by decide) ?_
  refine lv_goto (tgt := 196) hx hb dL_word_191 (by decide) ?_
  refine g_nVI (As := [.int 116]) (rest := []) ⟨hx, hb, hml, hown, hts⟩ hG hN (i := 0) (by decide) rfl rfl (c_X9_type l hl9 116 4 (gw_ss _ _ _ _) (by omega) (by decide)) (cwV 1 hts gL_word_X9_type rfl rfl rfl (by decide +kernel) ⟨Nat.le_of_ble_eq_true rfl, Nat.le_of_ble_eq_true rfl⟩) rfl hl.1 rfl (Nat.le_of_ble_eq_true rfl) dL_word_196 ⟨Nat.le_of_ble_eq_true rfl, Nat.le_of_ble_eq_true rfl⟩ (no2 (fTyp0 (n := 4) (gw_ss _ _ _ _) (by omega) (by decide))) (fun hz13 H locs hN => ?_)
  refine lv_pop hx hb dL_word_199 rfl ?_
  refine lv_iload_n hx hb dL_word_200 rfl (lv_at hl 3 rfl) ?_
  refine lv_iconst (v := 4) hx hb dL_word_201 (by decide) ?_
  refine lv_icmp_ne (tgt := 240) hx hb dL_word_202 (by decide) (fun _ => ?_) (fun c14 => False.elim (by revert c14; decide))
  refine lv_aload_n hx hb dL_word_240 rfl (lv_at hl 2 rfl) ?_
  refine lv_bipush (v := 32) hx hb dL_word_241 (by decide) ?_
  refine g_nVI (As := [.int 32]) (rest := []) ⟨hx, hb, hml, hown, hts⟩ hG hN (i := 0) (by decide) rfl rfl (c_X9_type l hl9 32 5 (gw_ss _ _ _ _) (by omega) (by decide)) (cwV 1 hts gL_word_X9_type rfl rfl rfl (by decide +kernel) ⟨Nat.le_of_ble_eq_true rfl, Nat.le_of_ble_eq_true rfl⟩) rfl hl.1 rfl (Nat.le_of_ble_eq_true rfl) dL_word_243 ⟨Nat.le_of_ble_eq_true rfl, Nat.le_of_ble_eq_true rfl⟩ (no2 (fTyp0 (n := 5) (gw_ss _ _ _ _) (by omega) (by decide))) (fun hz15 H locs hN => ?_)
  refine lv_pop hx hb dL_word_246 rfl ?_
  refine W.widen (k := 10) (n := 60) (by omega) (by omega) ?_
  exact g_rv hx hb hr hlocks hN (by rw [gw_gw, gw_gw, gw_gw, gw_gw, gw_gw] <;> rfl) dL_word_247
set_option maxHeartbeats 4000000 in
set_option maxRecDepth 100000 in
theorem c_L_word2 (l : Launch) {D : va_G} {ad : Nat → Nat} {cs : Nat → ClassId} {zd : Nat → Nat} {F V : gF} {o : gO} {sz : Nat} (hl9 : l.stackTraces = false)  (hn : V 3 3 = 0) : Met l yL_word wsL_word ({ frames := 7, cells := 10, slots := 60, locals := 111 } : Room) (gPc D ad cs zd F V o sz [.ref (ad 0), .int 2]) (gQV D ad cs (tyF F 0 (wordL 2)) (gw V 3 3 (nI 5)) o sz) 10 60 (gX ad sz) := by
  refine g_met (Qc := fun z0 => gQV D ad cs (tyF F 0 (wordL 2)) (gw V 3 3 (nI 5)) o z0) (cc := cL_word) (maxL := 4) (ret := none) (own := RL) (by decide +kernel) rfl rfl (Nat.le_of_ble_eq_true rfl) ?_
  intro p0 e0 s0 m0 b0 k0 c0 hx hb hr hts hown hlocks hml hG hN ls hl
  have hl : lv_has ls 4 [(0, .ref (ad 0)), (1, .int 2)] := hl
  refine lv_iload_n hx hb dL_word_0 rfl (lv_at hl 1 rfl) ?_
  refine lv_if_ne (tgt := 10) hx hb dL_word_1 (by decide) (fun _ => ?_) (fun c1 => False.elim (by revert c1; decide))
  refine lv_iload_n hx hb dL_word_10 rfl (lv_at hl 1 rfl) ?_
  refine lv_iconst (v := 1) hx hb dL_word_11 (by decide) ?_
  refine lv_icmp_ne (tgt := 21) hx hb dL_word_12 (by decide) (fun _ => ?_) (fun c2 => False.elim (by revert c2; decide))
  refine lv_iload_n hx hb dL_word_21 rfl (lv_at hl 1 rfl) ?_
  refine lv_iconst (v := 2) hx hb dL_word_22 (by decide) ?_
  refine lv_icmp_ne (tgt := 32) hx hb dL_word_23 (by decide) (fun c3 => False.elim (by revert c3; decide)) (fun _ => ?_)
  refine lv_sipush (v := 14962) hx hb dL_word_26 (by decide) ?_
  refine lv_goto (tgt := 57) hx hb dL_word_29 (by decide) ?_
  refine lv_istore_n (lv' := [(2, .int 14962), (0, .ref (ad 0)), (1, .int 2)]) hx hb dL_word_57 rfl hl (by decide) rfl (fun ls hl => ?_)
  refine lv_iload_n hx hb dL_word_58 rfl (lv_at hl 2 rfl) ?_
  refine lv_if_ne (tgt := 68) hx hb dL_word_59 (by decide) (fun _ => ?_) (fun c4 => False.elim (by revert c4; decide))
  refine lv_iload_n hx hb dL_word_68 rfl (lv_at hl 2 rfl) ?_
  refine lv_iconst (v := 1) hx hb dL_word_69 (by decide) ?_
  refine lv_icmp_ne (tgt := 79) hx hb dL_word_70 (by decide) (fun _ => ?_) (fun c5 => False.elim (by revert c5; decide))
  refine lv_iload_n hx hb dL_word_79 rfl (lv_at hl 2 rfl) ?_
  refine lv_iconst (v := 2) hx hb dL_word_80 (by decide) ?_
  refine lv_icmp_ne (tgt := 90) hx hb dL_word_81 (by decide) (fun c6 => False.elim (by revert c6; decide)) (fun _ => ?_)
  refine lv_sipush (v := 12528) hx hb dL_word_84 (by decide) ?_
  refine lv_goto (tgt := 115) hx hb dL_word_87 (by decide) ?_
  refine lv_istore_n (lv' := [(3, .int 12528), (2, .int 14962), (0, .ref (ad 0)), (1, .int 2)]) hx hb dL_word_115 rfl hl (by decide) rfl (fun ls hl => ?_)
  refine lv_aload_n hx hb dL_word_116 rfl (lv_at hl 2 rfl) ?_
  refine lv_iload_n hx hb dL_word_117 rfl (lv_at hl 1 rfl) ?_
  refine lv_sipush (v := 128) hx hb dL_word_118 (by decide) ?_
  refine g_divN (a := 14962) (b := 128) hx hb rfl rfl (by omega) (by omega) (by omega) dL_word_121 ?_
  refine lv_i2c hx hb dL_word_122 rfl ?_
  refine g_top (y := 116) (by decide) ?_
  refine g_nVI (As := [.int 116]) (rest := []) ⟨hx, hb, hml, hown, hts⟩ hG hN (i := 0) (by decide) rfl rfl (c_X9_type l hl9 116 0 hn (by omega) (by decide)) (cwV 1 hts gL_word_X9_type rfl rfl rfl (by decide +kernel) ⟨Nat.le_of_ble_eq_true rfl, Nat.le_of_ble_eq_true rfl⟩) rfl hl.1 rfl (Nat.le_of_ble_eq_true rfl) dL_word_123 ⟨Nat.le_of_ble_eq_true rfl, Nat.le_of_ble_eq_true rfl⟩ (no2 (fTyp0 (n := 0) hn (by omega) (by decide))) (fun hz7 H locs hN => ?_)
  refine lv_pop hx hb dL_word_126 rfl ?_
  refine lv_aload_n hx hb dL_word_127 rfl (lv_at hl 2 rfl) ?_
  refine lv_iload_n hx hb dL_word_128 rfl (lv_at hl 1 rfl) ?_
  refine lv_sipush (v := 128) hx hb dL_word_129 (by decide) ?_
  refine g_remN (a := 14962) (b := 128) hx hb rfl rfl (by omega) (by omega) (by omega) dL_word_132 ?_
  refine lv_i2c hx hb dL_word_133 rfl ?_
  refine g_top (y := 114) (by decide) ?_
  refine g_nVI (As := [.int 114]) (rest := []) ⟨hx, hb, hml, hown, hts⟩ hG hN (i := 0) (by decide) rfl rfl (c_X9_type l hl9 114 1 (gw_ss _ _ _ _) (by omega) (by decide)) (cwV 1 hts gL_word_X9_type rfl rfl rfl (by decide +kernel) ⟨Nat.le_of_ble_eq_true rfl, Nat.le_of_ble_eq_true rfl⟩) rfl hl.1 rfl (Nat.le_of_ble_eq_true rfl) dL_word_134 ⟨Nat.le_of_ble_eq_true rfl, Nat.le_of_ble_eq_true rfl⟩ (no2 (fTyp0 (n := 1) (gw_ss _ _ _ _) (by omega) (by decide))) (fun hz8 H locs hN => ?_)
  refine lv_pop hx hb dL_word_137 rfl ?_
  refine lv_aload_n hx hb dL_word_138 rfl (lv_at hl 2 rfl) ?_
  refine lv_iload_n hx hb dL_word_139 rfl (lv_at hl 0 rfl) ?_
  refine lv_sipush (v := 128) hx hb dL_word_140 (by decide) ?_
  refine g_divN (a := 12528) (b := 128) hx hb rfl rfl (by omega) (by omega) (by omega) dL_word_143 ?_
  refine lv_i2c hx hb dL_word_144 rfl ?_
  refine g_top (y := 97) (by decide) ?_
  refine g_nVI (As := [.int 97]) (rest := []) ⟨hx, hb, hml, hown, hts⟩ hG hN (i := 0) (by decide) rfl rfl (c_X9_type l hl9 97 2 (gw_ss _ _ _ _) (by omega) (by decide)) (cwV 1 hts gL_word_X9_type rfl rfl rfl (by decide +kernel) ⟨Nat.le_of_ble_eq_true rfl, Nat.le_of_ble_eq_true rfl⟩) rfl hl.1 rfl (Nat.le_of_ble_eq_true rfl) dL_word_145 ⟨Nat.le_of_ble_eq_true rfl, Nat.le_of_ble_eq_true rfl⟩ (no2 (fTyp0 (n := 2) (gw_ss _ _ _ _) (by omega) (by decide))) (fun hz9 H locs hN => ?_)
  refine lv_pop hx hb dL_word_148 rfl ?_
  refine lv_aload_n hx hb dL_word_149 rfl (lv_at hl 2 rfl) ?_
  refine lv_iload_n hx hb dL_word_150 rfl (lv_at hl 0 rfl) ?_
  refine lv_sipush (v := 128) hx hb dL_word_151 (by decide) ?_
  refine g_remN (a := 12528) (b := 128) hx hb rfl rfl (by omega) (by omega) (by omega) dL_word_154 ?_
  refine lv_i2c hx hb dL_word_155 rfl ?_
  refine g_top (y := 112) (by decide) ?_
  refine g_nVI (As := [.int 112]) (rest := []) ⟨hx, hb, hml, hown, hts⟩ hG hN (i := 0) (by decide) rfl rfl (c_X9_type l hl9 112 3 (gw_ss _ _ _ _) (by omega) (by decide)) (cwV 1 hts gL_word_X9_type rfl rfl rfl (by decide +kernel) ⟨Nat.le_of_ble_eq_true rfl, Nat.le_of_ble_eq_true rfl⟩) rfl hl.1 rfl (Nat.le_of_ble_eq_true rfl) dL_word_156 ⟨Nat.le_of_ble_eq_true rfl, Nat.le_of_ble_eq_true rfl⟩ (no2 (fTyp0 (n := 3) (gw_ss _ _ _ _) (by omega) (by decide))) (fun hz10 H locs hN => ?_)
  refine lv_pop hx hb dL_word_159 rfl ?_
  refine lv_iload_n hx hb dL_word_160 rfl (lv_at hl 3 rfl) ?_
  refine lv_if_eq (tgt := 174) hx hb dL_word_161 (by decide) (fun c11 => False.elim (by revert c11; decide)) (fun _ => ?_)
  refine lv_iload_n hx hb dL_word_164 rfl (lv_at hl 3 rfl) ?_
  refine lv_iconst (v := 1) hx hb dL_word_165 (by decide) ?_
  refine lv_icmp_eq (tgt := 174) hx hb dL_word_166 (by decide) (fun c12 => False.elim (by revert c12; decide)) (fun _ => ?_)
  refine lv_iload_n hx hb dL_word_169 rfl (lv_at hl 3 rfl) ?_
  refine lv_iconst (v := 5) hx hb dL_word_170 (by decide) ?_
  refine lv_icmp_ne (tgt := 200) hx hb dL_word_171 (by decide) (fun _ => ?_) (fun c13 => False.elim (by revert c13; decide))
  refine lv_iload_n hx hb dL_word_200 rfl (lv_at hl 3 rfl) ?_
  refine lv_iconst (v := 4) hx hb dL_word_201 (by decide) ?_
  refine lv_icmp_ne (tgt := 240) hx hb dL_word_202 (by decide) (fun _ => ?_) (fun c14 => False.elim (by revert c14; decide))
  refine lv_aload_n hx hb dL_word_240 rfl (lv_at hl 2 rfl) ?_
  refine lv_bipush (v := 32) hx hb dL_word_241 (by decide) ?_
  refine g_nVI (As := [.int 32]) (rest := []) ⟨hx, hb, hml, hown, hts⟩ hG hN (i := 0) (by decide) rfl rfl (c_X9_type l hl9 32 4 (gw_ss _ _ _ _) (by omega) (by decide)) (cwV 1 hts gL_word_X9_type rfl rfl rfl (by decide +kernel) ⟨Nat.le_of_ble_eq_true rfl, Nat.le_of_ble_eq_true rfl⟩) rfl hl.1 rfl (Nat.le_of_ble_eq_true rfl) dL_word_243 ⟨Nat.le_of_ble_eq_true rfl, Nat.le_of_ble_eq_true rfl⟩ (no2 (fTyp0 (n := 4) (gw_ss _ _ _ _) (by omega) (by decide))) (fun hz15 H locs hN => ?_)
  refine lv_pop hx hb dL_word_246 rfl ?_
  refine W.widen (k := 10) (n := 60) (by omega) (by omega) ?_
  exact g_rv hx hb hr hlocks hN (by rw [gw_gw, gw_gw, gw_gw, gw_gw] <;> rfl) dL_word_247
set_option maxHeartbeats 4000000 in
set_option maxRecDepth 100000 in
theorem c_L_word3 (l : Launch) {D : va_G} {ad : Nat → Nat} {cs : Nat → ClassId} {zd : Nat → Nat} {F V : gF} {o : gO} {sz : Nat} (hl9 : l.stackTraces = false)  (hn : V 3 3 = 0) : Met l yL_word wsL_word ({ frames := 7, cells := 10, slots := 60, locals := 111 } : Room) (gPc D ad cs zd F V o sz [.ref (ad 0), .int 3]) (gQV D ad cs (tyF F 0 (wordL 3)) (gw V 3 3 (nI 5)) o sz) 10 60 (gX ad sz) := by
  refine g_met (Qc := fun z0 => gQV D ad cs (tyF F 0 (wordL 3)) (gw V 3 3 (nI 5)) o z0) (cc := cL_word) (maxL := 4) (ret := none) (own := RL) (by decide +kernel) rfl rfl (Nat.le_of_ble_eq_true rfl) ?_
  intro p0 e0 s0 m0 b0 k0 c0 hx hb hr hts hown hlocks hml hG hN ls hl
  have hl : lv_has ls 4 [(0, .ref (ad 0)), (1, .int 3)] := hl
  refine lv_iload_n hx hb dL_word_0 rfl (lv_at hl 1 rfl) ?_
  refine lv_if_ne (tgt := 10) hx hb dL_word_1 (by decide) (fun _ => ?_) (fun c1 => False.elim (by revert c1; decide))
  refine lv_iload_n hx hb dL_word_10 rfl (lv_at hl 1 rfl) ?_
  refine lv_iconst (v := 1) hx hb dL_word_11 (by decide) ?_
  refine lv_icmp_ne (tgt := 21) hx hb dL_word_12 (by decide) (fun _ => ?_) (fun c2 => False.elim (by revert c2; decide))
  refine lv_iload_n hx hb dL_word_21 rfl (lv_at hl 1 rfl) ?_
  refine lv_iconst (v := 2) hx hb dL_word_22 (by decide) ?_
  refine lv_icmp_ne (tgt := 32) hx hb dL_word_23 (by decide) (fun _ => ?_) (fun c3 => False.elim (by revert c3; decide))
  refine lv_iload_n hx hb dL_word_32 rfl (lv_at hl 1 rfl) ?_
  refine lv_iconst (v := 3) hx hb dL_word_33 (by decide) ?_
  refine lv_icmp_ne (tgt := 43) hx hb dL_word_34 (by decide) (fun c4 => False.elim (by revert c4; decide)) (fun _ => ?_)
  refine lv_sipush (v := 13281) hx hb dL_word_37 (by decide) ?_
  refine lv_goto (tgt := 57) hx hb dL_word_40 (by decide) ?_
  refine lv_istore_n (lv' := [(2, .int 13281), (0, .ref (ad 0)), (1, .int 3)]) hx hb dL_word_57 rfl hl (by decide) rfl (fun ls hl => ?_)
  refine lv_iload_n hx hb dL_word_58 rfl (lv_at hl 2 rfl) ?_
  refine lv_if_ne (tgt := 68) hx hb dL_word_59 (by decide) (fun _ => ?_) (fun c5 => False.elim (by revert c5; decide))
  refine lv_iload_n hx hb dL_word_68 rfl (lv_at hl 2 rfl) ?_
  refine lv_iconst (v := 1) hx hb dL_word_69 (by decide) ?_
  refine lv_icmp_ne (tgt := 79) hx hb dL_word_70 (by decide) (fun _ => ?_) (fun c6 => False.elim (by revert c6; decide))
  refine lv_iload_n hx hb dL_word_79 rfl (lv_at hl 2 rfl) ?_
  refine lv_iconst (v := 2) hx hb dL_word_80 (by decide) ?_
  refine lv_icmp_ne (tgt := 90) hx hb dL_word_81 (by decide) (fun _ => ?_) (fun c7 => False.elim (by revert c7; decide))
  refine lv_iload_n hx hb dL_word_90 rfl (lv_at hl 2 rfl) ?_
  refine lv_iconst (v := 3) hx hb dL_word_91 (by decide) ?_
  refine lv_icmp_ne (tgt := 101) hx hb dL_word_92 (by decide) (fun c8 => False.elim (by revert c8; decide)) (fun _ => ?_)
  refine lv_sipush (v := 13550) hx hb dL_word_95 (by decide) ?_
  refine lv_goto (tgt := 115) hx hb dL_word_98 (by decide) ?_
  refine lv_istore_n (lv' := [(3, .int 13550), (2, .int 13281), (0, .ref (ad 0)), (1, .int 3)]) hx hb dL_word_115 rfl hl (by decide) rfl (fun ls hl => ?_)
  refine lv_aload_n hx hb dL_word_116 rfl (lv_at hl 2 rfl) ?_
  refine lv_iload_n hx hb dL_word_117 rfl (lv_at hl 1 rfl) ?_
  refine lv_sipush (v := 128) hx hb dL_word_118 (by decide) ?_
  refine g_divN (a := 13281) (b := 128) hx hb rfl rfl (by omega) (by omega) (by omega) dL_word_121 ?_
  refine lv_i2c hx hb dL_word_122 rfl ?_
  refine g_top (y := 103) (by decide) ?_
  refine g_nVI (As := [.int 103]) (rest := []) ⟨hx, hb, hml, hown, hts⟩ hG hN (i := 0) (by decide) rfl rfl (c_X9_type l hl9 103 0 hn (by omega) (by decide)) (cwV 1 hts gL_word_X9_type rfl rfl rfl (by decide +kernel) ⟨Nat.le_of_ble_eq_true rfl, Nat.le_of_ble_eq_true rfl⟩) rfl hl.1 rfl (Nat.le_of_ble_eq_true rfl) dL_word_123 ⟨Nat.le_of_ble_eq_true rfl, Nat.le_of_ble_eq_true rfl⟩ (no2 (fTyp0 (n := 0) hn (by omega) (by decide))) (fun hz9 H locs hN => ?_)
  refine lv_pop hx hb dL_word_126 rfl ?_
  refine lv_aload_n hx hb dL_word_127 rfl (lv_at hl 2 rfl) ?_
  refine lv_iload_n hx hb dL_word_128 rfl (lv_at hl 1 rfl) ?_
  refine lv_sipush (v := 128) hx hb dL_word_129 (by decide) ?_
  refine g_remN (a := 13281) (b := 128) hx hb rfl rfl (by omega) (by omega) (by omega) dL_word_132 ?_
  refine lv_i2c hx hb dL_word_133 rfl ?_
  refine g_top (y := 97) (by decide) ?_
  refine g_nVI (As := [.int 97]) (rest := []) ⟨hx, hb, hml, hown, hts⟩ hG hN (i := 0) (by decide) rfl rfl (c_X9_type l hl9 97 1 (gw_ss _ _ _ _) (by omega) (by decide)) (cwV 1 hts gL_word_X9_type rfl rfl rfl (by decide +kernel) ⟨Nat.le_of_ble_eq_true rfl, Nat.le_of_ble_eq_true rfl⟩) rfl hl.1 rfl (Nat.le_of_ble_eq_true rfl) dL_word_134 ⟨Nat.le_of_ble_eq_true rfl, Nat.le_of_ble_eq_true rfl⟩ (no2 (fTyp0 (n := 1) (gw_ss _ _ _ _) (by omega) (by decide))) (fun hz10 H locs hN => ?_)
  refine lv_pop hx hb dL_word_137 rfl ?_
  refine lv_aload_n hx hb dL_word_138 rfl (lv_at hl 2 rfl) ?_
  refine lv_iload_n hx hb dL_word_139 rfl (lv_at hl 0 rfl) ?_
  refine lv_sipush (v := 128) hx hb dL_word_140 (by decide) ?_
  refine g_divN (a := 13550) (b := 128) hx hb rfl rfl (by omega) (by omega) (by omega) dL_word_143 ?_
  refine lv_i2c hx hb dL_word_144 rfl ?_
  refine g_top (y := 105) (by decide) ?_
  refine g_nVI (As := [.int 105]) (rest := []) ⟨hx, hb, hml, hown, hts⟩ hG hN (i := 0) (by decide) rfl rfl (c_X9_type l hl9 105 2 (gw_ss _ _ _ _) (by omega) (by decide)) (cwV 1 hts gL_word_X9_type rfl rfl rfl (by decide +kernel) ⟨Nat.le_of_ble_eq_true rfl, Nat.le_of_ble_eq_true rfl⟩) rfl hl.1 rfl (Nat.le_of_ble_eq_true rfl) dL_word_145 ⟨Nat.le_of_ble_eq_true rfl, Nat.le_of_ble_eq_true rfl⟩ (no2 (fTyp0 (n := 2) (gw_ss _ _ _ _) (by omega) (by decide))) (fun hz11 H locs hN => ?_)
  refine lv_pop hx hb dL_word_148 rfl ?_
  refine lv_aload_n hx hb dL_word_149 rfl (lv_at hl 2 rfl) ?_
  refine lv_iload_n hx hb dL_word_150 rfl (lv_at hl 0 rfl) ?_
  refine lv_sipush (v := 128) hx hb dL_word_151 (by decide) ?_
  refine g_remN (a := 13550) (b := 128) hx hb rfl rfl (by omega) (by omega) (by omega) dL_word_154 ?_
  refine lv_i2c hx hb dL_word_155 rfl ?_
  refine g_top (y := 110) (by decide) ?_
  refine g_nVI (As := [.int 110]) (rest := []) ⟨hx, hb, hml, hown, hts⟩ hG hN (i := 0) (by decide) rfl rfl (c_X9_type l hl9 110 3 (gw_ss _ _ _ _) (by omega) (by decide)) (cwV 1 hts gL_word_X9_type rfl rfl rfl (by decide +kernel) ⟨Nat.le_of_ble_eq_true rfl, Nat.le_of_ble_eq_true rfl⟩) rfl hl.1 rfl (Nat.le_of_ble_eq_true rfl) dL_word_156 ⟨Nat.le_of_ble_eq_true rfl, Nat.le_of_ble_eq_true rfl⟩ (no2 (fTyp0 (n := 3) (gw_ss _ _ _ _) (by omega) (by decide))) (fun hz12 H locs hN => ?_)
  refine lv_pop hx hb dL_word_159 rfl ?_
  refine lv_iload_n hx hb dL_word_160 rfl (lv_at hl 3 rfl) ?_
  refine lv_if_eq (tgt := 174) hx hb dL_word_161 (by decide) (fun c13 => False.elim (by revert c13; decide)) (fun _ => ?_)
  refine lv_iload_n hx hb dL_word_164 rfl (lv_at hl 3 rfl) ?_
  refine lv_iconst (v := 1) hx hb dL_word_165 (by decide) ?_
  refine lv_icmp_eq (tgt := 174) hx hb dL_word_166 (by decide) (fun c14 => False.elim (by revert c14; decide)) (fun _ => ?_)
  refine lv_iload_n hx hb dL_word_169 rfl (lv_at hl 3 rfl) ?_
  refine lv_iconst (v := 5) hx hb dL_word_170 (by decide) ?_
  refine lv_icmp_ne (tgt := 200) hx hb dL_word_171 (by decide) (fun _ => ?_) (fun c15 => False.elim (by revert c15; decide))
  refine lv_iload_n hx hb dL_word_200 rfl (lv_at hl 3 rfl) ?_
  refine lv_iconst (v := 4) hx hb dL_word_201 (by decide) ?_
  refine lv_icmp_ne (tgt := 240) hx hb dL_word_202 (by decide) (fun _ => ?_) (fun c16 => False.elim (by revert c16; decide))
  refine lv_aload_n hx hb dL_word_240 rfl (lv_at hl 2 rfl) ?_
  refine lv_bipush (v := 32) hx hb dL_word_241 (by decide) ?_
  refine g_nVI (As := [.int 32]) (rest := []) ⟨hx, hb, hml, hown, hts⟩ hG hN (i := 0) (by decide) rfl rfl (c_X9_type l hl9 32 4 (gw_ss _ _ _ _) (by omega) (by decide)) (cwV 1 hts gL_word_X9_type rfl rfl rfl (by decide +kernel) ⟨Nat.le_of_ble_eq_true rfl, Nat.le_of_ble_eq_true rfl⟩) rfl hl.1 rfl (Nat.le_of_ble_eq_true rfl) dL_word_243 ⟨Nat.le_of_ble_eq_true rfl, Nat.le_of_ble_eq_true rfl⟩ (no2 (fTyp0 (n := 4) (gw_ss _ _ _ _) (by omega) (by decide))) (fun hz17 H locs hN => ?_)
  refine lv_pop hx hb dL_word_246 rfl ?_
  refine W.widen (k := 10) (n := 60) (by omega) (by omega) ?_
  exact g_rv hx hb hr hlocks hN (by rw [gw_gw, gw_gw, gw_gw, gw_gw] <;> rfl) dL_word_247
set_option maxHeartbeats 4000000 in
set_option maxRecDepth 100000 in
theorem c_L_word4 (l : Launch) {D : va_G} {ad : Nat → Nat} {cs : Nat → ClassId} {zd : Nat → Nat} {F V : gF} {o : gO} {sz : Nat} (hl9 : l.stackTraces = false)  (hn : V 3 3 = 0) : Met l yL_word wsL_word ({ frames := 7, cells := 10, slots := 60, locals := 111 } : Room) (gPc D ad cs zd F V o sz [.ref (ad 0), .int 4]) (gQV D ad cs (tyF F 0 (wordL 4)) (gw V 3 3 (nI 10)) o sz) 10 60 (gX ad sz) := by
  refine g_met (Qc := fun z0 => gQV D ad cs (tyF F 0 (wordL 4)) (gw V 3 3 (nI 10)) o z0) (cc := cL_word) (maxL := 4) (ret := none) (own := RL) (by decide +kernel) rfl rfl (Nat.le_of_ble_eq_true rfl) ?_
  intro p0 e0 s0 m0 b0 k0 c0 hx hb hr hts hown hlocks hml hG hN ls hl
  have hl : lv_has ls 4 [(0, .ref (ad 0)), (1, .int 4)] := hl
  refine lv_iload_n hx hb dL_word_0 rfl (lv_at hl 1 rfl) ?_
  refine lv_if_ne (tgt := 10) hx hb dL_word_1 (by decide) (fun _ => ?_) (fun c1 => False.elim (by revert c1; decide))
  refine lv_iload_n hx hb dL_word_10 rfl (lv_at hl 1 rfl) ?_
  refine lv_iconst (v := 1) hx hb dL_word_11 (by decide) ?_
  refine lv_icmp_ne (tgt := 21) hx hb dL_word_12 (by decide) (fun _ => ?_) (fun c2 => False.elim (by revert c2; decide))
  refine lv_iload_n hx hb dL_word_21 rfl (lv_at hl 1 rfl) ?_
  refine lv_iconst (v := 2) hx hb dL_word_22 (by decide) ?_
  refine lv_icmp_ne (tgt := 32) hx hb dL_word_23 (by decide) (fun _ => ?_) (fun c3 => False.elim (by revert c3; decide))
  refine lv_iload_n hx hb dL_word_32 rfl (lv_at hl 1 rfl) ?_
  refine lv_iconst (v := 3) hx hb dL_word_33 (by decide) ?_
  refine lv_icmp_ne (tgt := 43) hx hb dL_word_34 (by decide) (fun _ => ?_) (fun c4 => False.elim (by revert c4; decide))
  refine lv_iload_n hx hb dL_word_43 rfl (lv_at hl 1 rfl) ?_
  refine lv_iconst (v := 4) hx hb dL_word_44 (by decide) ?_
  refine lv_icmp_ne (tgt := 54) hx hb dL_word_45 (by decide) (fun c5 => False.elim (by revert c5; decide)) (fun _ => ?_)
  refine lv_sipush (v := 14959) hx hb dL_word_48 (by decide) ?_
  refine lv_goto (tgt := 57) hx hb dL_word_51 (by decide) ?_
  refine lv_istore_n (lv' := [(2, .int 14959), (0, .ref (ad 0)), (1, .int 4)]) hx hb dL_word_57 rfl hl (by decide) rfl (fun ls hl => ?_)
  refine lv_iload_n hx hb dL_word_58 rfl (lv_at hl 2 rfl) ?_
  refine lv_if_ne (tgt := 68) hx hb dL_word_59 (by decide) (fun _ => ?_) (fun c6 => False.elim (by revert c6; decide))
  refine lv_iload_n hx hb dL_word_68 rfl (lv_at hl 2 rfl) ?_
  refine lv_iconst (v := 1) hx hb dL_word_69 (by decide) ?_
  refine lv_icmp_ne (tgt := 79) hx hb dL_word_70 (by decide) (fun _ => ?_) (fun c7 => False.elim (by revert c7; decide))
  refine lv_iload_n hx hb dL_word_79 rfl (lv_at hl 2 rfl) ?_
  refine lv_iconst (v := 2) hx hb dL_word_80 (by decide) ?_
  refine lv_icmp_ne (tgt := 90) hx hb dL_word_81 (by decide) (fun _ => ?_) (fun c8 => False.elim (by revert c8; decide))
  refine lv_iload_n hx hb dL_word_90 rfl (lv_at hl 2 rfl) ?_
  refine lv_iconst (v := 3) hx hb dL_word_91 (by decide) ?_
  refine lv_icmp_ne (tgt := 101) hx hb dL_word_92 (by decide) (fun _ => ?_) (fun c9 => False.elim (by revert c9; decide))
  refine lv_iload_n hx hb dL_word_101 rfl (lv_at hl 2 rfl) ?_
  refine lv_iconst (v := 4) hx hb dL_word_102 (by decide) ?_
  refine lv_icmp_ne (tgt := 112) hx hb dL_word_103 (by decide) (fun c10 => False.elim (by revert c10; decide)) (fun _ => ?_)
  refine lv_sipush (v := 13925) hx hb dL_word_106 (by decide) ?_
  refine lv_goto (tgt := 115) hx hb dL_word_109 (by decide) ?_
  refine lv_istore_n (lv' := [(3, .int 13925), (2, .int 14959), (0, .ref (ad 0)), (1, .int 4)]) hx hb dL_word_115 rfl hl (by decide) rfl (fun ls hl => ?_)
  refine lv_aload_n hx hb dL_word_116 rfl (lv_at hl 2 rfl) ?_
  refine lv_iload_n hx hb dL_word_117 rfl (lv_at hl 1 rfl) ?_
  refine lv_sipush (v := 128) hx hb dL_word_118 (by decide) ?_
  refine g_divN (a := 14959) (b := 128) hx hb rfl rfl (by omega) (by omega) (by omega) dL_word_121 ?_
  refine lv_i2c hx hb dL_word_122 rfl ?_
  refine g_top (y := 116) (by decide) ?_
  refine g_nVI (As := [.int 116]) (rest := []) ⟨hx, hb, hml, hown, hts⟩ hG hN (i := 0) (by decide) rfl rfl (c_X9_type l hl9 116 0 hn (by omega) (by decide)) (cwV 1 hts gL_word_X9_type rfl rfl rfl (by decide +kernel) ⟨Nat.le_of_ble_eq_true rfl, Nat.le_of_ble_eq_true rfl⟩) rfl hl.1 rfl (Nat.le_of_ble_eq_true rfl) dL_word_123 ⟨Nat.le_of_ble_eq_true rfl, Nat.le_of_ble_eq_true rfl⟩ (no2 (fTyp0 (n := 0) hn (by omega) (by decide))) (fun hz11 H locs hN => ?_)
  refine lv_pop hx hb dL_word_126 rfl ?_
  refine lv_aload_n hx hb dL_word_127 rfl (lv_at hl 2 rfl) ?_
  refine lv_iload_n hx hb dL_word_128 rfl (lv_at hl 1 rfl) ?_
  refine lv_sipush (v := 128) hx hb dL_word_129 (by decide) ?_
  refine g_remN (a := 14959) (b := 128) hx hb rfl rfl (by omega) (by omega) (by omega) dL_word_132 ?_
  refine lv_i2c hx hb dL_word_133 rfl ?_
  refine g_top (y := 111) (by decide) ?_
  refine g_nVI (As := [.int 111]) (rest := []) ⟨hx, hb, hml, hown, hts⟩ hG hN (i := 0) (by decide) rfl rfl (c_X9_type l hl9 111 1 (gw_ss _ _ _ _) (by omega) (by decide)) (cwV 1 hts gL_word_X9_type rfl rfl rfl (by decide +kernel) ⟨Nat.le_of_ble_eq_true rfl, Nat.le_of_ble_eq_true rfl⟩) rfl hl.1 rfl (Nat.le_of_ble_eq_true rfl) dL_word_134 ⟨Nat.le_of_ble_eq_true rfl, Nat.le_of_ble_eq_true rfl⟩ (no2 (fTyp0 (n := 1) (gw_ss _ _ _ _) (by omega) (by decide))) (fun hz12 H locs hN => ?_)
  refine lv_pop hx hb dL_word_137 rfl ?_
  refine lv_aload_n hx hb dL_word_138 rfl (lv_at hl 2 rfl) ?_
  refine lv_iload_n hx hb dL_word_139 rfl (lv_at hl 0 rfl) ?_
  refine lv_sipush (v := 128) hx hb dL_word_140 (by decide) ?_
  refine g_divN (a := 13925) (b := 128) hx hb rfl rfl (by omega) (by omega) (by omega) dL_word_143 ?_
  refine lv_i2c hx hb dL_word_144 rfl ?_
  refine g_top (y := 108) (by decide) ?_
  refine g_nVI (As := [.int 108]) (rest := []) ⟨hx, hb, hml, hown, hts⟩ hG hN (i := 0) (by decide) rfl rfl (c_X9_type l hl9 108 2 (gw_ss _ _ _ _) (by omega) (by decide)) (cwV 1 hts gL_word_X9_type rfl rfl rfl (by decide +kernel) ⟨Nat.le_of_ble_eq_true rfl, Nat.le_of_ble_eq_true rfl⟩) rfl hl.1 rfl (Nat.le_of_ble_eq_true rfl) dL_word_145 ⟨Nat.le_of_ble_eq_true rfl, Nat.le_of_ble_eq_true rfl⟩ (no2 (fTyp0 (n := 2) (gw_ss _ _ _ _) (by omega) (by decide))) (fun hz13 H locs hN => ?_)
  refine lv_pop hx hb dL_word_148 rfl ?_
  refine lv_aload_n hx hb dL_word_149 rfl (lv_at hl 2 rfl) ?_
  refine lv_iload_n hx hb dL_word_150 rfl (lv_at hl 0 rfl) ?_
  refine lv_sipush (v := 128) hx hb dL_word_151 (by decide) ?_
  refine g_remN (a := 13925) (b := 128) hx hb rfl rfl (by omega) (by omega) (by omega) dL_word_154 ?_
  refine lv_i2c hx hb dL_word_155 rfl ?_
  refine g_top (y := 101) (by decide) ?_
  refine g_nVI (As := [.int 101]) (rest := []) ⟨hx, hb, hml, hown, hts⟩ hG hN (i := 0) (by decide) rfl rfl (c_X9_type l hl9 101 3 (gw_ss _ _ _ _) (by omega) (by decide)) (cwV 1 hts gL_word_X9_type rfl rfl rfl (by decide +kernel) ⟨Nat.le_of_ble_eq_true rfl, Nat.le_of_ble_eq_true rfl⟩) rfl hl.1 rfl (Nat.le_of_ble_eq_true rfl) dL_word_156 ⟨Nat.le_of_ble_eq_true rfl, Nat.le_of_ble_eq_true rfl⟩ (no2 (fTyp0 (n := 3) (gw_ss _ _ _ _) (by omega) (by decide))) (fun hz14 H locs hN => ?_)
  refine lv_pop hx hb dL_word_159 rfl ?_
  refine lv_iload_n hx hb dL_word_160 rfl (lv_at hl 3 rfl) ?_
  refine lv_if_eq (tgt := 174) hx hb dL_word_161 (by decide) (fun c15 => False.elim (by revert c15; decide)) (fun _ => ?_)
  refine lv_iload_n hx hb dL_word_164 rfl (lv_at hl 3 rfl) ?_
  refine lv_iconst (v := 1) hx hb dL_word_165 (by decide) ?_
  refine lv_icmp_eq (tgt := 174) hx hb dL_word_166 (by decide) (fun c16 => False.elim (by revert c16; decide)) (fun _ => ?_)
  refine lv_iload_n hx hb dL_word_169 rfl (lv_at hl 3 rfl) ?_
  refine lv_iconst (v := 5) hx hb dL_word_170 (by decide) ?_
  refine lv_icmp_ne (tgt := 200) hx hb dL_word_171 (by decide) (fun _ => ?_) (fun c17 => False.elim (by revert c17; decide))
  refine lv_iload_n hx hb dL_word_200 rfl (lv_at hl 3 rfl) ?_
  refine lv_iconst (v := 4) hx hb dL_word_201 (by decide) ?_
  refine lv_icmp_ne (tgt := 240) hx hb dL_word_202 (by decide) (fun c18 => False.elim (by revert c18; decide)) (fun _ => ?_)
  refine lv_aload_n hx hb dL_word_205 rfl (lv_at hl 2 rfl) ?_
  refine lv_bipush (v := 114) hx hb dL_word_206 (by decide) ?_
  refine g_nVI (As := [.int 114]) (rest := []) ⟨hx, hb, hml, hown, hts⟩ hG hN (i := 0) (by decide) rfl rfl (c_X9_type l hl9 114 4 (gw_ss _ _ _ _) (by omega) (by decide)) (cwV 1 hts gL_word_X9_type rfl rfl rfl (by decide +kernel) ⟨Nat.le_of_ble_eq_true rfl, Nat.le_of_ble_eq_true rfl⟩) rfl hl.1 rfl (Nat.le_of_ble_eq_true rfl) dL_word_208 ⟨Nat.le_of_ble_eq_true rfl, Nat.le_of_ble_eq_true rfl⟩ (no2 (fTyp0 (n := 4) (gw_ss _ _ _ _) (by omega) (by decide))) (fun hz19 H locs hN => ?_)
  refine lv_pop hx hb dL_word_211 rfl ?_
  refine lv_aload_n hx hb dL_word_212 rfl (lv_at hl 2 rfl) ?_
  refine lv_bipush (v := 97) hx hb dL_word_213 (by decide) ?_
  refine g_nVI (As := [.int 97]) (rest := []) ⟨hx, hb, hml, hown, hts⟩ hG hN (i := 0) (by decide) rfl rfl (c_X9_type l hl9 97 5 (gw_ss _ _ _ _) (by omega) (by decide)) (cwV 1 hts gL_word_X9_type rfl rfl rfl (by decide +kernel) ⟨Nat.le_of_ble_eq_true rfl, Nat.le_of_ble_eq_true rfl⟩) rfl hl.1 rfl (Nat.le_of_ble_eq_true rfl) dL_word_215 ⟨Nat.le_of_ble_eq_true rfl, Nat.le_of_ble_eq_true rfl⟩ (no2 (fTyp0 (n := 5) (gw_ss _ _ _ _) (by omega) (by decide))) (fun hz20 H locs hN => ?_)
  refine lv_pop hx hb dL_word_218 rfl ?_
  refine lv_aload_n hx hb dL_word_219 rfl (lv_at hl 2 rfl) ?_
  refine lv_bipush (v := 110) hx hb dL_word_220 (by decide) ?_
  refine g_nVI (As := [.int 110]) (rest := []) ⟨hx, hb, hml, hown, hts⟩ hG hN (i := 0) (by decide) rfl rfl (c_X9_type l hl9 110 6 (gw_ss _ _ _ _) (by omega) (by decide)) (cwV 1 hts gL_word_X9_type rfl rfl rfl (by decide +kernel) ⟨Nat.le_of_ble_eq_true rfl, Nat.le_of_ble_eq_true rfl⟩) rfl hl.1 rfl (Nat.le_of_ble_eq_true rfl) dL_word_222 ⟨Nat.le_of_ble_eq_true rfl, Nat.le_of_ble_eq_true rfl⟩ (no2 (fTyp0 (n := 6) (gw_ss _ _ _ _) (by omega) (by decide))) (fun hz21 H locs hN => ?_)
  refine lv_pop hx hb dL_word_225 rfl ?_
  refine lv_aload_n hx hb dL_word_226 rfl (lv_at hl 2 rfl) ?_
  refine lv_bipush (v := 99) hx hb dL_word_227 (by decide) ?_
  refine g_nVI (As := [.int 99]) (rest := []) ⟨hx, hb, hml, hown, hts⟩ hG hN (i := 0) (by decide) rfl rfl (c_X9_type l hl9 99 7 (gw_ss _ _ _ _) (by omega) (by decide)) (cwV 1 hts gL_word_X9_type rfl rfl rfl (by decide +kernel) ⟨Nat.le_of_ble_eq_true rfl, Nat.le_of_ble_eq_true rfl⟩) rfl hl.1 rfl (Nat.le_of_ble_eq_true rfl) dL_word_229 ⟨Nat.le_of_ble_eq_true rfl, Nat.le_of_ble_eq_true rfl⟩ (no2 (fTyp0 (n := 7) (gw_ss _ _ _ _) (by omega) (by decide))) (fun hz22 H locs hN => ?_)
  refine lv_pop hx hb dL_word_232 rfl ?_
  refine lv_aload_n hx hb dL_word_233 rfl (lv_at hl 2 rfl) ?_
  refine lv_bipush (v := 101) hx hb dL_word_234 (by decide) ?_
  refine g_nVI (As := [.int 101]) (rest := []) ⟨hx, hb, hml, hown, hts⟩ hG hN (i := 0) (by decide) rfl rfl (c_X9_type l hl9 101 8 (gw_ss _ _ _ _) (by omega) (by decide)) (cwV 1 hts gL_word_X9_type rfl rfl rfl (by decide +kernel) ⟨Nat.le_of_ble_eq_true rfl, Nat.le_of_ble_eq_true rfl⟩) rfl hl.1 rfl (Nat.le_of_ble_eq_true rfl) dL_word_236 ⟨Nat.le_of_ble_eq_true rfl, Nat.le_of_ble_eq_true rfl⟩ (no2 (fTyp0 (n := 8) (gw_ss _ _ _ _) (by omega) (by decide))) (fun hz23 H locs hN => ?_)
  refine lv_pop hx hb dL_word_239 rfl ?_
  refine lv_aload_n hx hb dL_word_240 rfl (lv_at hl 2 rfl) ?_
  refine lv_bipush (v := 32) hx hb dL_word_241 (by decide) ?_
  refine g_nVI (As := [.int 32]) (rest := []) ⟨hx, hb, hml, hown, hts⟩ hG hN (i := 0) (by decide) rfl rfl (c_X9_type l hl9 32 9 (gw_ss _ _ _ _) (by omega) (by decide)) (cwV 1 hts gL_word_X9_type rfl rfl rfl (by decide +kernel) ⟨Nat.le_of_ble_eq_true rfl, Nat.le_of_ble_eq_true rfl⟩) rfl hl.1 rfl (Nat.le_of_ble_eq_true rfl) dL_word_243 ⟨Nat.le_of_ble_eq_true rfl, Nat.le_of_ble_eq_true rfl⟩ (no2 (fTyp0 (n := 9) (gw_ss _ _ _ _) (by omega) (by decide))) (fun hz24 H locs hN => ?_)
  refine lv_pop hx hb dL_word_246 rfl ?_
  exact g_rv hx hb hr hlocks hN (by rw [gw_gw, gw_gw, gw_gw, gw_gw, gw_gw, gw_gw, gw_gw, gw_gw, gw_gw] <;> rfl) dL_word_247
set_option maxHeartbeats 4000000 in
set_option maxRecDepth 100000 in
theorem c_L_word5 (l : Launch) {D : va_G} {ad : Nat → Nat} {cs : Nat → ClassId} {zd : Nat → Nat} {F V : gF} {o : gO} {sz : Nat} (hl9 : l.stackTraces = false)  (hn : V 3 3 = 0) : Met l yL_word wsL_word ({ frames := 7, cells := 10, slots := 60, locals := 111 } : Room) (gPc D ad cs zd F V o sz [.ref (ad 0), .int 5]) (gQV D ad cs (tyF F 0 (wordL 5)) (gw V 3 3 (nI 6)) o sz) 10 60 (gX ad sz) := by
  refine g_met (Qc := fun z0 => gQV D ad cs (tyF F 0 (wordL 5)) (gw V 3 3 (nI 6)) o z0) (cc := cL_word) (maxL := 4) (ret := none) (own := RL) (by decide +kernel) rfl rfl (Nat.le_of_ble_eq_true rfl) ?_
  intro p0 e0 s0 m0 b0 k0 c0 hx hb hr hts hown hlocks hml hG hN ls hl
  have hl : lv_has ls 4 [(0, .ref (ad 0)), (1, .int 5)] := hl
  refine lv_iload_n hx hb dL_word_0 rfl (lv_at hl 1 rfl) ?_
  refine lv_if_ne (tgt := 10) hx hb dL_word_1 (by decide) (fun _ => ?_) (fun c1 => False.elim (by revert c1; decide))
  refine lv_iload_n hx hb dL_word_10 rfl (lv_at hl 1 rfl) ?_
  refine lv_iconst (v := 1) hx hb dL_word_11 (by decide) ?_
  refine lv_icmp_ne (tgt := 21) hx hb dL_word_12 (by decide) (fun _ => ?_) (fun c2 => False.elim (by revert c2; decide))
  refine lv_iload_n hx hb dL_word_21 rfl (lv_at hl 1 rfl) ?_
  refine lv_iconst (v := 2) hx hb dL_word_22 (by decide) ?_
  refine lv_icmp_ne (tgt := 32) hx hb dL_word_23 (by decide) (fun _ => ?_) (fun c3 => False.elim (by revert c3; decide))
  refine lv_iload_n hx hb dL_word_32 rfl (lv_at hl 1 rfl) ?_
  refine lv_iconst (v := 3) hx hb dL_word_33 (by decide) ?_
  refine lv_icmp_ne (tgt := 43) hx hb dL_word_34 (by decide) (fun _ => ?_) (fun c4 => False.elim (by revert c4; decide))
  refine lv_iload_n hx hb dL_word_43 rfl (lv_at hl 1 rfl) ?_
  refine lv_iconst (v := 4) hx hb dL_word_44 (by decide) ?_
  refine lv_icmp_ne (tgt := 54) hx hb dL_word_45 (by decide) (fun _ => ?_) (fun c5 => False.elim (by revert c5; decide))
  refine lv_sipush (v := 12901) hx hb dL_word_54 (by decide) ?_
  refine lv_istore_n (lv' := [(2, .int 12901), (0, .ref (ad 0)), (1, .int 5)]) hx hb dL_word_57 rfl hl (by decide) rfl (fun ls hl => ?_)
  refine lv_iload_n hx hb dL_word_58 rfl (lv_at hl 2 rfl) ?_
  refine lv_if_ne (tgt := 68) hx hb dL_word_59 (by decide) (fun _ => ?_) (fun c6 => False.elim (by revert c6; decide))
  refine lv_iload_n hx hb dL_word_68 rfl (lv_at hl 2 rfl) ?_
  refine lv_iconst (v := 1) hx hb dL_word_69 (by decide) ?_
  refine lv_icmp_ne (tgt := 79) hx hb dL_word_70 (by decide) (fun _ => ?_) (fun c7 => False.elim (by revert c7; decide))
  refine lv_iload_n hx hb dL_word_79 rfl (lv_at hl 2 rfl) ?_
  refine lv_iconst (v := 2) hx hb dL_word_80 (by decide) ?_
  refine lv_icmp_ne (tgt := 90) hx hb dL_word_81 (by decide) (fun _ => ?_) (fun c8 => False.elim (by revert c8; decide))
  refine lv_iload_n hx hb dL_word_90 rfl (lv_at hl 2 rfl) ?_
  refine lv_iconst (v := 3) hx hb dL_word_91 (by decide) ?_
  refine lv_icmp_ne (tgt := 101) hx hb dL_word_92 (by decide) (fun _ => ?_) (fun c9 => False.elim (by revert c9; decide))
  refine lv_iload_n hx hb dL_word_101 rfl (lv_at hl 2 rfl) ?_
  refine lv_iconst (v := 4) hx hb dL_word_102 (by decide) ?_
  refine lv_icmp_ne (tgt := 112) hx hb dL_word_103 (by decide) (fun _ => ?_) (fun c10 => False.elim (by revert c10; decide))
  refine lv_sipush (v := 13921) hx hb dL_word_112 (by decide) ?_
  refine lv_istore_n (lv' := [(3, .int 13921), (2, .int 12901), (0, .ref (ad 0)), (1, .int 5)]) hx hb dL_word_115 rfl hl (by decide) rfl (fun ls hl => ?_)
  refine lv_aload_n hx hb dL_word_116 rfl (lv_at hl 2 rfl) ?_
  refine lv_iload_n hx hb dL_word_117 rfl (lv_at hl 1 rfl) ?_
  refine lv_sipush (v := 128) hx hb dL_word_118 (by decide) ?_
  refine g_divN (a := 12901) (b := 128) hx hb rfl rfl (by omega) (by omega) (by omega) dL_word_121 ?_
  refine lv_i2c hx hb dL_word_122 rfl ?_
  refine g_top (y := 100) (by decide) ?_
  refine g_nVI (As := [.int 100]) (rest := []) ⟨hx, hb, hml, hown, hts⟩ hG hN (i := 0) (by decide) rfl rfl (c_X9_type l hl9 100 0 hn (by omega) (by decide)) (cwV 1 hts gL_word_X9_type rfl rfl rfl (by decide +kernel) ⟨Nat.le_of_ble_eq_true rfl, Nat.le_of_ble_eq_true rfl⟩) rfl hl.1 rfl (Nat.le_of_ble_eq_true rfl) dL_word_123 ⟨Nat.le_of_ble_eq_true rfl, Nat.le_of_ble_eq_true rfl⟩ (no2 (fTyp0 (n := 0) hn (by omega) (by decide))) (fun hz11 H locs hN => ?_)
  refine lv_pop hx hb dL_word_126 rfl ?_
  refine lv_aload_n hx hb dL_word_127 rfl (lv_at hl 2 rfl) ?_
  refine lv_iload_n hx hb dL_word_128 rfl (lv_at hl 1 rfl) ?_
  refine lv_sipush (v := 128) hx hb dL_word_129 (by decide) ?_
  refine g_remN (a := 12901) (b := 128) hx hb rfl rfl (by omega) (by omega) (by omega) dL_word_132 ?_
  refine lv_i2c hx hb dL_word_133 rfl ?_
  refine g_top (y := 101) (by decide) ?_
  refine g_nVI (As := [.int 101]) (rest := []) ⟨hx, hb, hml, hown, hts⟩ hG hN (i := 0) (by decide) rfl rfl (c_X9_type l hl9 101 1 (gw_ss _ _ _ _) (by omega) (by decide)) (cwV 1 hts gL_word_X9_type rfl rfl rfl (by decide +kernel) ⟨Nat.le_of_ble_eq_true rfl, Nat.le_of_ble_eq_true rfl⟩) rfl hl.1 rfl (Nat.le_of_ble_eq_true rfl) dL_word_134 ⟨Nat.le_of_ble_eq_true rfl, Nat.le_of_ble_eq_true rfl⟩ (no2 (fTyp0 (n := 1) (gw_ss _ _ _ _) (by omega) (by decide))) (fun hz12 H locs hN => ?_)
  refine lv_pop hx hb dL_word_137 rfl ?_
  refine lv_aload_n hx hb dL_word_138 rfl (lv_at hl 2 rfl) ?_
  refine lv_iload_n hx hb dL_word_139 rfl (lv_at hl 0 rfl) ?_
  refine lv_sipush (v := 128) hx hb dL_word_140 (by decide) ?_
  refine g_divN (a := 13921) (b := 128) hx hb rfl rfl (by omega) (by omega) (by omega) dL_word_143 ?_
  refine lv_i2c hx hb dL_word_144 rfl ?_
  refine g_top (y := 108) (by decide) ?_
  refine g_nVI (As := [.int 108]) (rest := []) ⟨hx, hb, hml, hown, hts⟩ hG hN (i := 0) (by decide) rfl rfl (c_X9_type l hl9 108 2 (gw_ss _ _ _ _) (by omega) (by decide)) (cwV 1 hts gL_word_X9_type rfl rfl rfl (by decide +kernel) ⟨Nat.le_of_ble_eq_true rfl, Nat.le_of_ble_eq_true rfl⟩) rfl hl.1 rfl (Nat.le_of_ble_eq_true rfl) dL_word_145 ⟨Nat.le_of_ble_eq_true rfl, Nat.le_of_ble_eq_true rfl⟩ (no2 (fTyp0 (n := 2) (gw_ss _ _ _ _) (by omega) (by decide))) (fun hz13 H locs hN => ?_)
  refine lv_pop hx hb dL_word_148 rfl ?_
  refine lv_aload_n hx hb dL_word_149 rfl (lv_at hl 2 rfl) ?_
  refine lv_iload_n hx hb dL_word_150 rfl (lv_at hl 0 rfl) ?_
  refine lv_sipush (v := 128) hx hb dL_word_151 (by decide) ?_
  refine g_remN (a := 13921) (b := 128) hx hb rfl rfl (by omega) (by omega) (by omega) dL_word_154 ?_
  refine lv_i2c hx hb dL_word_155 rfl ?_
  refine g_top (y := 97) (by decide) ?_
  refine g_nVI (As := [.int 97]) (rest := []) ⟨hx, hb, hml, hown, hts⟩ hG hN (i := 0) (by decide) rfl rfl (c_X9_type l hl9 97 3 (gw_ss _ _ _ _) (by omega) (by decide)) (cwV 1 hts gL_word_X9_type rfl rfl rfl (by decide +kernel) ⟨Nat.le_of_ble_eq_true rfl, Nat.le_of_ble_eq_true rfl⟩) rfl hl.1 rfl (Nat.le_of_ble_eq_true rfl) dL_word_156 ⟨Nat.le_of_ble_eq_true rfl, Nat.le_of_ble_eq_true rfl⟩ (no2 (fTyp0 (n := 3) (gw_ss _ _ _ _) (by omega) (by decide))) (fun hz14 H locs hN => ?_)
  refine lv_pop hx hb dL_word_159 rfl ?_
  refine lv_iload_n hx hb dL_word_160 rfl (lv_at hl 3 rfl) ?_
  refine lv_if_eq (tgt := 174) hx hb dL_word_161 (by decide) (fun c15 => False.elim (by revert c15; decide)) (fun _ => ?_)
  refine lv_iload_n hx hb dL_word_164 rfl (lv_at hl 3 rfl) ?_
  refine lv_iconst (v := 1) hx hb dL_word_165 (by decide) ?_
  refine lv_icmp_eq (tgt := 174) hx hb dL_word_166 (by decide) (fun c16 => False.elim (by revert c16; decide)) (fun _ => ?_)
  refine lv_iload_n hx hb dL_word_169 rfl (lv_at hl 3 rfl) ?_
  refine lv_iconst (v := 5) hx hb dL_word_170 (by decide) ?_
  refine lv_icmp_ne (tgt := 200) hx hb dL_word_171 (by decide) (fun c17 => False.elim (by revert c17; decide)) (fun _ => ?_)
  refine lv_aload_n hx hb dL_word_174 rfl (lv_at hl 2 rfl) ?_
  refine lv_iload_n hx hb dL_word_175 rfl (lv_at hl 3 rfl) ?_
  refine lv_if_ne (tgt := 184) hx hb dL_word_176 (by decide) (fun _ => ?_) (fun c18 => False.elim (by revert c18; decide))
  refine lv_iload_n hx hb dL_word_184 rfl (lv_at hl 3 rfl) ?_
  refine lv_iconst (v := 1) hx hb dL_word_185 (by decide) ?_
  refine lv_icmp_ne (tgt := 194) hx hb dL_word_186 (by decide) (fun _ => ?_) (fun c19 => False.elim (by revert c19; decide))
  refine lv_bipush (v := 121) hx hb dL_word_194 (by decide) ?_
  refine g_nVI (As := [.int 121]) (rest := []) ⟨hx, hb, hml, hown, hts⟩ hG hN (i := 0) (by decide) rfl rfl (c_X9_type l hl9 121 4 (gw_ss _ _ _ _) (by omega) (by decide)) (cwV 1 hts gL_word_X9_type rfl rfl rfl (by decide +kernel) ⟨Nat.le_of_ble_eq_true rfl, Nat.le_of_ble_eq_true rfl⟩) rfl hl.1 rfl (Nat.le_of_ble_eq_true rfl) dL_word_196 ⟨Nat.le_of_ble_eq_true rfl, Nat.le_of_ble_eq_true rfl⟩ (no2 (fTyp0 (n := 4) (gw_ss _ _ _ _) (by omega) (by decide))) (fun hz20 H locs hN => ?_)
  refine lv_pop hx hb dL_word_199 rfl ?_
  refine lv_iload_n hx hb dL_word_200 rfl (lv_at hl 3 rfl) ?_
  refine lv_iconst (v := 4) hx hb dL_word_201 (by decide) ?_
  refine lv_icmp_ne (tgt := 240) hx hb dL_word_202 (by decide) (fun _ => ?_) (fun c21 => False.elim (by revert c21; decide))
  refine lv_aload_n hx hb dL_word_240 rfl (lv_at hl 2 rfl) ?_
  refine lv_bipush (v := 32) hx hb dL_word_241 (by decide) ?_
  refine g_nVI (As := [.int 32]) (rest := []) ⟨hx, hb, hml, hown, hts⟩ hG hN (i := 0) (by decide) rfl rfl (c_X9_type l hl9 32 5 (gw_ss _ _ _ _) (by omega) (by decide)) (cwV 1 hts gL_word_X9_type rfl rfl rfl (by decide +kernel) ⟨Nat.le_of_ble_eq_true rfl, Nat.le_of_ble_eq_true rfl⟩) rfl hl.1 rfl (Nat.le_of_ble_eq_true rfl) dL_word_243 ⟨Nat.le_of_ble_eq_true rfl, Nat.le_of_ble_eq_true rfl⟩ (no2 (fTyp0 (n := 5) (gw_ss _ _ _ _) (by omega) (by decide))) (fun hz22 H locs hN => ?_)
  refine lv_pop hx hb dL_word_246 rfl ?_
  refine W.widen (k := 10) (n := 60) (by omega) (by omega) ?_
  exact g_rv hx hb hr hlocks hN (by rw [gw_gw, gw_gw, gw_gw, gw_gw, gw_gw] <;> rfl) dL_word_247
set_option maxHeartbeats 4000000 in
set_option maxRecDepth 100000 in
theorem c_L_rules (l : Launch) {D : va_G} {ad : Nat → Nat} {cs : Nat → ClassId} {zd : Nat → Nat} {F V : gF} {o : gO} {sz : Nat} (hl9 : l.stackTraces = false) (x y b : Nat) (hx31 : x < 2 ^ 31) (hy31 : y < 2 ^ 31) (hP : PI F V b) : Met l yL_rules wsL_rules ({ frames := 9, cells := 20, slots := 120, locals := 201 } : Room) (gPc D ad cs zd F V o sz [.ref (ad 0), .int (nI x), .int (nI y), .ref (ad 43)]) (gQi D ad cs sz (fun r9 u9 => r9 = 1 ∧ u9.2.2 = o ∧ PI u9.1 u9.2.1 b)) 20 120 (gX ad sz) := by
  refine g_met (Qc := fun z0 => gQi D ad cs z0 (fun r9 u9 => r9 = 1 ∧ u9.2.2 = o ∧ PI u9.1 u9.2.1 b)) (cc := cL_rules) (maxL := 11) (ret := (some .boolean)) (own := RL) (by decide +kernel) rfl rfl (Nat.le_of_ble_eq_true rfl) ?_
  intro p0 e0 s0 m0 b0 k0 c0 hx hb hr hts hown hlocks hml hG hN ls hl
  have hl : lv_has ls 11 [(0, .ref (ad 0)), (1, .int (nI x)), (2, .int (nI y)), (3, .ref (ad 43))] := hl
  refine lv_iload_n hx hb dL_rules_0 rfl (lv_at hl 1 rfl) ?_
  refine lv_bipush (v := 6) hx hb dL_rules_1 (by decide) ?_
  refine g_remN (a := x) (b := 6) hx hb rfl rfl (by omega) (by omega) (by omega) dL_rules_3 ?_
  have h6 : x % 6 = 0 ∨ x % 6 = 1 ∨ x % 6 = 2 ∨ x % 6 = 3 ∨ x % 6 = 4 ∨ x % 6 = 5 := by omega
  rcases h6 with e6 | e6 | e6 | e6 | e6 | e6
  · refine g_top (y := 0) (by rw [e6]; rfl) ?_
    refine lv_istore (lv' := [(4, .int 0), (0, .ref (ad 0)), (1, .int (nI x)), (2, .int (nI y)), (3, .ref (ad 43))]) hx hb dL_rules_4 hl (by decide) rfl (fun ls hl => ?_)
    refine lv_iload_n hx hb dL_rules_6 rfl (lv_at hl 2 rfl) ?_
    refine lv_bipush (v := 6) hx hb dL_rules_7 (by decide) ?_
    refine g_divN (a := x) (b := 6) hx hb rfl rfl (by omega) (by omega) (by omega) dL_rules_9 ?_
    refine lv_iconst (v := 5) hx hb dL_rules_10 (by decide) ?_
    refine g_remN (a := x / 6) (b := 5) hx hb rfl rfl (by omega) (by omega) (by omega) dL_rules_11 ?_
    obtain ⟨i9, hi9, ei9⟩ : ∃ q, q < 5 ∧ (x / 6) % 5 = q := ⟨_, by omega, rfl⟩
    refine g_top (y := nI i9) (by rw [ei9]) ?_
    refine lv_istore (lv' := [(5, .int (nI i9)), (4, .int 0), (0, .ref (ad 0)), (1, .int (nI x)), (2, .int (nI y)), (3, .ref (ad 43))]) hx hb dL_rules_12 hl (by decide) rfl (fun ls hl => ?_)
    refine lv_iload hx hb dL_rules_14 (lv_at hl 1 rfl) ?_
    refine lv_if_ne (tgt := 24) hx hb dL_rules_16 (by decide) (fun c1 => False.elim (by revert c1; decide)) (fun _ => ?_)
    refine lv_bipush (v := 100) hx hb dL_rules_19 (by decide) ?_
    refine lv_goto (tgt := 70) hx hb dL_rules_21 (by decide) ?_
    refine lv_istore (lv' := [(6, .int 100), (5, .int (nI i9)), (4, .int 0), (0, .ref (ad 0)), (1, .int (nI x)), (2, .int (nI y)), (3, .ref (ad 43))]) hx hb dL_rules_70 hl (by decide) rfl (fun ls hl => ?_)
    refine lv_iload_n hx hb dL_rules_72 rfl (lv_at hl 5 rfl) ?_
    refine lv_iload hx hb dL_rules_73 (lv_at hl 0 rfl) ?_
    refine lv_iconst (v := 2) hx hb dL_rules_75 (by decide) ?_
    refine g_addN (a := 100) (b := 2) hx hb rfl rfl dL_rules_76 ?_
    refine g_remN (a := y) (b := 100 + 2) hx hb rfl rfl (by omega) (by omega) (by omega) dL_rules_77 ?_
    obtain ⟨m9, hm9, em9⟩ : ∃ q, q < 102 ∧ y % (100 + 2) = q := ⟨_, by omega, rfl⟩
    refine g_top (y := nI m9) (by rw [em9]) ?_
    refine lv_istore (lv' := [(7, .int (nI m9)), (6, .int 100), (5, .int (nI i9)), (4, .int 0), (0, .ref (ad 0)), (1, .int (nI x)), (2, .int (nI y)), (3, .ref (ad 43))]) hx hb dL_rules_78 hl (by decide) rfl (fun ls hl => ?_)
    refine lv_iload hx hb dL_rules_80 (lv_at hl 0 rfl) ?_
    refine lv_iload hx hb dL_rules_82 (lv_at hl 1 rfl) ?_
    refine g_cN_gt (a := m9) (b := 100) (tgt := 116) hx hb dL_rules_84 (by decide) rfl rfl (by omega) (by omega) (fun c2 => ?_) (fun c2 => ?_)
    · have hrk : rOk 0 0 m9 = false := decide_eq_false (fun z => by have h1 : m9 ≤ 100 := z.1; omega)
      refine lv_iconst (v := 0) hx hb dL_rules_116 (by decide) ?_
      refine lv_istore (lv' := [(8, .int 0), (7, .int (nI m9)), (6, .int 100), (5, .int (nI i9)), (4, .int 0), (0, .ref (ad 0)), (1, .int (nI x)), (2, .int (nI y)), (3, .ref (ad 43))]) hx hb dL_rules_117 hl (by decide) rfl (fun ls hl => ?_)
      refine lv_aload_n hx hb dL_rules_119 rfl (lv_at hl 5 rfl) ?_
      refine lv_iload hx hb dL_rules_120 (lv_at hl 4 rfl) ?_
      refine g_SV (As := [.ref (ad 0), .int 0]) (rest := []) ⟨hx, hb, hml, hown, hts⟩ hG hN (c_L_word0 l hl9 hP.2.1.2.2) (va_cwS 2 hts gL_rules_L_word rfl rfl rfl (by decide +kernel) ⟨Nat.le_of_ble_eq_true rfl, Nat.le_of_ble_eq_true rfl⟩) rfl hl.1 rfl (Nat.le_of_ble_eq_true rfl) dL_rules_122 ⟨Nat.le_of_ble_eq_true rfl, Nat.le_of_ble_eq_true rfl⟩ (fun H locs hN => ?_)
      have dl9 := dg_len m9
      have di9 := dg_len i9
      refine lv_iload hx hb dL_rules_125 (lv_at hl 4 rfl) ?_
      refine lv_iconst (v := 3) hx hb dL_rules_127 (by decide) ?_
      refine lv_icmp_ne (tgt := 145) hx hb dL_rules_128 (by decide) (fun _ => ?_) (fun c3 => False.elim (by revert c3; decide))
      refine lv_aload_n hx hb dL_rules_145 rfl (lv_at hl 5 rfl) ?_
      refine lv_iload hx hb dL_rules_146 (lv_at hl 1 rfl) ?_
      refine g_Si (As := [.ref (ad 0), .int (nI m9)]) (rest := []) ⟨hx, hb, hml, hown, hts⟩ hG hN (c_L_digits l hl9 m9 6 (by omega) (gw_ss _ _ _ _) (by omega)) (va_cwS 2 hts gL_rules_L_digits rfl rfl rfl (by decide +kernel) ⟨Nat.le_of_ble_eq_true rfl, Nat.le_of_ble_eq_true rfl⟩) rfl hl.1 rfl (Nat.le_of_ble_eq_true rfl) dL_rules_148 ⟨Nat.le_of_ble_eq_true rfl, Nat.le_of_ble_eq_true rfl⟩ (fun r4 Fq5 Vq6 oq7 H locs hq8 hN => ?_)
      cases hq8
      refine lv_pop hx hb dL_rules_151 rfl ?_
      have eF9 : (tyF (tyF F 0 (wordL 0)) 6 (dg m9)) = tyF F 0 (rL 0 0 m9) := tyF_app (wordL 0) F 0 (dg m9)
      have eL9 : (rL 0 0 m9).length = 6 + (dg m9).length := List.length_append
      have eV9 : (gw (gw V 3 3 (nI 6)) 3 3 (nI (6 + (dg m9).length))) = gw V 3 3 (nI (rL 0 0 m9).length) := by rw [eL9, gw_gw]
      rw [eF9, eV9] at hN
      refine lv_aload_n hx hb dL_rules_152 rfl (lv_at hl 5 rfl) ?_
      refine g_Vi (As := []) (rest := []) ⟨hx, hb, hml, hown, hts⟩ hG hN (i := 0) (by decide) rfl rfl (c_X9_apply l (rL 0 0 m9).length (gw_ss _ _ _ _) (rL_len (by decide))) (cwV 0 hts gL_rules_X9_apply rfl rfl rfl (by decide +kernel) ⟨Nat.le_of_ble_eq_true rfl, Nat.le_of_ble_eq_true rfl⟩) rfl hl.1 rfl (Nat.le_of_ble_eq_true rfl) dL_rules_153 ⟨Nat.le_of_ble_eq_true rfl, Nat.le_of_ble_eq_true rfl⟩ (fun r9 Fq10 Vq11 oq12 H locs hq13 hN => ?_)
      obtain ⟨ho9, F19, N9, hF19, hok9, hno9⟩ := rule_ap (w := 0) (i := 0) (m := m9) (by decide) (by omega) (rK0 m9 (by omega)) hq13
      dsimp only at ho9 hok9 hno9
      have ho9 := ho9.symm
      subst ho9
      obtain ⟨er9, eu9, ev9⟩ := hno9 hrk
      have h339 : Vq11 3 3 = 0 := by rw [ev9]; exact gw_ss _ _ _ _
      refine g_top (y := (-1)) er9 ?_
      refine lv_istore (lv' := [(9, .int (-1)), (8, .int 0), (7, .int (nI m9)), (6, .int 100), (5, .int (nI i9)), (4, .int 0), (0, .ref (ad 0)), (1, .int (nI x)), (2, .int (nI y)), (3, .ref (ad 43))]) hx hb dL_rules_156 hl (by decide) rfl (fun ls hl => ?_)
      refine lv_iload hx hb dL_rules_158 (lv_at hl 5 rfl) ?_
      refine lv_iconst (v := 3) hx hb dL_rules_160 (by decide) ?_
      refine lv_icmp_ne (tgt := 171) hx hb dL_rules_161 (by decide) (fun _ => ?_) (fun c14 => False.elim (by revert c14; decide))
      refine lv_iload hx hb dL_rules_171 (lv_at hl 5 rfl) ?_
      refine lv_iconst (v := 3) hx hb dL_rules_173 (by decide) ?_
      refine lv_icmp_ge (tgt := 182) hx hb dL_rules_174 (by decide) (fun c15 => False.elim (by revert c15; decide)) (fun _ => ?_)
      refine lv_iload hx hb dL_rules_177 (lv_at hl 5 rfl) ?_
      refine lv_goto (tgt := 186) hx hb dL_rules_179 (by decide) ?_
      refine lv_istore (lv' := [(10, .int 0), (9, .int (-1)), (8, .int 0), (7, .int (nI m9)), (6, .int 100), (5, .int (nI i9)), (4, .int 0), (0, .ref (ad 0)), (1, .int (nI x)), (2, .int (nI y)), (3, .ref (ad 43))]) hx hb dL_rules_186 hl (by decide) rfl (fun ls hl => ?_)
      refine lv_iload hx hb dL_rules_188 (lv_at hl 2 rfl) ?_
      refine lv_if_eq (tgt := 199) hx hb dL_rules_190 (by decide) (fun _ => ?_) (fun c16 => False.elim (by revert c16; decide))
      refine lv_iload hx hb dL_rules_199 (lv_at hl 1 rfl) ?_
      refine lv_iload hx hb dL_rules_201 (lv_at hl 2 rfl) ?_
      refine lv_if_eq (tgt := 210) hx hb dL_rules_203 (by decide) (fun _ => ?_) (fun c17 => False.elim (by revert c17; decide))
      refine lv_iconst (v := (-1)) hx hb dL_rules_210 (by decide) ?_
      refine lv_icmp_ne (tgt := 225) hx hb dL_rules_211 (by decide) (fun c18 => False.elim (by revert c18; decide)) (fun _ => ?_)
      refine lv_aload_n hx hb dL_rules_214 rfl (lv_at hl 7 rfl) ?_
      refine g_Vi (As := []) (rest := []) ⟨hx, hb, hml, hown, hts⟩ hG hN (i := 0) (by decide) rfl rfl (c_X9_apply l 0 h339 (by decide)) (cwV 0 hts gL_rules_X9_apply rfl rfl rfl (by decide +kernel) ⟨Nat.le_of_ble_eq_true rfl, Nat.le_of_ble_eq_true rfl⟩) rfl hl.1 rfl (Nat.le_of_ble_eq_true rfl) dL_rules_215 ⟨Nat.le_of_ble_eq_true rfl, Nat.le_of_ble_eq_true rfl⟩ (fun r19 Fq20 Vq21 oq22 H locs hq23 hN => ?_)
      obtain ⟨ho8, er8, hFF9, hVV9⟩ := null_ap hq23
      dsimp only at ho8 er8 hFF9 hVV9
      have ho8 := ho8.symm
      subst ho8
      refine g_top (y := 0) er8 ?_
      refine lv_if_ne (tgt := 225) hx hb dL_rules_218 (by decide) (fun c24 => False.elim (by revert c24; decide)) (fun _ => ?_)
      refine lv_iconst (v := 1) hx hb dL_rules_221 (by decide) ?_
      refine lv_goto (tgt := 226) hx hb dL_rules_222 (by decide) ?_
      refine W.widen (k := 20) (n := 120) (by omega) (by omega) ?_
      exact g_rz hx hb hr hlocks (by decide) hN (⟨rfl, rfl, rules_no hP hF19 eu9 ev9 hFF9 hVV9⟩) dL_rules_226
    · refine lv_iload hx hb dL_rules_87 (lv_at hl 3 rfl) ?_
      refine lv_iconst (v := 1) hx hb dL_rules_89 (by decide) ?_
      refine lv_icmp_ne (tgt := 100) hx hb dL_rules_90 (by decide) (fun _ => ?_) (fun c25 => False.elim (by revert c25; decide))
      refine lv_iload hx hb dL_rules_100 (lv_at hl 3 rfl) ?_
      refine lv_iconst (v := 3) hx hb dL_rules_102 (by decide) ?_
      refine lv_icmp_ne (tgt := 112) hx hb dL_rules_103 (by decide) (fun _ => ?_) (fun c26 => False.elim (by revert c26; decide))
      have hrk : rOk 0 0 m9 = true := decide_eq_true ⟨(show m9 ≤ 100 by omega), fun z => absurd z (by decide), fun z => absurd z (by decide)⟩
      refine lv_iconst (v := 1) hx hb dL_rules_112 (by decide) ?_
      refine lv_goto (tgt := 117) hx hb dL_rules_113 (by decide) ?_
      refine lv_istore (lv' := [(8, .int 1), (7, .int (nI m9)), (6, .int 100), (5, .int (nI i9)), (4, .int 0), (0, .ref (ad 0)), (1, .int (nI x)), (2, .int (nI y)), (3, .ref (ad 43))]) hx hb dL_rules_117 hl (by decide) rfl (fun ls hl => ?_)
      refine lv_aload_n hx hb dL_rules_119 rfl (lv_at hl 5 rfl) ?_
      refine lv_iload hx hb dL_rules_120 (lv_at hl 4 rfl) ?_
      refine g_SV (As := [.ref (ad 0), .int 0]) (rest := []) ⟨hx, hb, hml, hown, hts⟩ hG hN (c_L_word0 l hl9 hP.2.1.2.2) (va_cwS 2 hts gL_rules_L_word rfl rfl rfl (by decide +kernel) ⟨Nat.le_of_ble_eq_true rfl, Nat.le_of_ble_eq_true rfl⟩) rfl hl.1 rfl (Nat.le_of_ble_eq_true rfl) dL_rules_122 ⟨Nat.le_of_ble_eq_true rfl, Nat.le_of_ble_eq_true rfl⟩ (fun H locs hN => ?_)
      have dl9 := dg_len m9
      have di9 := dg_len i9
      refine lv_iload hx hb dL_rules_125 (lv_at hl 4 rfl) ?_
      refine lv_iconst (v := 3) hx hb dL_rules_127 (by decide) ?_
      refine lv_icmp_ne (tgt := 145) hx hb dL_rules_128 (by decide) (fun _ => ?_) (fun c27 => False.elim (by revert c27; decide))
      refine lv_aload_n hx hb dL_rules_145 rfl (lv_at hl 5 rfl) ?_
      refine lv_iload hx hb dL_rules_146 (lv_at hl 1 rfl) ?_
      refine g_Si (As := [.ref (ad 0), .int (nI m9)]) (rest := []) ⟨hx, hb, hml, hown, hts⟩ hG hN (c_L_digits l hl9 m9 6 (by omega) (gw_ss _ _ _ _) (by omega)) (va_cwS 2 hts gL_rules_L_digits rfl rfl rfl (by decide +kernel) ⟨Nat.le_of_ble_eq_true rfl, Nat.le_of_ble_eq_true rfl⟩) rfl hl.1 rfl (Nat.le_of_ble_eq_true rfl) dL_rules_148 ⟨Nat.le_of_ble_eq_true rfl, Nat.le_of_ble_eq_true rfl⟩ (fun r28 Fq29 Vq30 oq31 H locs hq32 hN => ?_)
      cases hq32
      refine lv_pop hx hb dL_rules_151 rfl ?_
      have eF9 : (tyF (tyF F 0 (wordL 0)) 6 (dg m9)) = tyF F 0 (rL 0 0 m9) := tyF_app (wordL 0) F 0 (dg m9)
      have eL9 : (rL 0 0 m9).length = 6 + (dg m9).length := List.length_append
      have eV9 : (gw (gw V 3 3 (nI 6)) 3 3 (nI (6 + (dg m9).length))) = gw V 3 3 (nI (rL 0 0 m9).length) := by rw [eL9, gw_gw]
      rw [eF9, eV9] at hN
      refine lv_aload_n hx hb dL_rules_152 rfl (lv_at hl 5 rfl) ?_
      refine g_Vi (As := []) (rest := []) ⟨hx, hb, hml, hown, hts⟩ hG hN (i := 0) (by decide) rfl rfl (c_X9_apply l (rL 0 0 m9).length (gw_ss _ _ _ _) (rL_len (by decide))) (cwV 0 hts gL_rules_X9_apply rfl rfl rfl (by decide +kernel) ⟨Nat.le_of_ble_eq_true rfl, Nat.le_of_ble_eq_true rfl⟩) rfl hl.1 rfl (Nat.le_of_ble_eq_true rfl) dL_rules_153 ⟨Nat.le_of_ble_eq_true rfl, Nat.le_of_ble_eq_true rfl⟩ (fun r33 Fq34 Vq35 oq36 H locs hq37 hN => ?_)
      obtain ⟨ho9, F19, N9, hF19, hok9, hno9⟩ := rule_ap (w := 0) (i := 0) (m := m9) (by decide) (by omega) (rK0 m9 (by omega)) hq37
      dsimp only at ho9 hok9 hno9
      have ho9 := ho9.symm
      subst ho9
      obtain ⟨er9, eu9, ev9⟩ := hok9 hrk
      have h339 : Vq35 3 3 = 0 := by rw [ev9]; exact rule_33 (m := m9)
      refine g_top (y := 1) er9 ?_
      refine lv_istore (lv' := [(9, .int 1), (8, .int 1), (7, .int (nI m9)), (6, .int 100), (5, .int (nI i9)), (4, .int 0), (0, .ref (ad 0)), (1, .int (nI x)), (2, .int (nI y)), (3, .ref (ad 43))]) hx hb dL_rules_156 hl (by decide) rfl (fun ls hl => ?_)
      refine lv_iload hx hb dL_rules_158 (lv_at hl 5 rfl) ?_
      refine lv_iconst (v := 3) hx hb dL_rules_160 (by decide) ?_
      refine lv_icmp_ne (tgt := 171) hx hb dL_rules_161 (by decide) (fun _ => ?_) (fun c38 => False.elim (by revert c38; decide))
      refine lv_iload hx hb dL_rules_171 (lv_at hl 5 rfl) ?_
      refine lv_iconst (v := 3) hx hb dL_rules_173 (by decide) ?_
      refine lv_icmp_ge (tgt := 182) hx hb dL_rules_174 (by decide) (fun c39 => False.elim (by revert c39; decide)) (fun _ => ?_)
      refine lv_iload hx hb dL_rules_177 (lv_at hl 5 rfl) ?_
      refine lv_goto (tgt := 186) hx hb dL_rules_179 (by decide) ?_
      refine lv_istore (lv' := [(10, .int 0), (9, .int 1), (8, .int 1), (7, .int (nI m9)), (6, .int 100), (5, .int (nI i9)), (4, .int 0), (0, .ref (ad 0)), (1, .int (nI x)), (2, .int (nI y)), (3, .ref (ad 43))]) hx hb dL_rules_186 hl (by decide) rfl (fun ls hl => ?_)
      refine lv_iload hx hb dL_rules_188 (lv_at hl 2 rfl) ?_
      refine lv_if_eq (tgt := 199) hx hb dL_rules_190 (by decide) (fun c40 => False.elim (by revert c40; decide)) (fun _ => ?_)
      refine lv_aload_n hx hb dL_rules_193 rfl (lv_at hl 10 rfl) ?_
      refine lv_iload hx hb dL_rules_194 (lv_at hl 0 rfl) ?_
      refine lv_iload hx hb dL_rules_196 (lv_at hl 3 rfl) ?_
      refine g_iast hx hb hG hN (i := 43) (n := 9) (j := 0) (by decide) (fun _ => rfl) (by decide) (by omega) rfl dL_rules_198 (fun H locs hN => ?_)
      refine lv_iload hx hb dL_rules_199 (lv_at hl 1 rfl) ?_
      refine lv_iload hx hb dL_rules_201 (lv_at hl 2 rfl) ?_
      refine lv_if_eq (tgt := 210) hx hb dL_rules_203 (by decide) (fun c41 => False.elim (by revert c41; decide)) (fun _ => ?_)
      refine lv_iconst (v := 1) hx hb dL_rules_206 (by decide) ?_
      refine lv_goto (tgt := 211) hx hb dL_rules_207 (by decide) ?_
      refine lv_icmp_ne (tgt := 225) hx hb dL_rules_211 (by decide) (fun c42 => False.elim (by revert c42; decide)) (fun _ => ?_)
      refine lv_aload_n hx hb dL_rules_214 rfl (lv_at hl 7 rfl) ?_
      refine g_Vi (As := []) (rest := []) ⟨hx, hb, hml, hown, hts⟩ hG hN (i := 0) (by decide) rfl rfl (c_X9_apply l 0 h339 (by decide)) (cwV 0 hts gL_rules_X9_apply rfl rfl rfl (by decide +kernel) ⟨Nat.le_of_ble_eq_true rfl, Nat.le_of_ble_eq_true rfl⟩) rfl hl.1 rfl (Nat.le_of_ble_eq_true rfl) dL_rules_215 ⟨Nat.le_of_ble_eq_true rfl, Nat.le_of_ble_eq_true rfl⟩ (fun r43 Fq44 Vq45 oq46 H locs hq47 hN => ?_)
      obtain ⟨ho8, er8, hFF9, hVV9⟩ := null_ap hq47
      dsimp only at ho8 er8 hFF9 hVV9
      have ho8 := ho8.symm
      subst ho8
      refine g_top (y := 0) er8 ?_
      refine lv_if_ne (tgt := 225) hx hb dL_rules_218 (by decide) (fun c48 => False.elim (by revert c48; decide)) (fun _ => ?_)
      refine lv_iconst (v := 1) hx hb dL_rules_221 (by decide) ?_
      refine lv_goto (tgt := 226) hx hb dL_rules_222 (by decide) ?_
      refine W.widen (k := 20) (n := 120) (by omega) (by omega) ?_
      exact g_rz hx hb hr hlocks (by decide) hN (⟨rfl, rfl, rules_ok (w := 0) (i := 0) hP (by decide) hrk hF19 eu9 ev9 hFF9 hVV9⟩) dL_rules_226
  · refine g_top (y := 1) (by rw [e6]; rfl) ?_
    refine lv_istore (lv' := [(4, .int 1), (0, .ref (ad 0)), (1, .int (nI x)), (2, .int (nI y)), (3, .ref (ad 43))]) hx hb dL_rules_4 hl (by decide) rfl (fun ls hl => ?_)
    refine lv_iload_n hx hb dL_rules_6 rfl (lv_at hl 2 rfl) ?_
    refine lv_bipush (v := 6) hx hb dL_rules_7 (by decide) ?_
    refine g_divN (a := x) (b := 6) hx hb rfl rfl (by omega) (by omega) (by omega) dL_rules_9 ?_
    refine lv_iconst (v := 5) hx hb dL_rules_10 (by decide) ?_
    refine g_remN (a := x / 6) (b := 5) hx hb rfl rfl (by omega) (by omega) (by omega) dL_rules_11 ?_
    obtain ⟨i9, hi9, ei9⟩ : ∃ q, q < 5 ∧ (x / 6) % 5 = q := ⟨_, by omega, rfl⟩
    refine g_top (y := nI i9) (by rw [ei9]) ?_
    refine lv_istore (lv' := [(5, .int (nI i9)), (4, .int 1), (0, .ref (ad 0)), (1, .int (nI x)), (2, .int (nI y)), (3, .ref (ad 43))]) hx hb dL_rules_12 hl (by decide) rfl (fun ls hl => ?_)
    refine lv_iload hx hb dL_rules_14 (lv_at hl 1 rfl) ?_
    refine lv_if_ne (tgt := 24) hx hb dL_rules_16 (by decide) (fun _ => ?_) (fun c49 => False.elim (by revert c49; decide))
    refine lv_iload hx hb dL_rules_24 (lv_at hl 1 rfl) ?_
    refine lv_iconst (v := 1) hx hb dL_rules_26 (by decide) ?_
    refine lv_icmp_ne (tgt := 36) hx hb dL_rules_27 (by decide) (fun c50 => False.elim (by revert c50; decide)) (fun _ => ?_)
    refine lv_sipush (v := 400) hx hb dL_rules_30 (by decide) ?_
    refine lv_goto (tgt := 70) hx hb dL_rules_33 (by decide) ?_
    refine lv_istore (lv' := [(6, .int 400), (5, .int (nI i9)), (4, .int 1), (0, .ref (ad 0)), (1, .int (nI x)), (2, .int (nI y)), (3, .ref (ad 43))]) hx hb dL_rules_70 hl (by decide) rfl (fun ls hl => ?_)
    refine lv_iload_n hx hb dL_rules_72 rfl (lv_at hl 5 rfl) ?_
    refine lv_iload hx hb dL_rules_73 (lv_at hl 0 rfl) ?_
    refine lv_iconst (v := 2) hx hb dL_rules_75 (by decide) ?_
    refine g_addN (a := 400) (b := 2) hx hb rfl rfl dL_rules_76 ?_
    refine g_remN (a := y) (b := 400 + 2) hx hb rfl rfl (by omega) (by omega) (by omega) dL_rules_77 ?_
    obtain ⟨m9, hm9, em9⟩ : ∃ q, q < 402 ∧ y % (400 + 2) = q := ⟨_, by omega, rfl⟩
    refine g_top (y := nI m9) (by rw [em9]) ?_
    refine lv_istore (lv' := [(7, .int (nI m9)), (6, .int 400), (5, .int (nI i9)), (4, .int 1), (0, .ref (ad 0)), (1, .int (nI x)), (2, .int (nI y)), (3, .ref (ad 43))]) hx hb dL_rules_78 hl (by decide) rfl (fun ls hl => ?_)
    refine lv_iload hx hb dL_rules_80 (lv_at hl 0 rfl) ?_
    refine lv_iload hx hb dL_rules_82 (lv_at hl 1 rfl) ?_
    refine g_cN_gt (a := m9) (b := 400) (tgt := 116) hx hb dL_rules_84 (by decide) rfl rfl (by omega) (by omega) (fun c51 => ?_) (fun c51 => ?_)
    · have hrk : rOk 1 0 m9 = false := decide_eq_false (fun z => by have h1 : m9 ≤ 400 := z.1; have h2 := z.2.1 rfl; omega)
      refine lv_iconst (v := 0) hx hb dL_rules_116 (by decide) ?_
      refine lv_istore (lv' := [(8, .int 0), (7, .int (nI m9)), (6, .int 400), (5, .int (nI i9)), (4, .int 1), (0, .ref (ad 0)), (1, .int (nI x)), (2, .int (nI y)), (3, .ref (ad 43))]) hx hb dL_rules_117 hl (by decide) rfl (fun ls hl => ?_)
      refine lv_aload_n hx hb dL_rules_119 rfl (lv_at hl 5 rfl) ?_
      refine lv_iload hx hb dL_rules_120 (lv_at hl 4 rfl) ?_
      refine g_SV (As := [.ref (ad 0), .int 1]) (rest := []) ⟨hx, hb, hml, hown, hts⟩ hG hN (c_L_word1 l hl9 hP.2.1.2.2) (va_cwS 2 hts gL_rules_L_word rfl rfl rfl (by decide +kernel) ⟨Nat.le_of_ble_eq_true rfl, Nat.le_of_ble_eq_true rfl⟩) rfl hl.1 rfl (Nat.le_of_ble_eq_true rfl) dL_rules_122 ⟨Nat.le_of_ble_eq_true rfl, Nat.le_of_ble_eq_true rfl⟩ (fun H locs hN => ?_)
      have dl9 := dg_len m9
      have di9 := dg_len i9
      refine lv_iload hx hb dL_rules_125 (lv_at hl 4 rfl) ?_
      refine lv_iconst (v := 3) hx hb dL_rules_127 (by decide) ?_
      refine lv_icmp_ne (tgt := 145) hx hb dL_rules_128 (by decide) (fun _ => ?_) (fun c52 => False.elim (by revert c52; decide))
      refine lv_aload_n hx hb dL_rules_145 rfl (lv_at hl 5 rfl) ?_
      refine lv_iload hx hb dL_rules_146 (lv_at hl 1 rfl) ?_
      refine g_Si (As := [.ref (ad 0), .int (nI m9)]) (rest := []) ⟨hx, hb, hml, hown, hts⟩ hG hN (c_L_digits l hl9 m9 6 (by omega) (gw_ss _ _ _ _) (by omega)) (va_cwS 2 hts gL_rules_L_digits rfl rfl rfl (by decide +kernel) ⟨Nat.le_of_ble_eq_true rfl, Nat.le_of_ble_eq_true rfl⟩) rfl hl.1 rfl (Nat.le_of_ble_eq_true rfl) dL_rules_148 ⟨Nat.le_of_ble_eq_true rfl, Nat.le_of_ble_eq_true rfl⟩ (fun r53 Fq54 Vq55 oq56 H locs hq57 hN => ?_)
      cases hq57
      refine lv_pop hx hb dL_rules_151 rfl ?_
      have eF9 : (tyF (tyF F 0 (wordL 1)) 6 (dg m9)) = tyF F 0 (rL 1 0 m9) := tyF_app (wordL 1) F 0 (dg m9)
      have eL9 : (rL 1 0 m9).length = 6 + (dg m9).length := List.length_append
      have eV9 : (gw (gw V 3 3 (nI 6)) 3 3 (nI (6 + (dg m9).length))) = gw V 3 3 (nI (rL 1 0 m9).length) := by rw [eL9, gw_gw]
      rw [eF9, eV9] at hN
      refine lv_aload_n hx hb dL_rules_152 rfl (lv_at hl 5 rfl) ?_
      refine g_Vi (As := []) (rest := []) ⟨hx, hb, hml, hown, hts⟩ hG hN (i := 0) (by decide) rfl rfl (c_X9_apply l (rL 1 0 m9).length (gw_ss _ _ _ _) (rL_len (by decide))) (cwV 0 hts gL_rules_X9_apply rfl rfl rfl (by decide +kernel) ⟨Nat.le_of_ble_eq_true rfl, Nat.le_of_ble_eq_true rfl⟩) rfl hl.1 rfl (Nat.le_of_ble_eq_true rfl) dL_rules_153 ⟨Nat.le_of_ble_eq_true rfl, Nat.le_of_ble_eq_true rfl⟩ (fun r58 Fq59 Vq60 oq61 H locs hq62 hN => ?_)
      obtain ⟨ho9, F19, N9, hF19, hok9, hno9⟩ := rule_ap (w := 1) (i := 0) (m := m9) (by decide) (by omega) (rK1 m9 (by omega)) hq62
      dsimp only at ho9 hok9 hno9
      have ho9 := ho9.symm
      subst ho9
      obtain ⟨er9, eu9, ev9⟩ := hno9 hrk
      have h339 : Vq60 3 3 = 0 := by rw [ev9]; exact gw_ss _ _ _ _
      refine g_top (y := (-1)) er9 ?_
      refine lv_istore (lv' := [(9, .int (-1)), (8, .int 0), (7, .int (nI m9)), (6, .int 400), (5, .int (nI i9)), (4, .int 1), (0, .ref (ad 0)), (1, .int (nI x)), (2, .int (nI y)), (3, .ref (ad 43))]) hx hb dL_rules_156 hl (by decide) rfl (fun ls hl => ?_)
      refine lv_iload hx hb dL_rules_158 (lv_at hl 5 rfl) ?_
      refine lv_iconst (v := 3) hx hb dL_rules_160 (by decide) ?_
      refine lv_icmp_ne (tgt := 171) hx hb dL_rules_161 (by decide) (fun _ => ?_) (fun c63 => False.elim (by revert c63; decide))
      refine lv_iload hx hb dL_rules_171 (lv_at hl 5 rfl) ?_
      refine lv_iconst (v := 3) hx hb dL_rules_173 (by decide) ?_
      refine lv_icmp_ge (tgt := 182) hx hb dL_rules_174 (by decide) (fun c64 => False.elim (by revert c64; decide)) (fun _ => ?_)
      refine lv_iload hx hb dL_rules_177 (lv_at hl 5 rfl) ?_
      refine lv_goto (tgt := 186) hx hb dL_rules_179 (by decide) ?_
      refine lv_istore (lv' := [(10, .int 1), (9, .int (-1)), (8, .int 0), (7, .int (nI m9)), (6, .int 400), (5, .int (nI i9)), (4, .int 1), (0, .ref (ad 0)), (1, .int (nI x)), (2, .int (nI y)), (3, .ref (ad 43))]) hx hb dL_rules_186 hl (by decide) rfl (fun ls hl => ?_)
      refine lv_iload hx hb dL_rules_188 (lv_at hl 2 rfl) ?_
      refine lv_if_eq (tgt := 199) hx hb dL_rules_190 (by decide) (fun _ => ?_) (fun c65 => False.elim (by revert c65; decide))
      refine lv_iload hx hb dL_rules_199 (lv_at hl 1 rfl) ?_
      refine lv_iload hx hb dL_rules_201 (lv_at hl 2 rfl) ?_
      refine lv_if_eq (tgt := 210) hx hb dL_rules_203 (by decide) (fun _ => ?_) (fun c66 => False.elim (by revert c66; decide))
      refine lv_iconst (v := (-1)) hx hb dL_rules_210 (by decide) ?_
      refine lv_icmp_ne (tgt := 225) hx hb dL_rules_211 (by decide) (fun c67 => False.elim (by revert c67; decide)) (fun _ => ?_)
      refine lv_aload_n hx hb dL_rules_214 rfl (lv_at hl 7 rfl) ?_
      refine g_Vi (As := []) (rest := []) ⟨hx, hb, hml, hown, hts⟩ hG hN (i := 0) (by decide) rfl rfl (c_X9_apply l 0 h339 (by decide)) (cwV 0 hts gL_rules_X9_apply rfl rfl rfl (by decide +kernel) ⟨Nat.le_of_ble_eq_true rfl, Nat.le_of_ble_eq_true rfl⟩) rfl hl.1 rfl (Nat.le_of_ble_eq_true rfl) dL_rules_215 ⟨Nat.le_of_ble_eq_true rfl, Nat.le_of_ble_eq_true rfl⟩ (fun r68 Fq69 Vq70 oq71 H locs hq72 hN => ?_)
      obtain ⟨ho8, er8, hFF9, hVV9⟩ := null_ap hq72
      dsimp only at ho8 er8 hFF9 hVV9
      have ho8 := ho8.symm
      subst ho8
      refine g_top (y := 0) er8 ?_
      refine lv_if_ne (tgt := 225) hx hb dL_rules_218 (by decide) (fun c73 => False.elim (by revert c73; decide)) (fun _ => ?_)
      refine lv_iconst (v := 1) hx hb dL_rules_221 (by decide) ?_
      refine lv_goto (tgt := 226) hx hb dL_rules_222 (by decide) ?_
      refine W.widen (k := 20) (n := 120) (by omega) (by omega) ?_
      exact g_rz hx hb hr hlocks (by decide) hN (⟨rfl, rfl, rules_no hP hF19 eu9 ev9 hFF9 hVV9⟩) dL_rules_226
    · refine lv_iload hx hb dL_rules_87 (lv_at hl 3 rfl) ?_
      refine lv_iconst (v := 1) hx hb dL_rules_89 (by decide) ?_
      refine lv_icmp_ne (tgt := 100) hx hb dL_rules_90 (by decide) (fun c74 => False.elim (by revert c74; decide)) (fun _ => ?_)
      refine lv_iload hx hb dL_rules_93 (lv_at hl 0 rfl) ?_
      refine lv_bipush (v := 99) hx hb dL_rules_95 (by decide) ?_
      refine g_cN_le (a := m9) (b := 99) (tgt := 116) hx hb dL_rules_97 (by decide) rfl rfl (by omega) (by omega) (fun c75 => ?_) (fun c75 => ?_)
      · have hrk : rOk 1 0 m9 = false := decide_eq_false (fun z => by have h1 : m9 ≤ 400 := z.1; have h2 := z.2.1 rfl; omega)
        refine lv_iconst (v := 0) hx hb dL_rules_116 (by decide) ?_
        refine lv_istore (lv' := [(8, .int 0), (7, .int (nI m9)), (6, .int 400), (5, .int (nI i9)), (4, .int 1), (0, .ref (ad 0)), (1, .int (nI x)), (2, .int (nI y)), (3, .ref (ad 43))]) hx hb dL_rules_117 hl (by decide) rfl (fun ls hl => ?_)
        refine lv_aload_n hx hb dL_rules_119 rfl (lv_at hl 5 rfl) ?_
        refine lv_iload hx hb dL_rules_120 (lv_at hl 4 rfl) ?_
        refine g_SV (As := [.ref (ad 0), .int 1]) (rest := []) ⟨hx, hb, hml, hown, hts⟩ hG hN (c_L_word1 l hl9 hP.2.1.2.2) (va_cwS 2 hts gL_rules_L_word rfl rfl rfl (by decide +kernel) ⟨Nat.le_of_ble_eq_true rfl, Nat.le_of_ble_eq_true rfl⟩) rfl hl.1 rfl (Nat.le_of_ble_eq_true rfl) dL_rules_122 ⟨Nat.le_of_ble_eq_true rfl, Nat.le_of_ble_eq_true rfl⟩ (fun H locs hN => ?_)
        have dl9 := dg_len m9
        have di9 := dg_len i9
        refine lv_iload hx hb dL_rules_125 (lv_at hl 4 rfl) ?_
        refine lv_iconst (v := 3) hx hb dL_rules_127 (by decide) ?_
        refine lv_icmp_ne (tgt := 145) hx hb dL_rules_128 (by decide) (fun _ => ?_) (fun c76 => False.elim (by revert c76; decide))
        refine lv_aload_n hx hb dL_rules_145 rfl (lv_at hl 5 rfl) ?_
        refine lv_iload hx hb dL_rules_146 (lv_at hl 1 rfl) ?_
        refine g_Si (As := [.ref (ad 0), .int (nI m9)]) (rest := []) ⟨hx, hb, hml, hown, hts⟩ hG hN (c_L_digits l hl9 m9 6 (by omega) (gw_ss _ _ _ _) (by omega)) (va_cwS 2 hts gL_rules_L_digits rfl rfl rfl (by decide +kernel) ⟨Nat.le_of_ble_eq_true rfl, Nat.le_of_ble_eq_true rfl⟩) rfl hl.1 rfl (Nat.le_of_ble_eq_true rfl) dL_rules_148 ⟨Nat.le_of_ble_eq_true rfl, Nat.le_of_ble_eq_true rfl⟩ (fun r77 Fq78 Vq79 oq80 H locs hq81 hN => ?_)
        cases hq81
        refine lv_pop hx hb dL_rules_151 rfl ?_
        have eF9 : (tyF (tyF F 0 (wordL 1)) 6 (dg m9)) = tyF F 0 (rL 1 0 m9) := tyF_app (wordL 1) F 0 (dg m9)
        have eL9 : (rL 1 0 m9).length = 6 + (dg m9).length := List.length_append
        have eV9 : (gw (gw V 3 3 (nI 6)) 3 3 (nI (6 + (dg m9).length))) = gw V 3 3 (nI (rL 1 0 m9).length) := by rw [eL9, gw_gw]
        rw [eF9, eV9] at hN
        refine lv_aload_n hx hb dL_rules_152 rfl (lv_at hl 5 rfl) ?_
        refine g_Vi (As := []) (rest := []) ⟨hx, hb, hml, hown, hts⟩ hG hN (i := 0) (by decide) rfl rfl (c_X9_apply l (rL 1 0 m9).length (gw_ss _ _ _ _) (rL_len (by decide))) (cwV 0 hts gL_rules_X9_apply rfl rfl rfl (by decide +kernel) ⟨Nat.le_of_ble_eq_true rfl, Nat.le_of_ble_eq_true rfl⟩) rfl hl.1 rfl (Nat.le_of_ble_eq_true rfl) dL_rules_153 ⟨Nat.le_of_ble_eq_true rfl, Nat.le_of_ble_eq_true rfl⟩ (fun r82 Fq83 Vq84 oq85 H locs hq86 hN => ?_)
        obtain ⟨ho9, F19, N9, hF19, hok9, hno9⟩ := rule_ap (w := 1) (i := 0) (m := m9) (by decide) (by omega) (rK1 m9 (by omega)) hq86
        dsimp only at ho9 hok9 hno9
        have ho9 := ho9.symm
        subst ho9
        obtain ⟨er9, eu9, ev9⟩ := hno9 hrk
        have h339 : Vq84 3 3 = 0 := by rw [ev9]; exact gw_ss _ _ _ _
        refine g_top (y := (-1)) er9 ?_
        refine lv_istore (lv' := [(9, .int (-1)), (8, .int 0), (7, .int (nI m9)), (6, .int 400), (5, .int (nI i9)), (4, .int 1), (0, .ref (ad 0)), (1, .int (nI x)), (2, .int (nI y)), (3, .ref (ad 43))]) hx hb dL_rules_156 hl (by decide) rfl (fun ls hl => ?_)
        refine lv_iload hx hb dL_rules_158 (lv_at hl 5 rfl) ?_
        refine lv_iconst (v := 3) hx hb dL_rules_160 (by decide) ?_
        refine lv_icmp_ne (tgt := 171) hx hb dL_rules_161 (by decide) (fun _ => ?_) (fun c87 => False.elim (by revert c87; decide))
        refine lv_iload hx hb dL_rules_171 (lv_at hl 5 rfl) ?_
        refine lv_iconst (v := 3) hx hb dL_rules_173 (by decide) ?_
        refine lv_icmp_ge (tgt := 182) hx hb dL_rules_174 (by decide) (fun c88 => False.elim (by revert c88; decide)) (fun _ => ?_)
        refine lv_iload hx hb dL_rules_177 (lv_at hl 5 rfl) ?_
        refine lv_goto (tgt := 186) hx hb dL_rules_179 (by decide) ?_
        refine lv_istore (lv' := [(10, .int 1), (9, .int (-1)), (8, .int 0), (7, .int (nI m9)), (6, .int 400), (5, .int (nI i9)), (4, .int 1), (0, .ref (ad 0)), (1, .int (nI x)), (2, .int (nI y)), (3, .ref (ad 43))]) hx hb dL_rules_186 hl (by decide) rfl (fun ls hl => ?_)
        refine lv_iload hx hb dL_rules_188 (lv_at hl 2 rfl) ?_
        refine lv_if_eq (tgt := 199) hx hb dL_rules_190 (by decide) (fun _ => ?_) (fun c89 => False.elim (by revert c89; decide))
        refine lv_iload hx hb dL_rules_199 (lv_at hl 1 rfl) ?_
        refine lv_iload hx hb dL_rules_201 (lv_at hl 2 rfl) ?_
        refine lv_if_eq (tgt := 210) hx hb dL_rules_203 (by decide) (fun _ => ?_) (fun c90 => False.elim (by revert c90; decide))
        refine lv_iconst (v := (-1)) hx hb dL_rules_210 (by decide) ?_
        refine lv_icmp_ne (tgt := 225) hx hb dL_rules_211 (by decide) (fun c91 => False.elim (by revert c91; decide)) (fun _ => ?_)
        refine lv_aload_n hx hb dL_rules_214 rfl (lv_at hl 7 rfl) ?_
        refine g_Vi (As := []) (rest := []) ⟨hx, hb, hml, hown, hts⟩ hG hN (i := 0) (by decide) rfl rfl (c_X9_apply l 0 h339 (by decide)) (cwV 0 hts gL_rules_X9_apply rfl rfl rfl (by decide +kernel) ⟨Nat.le_of_ble_eq_true rfl, Nat.le_of_ble_eq_true rfl⟩) rfl hl.1 rfl (Nat.le_of_ble_eq_true rfl) dL_rules_215 ⟨Nat.le_of_ble_eq_true rfl, Nat.le_of_ble_eq_true rfl⟩ (fun r92 Fq93 Vq94 oq95 H locs hq96 hN => ?_)
        obtain ⟨ho8, er8, hFF9, hVV9⟩ := null_ap hq96
        dsimp only at ho8 er8 hFF9 hVV9
        have ho8 := ho8.symm
        subst ho8
        refine g_top (y := 0) er8 ?_
        refine lv_if_ne (tgt := 225) hx hb dL_rules_218 (by decide) (fun c97 => False.elim (by revert c97; decide)) (fun _ => ?_)
        refine lv_iconst (v := 1) hx hb dL_rules_221 (by decide) ?_
        refine lv_goto (tgt := 226) hx hb dL_rules_222 (by decide) ?_
        refine W.widen (k := 20) (n := 120) (by omega) (by omega) ?_
        exact g_rz hx hb hr hlocks (by decide) hN (⟨rfl, rfl, rules_no hP hF19 eu9 ev9 hFF9 hVV9⟩) dL_rules_226
      · refine lv_iload hx hb dL_rules_100 (lv_at hl 3 rfl) ?_
        refine lv_iconst (v := 3) hx hb dL_rules_102 (by decide) ?_
        refine lv_icmp_ne (tgt := 112) hx hb dL_rules_103 (by decide) (fun _ => ?_) (fun c98 => False.elim (by revert c98; decide))
        have hrk : rOk 1 0 m9 = true := decide_eq_true ⟨(show m9 ≤ 400 by omega), fun _ => by omega, fun z => absurd z (by decide)⟩
        refine lv_iconst (v := 1) hx hb dL_rules_112 (by decide) ?_
        refine lv_goto (tgt := 117) hx hb dL_rules_113 (by decide) ?_
        refine lv_istore (lv' := [(8, .int 1), (7, .int (nI m9)), (6, .int 400), (5, .int (nI i9)), (4, .int 1), (0, .ref (ad 0)), (1, .int (nI x)), (2, .int (nI y)), (3, .ref (ad 43))]) hx hb dL_rules_117 hl (by decide) rfl (fun ls hl => ?_)
        refine lv_aload_n hx hb dL_rules_119 rfl (lv_at hl 5 rfl) ?_
        refine lv_iload hx hb dL_rules_120 (lv_at hl 4 rfl) ?_
        refine g_SV (As := [.ref (ad 0), .int 1]) (rest := []) ⟨hx, hb, hml, hown, hts⟩ hG hN (c_L_word1 l hl9 hP.2.1.2.2) (va_cwS 2 hts gL_rules_L_word rfl rfl rfl (by decide +kernel) ⟨Nat.le_of_ble_eq_true rfl, Nat.le_of_ble_eq_true rfl⟩) rfl hl.1 rfl (Nat.le_of_ble_eq_true rfl) dL_rules_122 ⟨Nat.le_of_ble_eq_true rfl, Nat.le_of_ble_eq_true rfl⟩ (fun H locs hN => ?_)
        have dl9 := dg_len m9
        have di9 := dg_len i9
        refine lv_iload hx hb dL_rules_125 (lv_at hl 4 rfl) ?_
        refine lv_iconst (v := 3) hx hb dL_rules_127 (by decide) ?_
        refine lv_icmp_ne (tgt := 145) hx hb dL_rules_128 (by decide) (fun _ => ?_) (fun c99 => False.elim (by revert c99; decide))
        refine lv_aload_n hx hb dL_rules_145 rfl (lv_at hl 5 rfl) ?_
        refine lv_iload hx hb dL_rules_146 (lv_at hl 1 rfl) ?_
        refine g_Si (As := [.ref (ad 0), .int (nI m9)]) (rest := []) ⟨hx, hb, hml, hown, hts⟩ hG hN (c_L_digits l hl9 m9 6 (by omega) (gw_ss _ _ _ _) (by omega)) (va_cwS 2 hts gL_rules_L_digits rfl rfl rfl (by decide +kernel) ⟨Nat.le_of_ble_eq_true rfl, Nat.le_of_ble_eq_true rfl⟩) rfl hl.1 rfl (Nat.le_of_ble_eq_true rfl) dL_rules_148 ⟨Nat.le_of_ble_eq_true rfl, Nat.le_of_ble_eq_true rfl⟩ (fun r100 Fq101 Vq102 oq103 H locs hq104 hN => ?_)
        cases hq104
        refine lv_pop hx hb dL_rules_151 rfl ?_
        have eF9 : (tyF (tyF F 0 (wordL 1)) 6 (dg m9)) = tyF F 0 (rL 1 0 m9) := tyF_app (wordL 1) F 0 (dg m9)
        have eL9 : (rL 1 0 m9).length = 6 + (dg m9).length := List.length_append
        have eV9 : (gw (gw V 3 3 (nI 6)) 3 3 (nI (6 + (dg m9).length))) = gw V 3 3 (nI (rL 1 0 m9).length) := by rw [eL9, gw_gw]
        rw [eF9, eV9] at hN
        refine lv_aload_n hx hb dL_rules_152 rfl (lv_at hl 5 rfl) ?_
        refine g_Vi (As := []) (rest := []) ⟨hx, hb, hml, hown, hts⟩ hG hN (i := 0) (by decide) rfl rfl (c_X9_apply l (rL 1 0 m9).length (gw_ss _ _ _ _) (rL_len (by decide))) (cwV 0 hts gL_rules_X9_apply rfl rfl rfl (by decide +kernel) ⟨Nat.le_of_ble_eq_true rfl, Nat.le_of_ble_eq_true rfl⟩) rfl hl.1 rfl (Nat.le_of_ble_eq_true rfl) dL_rules_153 ⟨Nat.le_of_ble_eq_true rfl, Nat.le_of_ble_eq_true rfl⟩ (fun r105 Fq106 Vq107 oq108 H locs hq109 hN => ?_)
        obtain ⟨ho9, F19, N9, hF19, hok9, hno9⟩ := rule_ap (w := 1) (i := 0) (m := m9) (by decide) (by omega) (rK1 m9 (by omega)) hq109
        dsimp only at ho9 hok9 hno9
        have ho9 := ho9.symm
        subst ho9
        obtain ⟨er9, eu9, ev9⟩ := hok9 hrk
        have h339 : Vq107 3 3 = 0 := by rw [ev9]; exact rule_33 (m := m9)
        refine g_top (y := 1) er9 ?_
        refine lv_istore (lv' := [(9, .int 1), (8, .int 1), (7, .int (nI m9)), (6, .int 400), (5, .int (nI i9)), (4, .int 1), (0, .ref (ad 0)), (1, .int (nI x)), (2, .int (nI y)), (3, .ref (ad 43))]) hx hb dL_rules_156 hl (by decide) rfl (fun ls hl => ?_)
        refine lv_iload hx hb dL_rules_158 (lv_at hl 5 rfl) ?_
        refine lv_iconst (v := 3) hx hb dL_rules_160 (by decide) ?_
        refine lv_icmp_ne (tgt := 171) hx hb dL_rules_161 (by decide) (fun _ => ?_) (fun c110 => False.elim (by revert c110; decide))
        refine lv_iload hx hb dL_rules_171 (lv_at hl 5 rfl) ?_
        refine lv_iconst (v := 3) hx hb dL_rules_173 (by decide) ?_
        refine lv_icmp_ge (tgt := 182) hx hb dL_rules_174 (by decide) (fun c111 => False.elim (by revert c111; decide)) (fun _ => ?_)
        refine lv_iload hx hb dL_rules_177 (lv_at hl 5 rfl) ?_
        refine lv_goto (tgt := 186) hx hb dL_rules_179 (by decide) ?_
        refine lv_istore (lv' := [(10, .int 1), (9, .int 1), (8, .int 1), (7, .int (nI m9)), (6, .int 400), (5, .int (nI i9)), (4, .int 1), (0, .ref (ad 0)), (1, .int (nI x)), (2, .int (nI y)), (3, .ref (ad 43))]) hx hb dL_rules_186 hl (by decide) rfl (fun ls hl => ?_)
        refine lv_iload hx hb dL_rules_188 (lv_at hl 2 rfl) ?_
        refine lv_if_eq (tgt := 199) hx hb dL_rules_190 (by decide) (fun c112 => False.elim (by revert c112; decide)) (fun _ => ?_)
        refine lv_aload_n hx hb dL_rules_193 rfl (lv_at hl 10 rfl) ?_
        refine lv_iload hx hb dL_rules_194 (lv_at hl 0 rfl) ?_
        refine lv_iload hx hb dL_rules_196 (lv_at hl 3 rfl) ?_
        refine g_iast hx hb hG hN (i := 43) (n := 9) (j := 1) (by decide) (fun _ => rfl) (by decide) (by omega) rfl dL_rules_198 (fun H locs hN => ?_)
        refine lv_iload hx hb dL_rules_199 (lv_at hl 1 rfl) ?_
        refine lv_iload hx hb dL_rules_201 (lv_at hl 2 rfl) ?_
        refine lv_if_eq (tgt := 210) hx hb dL_rules_203 (by decide) (fun c113 => False.elim (by revert c113; decide)) (fun _ => ?_)
        refine lv_iconst (v := 1) hx hb dL_rules_206 (by decide) ?_
        refine lv_goto (tgt := 211) hx hb dL_rules_207 (by decide) ?_
        refine lv_icmp_ne (tgt := 225) hx hb dL_rules_211 (by decide) (fun c114 => False.elim (by revert c114; decide)) (fun _ => ?_)
        refine lv_aload_n hx hb dL_rules_214 rfl (lv_at hl 7 rfl) ?_
        refine g_Vi (As := []) (rest := []) ⟨hx, hb, hml, hown, hts⟩ hG hN (i := 0) (by decide) rfl rfl (c_X9_apply l 0 h339 (by decide)) (cwV 0 hts gL_rules_X9_apply rfl rfl rfl (by decide +kernel) ⟨Nat.le_of_ble_eq_true rfl, Nat.le_of_ble_eq_true rfl⟩) rfl hl.1 rfl (Nat.le_of_ble_eq_true rfl) dL_rules_215 ⟨Nat.le_of_ble_eq_true rfl, Nat.le_of_ble_eq_true rfl⟩ (fun r115 Fq116 Vq117 oq118 H locs hq119 hN => ?_)
        obtain ⟨ho8, er8, hFF9, hVV9⟩ := null_ap hq119
        dsimp only at ho8 er8 hFF9 hVV9
        have ho8 := ho8.symm
        subst ho8
        refine g_top (y := 0) er8 ?_
        refine lv_if_ne (tgt := 225) hx hb dL_rules_218 (by decide) (fun c120 => False.elim (by revert c120; decide)) (fun _ => ?_)
        refine lv_iconst (v := 1) hx hb dL_rules_221 (by decide) ?_
        refine lv_goto (tgt := 226) hx hb dL_rules_222 (by decide) ?_
        refine W.widen (k := 20) (n := 120) (by omega) (by omega) ?_
        exact g_rz hx hb hr hlocks (by decide) hN (⟨rfl, rfl, rules_ok (w := 1) (i := 0) hP (by decide) hrk hF19 eu9 ev9 hFF9 hVV9⟩) dL_rules_226
  · refine g_top (y := 2) (by rw [e6]; rfl) ?_
    refine lv_istore (lv' := [(4, .int 2), (0, .ref (ad 0)), (1, .int (nI x)), (2, .int (nI y)), (3, .ref (ad 43))]) hx hb dL_rules_4 hl (by decide) rfl (fun ls hl => ?_)
    refine lv_iload_n hx hb dL_rules_6 rfl (lv_at hl 2 rfl) ?_
    refine lv_bipush (v := 6) hx hb dL_rules_7 (by decide) ?_
    refine g_divN (a := x) (b := 6) hx hb rfl rfl (by omega) (by omega) (by omega) dL_rules_9 ?_
    refine lv_iconst (v := 5) hx hb dL_rules_10 (by decide) ?_
    refine g_remN (a := x / 6) (b := 5) hx hb rfl rfl (by omega) (by omega) (by omega) dL_rules_11 ?_
    obtain ⟨i9, hi9, ei9⟩ : ∃ q, q < 5 ∧ (x / 6) % 5 = q := ⟨_, by omega, rfl⟩
    refine g_top (y := nI i9) (by rw [ei9]) ?_
    refine lv_istore (lv' := [(5, .int (nI i9)), (4, .int 2), (0, .ref (ad 0)), (1, .int (nI x)), (2, .int (nI y)), (3, .ref (ad 43))]) hx hb dL_rules_12 hl (by decide) rfl (fun ls hl => ?_)
    refine lv_iload hx hb dL_rules_14 (lv_at hl 1 rfl) ?_
    refine lv_if_ne (tgt := 24) hx hb dL_rules_16 (by decide) (fun _ => ?_) (fun c121 => False.elim (by revert c121; decide))
    refine lv_iload hx hb dL_rules_24 (lv_at hl 1 rfl) ?_
    refine lv_iconst (v := 1) hx hb dL_rules_26 (by decide) ?_
    refine lv_icmp_ne (tgt := 36) hx hb dL_rules_27 (by decide) (fun _ => ?_) (fun c122 => False.elim (by revert c122; decide))
    refine lv_iload hx hb dL_rules_36 (lv_at hl 1 rfl) ?_
    refine lv_iconst (v := 2) hx hb dL_rules_38 (by decide) ?_
    refine lv_icmp_ne (tgt := 46) hx hb dL_rules_39 (by decide) (fun c123 => False.elim (by revert c123; decide)) (fun _ => ?_)
    refine lv_iconst (v := 1) hx hb dL_rules_42 (by decide) ?_
    refine lv_goto (tgt := 70) hx hb dL_rules_43 (by decide) ?_
    refine lv_istore (lv' := [(6, .int 1), (5, .int (nI i9)), (4, .int 2), (0, .ref (ad 0)), (1, .int (nI x)), (2, .int (nI y)), (3, .ref (ad 43))]) hx hb dL_rules_70 hl (by decide) rfl (fun ls hl => ?_)
    refine lv_iload_n hx hb dL_rules_72 rfl (lv_at hl 5 rfl) ?_
    refine lv_iload hx hb dL_rules_73 (lv_at hl 0 rfl) ?_
    refine lv_iconst (v := 2) hx hb dL_rules_75 (by decide) ?_
    refine g_addN (a := 1) (b := 2) hx hb rfl rfl dL_rules_76 ?_
    refine g_remN (a := y) (b := 1 + 2) hx hb rfl rfl (by omega) (by omega) (by omega) dL_rules_77 ?_
    obtain ⟨m9, hm9, em9⟩ : ∃ q, q < 3 ∧ y % (1 + 2) = q := ⟨_, by omega, rfl⟩
    refine g_top (y := nI m9) (by rw [em9]) ?_
    refine lv_istore (lv' := [(7, .int (nI m9)), (6, .int 1), (5, .int (nI i9)), (4, .int 2), (0, .ref (ad 0)), (1, .int (nI x)), (2, .int (nI y)), (3, .ref (ad 43))]) hx hb dL_rules_78 hl (by decide) rfl (fun ls hl => ?_)
    refine lv_iload hx hb dL_rules_80 (lv_at hl 0 rfl) ?_
    refine lv_iload hx hb dL_rules_82 (lv_at hl 1 rfl) ?_
    refine g_cN_gt (a := m9) (b := 1) (tgt := 116) hx hb dL_rules_84 (by decide) rfl rfl (by omega) (by omega) (fun c124 => ?_) (fun c124 => ?_)
    · have hrk : rOk 2 0 m9 = false := decide_eq_false (fun z => by have h1 : m9 ≤ 1 := z.1; omega)
      refine lv_iconst (v := 0) hx hb dL_rules_116 (by decide) ?_
      refine lv_istore (lv' := [(8, .int 0), (7, .int (nI m9)), (6, .int 1), (5, .int (nI i9)), (4, .int 2), (0, .ref (ad 0)), (1, .int (nI x)), (2, .int (nI y)), (3, .ref (ad 43))]) hx hb dL_rules_117 hl (by decide) rfl (fun ls hl => ?_)
      refine lv_aload_n hx hb dL_rules_119 rfl (lv_at hl 5 rfl) ?_
      refine lv_iload hx hb dL_rules_120 (lv_at hl 4 rfl) ?_
      refine g_SV (As := [.ref (ad 0), .int 2]) (rest := []) ⟨hx, hb, hml, hown, hts⟩ hG hN (c_L_word2 l hl9 hP.2.1.2.2) (va_cwS 2 hts gL_rules_L_word rfl rfl rfl (by decide +kernel) ⟨Nat.le_of_ble_eq_true rfl, Nat.le_of_ble_eq_true rfl⟩) rfl hl.1 rfl (Nat.le_of_ble_eq_true rfl) dL_rules_122 ⟨Nat.le_of_ble_eq_true rfl, Nat.le_of_ble_eq_true rfl⟩ (fun H locs hN => ?_)
      have dl9 := dg_len m9
      have di9 := dg_len i9
      refine lv_iload hx hb dL_rules_125 (lv_at hl 4 rfl) ?_
      refine lv_iconst (v := 3) hx hb dL_rules_127 (by decide) ?_
      refine lv_icmp_ne (tgt := 145) hx hb dL_rules_128 (by decide) (fun _ => ?_) (fun c125 => False.elim (by revert c125; decide))
      refine lv_aload_n hx hb dL_rules_145 rfl (lv_at hl 5 rfl) ?_
      refine lv_iload hx hb dL_rules_146 (lv_at hl 1 rfl) ?_
      refine g_Si (As := [.ref (ad 0), .int (nI m9)]) (rest := []) ⟨hx, hb, hml, hown, hts⟩ hG hN (c_L_digits l hl9 m9 5 (by omega) (gw_ss _ _ _ _) (by omega)) (va_cwS 2 hts gL_rules_L_digits rfl rfl rfl (by decide +kernel) ⟨Nat.le_of_ble_eq_true rfl, Nat.le_of_ble_eq_true rfl⟩) rfl hl.1 rfl (Nat.le_of_ble_eq_true rfl) dL_rules_148 ⟨Nat.le_of_ble_eq_true rfl, Nat.le_of_ble_eq_true rfl⟩ (fun r126 Fq127 Vq128 oq129 H locs hq130 hN => ?_)
      cases hq130
      refine lv_pop hx hb dL_rules_151 rfl ?_
      have eF9 : (tyF (tyF F 0 (wordL 2)) 5 (dg m9)) = tyF F 0 (rL 2 0 m9) := tyF_app (wordL 2) F 0 (dg m9)
      have eL9 : (rL 2 0 m9).length = 5 + (dg m9).length := List.length_append
      have eV9 : (gw (gw V 3 3 (nI 5)) 3 3 (nI (5 + (dg m9).length))) = gw V 3 3 (nI (rL 2 0 m9).length) := by rw [eL9, gw_gw]
      rw [eF9, eV9] at hN
      refine lv_aload_n hx hb dL_rules_152 rfl (lv_at hl 5 rfl) ?_
      refine g_Vi (As := []) (rest := []) ⟨hx, hb, hml, hown, hts⟩ hG hN (i := 0) (by decide) rfl rfl (c_X9_apply l (rL 2 0 m9).length (gw_ss _ _ _ _) (rL_len (by decide))) (cwV 0 hts gL_rules_X9_apply rfl rfl rfl (by decide +kernel) ⟨Nat.le_of_ble_eq_true rfl, Nat.le_of_ble_eq_true rfl⟩) rfl hl.1 rfl (Nat.le_of_ble_eq_true rfl) dL_rules_153 ⟨Nat.le_of_ble_eq_true rfl, Nat.le_of_ble_eq_true rfl⟩ (fun r131 Fq132 Vq133 oq134 H locs hq135 hN => ?_)
      obtain ⟨ho9, F19, N9, hF19, hok9, hno9⟩ := rule_ap (w := 2) (i := 0) (m := m9) (by decide) (by omega) (rK2 m9 (by omega)) hq135
      dsimp only at ho9 hok9 hno9
      have ho9 := ho9.symm
      subst ho9
      obtain ⟨er9, eu9, ev9⟩ := hno9 hrk
      have h339 : Vq133 3 3 = 0 := by rw [ev9]; exact gw_ss _ _ _ _
      refine g_top (y := (-1)) er9 ?_
      refine lv_istore (lv' := [(9, .int (-1)), (8, .int 0), (7, .int (nI m9)), (6, .int 1), (5, .int (nI i9)), (4, .int 2), (0, .ref (ad 0)), (1, .int (nI x)), (2, .int (nI y)), (3, .ref (ad 43))]) hx hb dL_rules_156 hl (by decide) rfl (fun ls hl => ?_)
      refine lv_iload hx hb dL_rules_158 (lv_at hl 5 rfl) ?_
      refine lv_iconst (v := 3) hx hb dL_rules_160 (by decide) ?_
      refine lv_icmp_ne (tgt := 171) hx hb dL_rules_161 (by decide) (fun _ => ?_) (fun c136 => False.elim (by revert c136; decide))
      refine lv_iload hx hb dL_rules_171 (lv_at hl 5 rfl) ?_
      refine lv_iconst (v := 3) hx hb dL_rules_173 (by decide) ?_
      refine lv_icmp_ge (tgt := 182) hx hb dL_rules_174 (by decide) (fun c137 => False.elim (by revert c137; decide)) (fun _ => ?_)
      refine lv_iload hx hb dL_rules_177 (lv_at hl 5 rfl) ?_
      refine lv_goto (tgt := 186) hx hb dL_rules_179 (by decide) ?_
      refine lv_istore (lv' := [(10, .int 2), (9, .int (-1)), (8, .int 0), (7, .int (nI m9)), (6, .int 1), (5, .int (nI i9)), (4, .int 2), (0, .ref (ad 0)), (1, .int (nI x)), (2, .int (nI y)), (3, .ref (ad 43))]) hx hb dL_rules_186 hl (by decide) rfl (fun ls hl => ?_)
      refine lv_iload hx hb dL_rules_188 (lv_at hl 2 rfl) ?_
      refine lv_if_eq (tgt := 199) hx hb dL_rules_190 (by decide) (fun _ => ?_) (fun c138 => False.elim (by revert c138; decide))
      refine lv_iload hx hb dL_rules_199 (lv_at hl 1 rfl) ?_
      refine lv_iload hx hb dL_rules_201 (lv_at hl 2 rfl) ?_
      refine lv_if_eq (tgt := 210) hx hb dL_rules_203 (by decide) (fun _ => ?_) (fun c139 => False.elim (by revert c139; decide))
      refine lv_iconst (v := (-1)) hx hb dL_rules_210 (by decide) ?_
      refine lv_icmp_ne (tgt := 225) hx hb dL_rules_211 (by decide) (fun c140 => False.elim (by revert c140; decide)) (fun _ => ?_)
      refine lv_aload_n hx hb dL_rules_214 rfl (lv_at hl 7 rfl) ?_
      refine g_Vi (As := []) (rest := []) ⟨hx, hb, hml, hown, hts⟩ hG hN (i := 0) (by decide) rfl rfl (c_X9_apply l 0 h339 (by decide)) (cwV 0 hts gL_rules_X9_apply rfl rfl rfl (by decide +kernel) ⟨Nat.le_of_ble_eq_true rfl, Nat.le_of_ble_eq_true rfl⟩) rfl hl.1 rfl (Nat.le_of_ble_eq_true rfl) dL_rules_215 ⟨Nat.le_of_ble_eq_true rfl, Nat.le_of_ble_eq_true rfl⟩ (fun r141 Fq142 Vq143 oq144 H locs hq145 hN => ?_)
      obtain ⟨ho8, er8, hFF9, hVV9⟩ := null_ap hq145
      dsimp only at ho8 er8 hFF9 hVV9
      have ho8 := ho8.symm
      subst ho8
      refine g_top (y := 0) er8 ?_
      refine lv_if_ne (tgt := 225) hx hb dL_rules_218 (by decide) (fun c146 => False.elim (by revert c146; decide)) (fun _ => ?_)
      refine lv_iconst (v := 1) hx hb dL_rules_221 (by decide) ?_
      refine lv_goto (tgt := 226) hx hb dL_rules_222 (by decide) ?_
      refine W.widen (k := 20) (n := 120) (by omega) (by omega) ?_
      exact g_rz hx hb hr hlocks (by decide) hN (⟨rfl, rfl, rules_no hP hF19 eu9 ev9 hFF9 hVV9⟩) dL_rules_226
    · refine lv_iload hx hb dL_rules_87 (lv_at hl 3 rfl) ?_
      refine lv_iconst (v := 1) hx hb dL_rules_89 (by decide) ?_
      refine lv_icmp_ne (tgt := 100) hx hb dL_rules_90 (by decide) (fun _ => ?_) (fun c147 => False.elim (by revert c147; decide))
      refine lv_iload hx hb dL_rules_100 (lv_at hl 3 rfl) ?_
      refine lv_iconst (v := 3) hx hb dL_rules_102 (by decide) ?_
      refine lv_icmp_ne (tgt := 112) hx hb dL_rules_103 (by decide) (fun _ => ?_) (fun c148 => False.elim (by revert c148; decide))
      have hrk : rOk 2 0 m9 = true := decide_eq_true ⟨(show m9 ≤ 1 by omega), fun z => absurd z (by decide), fun z => absurd z (by decide)⟩
      refine lv_iconst (v := 1) hx hb dL_rules_112 (by decide) ?_
      refine lv_goto (tgt := 117) hx hb dL_rules_113 (by decide) ?_
      refine lv_istore (lv' := [(8, .int 1), (7, .int (nI m9)), (6, .int 1), (5, .int (nI i9)), (4, .int 2), (0, .ref (ad 0)), (1, .int (nI x)), (2, .int (nI y)), (3, .ref (ad 43))]) hx hb dL_rules_117 hl (by decide) rfl (fun ls hl => ?_)
      refine lv_aload_n hx hb dL_rules_119 rfl (lv_at hl 5 rfl) ?_
      refine lv_iload hx hb dL_rules_120 (lv_at hl 4 rfl) ?_
      refine g_SV (As := [.ref (ad 0), .int 2]) (rest := []) ⟨hx, hb, hml, hown, hts⟩ hG hN (c_L_word2 l hl9 hP.2.1.2.2) (va_cwS 2 hts gL_rules_L_word rfl rfl rfl (by decide +kernel) ⟨Nat.le_of_ble_eq_true rfl, Nat.le_of_ble_eq_true rfl⟩) rfl hl.1 rfl (Nat.le_of_ble_eq_true rfl) dL_rules_122 ⟨Nat.le_of_ble_eq_true rfl, Nat.le_of_ble_eq_true rfl⟩ (fun H locs hN => ?_)
      have dl9 := dg_len m9
      have di9 := dg_len i9
      refine lv_iload hx hb dL_rules_125 (lv_at hl 4 rfl) ?_
      refine lv_iconst (v := 3) hx hb dL_rules_127 (by decide) ?_
      refine lv_icmp_ne (tgt := 145) hx hb dL_rules_128 (by decide) (fun _ => ?_) (fun c149 => False.elim (by revert c149; decide))
      refine lv_aload_n hx hb dL_rules_145 rfl (lv_at hl 5 rfl) ?_
      refine lv_iload hx hb dL_rules_146 (lv_at hl 1 rfl) ?_
      refine g_Si (As := [.ref (ad 0), .int (nI m9)]) (rest := []) ⟨hx, hb, hml, hown, hts⟩ hG hN (c_L_digits l hl9 m9 5 (by omega) (gw_ss _ _ _ _) (by omega)) (va_cwS 2 hts gL_rules_L_digits rfl rfl rfl (by decide +kernel) ⟨Nat.le_of_ble_eq_true rfl, Nat.le_of_ble_eq_true rfl⟩) rfl hl.1 rfl (Nat.le_of_ble_eq_true rfl) dL_rules_148 ⟨Nat.le_of_ble_eq_true rfl, Nat.le_of_ble_eq_true rfl⟩ (fun r150 Fq151 Vq152 oq153 H locs hq154 hN => ?_)
      cases hq154
      refine lv_pop hx hb dL_rules_151 rfl ?_
      have eF9 : (tyF (tyF F 0 (wordL 2)) 5 (dg m9)) = tyF F 0 (rL 2 0 m9) := tyF_app (wordL 2) F 0 (dg m9)
      have eL9 : (rL 2 0 m9).length = 5 + (dg m9).length := List.length_append
      have eV9 : (gw (gw V 3 3 (nI 5)) 3 3 (nI (5 + (dg m9).length))) = gw V 3 3 (nI (rL 2 0 m9).length) := by rw [eL9, gw_gw]
      rw [eF9, eV9] at hN
      refine lv_aload_n hx hb dL_rules_152 rfl (lv_at hl 5 rfl) ?_
      refine g_Vi (As := []) (rest := []) ⟨hx, hb, hml, hown, hts⟩ hG hN (i := 0) (by decide) rfl rfl (c_X9_apply l (rL 2 0 m9).length (gw_ss _ _ _ _) (rL_len (by decide))) (cwV 0 hts gL_rules_X9_apply rfl rfl rfl (by decide +kernel) ⟨Nat.le_of_ble_eq_true rfl, Nat.le_of_ble_eq_true rfl⟩) rfl hl.1 rfl (Nat.le_of_ble_eq_true rfl) dL_rules_153 ⟨Nat.le_of_ble_eq_true rfl, Nat.le_of_ble_eq_true rfl⟩ (fun r155 Fq156 Vq157 oq158 H locs hq159 hN => ?_)
      obtain ⟨ho9, F19, N9, hF19, hok9, hno9⟩ := rule_ap (w := 2) (i := 0) (m := m9) (by decide) (by omega) (rK2 m9 (by omega)) hq159
      dsimp only at ho9 hok9 hno9
      have ho9 := ho9.symm
      subst ho9
      obtain ⟨er9, eu9, ev9⟩ := hok9 hrk
      have h339 : Vq157 3 3 = 0 := by rw [ev9]; exact rule_33 (m := m9)
      refine g_top (y := 1) er9 ?_
      refine lv_istore (lv' := [(9, .int 1), (8, .int 1), (7, .int (nI m9)), (6, .int 1), (5, .int (nI i9)), (4, .int 2), (0, .ref (ad 0)), (1, .int (nI x)), (2, .int (nI y)), (3, .ref (ad 43))]) hx hb dL_rules_156 hl (by decide) rfl (fun ls hl => ?_)
      refine lv_iload hx hb dL_rules_158 (lv_at hl 5 rfl) ?_
      refine lv_iconst (v := 3) hx hb dL_rules_160 (by decide) ?_
      refine lv_icmp_ne (tgt := 171) hx hb dL_rules_161 (by decide) (fun _ => ?_) (fun c160 => False.elim (by revert c160; decide))
      refine lv_iload hx hb dL_rules_171 (lv_at hl 5 rfl) ?_
      refine lv_iconst (v := 3) hx hb dL_rules_173 (by decide) ?_
      refine lv_icmp_ge (tgt := 182) hx hb dL_rules_174 (by decide) (fun c161 => False.elim (by revert c161; decide)) (fun _ => ?_)
      refine lv_iload hx hb dL_rules_177 (lv_at hl 5 rfl) ?_
      refine lv_goto (tgt := 186) hx hb dL_rules_179 (by decide) ?_
      refine lv_istore (lv' := [(10, .int 2), (9, .int 1), (8, .int 1), (7, .int (nI m9)), (6, .int 1), (5, .int (nI i9)), (4, .int 2), (0, .ref (ad 0)), (1, .int (nI x)), (2, .int (nI y)), (3, .ref (ad 43))]) hx hb dL_rules_186 hl (by decide) rfl (fun ls hl => ?_)
      refine lv_iload hx hb dL_rules_188 (lv_at hl 2 rfl) ?_
      refine lv_if_eq (tgt := 199) hx hb dL_rules_190 (by decide) (fun c162 => False.elim (by revert c162; decide)) (fun _ => ?_)
      refine lv_aload_n hx hb dL_rules_193 rfl (lv_at hl 10 rfl) ?_
      refine lv_iload hx hb dL_rules_194 (lv_at hl 0 rfl) ?_
      refine lv_iload hx hb dL_rules_196 (lv_at hl 3 rfl) ?_
      refine g_iast hx hb hG hN (i := 43) (n := 9) (j := 2) (by decide) (fun _ => rfl) (by decide) (by omega) rfl dL_rules_198 (fun H locs hN => ?_)
      refine lv_iload hx hb dL_rules_199 (lv_at hl 1 rfl) ?_
      refine lv_iload hx hb dL_rules_201 (lv_at hl 2 rfl) ?_
      refine lv_if_eq (tgt := 210) hx hb dL_rules_203 (by decide) (fun c163 => False.elim (by revert c163; decide)) (fun _ => ?_)
      refine lv_iconst (v := 1) hx hb dL_rules_206 (by decide) ?_
      refine lv_goto (tgt := 211) hx hb dL_rules_207 (by decide) ?_
      refine lv_icmp_ne (tgt := 225) hx hb dL_rules_211 (by decide) (fun c164 => False.elim (by revert c164; decide)) (fun _ => ?_)
      refine lv_aload_n hx hb dL_rules_214 rfl (lv_at hl 7 rfl) ?_
      refine g_Vi (As := []) (rest := []) ⟨hx, hb, hml, hown, hts⟩ hG hN (i := 0) (by decide) rfl rfl (c_X9_apply l 0 h339 (by decide)) (cwV 0 hts gL_rules_X9_apply rfl rfl rfl (by decide +kernel) ⟨Nat.le_of_ble_eq_true rfl, Nat.le_of_ble_eq_true rfl⟩) rfl hl.1 rfl (Nat.le_of_ble_eq_true rfl) dL_rules_215 ⟨Nat.le_of_ble_eq_true rfl, Nat.le_of_ble_eq_true rfl⟩ (fun r165 Fq166 Vq167 oq168 H locs hq169 hN => ?_)
      obtain ⟨ho8, er8, hFF9, hVV9⟩ := null_ap hq169
      dsimp only at ho8 er8 hFF9 hVV9
      have ho8 := ho8.symm
      subst ho8
      refine g_top (y := 0) er8 ?_
      refine lv_if_ne (tgt := 225) hx hb dL_rules_218 (by decide) (fun c170 => False.elim (by revert c170; decide)) (fun _ => ?_)
      refine lv_iconst (v := 1) hx hb dL_rules_221 (by decide) ?_
      refine lv_goto (tgt := 226) hx hb dL_rules_222 (by decide) ?_
      refine W.widen (k := 20) (n := 120) (by omega) (by omega) ?_
      exact g_rz hx hb hr hlocks (by decide) hN (⟨rfl, rfl, rules_ok (w := 2) (i := 0) hP (by decide) hrk hF19 eu9 ev9 hFF9 hVV9⟩) dL_rules_226
  · refine g_top (y := 3) (by rw [e6]; rfl) ?_
    refine lv_istore (lv' := [(4, .int 3), (0, .ref (ad 0)), (1, .int (nI x)), (2, .int (nI y)), (3, .ref (ad 43))]) hx hb dL_rules_4 hl (by decide) rfl (fun ls hl => ?_)
    refine lv_iload_n hx hb dL_rules_6 rfl (lv_at hl 2 rfl) ?_
    refine lv_bipush (v := 6) hx hb dL_rules_7 (by decide) ?_
    refine g_divN (a := x) (b := 6) hx hb rfl rfl (by omega) (by omega) (by omega) dL_rules_9 ?_
    refine lv_iconst (v := 5) hx hb dL_rules_10 (by decide) ?_
    refine g_remN (a := x / 6) (b := 5) hx hb rfl rfl (by omega) (by omega) (by omega) dL_rules_11 ?_
    obtain ⟨i9, hi9, ei9⟩ : ∃ q, q < 5 ∧ (x / 6) % 5 = q := ⟨_, by omega, rfl⟩
    refine g_top (y := nI i9) (by rw [ei9]) ?_
    refine lv_istore (lv' := [(5, .int (nI i9)), (4, .int 3), (0, .ref (ad 0)), (1, .int (nI x)), (2, .int (nI y)), (3, .ref (ad 43))]) hx hb dL_rules_12 hl (by decide) rfl (fun ls hl => ?_)
    refine lv_iload hx hb dL_rules_14 (lv_at hl 1 rfl) ?_
    refine lv_if_ne (tgt := 24) hx hb dL_rules_16 (by decide) (fun _ => ?_) (fun c171 => False.elim (by revert c171; decide))
    refine lv_iload hx hb dL_rules_24 (lv_at hl 1 rfl) ?_
    refine lv_iconst (v := 1) hx hb dL_rules_26 (by decide) ?_
    refine lv_icmp_ne (tgt := 36) hx hb dL_rules_27 (by decide) (fun _ => ?_) (fun c172 => False.elim (by revert c172; decide))
    refine lv_iload hx hb dL_rules_36 (lv_at hl 1 rfl) ?_
    refine lv_iconst (v := 2) hx hb dL_rules_38 (by decide) ?_
    refine lv_icmp_ne (tgt := 46) hx hb dL_rules_39 (by decide) (fun _ => ?_) (fun c173 => False.elim (by revert c173; decide))
    refine lv_iload hx hb dL_rules_46 (lv_at hl 1 rfl) ?_
    refine lv_iconst (v := 3) hx hb dL_rules_48 (by decide) ?_
    refine lv_icmp_ne (tgt := 57) hx hb dL_rules_49 (by decide) (fun c174 => False.elim (by revert c174; decide)) (fun _ => ?_)
    refine lv_bipush (v := 40) hx hb dL_rules_52 (by decide) ?_
    refine lv_goto (tgt := 70) hx hb dL_rules_54 (by decide) ?_
    refine lv_istore (lv' := [(6, .int 40), (5, .int (nI i9)), (4, .int 3), (0, .ref (ad 0)), (1, .int (nI x)), (2, .int (nI y)), (3, .ref (ad 43))]) hx hb dL_rules_70 hl (by decide) rfl (fun ls hl => ?_)
    refine lv_iload_n hx hb dL_rules_72 rfl (lv_at hl 5 rfl) ?_
    refine lv_iload hx hb dL_rules_73 (lv_at hl 0 rfl) ?_
    refine lv_iconst (v := 2) hx hb dL_rules_75 (by decide) ?_
    refine g_addN (a := 40) (b := 2) hx hb rfl rfl dL_rules_76 ?_
    refine g_remN (a := y) (b := 40 + 2) hx hb rfl rfl (by omega) (by omega) (by omega) dL_rules_77 ?_
    obtain ⟨m9, hm9, em9⟩ : ∃ q, q < 42 ∧ y % (40 + 2) = q := ⟨_, by omega, rfl⟩
    refine g_top (y := nI m9) (by rw [em9]) ?_
    refine lv_istore (lv' := [(7, .int (nI m9)), (6, .int 40), (5, .int (nI i9)), (4, .int 3), (0, .ref (ad 0)), (1, .int (nI x)), (2, .int (nI y)), (3, .ref (ad 43))]) hx hb dL_rules_78 hl (by decide) rfl (fun ls hl => ?_)
    refine lv_iload hx hb dL_rules_80 (lv_at hl 0 rfl) ?_
    refine lv_iload hx hb dL_rules_82 (lv_at hl 1 rfl) ?_
    refine g_cN_gt (a := m9) (b := 40) (tgt := 116) hx hb dL_rules_84 (by decide) rfl rfl (by omega) (by omega) (fun c175 => ?_) (fun c175 => ?_)
    · have hrk : rOk 3 i9 m9 = false := decide_eq_false (fun z => by have h1 : m9 ≤ 40 := z.1; have h2 := z.2.2 rfl; omega)
      refine lv_iconst (v := 0) hx hb dL_rules_116 (by decide) ?_
      refine lv_istore (lv' := [(8, .int 0), (7, .int (nI m9)), (6, .int 40), (5, .int (nI i9)), (4, .int 3), (0, .ref (ad 0)), (1, .int (nI x)), (2, .int (nI y)), (3, .ref (ad 43))]) hx hb dL_rules_117 hl (by decide) rfl (fun ls hl => ?_)
      refine lv_aload_n hx hb dL_rules_119 rfl (lv_at hl 5 rfl) ?_
      refine lv_iload hx hb dL_rules_120 (lv_at hl 4 rfl) ?_
      refine g_SV (As := [.ref (ad 0), .int 3]) (rest := []) ⟨hx, hb, hml, hown, hts⟩ hG hN (c_L_word3 l hl9 hP.2.1.2.2) (va_cwS 2 hts gL_rules_L_word rfl rfl rfl (by decide +kernel) ⟨Nat.le_of_ble_eq_true rfl, Nat.le_of_ble_eq_true rfl⟩) rfl hl.1 rfl (Nat.le_of_ble_eq_true rfl) dL_rules_122 ⟨Nat.le_of_ble_eq_true rfl, Nat.le_of_ble_eq_true rfl⟩ (fun H locs hN => ?_)
      have dl9 := dg_len m9
      have di9 := dg_len i9
      refine lv_iload hx hb dL_rules_125 (lv_at hl 4 rfl) ?_
      refine lv_iconst (v := 3) hx hb dL_rules_127 (by decide) ?_
      refine lv_icmp_ne (tgt := 145) hx hb dL_rules_128 (by decide) (fun c176 => False.elim (by revert c176; decide)) (fun _ => ?_)
      refine lv_aload_n hx hb dL_rules_131 rfl (lv_at hl 5 rfl) ?_
      refine lv_iload hx hb dL_rules_132 (lv_at hl 3 rfl) ?_
      refine g_Si (As := [.ref (ad 0), .int (nI i9)]) (rest := []) ⟨hx, hb, hml, hown, hts⟩ hG hN (c_L_digits l hl9 i9 5 (by omega) (gw_ss _ _ _ _) (by omega)) (va_cwS 2 hts gL_rules_L_digits rfl rfl rfl (by decide +kernel) ⟨Nat.le_of_ble_eq_true rfl, Nat.le_of_ble_eq_true rfl⟩) rfl hl.1 rfl (Nat.le_of_ble_eq_true rfl) dL_rules_134 ⟨Nat.le_of_ble_eq_true rfl, Nat.le_of_ble_eq_true rfl⟩ (fun r177 Fq178 Vq179 oq180 H locs hq181 hN => ?_)
      cases hq181
      refine lv_pop hx hb dL_rules_137 rfl ?_
      refine lv_aload_n hx hb dL_rules_138 rfl (lv_at hl 5 rfl) ?_
      refine lv_bipush (v := 32) hx hb dL_rules_139 (by decide) ?_
      refine g_nVI (As := [.int 32]) (rest := []) ⟨hx, hb, hml, hown, hts⟩ hG hN (i := 0) (by decide) rfl rfl (c_X9_type l hl9 32 (5 + (dg i9).length) (gw_ss _ _ _ _) (by omega) (by decide)) (cwV 1 hts gL_rules_X9_type rfl rfl rfl (by decide +kernel) ⟨Nat.le_of_ble_eq_true rfl, Nat.le_of_ble_eq_true rfl⟩) rfl hl.1 rfl (Nat.le_of_ble_eq_true rfl) dL_rules_141 ⟨Nat.le_of_ble_eq_true rfl, Nat.le_of_ble_eq_true rfl⟩ (no2 (fTyp0 (n := (5 + (dg i9).length)) (gw_ss _ _ _ _) (by omega) (by decide))) (fun hz182 H locs hN => ?_)
      refine lv_pop hx hb dL_rules_144 rfl ?_
      refine lv_aload_n hx hb dL_rules_145 rfl (lv_at hl 5 rfl) ?_
      refine lv_iload hx hb dL_rules_146 (lv_at hl 1 rfl) ?_
      refine g_Si (As := [.ref (ad 0), .int (nI m9)]) (rest := []) ⟨hx, hb, hml, hown, hts⟩ hG hN (c_L_digits l hl9 m9 (5 + (dg i9).length + 1) (by omega) (gw_ss _ _ _ _) (by omega)) (va_cwS 2 hts gL_rules_L_digits rfl rfl rfl (by decide +kernel) ⟨Nat.le_of_ble_eq_true rfl, Nat.le_of_ble_eq_true rfl⟩) rfl hl.1 rfl (Nat.le_of_ble_eq_true rfl) dL_rules_148 ⟨Nat.le_of_ble_eq_true rfl, Nat.le_of_ble_eq_true rfl⟩ (fun r183 Fq184 Vq185 oq186 H locs hq187 hN => ?_)
      cases hq187
      refine lv_pop hx hb dL_rules_151 rfl ?_
      have eF9 : (tyF (gw (tyF (tyF F 0 (wordL 3)) 5 (dg i9)) 4 (5 + (dg i9).length) 32) (5 + (dg i9).length + 1) (dg m9)) = tyF F 0 (rL 3 i9 m9) := (tyF_app (dg i9) (tyF F 0 (wordL 3)) 5 (32 :: dg m9)).trans (tyF_app (wordL 3) F 0 (dg i9 ++ (32 :: dg m9)))
      have eL9 : (rL 3 i9 m9).length = 5 + (dg i9).length + 1 + (dg m9).length := by show (wordL 3 ++ (dg i9 ++ (32 :: dg m9))).length = _; simp only [List.length_append, List.length_cons]; show 5 + ((dg i9).length + ((dg m9).length + 1)) = _; omega
      have eV9 : (gw (gw (gw (gw V 3 3 (nI 5)) 3 3 (nI (5 + (dg i9).length))) 3 3 (nI (5 + (dg i9).length + 1))) 3 3 (nI ((5 + (dg i9).length + 1) + (dg m9).length))) = gw V 3 3 (nI (rL 3 i9 m9).length) := by rw [eL9, gw_gw, gw_gw, gw_gw]
      rw [eF9, eV9] at hN
      refine lv_aload_n hx hb dL_rules_152 rfl (lv_at hl 5 rfl) ?_
      refine g_Vi (As := []) (rest := []) ⟨hx, hb, hml, hown, hts⟩ hG hN (i := 0) (by decide) rfl rfl (c_X9_apply l (rL 3 i9 m9).length (gw_ss _ _ _ _) (rL_len (by decide))) (cwV 0 hts gL_rules_X9_apply rfl rfl rfl (by decide +kernel) ⟨Nat.le_of_ble_eq_true rfl, Nat.le_of_ble_eq_true rfl⟩) rfl hl.1 rfl (Nat.le_of_ble_eq_true rfl) dL_rules_153 ⟨Nat.le_of_ble_eq_true rfl, Nat.le_of_ble_eq_true rfl⟩ (fun r188 Fq189 Vq190 oq191 H locs hq192 hN => ?_)
      obtain ⟨ho9, F19, N9, hF19, hok9, hno9⟩ := rule_ap (w := 3) (i := i9) (m := m9) (by decide) (by omega) (rK3 i9 (by omega) m9 (by omega)) hq192
      dsimp only at ho9 hok9 hno9
      have ho9 := ho9.symm
      subst ho9
      obtain ⟨er9, eu9, ev9⟩ := hno9 hrk
      have h339 : Vq190 3 3 = 0 := by rw [ev9]; exact gw_ss _ _ _ _
      refine g_top (y := (-1)) er9 ?_
      refine lv_istore (lv' := [(9, .int (-1)), (8, .int 0), (7, .int (nI m9)), (6, .int 40), (5, .int (nI i9)), (4, .int 3), (0, .ref (ad 0)), (1, .int (nI x)), (2, .int (nI y)), (3, .ref (ad 43))]) hx hb dL_rules_156 hl (by decide) rfl (fun ls hl => ?_)
      refine lv_iload hx hb dL_rules_158 (lv_at hl 5 rfl) ?_
      refine lv_iconst (v := 3) hx hb dL_rules_160 (by decide) ?_
      refine lv_icmp_ne (tgt := 171) hx hb dL_rules_161 (by decide) (fun c193 => False.elim (by revert c193; decide)) (fun _ => ?_)
      refine lv_iconst (v := 3) hx hb dL_rules_164 (by decide) ?_
      refine lv_iload hx hb dL_rules_165 (lv_at hl 4 rfl) ?_
      refine g_addN (a := 3) (b := i9) hx hb rfl rfl dL_rules_167 ?_
      refine lv_goto (tgt := 186) hx hb dL_rules_168 (by decide) ?_
      refine lv_istore (lv' := [(10, .int (nI (3 + i9))), (9, .int (-1)), (8, .int 0), (7, .int (nI m9)), (6, .int 40), (5, .int (nI i9)), (4, .int 3), (0, .ref (ad 0)), (1, .int (nI x)), (2, .int (nI y)), (3, .ref (ad 43))]) hx hb dL_rules_186 hl (by decide) rfl (fun ls hl => ?_)
      refine lv_iload hx hb dL_rules_188 (lv_at hl 2 rfl) ?_
      refine lv_if_eq (tgt := 199) hx hb dL_rules_190 (by decide) (fun _ => ?_) (fun c194 => False.elim (by revert c194; decide))
      refine lv_iload hx hb dL_rules_199 (lv_at hl 1 rfl) ?_
      refine lv_iload hx hb dL_rules_201 (lv_at hl 2 rfl) ?_
      refine lv_if_eq (tgt := 210) hx hb dL_rules_203 (by decide) (fun _ => ?_) (fun c195 => False.elim (by revert c195; decide))
      refine lv_iconst (v := (-1)) hx hb dL_rules_210 (by decide) ?_
      refine lv_icmp_ne (tgt := 225) hx hb dL_rules_211 (by decide) (fun c196 => False.elim (by revert c196; decide)) (fun _ => ?_)
      refine lv_aload_n hx hb dL_rules_214 rfl (lv_at hl 7 rfl) ?_
      refine g_Vi (As := []) (rest := []) ⟨hx, hb, hml, hown, hts⟩ hG hN (i := 0) (by decide) rfl rfl (c_X9_apply l 0 h339 (by decide)) (cwV 0 hts gL_rules_X9_apply rfl rfl rfl (by decide +kernel) ⟨Nat.le_of_ble_eq_true rfl, Nat.le_of_ble_eq_true rfl⟩) rfl hl.1 rfl (Nat.le_of_ble_eq_true rfl) dL_rules_215 ⟨Nat.le_of_ble_eq_true rfl, Nat.le_of_ble_eq_true rfl⟩ (fun r197 Fq198 Vq199 oq200 H locs hq201 hN => ?_)
      obtain ⟨ho8, er8, hFF9, hVV9⟩ := null_ap hq201
      dsimp only at ho8 er8 hFF9 hVV9
      have ho8 := ho8.symm
      subst ho8
      refine g_top (y := 0) er8 ?_
      refine lv_if_ne (tgt := 225) hx hb dL_rules_218 (by decide) (fun c202 => False.elim (by revert c202; decide)) (fun _ => ?_)
      refine lv_iconst (v := 1) hx hb dL_rules_221 (by decide) ?_
      refine lv_goto (tgt := 226) hx hb dL_rules_222 (by decide) ?_
      refine W.widen (k := 20) (n := 120) (by omega) (by omega) ?_
      exact g_rz hx hb hr hlocks (by decide) hN (⟨rfl, rfl, rules_no hP hF19 eu9 ev9 hFF9 hVV9⟩) dL_rules_226
    · refine lv_iload hx hb dL_rules_87 (lv_at hl 3 rfl) ?_
      refine lv_iconst (v := 1) hx hb dL_rules_89 (by decide) ?_
      refine lv_icmp_ne (tgt := 100) hx hb dL_rules_90 (by decide) (fun _ => ?_) (fun c203 => False.elim (by revert c203; decide))
      refine lv_iload hx hb dL_rules_100 (lv_at hl 3 rfl) ?_
      refine lv_iconst (v := 3) hx hb dL_rules_102 (by decide) ?_
      refine lv_icmp_ne (tgt := 112) hx hb dL_rules_103 (by decide) (fun c204 => False.elim (by revert c204; decide)) (fun _ => ?_)
      refine lv_iload hx hb dL_rules_106 (lv_at hl 2 rfl) ?_
      refine lv_iconst (v := 4) hx hb dL_rules_108 (by decide) ?_
      refine g_cN_ge (a := i9) (b := 4) (tgt := 116) hx hb dL_rules_109 (by decide) rfl rfl (by omega) (by omega) (fun c205 => ?_) (fun c205 => ?_)
      · have hrk : rOk 3 i9 m9 = false := decide_eq_false (fun z => by have h1 : m9 ≤ 40 := z.1; have h2 := z.2.2 rfl; omega)
        refine lv_iconst (v := 0) hx hb dL_rules_116 (by decide) ?_
        refine lv_istore (lv' := [(8, .int 0), (7, .int (nI m9)), (6, .int 40), (5, .int (nI i9)), (4, .int 3), (0, .ref (ad 0)), (1, .int (nI x)), (2, .int (nI y)), (3, .ref (ad 43))]) hx hb dL_rules_117 hl (by decide) rfl (fun ls hl => ?_)
        refine lv_aload_n hx hb dL_rules_119 rfl (lv_at hl 5 rfl) ?_
        refine lv_iload hx hb dL_rules_120 (lv_at hl 4 rfl) ?_
        refine g_SV (As := [.ref (ad 0), .int 3]) (rest := []) ⟨hx, hb, hml, hown, hts⟩ hG hN (c_L_word3 l hl9 hP.2.1.2.2) (va_cwS 2 hts gL_rules_L_word rfl rfl rfl (by decide +kernel) ⟨Nat.le_of_ble_eq_true rfl, Nat.le_of_ble_eq_true rfl⟩) rfl hl.1 rfl (Nat.le_of_ble_eq_true rfl) dL_rules_122 ⟨Nat.le_of_ble_eq_true rfl, Nat.le_of_ble_eq_true rfl⟩ (fun H locs hN => ?_)
        have dl9 := dg_len m9
        have di9 := dg_len i9
        refine lv_iload hx hb dL_rules_125 (lv_at hl 4 rfl) ?_
        refine lv_iconst (v := 3) hx hb dL_rules_127 (by decide) ?_
        refine lv_icmp_ne (tgt := 145) hx hb dL_rules_128 (by decide) (fun c206 => False.elim (by revert c206; decide)) (fun _ => ?_)
        refine lv_aload_n hx hb dL_rules_131 rfl (lv_at hl 5 rfl) ?_
        refine lv_iload hx hb dL_rules_132 (lv_at hl 3 rfl) ?_
        refine g_Si (As := [.ref (ad 0), .int (nI i9)]) (rest := []) ⟨hx, hb, hml, hown, hts⟩ hG hN (c_L_digits l hl9 i9 5 (by omega) (gw_ss _ _ _ _) (by omega)) (va_cwS 2 hts gL_rules_L_digits rfl rfl rfl (by decide +kernel) ⟨Nat.le_of_ble_eq_true rfl, Nat.le_of_ble_eq_true rfl⟩) rfl hl.1 rfl (Nat.le_of_ble_eq_true rfl) dL_rules_134 ⟨Nat.le_of_ble_eq_true rfl, Nat.le_of_ble_eq_true rfl⟩ (fun r207 Fq208 Vq209 oq210 H locs hq211 hN => ?_)
        cases hq211
        refine lv_pop hx hb dL_rules_137 rfl ?_
        refine lv_aload_n hx hb dL_rules_138 rfl (lv_at hl 5 rfl) ?_
        refine lv_bipush (v := 32) hx hb dL_rules_139 (by decide) ?_
        refine g_nVI (As := [.int 32]) (rest := []) ⟨hx, hb, hml, hown, hts⟩ hG hN (i := 0) (by decide) rfl rfl (c_X9_type l hl9 32 (5 + (dg i9).length) (gw_ss _ _ _ _) (by omega) (by decide)) (cwV 1 hts gL_rules_X9_type rfl rfl rfl (by decide +kernel) ⟨Nat.le_of_ble_eq_true rfl, Nat.le_of_ble_eq_true rfl⟩) rfl hl.1 rfl (Nat.le_of_ble_eq_true rfl) dL_rules_141 ⟨Nat.le_of_ble_eq_true rfl, Nat.le_of_ble_eq_true rfl⟩ (no2 (fTyp0 (n := (5 + (dg i9).length)) (gw_ss _ _ _ _) (by omega) (by decide))) (fun hz212 H locs hN => ?_)
        refine lv_pop hx hb dL_rules_144 rfl ?_
        refine lv_aload_n hx hb dL_rules_145 rfl (lv_at hl 5 rfl) ?_
        refine lv_iload hx hb dL_rules_146 (lv_at hl 1 rfl) ?_
        refine g_Si (As := [.ref (ad 0), .int (nI m9)]) (rest := []) ⟨hx, hb, hml, hown, hts⟩ hG hN (c_L_digits l hl9 m9 (5 + (dg i9).length + 1) (by omega) (gw_ss _ _ _ _) (by omega)) (va_cwS 2 hts gL_rules_L_digits rfl rfl rfl (by decide +kernel) ⟨Nat.le_of_ble_eq_true rfl, Nat.le_of_ble_eq_true rfl⟩) rfl hl.1 rfl (Nat.le_of_ble_eq_true rfl) dL_rules_148 ⟨Nat.le_of_ble_eq_true rfl, Nat.le_of_ble_eq_true rfl⟩ (fun r213 Fq214 Vq215 oq216 H locs hq217 hN => ?_)
        cases hq217
        refine lv_pop hx hb dL_rules_151 rfl ?_
        have eF9 : (tyF (gw (tyF (tyF F 0 (wordL 3)) 5 (dg i9)) 4 (5 + (dg i9).length) 32) (5 + (dg i9).length + 1) (dg m9)) = tyF F 0 (rL 3 i9 m9) := (tyF_app (dg i9) (tyF F 0 (wordL 3)) 5 (32 :: dg m9)).trans (tyF_app (wordL 3) F 0 (dg i9 ++ (32 :: dg m9)))
        have eL9 : (rL 3 i9 m9).length = 5 + (dg i9).length + 1 + (dg m9).length := by show (wordL 3 ++ (dg i9 ++ (32 :: dg m9))).length = _; simp only [List.length_append, List.length_cons]; show 5 + ((dg i9).length + ((dg m9).length + 1)) = _; omega
        have eV9 : (gw (gw (gw (gw V 3 3 (nI 5)) 3 3 (nI (5 + (dg i9).length))) 3 3 (nI (5 + (dg i9).length + 1))) 3 3 (nI ((5 + (dg i9).length + 1) + (dg m9).length))) = gw V 3 3 (nI (rL 3 i9 m9).length) := by rw [eL9, gw_gw, gw_gw, gw_gw]
        rw [eF9, eV9] at hN
        refine lv_aload_n hx hb dL_rules_152 rfl (lv_at hl 5 rfl) ?_
        refine g_Vi (As := []) (rest := []) ⟨hx, hb, hml, hown, hts⟩ hG hN (i := 0) (by decide) rfl rfl (c_X9_apply l (rL 3 i9 m9).length (gw_ss _ _ _ _) (rL_len (by decide))) (cwV 0 hts gL_rules_X9_apply rfl rfl rfl (by decide +kernel) ⟨Nat.le_of_ble_eq_true rfl, Nat.le_of_ble_eq_true rfl⟩) rfl hl.1 rfl (Nat.le_of_ble_eq_true rfl) dL_rules_153 ⟨Nat.le_of_ble_eq_true rfl, Nat.le_of_ble_eq_true rfl⟩ (fun r218 Fq219 Vq220 oq221 H locs hq222 hN => ?_)
        obtain ⟨ho9, F19, N9, hF19, hok9, hno9⟩ := rule_ap (w := 3) (i := i9) (m := m9) (by decide) (by omega) (rK3 i9 (by omega) m9 (by omega)) hq222
        dsimp only at ho9 hok9 hno9
        have ho9 := ho9.symm
        subst ho9
        obtain ⟨er9, eu9, ev9⟩ := hno9 hrk
        have h339 : Vq220 3 3 = 0 := by rw [ev9]; exact gw_ss _ _ _ _
        refine g_top (y := (-1)) er9 ?_
        refine lv_istore (lv' := [(9, .int (-1)), (8, .int 0), (7, .int (nI m9)), (6, .int 40), (5, .int (nI i9)), (4, .int 3), (0, .ref (ad 0)), (1, .int (nI x)), (2, .int (nI y)), (3, .ref (ad 43))]) hx hb dL_rules_156 hl (by decide) rfl (fun ls hl => ?_)
        refine lv_iload hx hb dL_rules_158 (lv_at hl 5 rfl) ?_
        refine lv_iconst (v := 3) hx hb dL_rules_160 (by decide) ?_
        refine lv_icmp_ne (tgt := 171) hx hb dL_rules_161 (by decide) (fun c223 => False.elim (by revert c223; decide)) (fun _ => ?_)
        refine lv_iconst (v := 3) hx hb dL_rules_164 (by decide) ?_
        refine lv_iload hx hb dL_rules_165 (lv_at hl 4 rfl) ?_
        refine g_addN (a := 3) (b := i9) hx hb rfl rfl dL_rules_167 ?_
        refine lv_goto (tgt := 186) hx hb dL_rules_168 (by decide) ?_
        refine lv_istore (lv' := [(10, .int (nI (3 + i9))), (9, .int (-1)), (8, .int 0), (7, .int (nI m9)), (6, .int 40), (5, .int (nI i9)), (4, .int 3), (0, .ref (ad 0)), (1, .int (nI x)), (2, .int (nI y)), (3, .ref (ad 43))]) hx hb dL_rules_186 hl (by decide) rfl (fun ls hl => ?_)
        refine lv_iload hx hb dL_rules_188 (lv_at hl 2 rfl) ?_
        refine lv_if_eq (tgt := 199) hx hb dL_rules_190 (by decide) (fun _ => ?_) (fun c224 => False.elim (by revert c224; decide))
        refine lv_iload hx hb dL_rules_199 (lv_at hl 1 rfl) ?_
        refine lv_iload hx hb dL_rules_201 (lv_at hl 2 rfl) ?_
        refine lv_if_eq (tgt := 210) hx hb dL_rules_203 (by decide) (fun _ => ?_) (fun c225 => False.elim (by revert c225; decide))
        refine lv_iconst (v := (-1)) hx hb dL_rules_210 (by decide) ?_
        refine lv_icmp_ne (tgt := 225) hx hb dL_rules_211 (by decide) (fun c226 => False.elim (by revert c226; decide)) (fun _ => ?_)
        refine lv_aload_n hx hb dL_rules_214 rfl (lv_at hl 7 rfl) ?_
        refine g_Vi (As := []) (rest := []) ⟨hx, hb, hml, hown, hts⟩ hG hN (i := 0) (by decide) rfl rfl (c_X9_apply l 0 h339 (by decide)) (cwV 0 hts gL_rules_X9_apply rfl rfl rfl (by decide +kernel) ⟨Nat.le_of_ble_eq_true rfl, Nat.le_of_ble_eq_true rfl⟩) rfl hl.1 rfl (Nat.le_of_ble_eq_true rfl) dL_rules_215 ⟨Nat.le_of_ble_eq_true rfl, Nat.le_of_ble_eq_true rfl⟩ (fun r227 Fq228 Vq229 oq230 H locs hq231 hN => ?_)
        obtain ⟨ho8, er8, hFF9, hVV9⟩ := null_ap hq231
        dsimp only at ho8 er8 hFF9 hVV9
        have ho8 := ho8.symm
        subst ho8
        refine g_top (y := 0) er8 ?_
        refine lv_if_ne (tgt := 225) hx hb dL_rules_218 (by decide) (fun c232 => False.elim (by revert c232; decide)) (fun _ => ?_)
        refine lv_iconst (v := 1) hx hb dL_rules_221 (by decide) ?_
        refine lv_goto (tgt := 226) hx hb dL_rules_222 (by decide) ?_
        refine W.widen (k := 20) (n := 120) (by omega) (by omega) ?_
        exact g_rz hx hb hr hlocks (by decide) hN (⟨rfl, rfl, rules_no hP hF19 eu9 ev9 hFF9 hVV9⟩) dL_rules_226
      · have hrk : rOk 3 i9 m9 = true := decide_eq_true ⟨(show m9 ≤ 40 by omega), fun z => absurd z (by decide), fun _ => by omega⟩
        refine lv_iconst (v := 1) hx hb dL_rules_112 (by decide) ?_
        refine lv_goto (tgt := 117) hx hb dL_rules_113 (by decide) ?_
        refine lv_istore (lv' := [(8, .int 1), (7, .int (nI m9)), (6, .int 40), (5, .int (nI i9)), (4, .int 3), (0, .ref (ad 0)), (1, .int (nI x)), (2, .int (nI y)), (3, .ref (ad 43))]) hx hb dL_rules_117 hl (by decide) rfl (fun ls hl => ?_)
        refine lv_aload_n hx hb dL_rules_119 rfl (lv_at hl 5 rfl) ?_
        refine lv_iload hx hb dL_rules_120 (lv_at hl 4 rfl) ?_
        refine g_SV (As := [.ref (ad 0), .int 3]) (rest := []) ⟨hx, hb, hml, hown, hts⟩ hG hN (c_L_word3 l hl9 hP.2.1.2.2) (va_cwS 2 hts gL_rules_L_word rfl rfl rfl (by decide +kernel) ⟨Nat.le_of_ble_eq_true rfl, Nat.le_of_ble_eq_true rfl⟩) rfl hl.1 rfl (Nat.le_of_ble_eq_true rfl) dL_rules_122 ⟨Nat.le_of_ble_eq_true rfl, Nat.le_of_ble_eq_true rfl⟩ (fun H locs hN => ?_)
        have dl9 := dg_len m9
        have di9 := dg_len i9
        refine lv_iload hx hb dL_rules_125 (lv_at hl 4 rfl) ?_
        refine lv_iconst (v := 3) hx hb dL_rules_127 (by decide) ?_
        refine lv_icmp_ne (tgt := 145) hx hb dL_rules_128 (by decide) (fun c233 => False.elim (by revert c233; decide)) (fun _ => ?_)
        refine lv_aload_n hx hb dL_rules_131 rfl (lv_at hl 5 rfl) ?_
        refine lv_iload hx hb dL_rules_132 (lv_at hl 3 rfl) ?_
        refine g_Si (As := [.ref (ad 0), .int (nI i9)]) (rest := []) ⟨hx, hb, hml, hown, hts⟩ hG hN (c_L_digits l hl9 i9 5 (by omega) (gw_ss _ _ _ _) (by omega)) (va_cwS 2 hts gL_rules_L_digits rfl rfl rfl (by decide +kernel) ⟨Nat.le_of_ble_eq_true rfl, Nat.le_of_ble_eq_true rfl⟩) rfl hl.1 rfl (Nat.le_of_ble_eq_true rfl) dL_rules_134 ⟨Nat.le_of_ble_eq_true rfl, Nat.le_of_ble_eq_true rfl⟩ (fun r234 Fq235 Vq236 oq237 H locs hq238 hN => ?_)
        cases hq238
        refine lv_pop hx hb dL_rules_137 rfl ?_
        refine lv_aload_n hx hb dL_rules_138 rfl (lv_at hl 5 rfl) ?_
        refine lv_bipush (v := 32) hx hb dL_rules_139 (by decide) ?_
        refine g_nVI (As := [.int 32]) (rest := []) ⟨hx, hb, hml, hown, hts⟩ hG hN (i := 0) (by decide) rfl rfl (c_X9_type l hl9 32 (5 + (dg i9).length) (gw_ss _ _ _ _) (by omega) (by decide)) (cwV 1 hts gL_rules_X9_type rfl rfl rfl (by decide +kernel) ⟨Nat.le_of_ble_eq_true rfl, Nat.le_of_ble_eq_true rfl⟩) rfl hl.1 rfl (Nat.le_of_ble_eq_true rfl) dL_rules_141 ⟨Nat.le_of_ble_eq_true rfl, Nat.le_of_ble_eq_true rfl⟩ (no2 (fTyp0 (n := (5 + (dg i9).length)) (gw_ss _ _ _ _) (by omega) (by decide))) (fun hz239 H locs hN => ?_)
        refine lv_pop hx hb dL_rules_144 rfl ?_
        refine lv_aload_n hx hb dL_rules_145 rfl (lv_at hl 5 rfl) ?_
        refine lv_iload hx hb dL_rules_146 (lv_at hl 1 rfl) ?_
        refine g_Si (As := [.ref (ad 0), .int (nI m9)]) (rest := []) ⟨hx, hb, hml, hown, hts⟩ hG hN (c_L_digits l hl9 m9 (5 + (dg i9).length + 1) (by omega) (gw_ss _ _ _ _) (by omega)) (va_cwS 2 hts gL_rules_L_digits rfl rfl rfl (by decide +kernel) ⟨Nat.le_of_ble_eq_true rfl, Nat.le_of_ble_eq_true rfl⟩) rfl hl.1 rfl (Nat.le_of_ble_eq_true rfl) dL_rules_148 ⟨Nat.le_of_ble_eq_true rfl, Nat.le_of_ble_eq_true rfl⟩ (fun r240 Fq241 Vq242 oq243 H locs hq244 hN => ?_)
        cases hq244
        refine lv_pop hx hb dL_rules_151 rfl ?_
        have eF9 : (tyF (gw (tyF (tyF F 0 (wordL 3)) 5 (dg i9)) 4 (5 + (dg i9).length) 32) (5 + (dg i9).length + 1) (dg m9)) = tyF F 0 (rL 3 i9 m9) := (tyF_app (dg i9) (tyF F 0 (wordL 3)) 5 (32 :: dg m9)).trans (tyF_app (wordL 3) F 0 (dg i9 ++ (32 :: dg m9)))
        have eL9 : (rL 3 i9 m9).length = 5 + (dg i9).length + 1 + (dg m9).length := by show (wordL 3 ++ (dg i9 ++ (32 :: dg m9))).length = _; simp only [List.length_append, List.length_cons]; show 5 + ((dg i9).length + ((dg m9).length + 1)) = _; omega
        have eV9 : (gw (gw (gw (gw V 3 3 (nI 5)) 3 3 (nI (5 + (dg i9).length))) 3 3 (nI (5 + (dg i9).length + 1))) 3 3 (nI ((5 + (dg i9).length + 1) + (dg m9).length))) = gw V 3 3 (nI (rL 3 i9 m9).length) := by rw [eL9, gw_gw, gw_gw, gw_gw]
        rw [eF9, eV9] at hN
        refine lv_aload_n hx hb dL_rules_152 rfl (lv_at hl 5 rfl) ?_
        refine g_Vi (As := []) (rest := []) ⟨hx, hb, hml, hown, hts⟩ hG hN (i := 0) (by decide) rfl rfl (c_X9_apply l (rL 3 i9 m9).length (gw_ss _ _ _ _) (rL_len (by decide))) (cwV 0 hts gL_rules_X9_apply rfl rfl rfl (by decide +kernel) ⟨Nat.le_of_ble_eq_true rfl, Nat.le_of_ble_eq_true rfl⟩) rfl hl.1 rfl (Nat.le_of_ble_eq_true rfl) dL_rules_153 ⟨Nat.le_of_ble_eq_true rfl, Nat.le_of_ble_eq_true rfl⟩ (fun r245 Fq246 Vq247 oq248 H locs hq249 hN => ?_)
        obtain ⟨ho9, F19, N9, hF19, hok9, hno9⟩ := rule_ap (w := 3) (i := i9) (m := m9) (by decide) (by omega) (rK3 i9 (by omega) m9 (by omega)) hq249
        dsimp only at ho9 hok9 hno9
        have ho9 := ho9.symm
        subst ho9
        obtain ⟨er9, eu9, ev9⟩ := hok9 hrk
        have h339 : Vq247 3 3 = 0 := by rw [ev9]; exact rule_33 (m := m9)
        refine g_top (y := 1) er9 ?_
        refine lv_istore (lv' := [(9, .int 1), (8, .int 1), (7, .int (nI m9)), (6, .int 40), (5, .int (nI i9)), (4, .int 3), (0, .ref (ad 0)), (1, .int (nI x)), (2, .int (nI y)), (3, .ref (ad 43))]) hx hb dL_rules_156 hl (by decide) rfl (fun ls hl => ?_)
        refine lv_iload hx hb dL_rules_158 (lv_at hl 5 rfl) ?_
        refine lv_iconst (v := 3) hx hb dL_rules_160 (by decide) ?_
        refine lv_icmp_ne (tgt := 171) hx hb dL_rules_161 (by decide) (fun c250 => False.elim (by revert c250; decide)) (fun _ => ?_)
        refine lv_iconst (v := 3) hx hb dL_rules_164 (by decide) ?_
        refine lv_iload hx hb dL_rules_165 (lv_at hl 4 rfl) ?_
        refine g_addN (a := 3) (b := i9) hx hb rfl rfl dL_rules_167 ?_
        refine lv_goto (tgt := 186) hx hb dL_rules_168 (by decide) ?_
        refine lv_istore (lv' := [(10, .int (nI (3 + i9))), (9, .int 1), (8, .int 1), (7, .int (nI m9)), (6, .int 40), (5, .int (nI i9)), (4, .int 3), (0, .ref (ad 0)), (1, .int (nI x)), (2, .int (nI y)), (3, .ref (ad 43))]) hx hb dL_rules_186 hl (by decide) rfl (fun ls hl => ?_)
        refine lv_iload hx hb dL_rules_188 (lv_at hl 2 rfl) ?_
        refine lv_if_eq (tgt := 199) hx hb dL_rules_190 (by decide) (fun c251 => False.elim (by revert c251; decide)) (fun _ => ?_)
        refine lv_aload_n hx hb dL_rules_193 rfl (lv_at hl 10 rfl) ?_
        refine lv_iload hx hb dL_rules_194 (lv_at hl 0 rfl) ?_
        refine lv_iload hx hb dL_rules_196 (lv_at hl 3 rfl) ?_
        refine g_iast hx hb hG hN (i := 43) (n := 9) (j := 3 + i9) (by decide) (fun _ => rfl) (by decide) (by omega) rfl dL_rules_198 (fun H locs hN => ?_)
        refine lv_iload hx hb dL_rules_199 (lv_at hl 1 rfl) ?_
        refine lv_iload hx hb dL_rules_201 (lv_at hl 2 rfl) ?_
        refine lv_if_eq (tgt := 210) hx hb dL_rules_203 (by decide) (fun c252 => False.elim (by revert c252; decide)) (fun _ => ?_)
        refine lv_iconst (v := 1) hx hb dL_rules_206 (by decide) ?_
        refine lv_goto (tgt := 211) hx hb dL_rules_207 (by decide) ?_
        refine lv_icmp_ne (tgt := 225) hx hb dL_rules_211 (by decide) (fun c253 => False.elim (by revert c253; decide)) (fun _ => ?_)
        refine lv_aload_n hx hb dL_rules_214 rfl (lv_at hl 7 rfl) ?_
        refine g_Vi (As := []) (rest := []) ⟨hx, hb, hml, hown, hts⟩ hG hN (i := 0) (by decide) rfl rfl (c_X9_apply l 0 h339 (by decide)) (cwV 0 hts gL_rules_X9_apply rfl rfl rfl (by decide +kernel) ⟨Nat.le_of_ble_eq_true rfl, Nat.le_of_ble_eq_true rfl⟩) rfl hl.1 rfl (Nat.le_of_ble_eq_true rfl) dL_rules_215 ⟨Nat.le_of_ble_eq_true rfl, Nat.le_of_ble_eq_true rfl⟩ (fun r254 Fq255 Vq256 oq257 H locs hq258 hN => ?_)
        obtain ⟨ho8, er8, hFF9, hVV9⟩ := null_ap hq258
        dsimp only at ho8 er8 hFF9 hVV9
        have ho8 := ho8.symm
        subst ho8
        refine g_top (y := 0) er8 ?_
        refine lv_if_ne (tgt := 225) hx hb dL_rules_218 (by decide) (fun c259 => False.elim (by revert c259; decide)) (fun _ => ?_)
        refine lv_iconst (v := 1) hx hb dL_rules_221 (by decide) ?_
        refine lv_goto (tgt := 226) hx hb dL_rules_222 (by decide) ?_
        refine W.widen (k := 20) (n := 120) (by omega) (by omega) ?_
        exact g_rz hx hb hr hlocks (by decide) hN (⟨rfl, rfl, rules_ok (w := 3) (i := i9) hP (by decide) hrk hF19 eu9 ev9 hFF9 hVV9⟩) dL_rules_226
  · refine g_top (y := 4) (by rw [e6]; rfl) ?_
    refine lv_istore (lv' := [(4, .int 4), (0, .ref (ad 0)), (1, .int (nI x)), (2, .int (nI y)), (3, .ref (ad 43))]) hx hb dL_rules_4 hl (by decide) rfl (fun ls hl => ?_)
    refine lv_iload_n hx hb dL_rules_6 rfl (lv_at hl 2 rfl) ?_
    refine lv_bipush (v := 6) hx hb dL_rules_7 (by decide) ?_
    refine g_divN (a := x) (b := 6) hx hb rfl rfl (by omega) (by omega) (by omega) dL_rules_9 ?_
    refine lv_iconst (v := 5) hx hb dL_rules_10 (by decide) ?_
    refine g_remN (a := x / 6) (b := 5) hx hb rfl rfl (by omega) (by omega) (by omega) dL_rules_11 ?_
    obtain ⟨i9, hi9, ei9⟩ : ∃ q, q < 5 ∧ (x / 6) % 5 = q := ⟨_, by omega, rfl⟩
    refine g_top (y := nI i9) (by rw [ei9]) ?_
    refine lv_istore (lv' := [(5, .int (nI i9)), (4, .int 4), (0, .ref (ad 0)), (1, .int (nI x)), (2, .int (nI y)), (3, .ref (ad 43))]) hx hb dL_rules_12 hl (by decide) rfl (fun ls hl => ?_)
    refine lv_iload hx hb dL_rules_14 (lv_at hl 1 rfl) ?_
    refine lv_if_ne (tgt := 24) hx hb dL_rules_16 (by decide) (fun _ => ?_) (fun c260 => False.elim (by revert c260; decide))
    refine lv_iload hx hb dL_rules_24 (lv_at hl 1 rfl) ?_
    refine lv_iconst (v := 1) hx hb dL_rules_26 (by decide) ?_
    refine lv_icmp_ne (tgt := 36) hx hb dL_rules_27 (by decide) (fun _ => ?_) (fun c261 => False.elim (by revert c261; decide))
    refine lv_iload hx hb dL_rules_36 (lv_at hl 1 rfl) ?_
    refine lv_iconst (v := 2) hx hb dL_rules_38 (by decide) ?_
    refine lv_icmp_ne (tgt := 46) hx hb dL_rules_39 (by decide) (fun _ => ?_) (fun c262 => False.elim (by revert c262; decide))
    refine lv_iload hx hb dL_rules_46 (lv_at hl 1 rfl) ?_
    refine lv_iconst (v := 3) hx hb dL_rules_48 (by decide) ?_
    refine lv_icmp_ne (tgt := 57) hx hb dL_rules_49 (by decide) (fun _ => ?_) (fun c263 => False.elim (by revert c263; decide))
    refine lv_iload hx hb dL_rules_57 (lv_at hl 1 rfl) ?_
    refine lv_iconst (v := 4) hx hb dL_rules_59 (by decide) ?_
    refine lv_icmp_ne (tgt := 68) hx hb dL_rules_60 (by decide) (fun c264 => False.elim (by revert c264; decide)) (fun _ => ?_)
    refine lv_bipush (v := 9) hx hb dL_rules_63 (by decide) ?_
    refine lv_goto (tgt := 70) hx hb dL_rules_65 (by decide) ?_
    refine lv_istore (lv' := [(6, .int 9), (5, .int (nI i9)), (4, .int 4), (0, .ref (ad 0)), (1, .int (nI x)), (2, .int (nI y)), (3, .ref (ad 43))]) hx hb dL_rules_70 hl (by decide) rfl (fun ls hl => ?_)
    refine lv_iload_n hx hb dL_rules_72 rfl (lv_at hl 5 rfl) ?_
    refine lv_iload hx hb dL_rules_73 (lv_at hl 0 rfl) ?_
    refine lv_iconst (v := 2) hx hb dL_rules_75 (by decide) ?_
    refine g_addN (a := 9) (b := 2) hx hb rfl rfl dL_rules_76 ?_
    refine g_remN (a := y) (b := 9 + 2) hx hb rfl rfl (by omega) (by omega) (by omega) dL_rules_77 ?_
    obtain ⟨m9, hm9, em9⟩ : ∃ q, q < 11 ∧ y % (9 + 2) = q := ⟨_, by omega, rfl⟩
    refine g_top (y := nI m9) (by rw [em9]) ?_
    refine lv_istore (lv' := [(7, .int (nI m9)), (6, .int 9), (5, .int (nI i9)), (4, .int 4), (0, .ref (ad 0)), (1, .int (nI x)), (2, .int (nI y)), (3, .ref (ad 43))]) hx hb dL_rules_78 hl (by decide) rfl (fun ls hl => ?_)
    refine lv_iload hx hb dL_rules_80 (lv_at hl 0 rfl) ?_
    refine lv_iload hx hb dL_rules_82 (lv_at hl 1 rfl) ?_
    refine g_cN_gt (a := m9) (b := 9) (tgt := 116) hx hb dL_rules_84 (by decide) rfl rfl (by omega) (by omega) (fun c265 => ?_) (fun c265 => ?_)
    · have hrk : rOk 4 0 m9 = false := decide_eq_false (fun z => by have h1 : m9 ≤ 9 := z.1; omega)
      refine lv_iconst (v := 0) hx hb dL_rules_116 (by decide) ?_
      refine lv_istore (lv' := [(8, .int 0), (7, .int (nI m9)), (6, .int 9), (5, .int (nI i9)), (4, .int 4), (0, .ref (ad 0)), (1, .int (nI x)), (2, .int (nI y)), (3, .ref (ad 43))]) hx hb dL_rules_117 hl (by decide) rfl (fun ls hl => ?_)
      refine lv_aload_n hx hb dL_rules_119 rfl (lv_at hl 5 rfl) ?_
      refine lv_iload hx hb dL_rules_120 (lv_at hl 4 rfl) ?_
      refine g_SV (As := [.ref (ad 0), .int 4]) (rest := []) ⟨hx, hb, hml, hown, hts⟩ hG hN (c_L_word4 l hl9 hP.2.1.2.2) (va_cwS 2 hts gL_rules_L_word rfl rfl rfl (by decide +kernel) ⟨Nat.le_of_ble_eq_true rfl, Nat.le_of_ble_eq_true rfl⟩) rfl hl.1 rfl (Nat.le_of_ble_eq_true rfl) dL_rules_122 ⟨Nat.le_of_ble_eq_true rfl, Nat.le_of_ble_eq_true rfl⟩ (fun H locs hN => ?_)
      have dl9 := dg_len m9
      have di9 := dg_len i9
      refine lv_iload hx hb dL_rules_125 (lv_at hl 4 rfl) ?_
      refine lv_iconst (v := 3) hx hb dL_rules_127 (by decide) ?_
      refine lv_icmp_ne (tgt := 145) hx hb dL_rules_128 (by decide) (fun _ => ?_) (fun c266 => False.elim (by revert c266; decide))
      refine lv_aload_n hx hb dL_rules_145 rfl (lv_at hl 5 rfl) ?_
      refine lv_iload hx hb dL_rules_146 (lv_at hl 1 rfl) ?_
      refine g_Si (As := [.ref (ad 0), .int (nI m9)]) (rest := []) ⟨hx, hb, hml, hown, hts⟩ hG hN (c_L_digits l hl9 m9 10 (by omega) (gw_ss _ _ _ _) (by omega)) (va_cwS 2 hts gL_rules_L_digits rfl rfl rfl (by decide +kernel) ⟨Nat.le_of_ble_eq_true rfl, Nat.le_of_ble_eq_true rfl⟩) rfl hl.1 rfl (Nat.le_of_ble_eq_true rfl) dL_rules_148 ⟨Nat.le_of_ble_eq_true rfl, Nat.le_of_ble_eq_true rfl⟩ (fun r267 Fq268 Vq269 oq270 H locs hq271 hN => ?_)
      cases hq271
      refine lv_pop hx hb dL_rules_151 rfl ?_
      have eF9 : (tyF (tyF F 0 (wordL 4)) 10 (dg m9)) = tyF F 0 (rL 4 0 m9) := tyF_app (wordL 4) F 0 (dg m9)
      have eL9 : (rL 4 0 m9).length = 10 + (dg m9).length := List.length_append
      have eV9 : (gw (gw V 3 3 (nI 10)) 3 3 (nI (10 + (dg m9).length))) = gw V 3 3 (nI (rL 4 0 m9).length) := by rw [eL9, gw_gw]
      rw [eF9, eV9] at hN
      refine lv_aload_n hx hb dL_rules_152 rfl (lv_at hl 5 rfl) ?_
      refine g_Vi (As := []) (rest := []) ⟨hx, hb, hml, hown, hts⟩ hG hN (i := 0) (by decide) rfl rfl (c_X9_apply l (rL 4 0 m9).length (gw_ss _ _ _ _) (rL_len (by decide))) (cwV 0 hts gL_rules_X9_apply rfl rfl rfl (by decide +kernel) ⟨Nat.le_of_ble_eq_true rfl, Nat.le_of_ble_eq_true rfl⟩) rfl hl.1 rfl (Nat.le_of_ble_eq_true rfl) dL_rules_153 ⟨Nat.le_of_ble_eq_true rfl, Nat.le_of_ble_eq_true rfl⟩ (fun r272 Fq273 Vq274 oq275 H locs hq276 hN => ?_)
      obtain ⟨ho9, F19, N9, hF19, hok9, hno9⟩ := rule_ap (w := 4) (i := 0) (m := m9) (by decide) (by omega) (rK4 m9 (by omega)) hq276
      dsimp only at ho9 hok9 hno9
      have ho9 := ho9.symm
      subst ho9
      obtain ⟨er9, eu9, ev9⟩ := hno9 hrk
      have h339 : Vq274 3 3 = 0 := by rw [ev9]; exact gw_ss _ _ _ _
      refine g_top (y := (-1)) er9 ?_
      refine lv_istore (lv' := [(9, .int (-1)), (8, .int 0), (7, .int (nI m9)), (6, .int 9), (5, .int (nI i9)), (4, .int 4), (0, .ref (ad 0)), (1, .int (nI x)), (2, .int (nI y)), (3, .ref (ad 43))]) hx hb dL_rules_156 hl (by decide) rfl (fun ls hl => ?_)
      refine lv_iload hx hb dL_rules_158 (lv_at hl 5 rfl) ?_
      refine lv_iconst (v := 3) hx hb dL_rules_160 (by decide) ?_
      refine lv_icmp_ne (tgt := 171) hx hb dL_rules_161 (by decide) (fun _ => ?_) (fun c277 => False.elim (by revert c277; decide))
      refine lv_iload hx hb dL_rules_171 (lv_at hl 5 rfl) ?_
      refine lv_iconst (v := 3) hx hb dL_rules_173 (by decide) ?_
      refine lv_icmp_ge (tgt := 182) hx hb dL_rules_174 (by decide) (fun _ => ?_) (fun c278 => False.elim (by revert c278; decide))
      refine lv_iload hx hb dL_rules_182 (lv_at hl 5 rfl) ?_
      refine lv_iconst (v := 3) hx hb dL_rules_184 (by decide) ?_
      refine g_addN (a := 4) (b := 3) hx hb rfl rfl dL_rules_185 ?_
      refine lv_istore (lv' := [(10, .int (nI (4 + 3))), (9, .int (-1)), (8, .int 0), (7, .int (nI m9)), (6, .int 9), (5, .int (nI i9)), (4, .int 4), (0, .ref (ad 0)), (1, .int (nI x)), (2, .int (nI y)), (3, .ref (ad 43))]) hx hb dL_rules_186 hl (by decide) rfl (fun ls hl => ?_)
      refine lv_iload hx hb dL_rules_188 (lv_at hl 2 rfl) ?_
      refine lv_if_eq (tgt := 199) hx hb dL_rules_190 (by decide) (fun _ => ?_) (fun c279 => False.elim (by revert c279; decide))
      refine lv_iload hx hb dL_rules_199 (lv_at hl 1 rfl) ?_
      refine lv_iload hx hb dL_rules_201 (lv_at hl 2 rfl) ?_
      refine lv_if_eq (tgt := 210) hx hb dL_rules_203 (by decide) (fun _ => ?_) (fun c280 => False.elim (by revert c280; decide))
      refine lv_iconst (v := (-1)) hx hb dL_rules_210 (by decide) ?_
      refine lv_icmp_ne (tgt := 225) hx hb dL_rules_211 (by decide) (fun c281 => False.elim (by revert c281; decide)) (fun _ => ?_)
      refine lv_aload_n hx hb dL_rules_214 rfl (lv_at hl 7 rfl) ?_
      refine g_Vi (As := []) (rest := []) ⟨hx, hb, hml, hown, hts⟩ hG hN (i := 0) (by decide) rfl rfl (c_X9_apply l 0 h339 (by decide)) (cwV 0 hts gL_rules_X9_apply rfl rfl rfl (by decide +kernel) ⟨Nat.le_of_ble_eq_true rfl, Nat.le_of_ble_eq_true rfl⟩) rfl hl.1 rfl (Nat.le_of_ble_eq_true rfl) dL_rules_215 ⟨Nat.le_of_ble_eq_true rfl, Nat.le_of_ble_eq_true rfl⟩ (fun r282 Fq283 Vq284 oq285 H locs hq286 hN => ?_)
      obtain ⟨ho8, er8, hFF9, hVV9⟩ := null_ap hq286
      dsimp only at ho8 er8 hFF9 hVV9
      have ho8 := ho8.symm
      subst ho8
      refine g_top (y := 0) er8 ?_
      refine lv_if_ne (tgt := 225) hx hb dL_rules_218 (by decide) (fun c287 => False.elim (by revert c287; decide)) (fun _ => ?_)
      refine lv_iconst (v := 1) hx hb dL_rules_221 (by decide) ?_
      refine lv_goto (tgt := 226) hx hb dL_rules_222 (by decide) ?_
      refine W.widen (k := 20) (n := 120) (by omega) (by omega) ?_
      exact g_rz hx hb hr hlocks (by decide) hN (⟨rfl, rfl, rules_no hP hF19 eu9 ev9 hFF9 hVV9⟩) dL_rules_226
    · refine lv_iload hx hb dL_rules_87 (lv_at hl 3 rfl) ?_
      refine lv_iconst (v := 1) hx hb dL_rules_89 (by decide) ?_
      refine lv_icmp_ne (tgt := 100) hx hb dL_rules_90 (by decide) (fun _ => ?_) (fun c288 => False.elim (by revert c288; decide))
      refine lv_iload hx hb dL_rules_100 (lv_at hl 3 rfl) ?_
      refine lv_iconst (v := 3) hx hb dL_rules_102 (by decide) ?_
      refine lv_icmp_ne (tgt := 112) hx hb dL_rules_103 (by decide) (fun _ => ?_) (fun c289 => False.elim (by revert c289; decide))
      have hrk : rOk 4 0 m9 = true := decide_eq_true ⟨(show m9 ≤ 9 by omega), fun z => absurd z (by decide), fun z => absurd z (by decide)⟩
      refine lv_iconst (v := 1) hx hb dL_rules_112 (by decide) ?_
      refine lv_goto (tgt := 117) hx hb dL_rules_113 (by decide) ?_
      refine lv_istore (lv' := [(8, .int 1), (7, .int (nI m9)), (6, .int 9), (5, .int (nI i9)), (4, .int 4), (0, .ref (ad 0)), (1, .int (nI x)), (2, .int (nI y)), (3, .ref (ad 43))]) hx hb dL_rules_117 hl (by decide) rfl (fun ls hl => ?_)
      refine lv_aload_n hx hb dL_rules_119 rfl (lv_at hl 5 rfl) ?_
      refine lv_iload hx hb dL_rules_120 (lv_at hl 4 rfl) ?_
      refine g_SV (As := [.ref (ad 0), .int 4]) (rest := []) ⟨hx, hb, hml, hown, hts⟩ hG hN (c_L_word4 l hl9 hP.2.1.2.2) (va_cwS 2 hts gL_rules_L_word rfl rfl rfl (by decide +kernel) ⟨Nat.le_of_ble_eq_true rfl, Nat.le_of_ble_eq_true rfl⟩) rfl hl.1 rfl (Nat.le_of_ble_eq_true rfl) dL_rules_122 ⟨Nat.le_of_ble_eq_true rfl, Nat.le_of_ble_eq_true rfl⟩ (fun H locs hN => ?_)
      have dl9 := dg_len m9
      have di9 := dg_len i9
      refine lv_iload hx hb dL_rules_125 (lv_at hl 4 rfl) ?_
      refine lv_iconst (v := 3) hx hb dL_rules_127 (by decide) ?_
      refine lv_icmp_ne (tgt := 145) hx hb dL_rules_128 (by decide) (fun _ => ?_) (fun c290 => False.elim (by revert c290; decide))
      refine lv_aload_n hx hb dL_rules_145 rfl (lv_at hl 5 rfl) ?_
      refine lv_iload hx hb dL_rules_146 (lv_at hl 1 rfl) ?_
      refine g_Si (As := [.ref (ad 0), .int (nI m9)]) (rest := []) ⟨hx, hb, hml, hown, hts⟩ hG hN (c_L_digits l hl9 m9 10 (by omega) (gw_ss _ _ _ _) (by omega)) (va_cwS 2 hts gL_rules_L_digits rfl rfl rfl (by decide +kernel) ⟨Nat.le_of_ble_eq_true rfl, Nat.le_of_ble_eq_true rfl⟩) rfl hl.1 rfl (Nat.le_of_ble_eq_true rfl) dL_rules_148 ⟨Nat.le_of_ble_eq_true rfl, Nat.le_of_ble_eq_true rfl⟩ (fun r291 Fq292 Vq293 oq294 H locs hq295 hN => ?_)
      cases hq295
      refine lv_pop hx hb dL_rules_151 rfl ?_
      have eF9 : (tyF (tyF F 0 (wordL 4)) 10 (dg m9)) = tyF F 0 (rL 4 0 m9) := tyF_app (wordL 4) F 0 (dg m9)
      have eL9 : (rL 4 0 m9).length = 10 + (dg m9).length := List.length_append
      have eV9 : (gw (gw V 3 3 (nI 10)) 3 3 (nI (10 + (dg m9).length))) = gw V 3 3 (nI (rL 4 0 m9).length) := by rw [eL9, gw_gw]
      rw [eF9, eV9] at hN
      refine lv_aload_n hx hb dL_rules_152 rfl (lv_at hl 5 rfl) ?_
      refine g_Vi (As := []) (rest := []) ⟨hx, hb, hml, hown, hts⟩ hG hN (i := 0) (by decide) rfl rfl (c_X9_apply l (rL 4 0 m9).length (gw_ss _ _ _ _) (rL_len (by decide))) (cwV 0 hts gL_rules_X9_apply rfl rfl rfl (by decide +kernel) ⟨Nat.le_of_ble_eq_true rfl, Nat.le_of_ble_eq_true rfl⟩) rfl hl.1 rfl (Nat.le_of_ble_eq_true rfl) dL_rules_153 ⟨Nat.le_of_ble_eq_true rfl, Nat.le_of_ble_eq_true rfl⟩ (fun r296 Fq297 Vq298 oq299 H locs hq300 hN => ?_)
      obtain ⟨ho9, F19, N9, hF19, hok9, hno9⟩ := rule_ap (w := 4) (i := 0) (m := m9) (by decide) (by omega) (rK4 m9 (by omega)) hq300
      dsimp only at ho9 hok9 hno9
      have ho9 := ho9.symm
      subst ho9
      obtain ⟨er9, eu9, ev9⟩ := hok9 hrk
      have h339 : Vq298 3 3 = 0 := by rw [ev9]; exact rule_33 (m := m9)
      refine g_top (y := 1) er9 ?_
      refine lv_istore (lv' := [(9, .int 1), (8, .int 1), (7, .int (nI m9)), (6, .int 9), (5, .int (nI i9)), (4, .int 4), (0, .ref (ad 0)), (1, .int (nI x)), (2, .int (nI y)), (3, .ref (ad 43))]) hx hb dL_rules_156 hl (by decide) rfl (fun ls hl => ?_)
      refine lv_iload hx hb dL_rules_158 (lv_at hl 5 rfl) ?_
      refine lv_iconst (v := 3) hx hb dL_rules_160 (by decide) ?_
      refine lv_icmp_ne (tgt := 171) hx hb dL_rules_161 (by decide) (fun _ => ?_) (fun c301 => False.elim (by revert c301; decide))
      refine lv_iload hx hb dL_rules_171 (lv_at hl 5 rfl) ?_
      refine lv_iconst (v := 3) hx hb dL_rules_173 (by decide) ?_
      refine lv_icmp_ge (tgt := 182) hx hb dL_rules_174 (by decide) (fun _ => ?_) (fun c302 => False.elim (by revert c302; decide))
      refine lv_iload hx hb dL_rules_182 (lv_at hl 5 rfl) ?_
      refine lv_iconst (v := 3) hx hb dL_rules_184 (by decide) ?_
      refine g_addN (a := 4) (b := 3) hx hb rfl rfl dL_rules_185 ?_
      refine lv_istore (lv' := [(10, .int (nI (4 + 3))), (9, .int 1), (8, .int 1), (7, .int (nI m9)), (6, .int 9), (5, .int (nI i9)), (4, .int 4), (0, .ref (ad 0)), (1, .int (nI x)), (2, .int (nI y)), (3, .ref (ad 43))]) hx hb dL_rules_186 hl (by decide) rfl (fun ls hl => ?_)
      refine lv_iload hx hb dL_rules_188 (lv_at hl 2 rfl) ?_
      refine lv_if_eq (tgt := 199) hx hb dL_rules_190 (by decide) (fun c303 => False.elim (by revert c303; decide)) (fun _ => ?_)
      refine lv_aload_n hx hb dL_rules_193 rfl (lv_at hl 10 rfl) ?_
      refine lv_iload hx hb dL_rules_194 (lv_at hl 0 rfl) ?_
      refine lv_iload hx hb dL_rules_196 (lv_at hl 3 rfl) ?_
      refine g_iast hx hb hG hN (i := 43) (n := 9) (j := 4 + 3) (by decide) (fun _ => rfl) (by decide) (by omega) rfl dL_rules_198 (fun H locs hN => ?_)
      refine lv_iload hx hb dL_rules_199 (lv_at hl 1 rfl) ?_
      refine lv_iload hx hb dL_rules_201 (lv_at hl 2 rfl) ?_
      refine lv_if_eq (tgt := 210) hx hb dL_rules_203 (by decide) (fun c304 => False.elim (by revert c304; decide)) (fun _ => ?_)
      refine lv_iconst (v := 1) hx hb dL_rules_206 (by decide) ?_
      refine lv_goto (tgt := 211) hx hb dL_rules_207 (by decide) ?_
      refine lv_icmp_ne (tgt := 225) hx hb dL_rules_211 (by decide) (fun c305 => False.elim (by revert c305; decide)) (fun _ => ?_)
      refine lv_aload_n hx hb dL_rules_214 rfl (lv_at hl 7 rfl) ?_
      refine g_Vi (As := []) (rest := []) ⟨hx, hb, hml, hown, hts⟩ hG hN (i := 0) (by decide) rfl rfl (c_X9_apply l 0 h339 (by decide)) (cwV 0 hts gL_rules_X9_apply rfl rfl rfl (by decide +kernel) ⟨Nat.le_of_ble_eq_true rfl, Nat.le_of_ble_eq_true rfl⟩) rfl hl.1 rfl (Nat.le_of_ble_eq_true rfl) dL_rules_215 ⟨Nat.le_of_ble_eq_true rfl, Nat.le_of_ble_eq_true rfl⟩ (fun r306 Fq307 Vq308 oq309 H locs hq310 hN => ?_)
      obtain ⟨ho8, er8, hFF9, hVV9⟩ := null_ap hq310
      dsimp only at ho8 er8 hFF9 hVV9
      have ho8 := ho8.symm
      subst ho8
      refine g_top (y := 0) er8 ?_
      refine lv_if_ne (tgt := 225) hx hb dL_rules_218 (by decide) (fun c311 => False.elim (by revert c311; decide)) (fun _ => ?_)
      refine lv_iconst (v := 1) hx hb dL_rules_221 (by decide) ?_
      refine lv_goto (tgt := 226) hx hb dL_rules_222 (by decide) ?_
      refine W.widen (k := 20) (n := 120) (by omega) (by omega) ?_
      exact g_rz hx hb hr hlocks (by decide) hN (⟨rfl, rfl, rules_ok (w := 4) (i := 0) hP (by decide) hrk hF19 eu9 ev9 hFF9 hVV9⟩) dL_rules_226
  · refine g_top (y := 5) (by rw [e6]; rfl) ?_
    refine lv_istore (lv' := [(4, .int 5), (0, .ref (ad 0)), (1, .int (nI x)), (2, .int (nI y)), (3, .ref (ad 43))]) hx hb dL_rules_4 hl (by decide) rfl (fun ls hl => ?_)
    refine lv_iload_n hx hb dL_rules_6 rfl (lv_at hl 2 rfl) ?_
    refine lv_bipush (v := 6) hx hb dL_rules_7 (by decide) ?_
    refine g_divN (a := x) (b := 6) hx hb rfl rfl (by omega) (by omega) (by omega) dL_rules_9 ?_
    refine lv_iconst (v := 5) hx hb dL_rules_10 (by decide) ?_
    refine g_remN (a := x / 6) (b := 5) hx hb rfl rfl (by omega) (by omega) (by omega) dL_rules_11 ?_
    obtain ⟨i9, hi9, ei9⟩ : ∃ q, q < 5 ∧ (x / 6) % 5 = q := ⟨_, by omega, rfl⟩
    refine g_top (y := nI i9) (by rw [ei9]) ?_
    refine lv_istore (lv' := [(5, .int (nI i9)), (4, .int 5), (0, .ref (ad 0)), (1, .int (nI x)), (2, .int (nI y)), (3, .ref (ad 43))]) hx hb dL_rules_12 hl (by decide) rfl (fun ls hl => ?_)
    refine lv_iload hx hb dL_rules_14 (lv_at hl 1 rfl) ?_
    refine lv_if_ne (tgt := 24) hx hb dL_rules_16 (by decide) (fun _ => ?_) (fun c312 => False.elim (by revert c312; decide))
    refine lv_iload hx hb dL_rules_24 (lv_at hl 1 rfl) ?_
    refine lv_iconst (v := 1) hx hb dL_rules_26 (by decide) ?_
    refine lv_icmp_ne (tgt := 36) hx hb dL_rules_27 (by decide) (fun _ => ?_) (fun c313 => False.elim (by revert c313; decide))
    refine lv_iload hx hb dL_rules_36 (lv_at hl 1 rfl) ?_
    refine lv_iconst (v := 2) hx hb dL_rules_38 (by decide) ?_
    refine lv_icmp_ne (tgt := 46) hx hb dL_rules_39 (by decide) (fun _ => ?_) (fun c314 => False.elim (by revert c314; decide))
    refine lv_iload hx hb dL_rules_46 (lv_at hl 1 rfl) ?_
    refine lv_iconst (v := 3) hx hb dL_rules_48 (by decide) ?_
    refine lv_icmp_ne (tgt := 57) hx hb dL_rules_49 (by decide) (fun _ => ?_) (fun c315 => False.elim (by revert c315; decide))
    refine lv_iload hx hb dL_rules_57 (lv_at hl 1 rfl) ?_
    refine lv_iconst (v := 4) hx hb dL_rules_59 (by decide) ?_
    refine lv_icmp_ne (tgt := 68) hx hb dL_rules_60 (by decide) (fun _ => ?_) (fun c316 => False.elim (by revert c316; decide))
    refine lv_bipush (v := 50) hx hb dL_rules_68 (by decide) ?_
    refine lv_istore (lv' := [(6, .int 50), (5, .int (nI i9)), (4, .int 5), (0, .ref (ad 0)), (1, .int (nI x)), (2, .int (nI y)), (3, .ref (ad 43))]) hx hb dL_rules_70 hl (by decide) rfl (fun ls hl => ?_)
    refine lv_iload_n hx hb dL_rules_72 rfl (lv_at hl 5 rfl) ?_
    refine lv_iload hx hb dL_rules_73 (lv_at hl 0 rfl) ?_
    refine lv_iconst (v := 2) hx hb dL_rules_75 (by decide) ?_
    refine g_addN (a := 50) (b := 2) hx hb rfl rfl dL_rules_76 ?_
    refine g_remN (a := y) (b := 50 + 2) hx hb rfl rfl (by omega) (by omega) (by omega) dL_rules_77 ?_
    obtain ⟨m9, hm9, em9⟩ : ∃ q, q < 52 ∧ y % (50 + 2) = q := ⟨_, by omega, rfl⟩
    refine g_top (y := nI m9) (by rw [em9]) ?_
    refine lv_istore (lv' := [(7, .int (nI m9)), (6, .int 50), (5, .int (nI i9)), (4, .int 5), (0, .ref (ad 0)), (1, .int (nI x)), (2, .int (nI y)), (3, .ref (ad 43))]) hx hb dL_rules_78 hl (by decide) rfl (fun ls hl => ?_)
    refine lv_iload hx hb dL_rules_80 (lv_at hl 0 rfl) ?_
    refine lv_iload hx hb dL_rules_82 (lv_at hl 1 rfl) ?_
    refine g_cN_gt (a := m9) (b := 50) (tgt := 116) hx hb dL_rules_84 (by decide) rfl rfl (by omega) (by omega) (fun c317 => ?_) (fun c317 => ?_)
    · have hrk : rOk 5 0 m9 = false := decide_eq_false (fun z => by have h1 : m9 ≤ 50 := z.1; omega)
      refine lv_iconst (v := 0) hx hb dL_rules_116 (by decide) ?_
      refine lv_istore (lv' := [(8, .int 0), (7, .int (nI m9)), (6, .int 50), (5, .int (nI i9)), (4, .int 5), (0, .ref (ad 0)), (1, .int (nI x)), (2, .int (nI y)), (3, .ref (ad 43))]) hx hb dL_rules_117 hl (by decide) rfl (fun ls hl => ?_)
      refine lv_aload_n hx hb dL_rules_119 rfl (lv_at hl 5 rfl) ?_
      refine lv_iload hx hb dL_rules_120 (lv_at hl 4 rfl) ?_
      refine g_SV (As := [.ref (ad 0), .int 5]) (rest := []) ⟨hx, hb, hml, hown, hts⟩ hG hN (c_L_word5 l hl9 hP.2.1.2.2) (va_cwS 2 hts gL_rules_L_word rfl rfl rfl (by decide +kernel) ⟨Nat.le_of_ble_eq_true rfl, Nat.le_of_ble_eq_true rfl⟩) rfl hl.1 rfl (Nat.le_of_ble_eq_true rfl) dL_rules_122 ⟨Nat.le_of_ble_eq_true rfl, Nat.le_of_ble_eq_true rfl⟩ (fun H locs hN => ?_)
      have dl9 := dg_len m9
      have di9 := dg_len i9
      refine lv_iload hx hb dL_rules_125 (lv_at hl 4 rfl) ?_
      refine lv_iconst (v := 3) hx hb dL_rules_127 (by decide) ?_
      refine lv_icmp_ne (tgt := 145) hx hb dL_rules_128 (by decide) (fun _ => ?_) (fun c318 => False.elim (by revert c318; decide))
      refine lv_aload_n hx hb dL_rules_145 rfl (lv_at hl 5 rfl) ?_
      refine lv_iload hx hb dL_rules_146 (lv_at hl 1 rfl) ?_
      refine g_Si (As := [.ref (ad 0), .int (nI m9)]) (rest := []) ⟨hx, hb, hml, hown, hts⟩ hG hN (c_L_digits l hl9 m9 6 (by omega) (gw_ss _ _ _ _) (by omega)) (va_cwS 2 hts gL_rules_L_digits rfl rfl rfl (by decide +kernel) ⟨Nat.le_of_ble_eq_true rfl, Nat.le_of_ble_eq_true rfl⟩) rfl hl.1 rfl (Nat.le_of_ble_eq_true rfl) dL_rules_148 ⟨Nat.le_of_ble_eq_true rfl, Nat.le_of_ble_eq_true rfl⟩ (fun r319 Fq320 Vq321 oq322 H locs hq323 hN => ?_)
      cases hq323
      refine lv_pop hx hb dL_rules_151 rfl ?_
      have eF9 : (tyF (tyF F 0 (wordL 5)) 6 (dg m9)) = tyF F 0 (rL 5 0 m9) := tyF_app (wordL 5) F 0 (dg m9)
      have eL9 : (rL 5 0 m9).length = 6 + (dg m9).length := List.length_append
      have eV9 : (gw (gw V 3 3 (nI 6)) 3 3 (nI (6 + (dg m9).length))) = gw V 3 3 (nI (rL 5 0 m9).length) := by rw [eL9, gw_gw]
      rw [eF9, eV9] at hN
      refine lv_aload_n hx hb dL_rules_152 rfl (lv_at hl 5 rfl) ?_
      refine g_Vi (As := []) (rest := []) ⟨hx, hb, hml, hown, hts⟩ hG hN (i := 0) (by decide) rfl rfl (c_X9_apply l (rL 5 0 m9).length (gw_ss _ _ _ _) (rL_len (by decide))) (cwV 0 hts gL_rules_X9_apply rfl rfl rfl (by decide +kernel) ⟨Nat.le_of_ble_eq_true rfl, Nat.le_of_ble_eq_true rfl⟩) rfl hl.1 rfl (Nat.le_of_ble_eq_true rfl) dL_rules_153 ⟨Nat.le_of_ble_eq_true rfl, Nat.le_of_ble_eq_true rfl⟩ (fun r324 Fq325 Vq326 oq327 H locs hq328 hN => ?_)
      obtain ⟨ho9, F19, N9, hF19, hok9, hno9⟩ := rule_ap (w := 5) (i := 0) (m := m9) (by decide) (by omega) (rK5 m9 (by omega)) hq328
      dsimp only at ho9 hok9 hno9
      have ho9 := ho9.symm
      subst ho9
      obtain ⟨er9, eu9, ev9⟩ := hno9 hrk
      have h339 : Vq326 3 3 = 0 := by rw [ev9]; exact gw_ss _ _ _ _
      refine g_top (y := (-1)) er9 ?_
      refine lv_istore (lv' := [(9, .int (-1)), (8, .int 0), (7, .int (nI m9)), (6, .int 50), (5, .int (nI i9)), (4, .int 5), (0, .ref (ad 0)), (1, .int (nI x)), (2, .int (nI y)), (3, .ref (ad 43))]) hx hb dL_rules_156 hl (by decide) rfl (fun ls hl => ?_)
      refine lv_iload hx hb dL_rules_158 (lv_at hl 5 rfl) ?_
      refine lv_iconst (v := 3) hx hb dL_rules_160 (by decide) ?_
      refine lv_icmp_ne (tgt := 171) hx hb dL_rules_161 (by decide) (fun _ => ?_) (fun c329 => False.elim (by revert c329; decide))
      refine lv_iload hx hb dL_rules_171 (lv_at hl 5 rfl) ?_
      refine lv_iconst (v := 3) hx hb dL_rules_173 (by decide) ?_
      refine lv_icmp_ge (tgt := 182) hx hb dL_rules_174 (by decide) (fun _ => ?_) (fun c330 => False.elim (by revert c330; decide))
      refine lv_iload hx hb dL_rules_182 (lv_at hl 5 rfl) ?_
      refine lv_iconst (v := 3) hx hb dL_rules_184 (by decide) ?_
      refine g_addN (a := 5) (b := 3) hx hb rfl rfl dL_rules_185 ?_
      refine lv_istore (lv' := [(10, .int (nI (5 + 3))), (9, .int (-1)), (8, .int 0), (7, .int (nI m9)), (6, .int 50), (5, .int (nI i9)), (4, .int 5), (0, .ref (ad 0)), (1, .int (nI x)), (2, .int (nI y)), (3, .ref (ad 43))]) hx hb dL_rules_186 hl (by decide) rfl (fun ls hl => ?_)
      refine lv_iload hx hb dL_rules_188 (lv_at hl 2 rfl) ?_
      refine lv_if_eq (tgt := 199) hx hb dL_rules_190 (by decide) (fun _ => ?_) (fun c331 => False.elim (by revert c331; decide))
      refine lv_iload hx hb dL_rules_199 (lv_at hl 1 rfl) ?_
      refine lv_iload hx hb dL_rules_201 (lv_at hl 2 rfl) ?_
      refine lv_if_eq (tgt := 210) hx hb dL_rules_203 (by decide) (fun _ => ?_) (fun c332 => False.elim (by revert c332; decide))
      refine lv_iconst (v := (-1)) hx hb dL_rules_210 (by decide) ?_
      refine lv_icmp_ne (tgt := 225) hx hb dL_rules_211 (by decide) (fun c333 => False.elim (by revert c333; decide)) (fun _ => ?_)
      refine lv_aload_n hx hb dL_rules_214 rfl (lv_at hl 7 rfl) ?_
      refine g_Vi (As := []) (rest := []) ⟨hx, hb, hml, hown, hts⟩ hG hN (i := 0) (by decide) rfl rfl (c_X9_apply l 0 h339 (by decide)) (cwV 0 hts gL_rules_X9_apply rfl rfl rfl (by decide +kernel) ⟨Nat.le_of_ble_eq_true rfl, Nat.le_of_ble_eq_true rfl⟩) rfl hl.1 rfl (Nat.le_of_ble_eq_true rfl) dL_rules_215 ⟨Nat.le_of_ble_eq_true rfl, Nat.le_of_ble_eq_true rfl⟩ (fun r334 Fq335 Vq336 oq337 H locs hq338 hN => ?_)
      obtain ⟨ho8, er8, hFF9, hVV9⟩ := null_ap hq338
      dsimp only at ho8 er8 hFF9 hVV9
      have ho8 := ho8.symm
      subst ho8
      refine g_top (y := 0) er8 ?_
      refine lv_if_ne (tgt := 225) hx hb dL_rules_218 (by decide) (fun c339 => False.elim (by revert c339; decide)) (fun _ => ?_)
      refine lv_iconst (v := 1) hx hb dL_rules_221 (by decide) ?_
      refine lv_goto (tgt := 226) hx hb dL_rules_222 (by decide) ?_
      refine W.widen (k := 20) (n := 120) (by omega) (by omega) ?_
      exact g_rz hx hb hr hlocks (by decide) hN (⟨rfl, rfl, rules_no hP hF19 eu9 ev9 hFF9 hVV9⟩) dL_rules_226
    · refine lv_iload hx hb dL_rules_87 (lv_at hl 3 rfl) ?_
      refine lv_iconst (v := 1) hx hb dL_rules_89 (by decide) ?_
      refine lv_icmp_ne (tgt := 100) hx hb dL_rules_90 (by decide) (fun _ => ?_) (fun c340 => False.elim (by revert c340; decide))
      refine lv_iload hx hb dL_rules_100 (lv_at hl 3 rfl) ?_
      refine lv_iconst (v := 3) hx hb dL_rules_102 (by decide) ?_
      refine lv_icmp_ne (tgt := 112) hx hb dL_rules_103 (by decide) (fun _ => ?_) (fun c341 => False.elim (by revert c341; decide))
      have hrk : rOk 5 0 m9 = true := decide_eq_true ⟨(show m9 ≤ 50 by omega), fun z => absurd z (by decide), fun z => absurd z (by decide)⟩
      refine lv_iconst (v := 1) hx hb dL_rules_112 (by decide) ?_
      refine lv_goto (tgt := 117) hx hb dL_rules_113 (by decide) ?_
      refine lv_istore (lv' := [(8, .int 1), (7, .int (nI m9)), (6, .int 50), (5, .int (nI i9)), (4, .int 5), (0, .ref (ad 0)), (1, .int (nI x)), (2, .int (nI y)), (3, .ref (ad 43))]) hx hb dL_rules_117 hl (by decide) rfl (fun ls hl => ?_)
      refine lv_aload_n hx hb dL_rules_119 rfl (lv_at hl 5 rfl) ?_
      refine lv_iload hx hb dL_rules_120 (lv_at hl 4 rfl) ?_
      refine g_SV (As := [.ref (ad 0), .int 5]) (rest := []) ⟨hx, hb, hml, hown, hts⟩ hG hN (c_L_word5 l hl9 hP.2.1.2.2) (va_cwS 2 hts gL_rules_L_word rfl rfl rfl (by decide +kernel) ⟨Nat.le_of_ble_eq_true rfl, Nat.le_of_ble_eq_true rfl⟩) rfl hl.1 rfl (Nat.le_of_ble_eq_true rfl) dL_rules_122 ⟨Nat.le_of_ble_eq_true rfl, Nat.le_of_ble_eq_true rfl⟩ (fun H locs hN => ?_)
      have dl9 := dg_len m9
      have di9 := dg_len i9
      refine lv_iload hx hb dL_rules_125 (lv_at hl 4 rfl) ?_
      refine lv_iconst (v := 3) hx hb dL_rules_127 (by decide) ?_
      refine lv_icmp_ne (tgt := 145) hx hb dL_rules_128 (by decide) (fun _ => ?_) (fun c342 => False.elim (by revert c342; decide))
      refine lv_aload_n hx hb dL_rules_145 rfl (lv_at hl 5 rfl) ?_
      refine lv_iload hx hb dL_rules_146 (lv_at hl 1 rfl) ?_
      refine g_Si (As := [.ref (ad 0), .int (nI m9)]) (rest := []) ⟨hx, hb, hml, hown, hts⟩ hG hN (c_L_digits l hl9 m9 6 (by omega) (gw_ss _ _ _ _) (by omega)) (va_cwS 2 hts gL_rules_L_digits rfl rfl rfl (by decide +kernel) ⟨Nat.le_of_ble_eq_true rfl, Nat.le_of_ble_eq_true rfl⟩) rfl hl.1 rfl (Nat.le_of_ble_eq_true rfl) dL_rules_148 ⟨Nat.le_of_ble_eq_true rfl, Nat.le_of_ble_eq_true rfl⟩ (fun r343 Fq344 Vq345 oq346 H locs hq347 hN => ?_)
      cases hq347
      refine lv_pop hx hb dL_rules_151 rfl ?_
      have eF9 : (tyF (tyF F 0 (wordL 5)) 6 (dg m9)) = tyF F 0 (rL 5 0 m9) := tyF_app (wordL 5) F 0 (dg m9)
      have eL9 : (rL 5 0 m9).length = 6 + (dg m9).length := List.length_append
      have eV9 : (gw (gw V 3 3 (nI 6)) 3 3 (nI (6 + (dg m9).length))) = gw V 3 3 (nI (rL 5 0 m9).length) := by rw [eL9, gw_gw]
      rw [eF9, eV9] at hN
      refine lv_aload_n hx hb dL_rules_152 rfl (lv_at hl 5 rfl) ?_
      refine g_Vi (As := []) (rest := []) ⟨hx, hb, hml, hown, hts⟩ hG hN (i := 0) (by decide) rfl rfl (c_X9_apply l (rL 5 0 m9).length (gw_ss _ _ _ _) (rL_len (by decide))) (cwV 0 hts gL_rules_X9_apply rfl rfl rfl (by decide +kernel) ⟨Nat.le_of_ble_eq_true rfl, Nat.le_of_ble_eq_true rfl⟩) rfl hl.1 rfl (Nat.le_of_ble_eq_true rfl) dL_rules_153 ⟨Nat.le_of_ble_eq_true rfl, Nat.le_of_ble_eq_true rfl⟩ (fun r348 Fq349 Vq350 oq351 H locs hq352 hN => ?_)
      obtain ⟨ho9, F19, N9, hF19, hok9, hno9⟩ := rule_ap (w := 5) (i := 0) (m := m9) (by decide) (by omega) (rK5 m9 (by omega)) hq352
      dsimp only at ho9 hok9 hno9
      have ho9 := ho9.symm
      subst ho9
      obtain ⟨er9, eu9, ev9⟩ := hok9 hrk
      have h339 : Vq350 3 3 = 0 := by rw [ev9]; exact rule_33 (m := m9)
      refine g_top (y := 1) er9 ?_
      refine lv_istore (lv' := [(9, .int 1), (8, .int 1), (7, .int (nI m9)), (6, .int 50), (5, .int (nI i9)), (4, .int 5), (0, .ref (ad 0)), (1, .int (nI x)), (2, .int (nI y)), (3, .ref (ad 43))]) hx hb dL_rules_156 hl (by decide) rfl (fun ls hl => ?_)
      refine lv_iload hx hb dL_rules_158 (lv_at hl 5 rfl) ?_
      refine lv_iconst (v := 3) hx hb dL_rules_160 (by decide) ?_
      refine lv_icmp_ne (tgt := 171) hx hb dL_rules_161 (by decide) (fun _ => ?_) (fun c353 => False.elim (by revert c353; decide))
      refine lv_iload hx hb dL_rules_171 (lv_at hl 5 rfl) ?_
      refine lv_iconst (v := 3) hx hb dL_rules_173 (by decide) ?_
      refine lv_icmp_ge (tgt := 182) hx hb dL_rules_174 (by decide) (fun _ => ?_) (fun c354 => False.elim (by revert c354; decide))
      refine lv_iload hx hb dL_rules_182 (lv_at hl 5 rfl) ?_
      refine lv_iconst (v := 3) hx hb dL_rules_184 (by decide) ?_
      refine g_addN (a := 5) (b := 3) hx hb rfl rfl dL_rules_185 ?_
      refine lv_istore (lv' := [(10, .int (nI (5 + 3))), (9, .int 1), (8, .int 1), (7, .int (nI m9)), (6, .int 50), (5, .int (nI i9)), (4, .int 5), (0, .ref (ad 0)), (1, .int (nI x)), (2, .int (nI y)), (3, .ref (ad 43))]) hx hb dL_rules_186 hl (by decide) rfl (fun ls hl => ?_)
      refine lv_iload hx hb dL_rules_188 (lv_at hl 2 rfl) ?_
      refine lv_if_eq (tgt := 199) hx hb dL_rules_190 (by decide) (fun c355 => False.elim (by revert c355; decide)) (fun _ => ?_)
      refine lv_aload_n hx hb dL_rules_193 rfl (lv_at hl 10 rfl) ?_
      refine lv_iload hx hb dL_rules_194 (lv_at hl 0 rfl) ?_
      refine lv_iload hx hb dL_rules_196 (lv_at hl 3 rfl) ?_
      refine g_iast hx hb hG hN (i := 43) (n := 9) (j := 5 + 3) (by decide) (fun _ => rfl) (by decide) (by omega) rfl dL_rules_198 (fun H locs hN => ?_)
      refine lv_iload hx hb dL_rules_199 (lv_at hl 1 rfl) ?_
      refine lv_iload hx hb dL_rules_201 (lv_at hl 2 rfl) ?_
      refine lv_if_eq (tgt := 210) hx hb dL_rules_203 (by decide) (fun c356 => False.elim (by revert c356; decide)) (fun _ => ?_)
      refine lv_iconst (v := 1) hx hb dL_rules_206 (by decide) ?_
      refine lv_goto (tgt := 211) hx hb dL_rules_207 (by decide) ?_
      refine lv_icmp_ne (tgt := 225) hx hb dL_rules_211 (by decide) (fun c357 => False.elim (by revert c357; decide)) (fun _ => ?_)
      refine lv_aload_n hx hb dL_rules_214 rfl (lv_at hl 7 rfl) ?_
      refine g_Vi (As := []) (rest := []) ⟨hx, hb, hml, hown, hts⟩ hG hN (i := 0) (by decide) rfl rfl (c_X9_apply l 0 h339 (by decide)) (cwV 0 hts gL_rules_X9_apply rfl rfl rfl (by decide +kernel) ⟨Nat.le_of_ble_eq_true rfl, Nat.le_of_ble_eq_true rfl⟩) rfl hl.1 rfl (Nat.le_of_ble_eq_true rfl) dL_rules_215 ⟨Nat.le_of_ble_eq_true rfl, Nat.le_of_ble_eq_true rfl⟩ (fun r358 Fq359 Vq360 oq361 H locs hq362 hN => ?_)
      obtain ⟨ho8, er8, hFF9, hVV9⟩ := null_ap hq362
      dsimp only at ho8 er8 hFF9 hVV9
      have ho8 := ho8.symm
      subst ho8
      refine g_top (y := 0) er8 ?_
      refine lv_if_ne (tgt := 225) hx hb dL_rules_218 (by decide) (fun c363 => False.elim (by revert c363; decide)) (fun _ => ?_)
      refine lv_iconst (v := 1) hx hb dL_rules_221 (by decide) ?_
      refine lv_goto (tgt := 226) hx hb dL_rules_222 (by decide) ?_
      refine W.widen (k := 20) (n := 120) (by omega) (by omega) ?_
      exact g_rz hx hb hr hlocks (by decide) hN (⟨rfl, rfl, rules_ok (w := 5) (i := 0) hP (by decide) hrk hF19 eu9 ev9 hFF9 hVV9⟩) dL_rules_226
