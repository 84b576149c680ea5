set_option maxHeartbeats 4000000 in
set_option maxRecDepth 100000 in
theorem c_L_prints (l : Launch) {D : va_G} {ad : Nat → Nat} {cs : Nat → ClassId} {zd : Nat → Nat} {F V : gF} {o : gO} {sz : Nat} (k : Nat) (t : Int32) (hk : k < 4) : Met l yL_prints wsL_prints ({ frames := 0, cells := 0, slots := 0, locals := 0 } : Room) (gPc D ad cs zd F V o sz [.ref (ad 43), .int (nI k), .int t]) (gQI D ad cs (cCurve t (F 43 (3 + k))) F V o sz) 0 0 (gX ad sz) := by
  refine g_met (Qc := fun z0 => gQI D ad cs (cCurve t (F 43 (3 + k))) F V o z0) (cc := cL_prints) (maxL := 3) (ret := (some .int)) (own := RL) (by decide +kernel) rfl rfl (Nat.le_of_ble_eq_true rfl) ?_
  intro p0 e0 s0 m0 b0 k0 c0 hx hb hr hts hown hlocks hml hG hN ls hl
  have hl : lv_has ls 3 [(0, .ref (ad 43)), (1, .int (nI k)), (2, .int t)] := hl
  refine lv_iload_n hx hb dL_prints_0 rfl (lv_at hl 2 rfl) ?_
  refine lv_aload_n hx hb dL_prints_1 rfl (lv_at hl 0 rfl) ?_
  refine lv_iconst (v := 3) hx hb dL_prints_2 (by decide) ?_
  refine lv_iload_n hx hb dL_prints_3 rfl (lv_at hl 1 rfl) ?_
  refine g_addN (a := 3) (b := k) hx hb rfl rfl dL_prints_4 ?_
  refine g_iald hx hb hG hN (i := 43) (n := 9) (j := 3 + k) (by decide) rfl (by decide) (by omega) rfl dL_prints_5 ?_
  refine lv_iload_n hx hb dL_prints_6 rfl (lv_at hl 2 rfl) ?_
  refine lv_imul hx hb dL_prints_7 ?_
  refine lv_bipush (v := 100) hx hb dL_prints_8 (by decide) ?_
  refine lv_iload_n hx hb dL_prints_10 rfl (lv_at hl 2 rfl) ?_
  refine lv_isub hx hb dL_prints_11 ?_
  refine lv_imul hx hb dL_prints_12 ?_
  refine lv_sipush (v := 2500) hx hb dL_prints_13 (by decide) ?_
  refine lv_idiv hx hb dL_prints_16 (by decide) ?_
  refine lv_iadd hx hb dL_prints_17 ?_
  exact g_ri hx hb hr hlocks hN (⟨rfl, rfl⟩) dL_prints_18
set_option maxHeartbeats 4000000 in
set_option maxRecDepth 100000 in
theorem c_L_isCell (l : Launch) {D : va_G} {ad : Nat → Nat} {cs : Nat → ClassId} {zd : Nat → Nat} {F V : gF} {o : gO} {sz : Nat} (hl9 : l.stackTraces = false) (c b : Nat) (hc : c < 64) (hI : CI F V b) (hR : PR F V) : Met l yL_isCell wsL_isCell ({ frames := 8, cells := 60, slots := 360, locals := 134 } : Room) (gPc D ad cs zd F V o sz [.ref (ad 0), .int (nI c), .ref (ad 43)]) (gQI D ad cs 1 F V o sz) 60 360 (gX ad sz) := by
  refine g_met (Qc := fun z0 => gQI D ad cs 1 F V o z0) (cc := cL_isCell) (maxL := 9) (ret := (some .boolean)) (own := RL) (by decide +kernel) rfl rfl (Nat.le_of_ble_eq_true rfl) ?_
  intro p0 e0 s0 m0 b0 k0 c0 hx hb hr hts hown hlocks hml hG hN ls hl
  have hl : lv_has ls 9 [(0, .ref (ad 0)), (1, .int (nI c)), (2, .ref (ad 43))] := hl
  refine lv_iconst (v := 0) hx hb dL_isCell_0 (by decide) ?_
  refine lv_istore_n (lv' := [(3, .int 0), (0, .ref (ad 0)), (1, .int (nI c)), (2, .ref (ad 43))]) hx hb dL_isCell_1 rfl hl (by decide) rfl (fun ls hl => ?_)
  refine lv_iconst (v := 1) hx hb dL_isCell_2 (by decide) ?_
  refine lv_istore (lv' := [(4, .int 1), (3, .int 0), (0, .ref (ad 0)), (1, .int (nI c)), (2, .ref (ad 43))]) hx hb dL_isCell_3 hl (by decide) rfl (fun ls hl => ?_)
  refine lv_iconst (v := 0) hx hb dL_isCell_5 (by decide) ?_
  refine lv_istore (lv' := [(5, .int 0), (4, .int 1), (3, .int 0), (0, .ref (ad 0)), (1, .int (nI c)), (2, .ref (ad 43))]) hx hb dL_isCell_6 hl (by decide) rfl (fun ls hl => ?_)
  have L1 : ∀ (d9_8 : Nat) (k : Nat) (H : Heap) (locs : List Loc) (ls : Array Slot), 4 - k = d9_8 → (k ≤ 4) → gN D ad cs s0 F V o H locs → lv_has ls 9 [(0, .ref (ad 0)), (1, .int (nI c)), (2, .ref (ad 43)), (3, .int (pS F V c k)), (4, .int 1), (5, .int (nI k))] → W p0 l e0 ({ frames := 8, cells := 60, slots := 360, locals := 134 } : Room) s0 m0 ([.ref (ad 0), .int (nI c), .ref (ad 43)] : List Value).toArray b0 k0 c0 H locs (0 + 15 * k) (0 + 90 * k) (MQ b0 (gQI D ad cs 1 F V o s0.heap.size) ([.ref (ad 0), .int (nI c), .ref (ad 43)] : List Value).toArray s0 60 360 (gX ad s0.heap.size)) (F0 m0 8 ls []) := by
    intro d9_8
    induction d9_8 with
    | zero =>
      intro k H locs ls hd_8 hk hN hl
      refine lv_iload hx hb dL_isCell_8 (lv_at hl 5 rfl) ?_
      refine lv_iconst (v := 4) hx hb dL_isCell_10 (by decide) ?_
      refine g_cN_ge (a := k) (b := 4) (tgt := 183) hx hb dL_isCell_11 (by decide) rfl rfl (by omega) (by omega) (fun c2 => ?_) (fun c2 => absurd c2 (by omega))
      refine lv_iload hx hb dL_isCell_183 (lv_at hl 4 rfl) ?_
      refine lv_if_eq (tgt := 199) hx hb dL_isCell_185 (by decide) (fun c3 => False.elim (by revert c3; decide)) (fun _ => ?_)
      refine lv_iload_n hx hb dL_isCell_188 rfl (lv_at hl 3 rfl) ?_
      refine lv_aload_n hx hb dL_isCell_189 rfl (lv_at hl 2 rfl) ?_
      refine lv_iconst (v := 1) hx hb dL_isCell_190 (by decide) ?_
      refine g_iald hx hb hG hN (i := 43) (n := 9) (j := 1) (by decide) rfl (by decide) (by omega) rfl dL_isCell_191 ?_
      refine lv_icmp_gt (tgt := 199) hx hb dL_isCell_192 (by decide) (fun c4 => absurd c4 (by rw [show k = 4 by omega, hR.2.1]; exact pS_le hI.2.2.2.2.2.2.1 hc)) (fun c4 => ?_)
      refine lv_iconst (v := 1) hx hb dL_isCell_195 (by decide) ?_
      refine lv_goto (tgt := 200) hx hb dL_isCell_196 (by decide) ?_
      refine W.widen (k := 60) (n := 360) (by omega) (by omega) ?_
      exact g_rz hx hb hr hlocks (by decide) hN (⟨rfl, rfl⟩) dL_isCell_200
    | succ d9_8 ih8 =>
      intro k H locs ls hd_8 hk hN hl
      refine lv_iload hx hb dL_isCell_8 (lv_at hl 5 rfl) ?_
      refine lv_iconst (v := 4) hx hb dL_isCell_10 (by decide) ?_
      refine g_cN_ge (a := k) (b := 4) (tgt := 183) hx hb dL_isCell_11 (by decide) rfl rfl (by omega) (by omega) (fun c5 => absurd c5 (by omega)) (fun c5 => ?_)
      refine lv_iload hx hb dL_isCell_14 (lv_at hl 4 rfl) ?_
      refine lv_if_eq (tgt := 183) hx hb dL_isCell_16 (by decide) (fun c6 => False.elim (by revert c6; decide)) (fun _ => ?_)
      obtain ⟨a9, w9, h1, h2, ea9, ew9, hwa9⟩ := cell_n hI.2.2.2.2.2.2.1 hc (show k < 4 by omega)
      obtain ⟨t9, ht1, et9, ht2, ht3⟩ := plate_n (c := c) (k := k) h2 ew9
      refine lv_aload_n hx hb dL_isCell_19 rfl (lv_at hl 0 rfl) ?_
      refine lv_iload_n hx hb dL_isCell_20 rfl (lv_at hl 1 rfl) ?_
      refine lv_iload hx hb dL_isCell_21 (lv_at hl 5 rfl) ?_
      refine lv_iconst (v := 0) hx hb dL_isCell_23 (by decide) ?_
      refine g_nVI (As := [.int (nI c), .int (nI k), .int 0]) (rest := []) ⟨hx, hb, hml, hown, hts⟩ hG hN (i := 0) (by decide) rfl rfl (c_X9_ink l hl9 (nI c) (nI k) 0 (hI.z12)) (cwV 3 hts gL_isCell_X9_ink rfl rfl rfl (by decide +kernel) ⟨Nat.le_of_ble_eq_true rfl, Nat.le_of_ble_eq_true rfl⟩) rfl hl.1 rfl (Nat.le_of_ble_eq_true rfl) dL_isCell_24 ⟨by show _ ≤ 60; omega, by show _ ≤ 360; omega⟩ (no2 (fInk0 (by omega) (by omega) (by decide))) (fun hz7 H locs hN => ?_)
      refine g_top (y := nI a9) ((rInk_0 (by omega) (by omega)).trans ea9) ?_
      refine lv_istore (lv' := [(6, .int (nI a9)), (0, .ref (ad 0)), (1, .int (nI c)), (2, .ref (ad 43)), (3, .int (pS F V c k)), (4, .int 1), (5, .int (nI k))]) hx hb dL_isCell_27 hl (by decide) rfl (fun ls hl => ?_)
      refine lv_aload_n hx hb dL_isCell_29 rfl (lv_at hl 1 rfl) ?_
      refine lv_iload_n hx hb dL_isCell_30 rfl (lv_at hl 2 rfl) ?_
      refine lv_iload hx hb dL_isCell_31 (lv_at hl 6 rfl) ?_
      refine lv_iconst (v := 1) hx hb dL_isCell_33 (by decide) ?_
      refine g_nVI (As := [.int (nI c), .int (nI k), .int 1]) (rest := []) ⟨hx, hb, hml, hown, hts⟩ hG hN (i := 0) (by decide) rfl rfl (c_X9_ink l hl9 (nI c) (nI k) 1 (hI.z12)) (cwV 3 hts gL_isCell_X9_ink rfl rfl rfl (by decide +kernel) ⟨Nat.le_of_ble_eq_true rfl, Nat.le_of_ble_eq_true rfl⟩) rfl hl.1 rfl (Nat.le_of_ble_eq_true rfl) dL_isCell_34 ⟨by show _ ≤ 60; omega, by show _ ≤ 360; omega⟩ (no2 (fInk0 (by omega) (by omega) (by decide))) (fun hz8 H locs hN => ?_)
      refine g_top (y := nI w9) ((rInk_1 (by omega) (by omega)).trans ew9) ?_
      refine lv_istore (lv' := [(7, .int (nI w9)), (6, .int (nI a9)), (0, .ref (ad 0)), (1, .int (nI c)), (2, .ref (ad 43)), (3, .int (pS F V c k)), (4, .int 1), (5, .int (nI k))]) hx hb dL_isCell_37 hl (by decide) rfl (fun ls hl => ?_)
      refine lv_aload_n hx hb dL_isCell_39 rfl (lv_at hl 2 rfl) ?_
      refine lv_iload_n hx hb dL_isCell_40 rfl (lv_at hl 3 rfl) ?_
      refine lv_iload hx hb dL_isCell_41 (lv_at hl 7 rfl) ?_
      refine lv_iconst (v := 2) hx hb dL_isCell_43 (by decide) ?_
      refine g_nVI (As := [.int (nI c), .int (nI k), .int 2]) (rest := []) ⟨hx, hb, hml, hown, hts⟩ hG hN (i := 0) (by decide) rfl rfl (c_X9_ink l hl9 (nI c) (nI k) 2 (hI.z12)) (cwV 3 hts gL_isCell_X9_ink rfl rfl rfl (by decide +kernel) ⟨Nat.le_of_ble_eq_true rfl, Nat.le_of_ble_eq_true rfl⟩) rfl hl.1 rfl (Nat.le_of_ble_eq_true rfl) dL_isCell_44 ⟨by show _ ≤ 60; omega, by show _ ≤ 360; omega⟩ (no2 (fInk0 (by omega) (by omega) (by decide))) (fun hz9 H locs hN => ?_)
      refine g_top (y := nI t9) ((rInk_2 (by omega) (by omega)).trans (by rw [et9])) ?_
      refine lv_istore (lv' := [(8, .int (nI t9)), (7, .int (nI w9)), (6, .int (nI a9)), (0, .ref (ad 0)), (1, .int (nI c)), (2, .ref (ad 43)), (3, .int (pS F V c k)), (4, .int 1), (5, .int (nI k))]) hx hb dL_isCell_47 hl (by decide) rfl (fun ls hl => ?_)
      refine lv_iload_n hx hb dL_isCell_49 rfl (lv_at hl 6 rfl) ?_
      refine lv_iload hx hb dL_isCell_50 (lv_at hl 2 rfl) ?_
      refine lv_iadd hx hb dL_isCell_52 ?_
      refine g_top (y := pS F V c (k + 1)) (by rw [← ea9]; rfl) ?_
      refine lv_istore_n (lv' := [(3, .int (pS F V c (k + 1))), (8, .int (nI t9)), (7, .int (nI w9)), (6, .int (nI a9)), (0, .ref (ad 0)), (1, .int (nI c)), (2, .ref (ad 43)), (4, .int 1), (5, .int (nI k))]) hx hb dL_isCell_53 rfl hl (by decide) rfl (fun ls hl => ?_)
      refine lv_iload hx hb dL_isCell_54 (lv_at hl 3 rfl) ?_
      refine lv_if_lt (tgt := 174) hx hb dL_isCell_56 (by decide) (fun c10 => absurd c10 (nI_pos (by omega))) (fun c10 => ?_)
      refine lv_iload hx hb dL_isCell_59 (lv_at hl 3 rfl) ?_
      refine lv_bipush (v := 100) hx hb dL_isCell_61 (by decide) ?_
      refine g_cN_gt (a := a9) (b := 100) (tgt := 174) hx hb dL_isCell_63 (by decide) rfl rfl (by omega) (by omega) (fun c11 => absurd c11 (by omega)) (fun c11 => ?_)
      refine lv_iload hx hb dL_isCell_66 (lv_at hl 2 rfl) ?_
      refine lv_iload hx hb dL_isCell_68 (lv_at hl 3 rfl) ?_
      refine g_cN_lt (a := w9) (b := a9) (tgt := 174) hx hb dL_isCell_70 (by decide) rfl rfl (by omega) (by omega) (fun c12 => absurd c12 (by omega)) (fun c12 => ?_)
      refine lv_iload hx hb dL_isCell_73 (lv_at hl 2 rfl) ?_
      refine lv_bipush (v := 100) hx hb dL_isCell_75 (by decide) ?_
      refine g_cN_gt (a := w9) (b := 100) (tgt := 174) hx hb dL_isCell_77 (by decide) rfl rfl (by omega) (by omega) (fun c13 => absurd c13 (by omega)) (fun c13 => ?_)
      refine lv_iload hx hb dL_isCell_80 (lv_at hl 8 rfl) ?_
      refine lv_iconst (v := 3) hx hb dL_isCell_82 (by decide) ?_
      have J14 : ∀  (H : Heap) (locs : List Loc) (ls : Array Slot), gN D ad cs s0 F V o H locs → lv_has ls 9 [(0, .ref (ad 0)), (1, .int (nI c)), (2, .ref (ad 43)), (3, .int (pS F V c (k + 1))), (4, .int 1), (5, .int (nI k)), (6, .int (nI a9)), (7, .int (nI w9)), (8, .int (nI t9))] → W p0 l e0 ({ frames := 8, cells := 60, slots := 360, locals := 134 } : Room) s0 m0 ([.ref (ad 0), .int (nI c), .ref (ad 43)] : List Value).toArray b0 k0 c0 H locs (9 + 15 * k) (54 + 90 * k) (MQ b0 (gQI D ad cs 1 F V o s0.heap.size) ([.ref (ad 0), .int (nI c), .ref (ad 43)] : List Value).toArray s0 60 360 (gX ad s0.heap.size)) (F0 m0 100 ls []) := by
        intro  H locs ls  hN hl
        refine lv_iload hx hb dL_isCell_100 (lv_at hl 8 rfl) ?_
        refine lv_if_lt (tgt := 174) hx hb dL_isCell_102 (by decide) (fun c15 => absurd c15 (nI_pos (by omega))) (fun c15 => ?_)
        refine lv_iload hx hb dL_isCell_105 (lv_at hl 8 rfl) ?_
        refine lv_bipush (v := 100) hx hb dL_isCell_107 (by decide) ?_
        refine g_cN_gt (a := t9) (b := 100) (tgt := 174) hx hb dL_isCell_109 (by decide) rfl rfl (by omega) (by omega) (fun c16 => absurd c16 (by omega)) (fun c16 => ?_)
        refine lv_aload_n hx hb dL_isCell_112 rfl (lv_at hl 2 rfl) ?_
        refine lv_iload hx hb dL_isCell_113 (lv_at hl 5 rfl) ?_
        refine lv_iload hx hb dL_isCell_115 (lv_at hl 8 rfl) ?_
        refine g_SI (As := [.ref (ad 43), .int (nI k), .int (nI t9)]) (rest := []) ⟨hx, hb, hml, hown, hts⟩ hG hN (c_L_prints l k (nI t9) (by omega)) (va_cwS 3 hts gL_isCell_L_prints rfl rfl rfl (by decide +kernel) ⟨Nat.le_of_ble_eq_true rfl, Nat.le_of_ble_eq_true rfl⟩) rfl hl.1 rfl (Nat.le_of_ble_eq_true rfl) dL_isCell_117 ⟨by show _ ≤ 60; omega, by show _ ≤ 360; omega⟩ (fun H locs hN => ?_)
        refine g_top (y := cCurve (nI t9) (F 2 k)) (by rw [hR.2.2.2.1 _ (by omega)]) ?_
        refine lv_iload hx hb dL_isCell_120 (lv_at hl 7 rfl) ?_
        refine lv_icmp_lt (tgt := 174) hx hb dL_isCell_122 (by decide) (fun c17 => absurd c17 (ht2)) (fun c17 => ?_)
        refine lv_iload hx hb dL_isCell_125 (lv_at hl 8 rfl) ?_
        have J18 : ∀  (H : Heap) (locs : List Loc) (ls : Array Slot), gN D ad cs s0 F V o H locs → lv_has ls 9 [(0, .ref (ad 0)), (1, .int (nI c)), (2, .ref (ad 43)), (3, .int (pS F V c (k + 1))), (4, .int 1), (5, .int (nI k)), (6, .int (nI a9)), (7, .int (nI w9)), (8, .int (nI t9))] → W p0 l e0 ({ frames := 8, cells := 60, slots := 360, locals := 134 } : Room) s0 m0 ([.ref (ad 0), .int (nI c), .ref (ad 43)] : List Value).toArray b0 k0 c0 H locs (9 + 15 * k) (54 + 90 * k) (MQ b0 (gQI D ad cs 1 F V o s0.heap.size) ([.ref (ad 0), .int (nI c), .ref (ad 43)] : List Value).toArray s0 60 360 (gX ad s0.heap.size)) (F0 m0 145 ls []) := by
          intro  H locs ls  hN hl
          refine lv_aload_n hx hb dL_isCell_145 rfl (lv_at hl 0 rfl) ?_
          refine lv_iload_n hx hb dL_isCell_146 rfl (lv_at hl 1 rfl) ?_
          refine lv_iload hx hb dL_isCell_147 (lv_at hl 5 rfl) ?_
          refine lv_iconst (v := 4) hx hb dL_isCell_149 (by decide) ?_
          refine g_nVI (As := [.int (nI c), .int (nI k), .int 4]) (rest := []) ⟨hx, hb, hml, hown, hts⟩ hG hN (i := 0) (by decide) rfl rfl (c_X9_ink l hl9 (nI c) (nI k) 4 (hI.z12)) (cwV 3 hts gL_isCell_X9_ink rfl rfl rfl (by decide +kernel) ⟨Nat.le_of_ble_eq_true rfl, Nat.le_of_ble_eq_true rfl⟩) rfl hl.1 rfl (Nat.le_of_ble_eq_true rfl) dL_isCell_150 ⟨by show _ ≤ 60; omega, by show _ ≤ 360; omega⟩ (no2 (fInk0 (by omega) (by omega) (by decide))) (fun hz19 H locs hN => ?_)
          refine g_top (y := cCurve (F (14 + k) c) (F 2 k)) (rInk_4 (by omega) (by omega)) ?_
          refine lv_aload_n hx hb dL_isCell_153 rfl (lv_at hl 2 rfl) ?_
          refine lv_iload hx hb dL_isCell_154 (lv_at hl 5 rfl) ?_
          refine lv_aload_n hx hb dL_isCell_156 rfl (lv_at hl 0 rfl) ?_
          refine lv_iload_n hx hb dL_isCell_157 rfl (lv_at hl 1 rfl) ?_
          refine lv_iload hx hb dL_isCell_158 (lv_at hl 5 rfl) ?_
          refine lv_iconst (v := 3) hx hb dL_isCell_160 (by decide) ?_
          refine g_nVI (As := [.int (nI c), .int (nI k), .int 3]) (rest := [.int (nI k), .ref (ad 43), .int (cCurve (F (14 + k) c) (F 2 k))]) ⟨hx, hb, hml, hown, hts⟩ hG hN (i := 0) (by decide) rfl rfl (c_X9_ink l hl9 (nI c) (nI k) 3 (hI.z12)) (cwV 3 hts gL_isCell_X9_ink rfl rfl rfl (by decide +kernel) ⟨Nat.le_of_ble_eq_true rfl, Nat.le_of_ble_eq_true rfl⟩) rfl hl.1 rfl (Nat.le_of_ble_eq_true rfl) dL_isCell_161 ⟨by show _ ≤ 60; omega, by show _ ≤ 360; omega⟩ (no2 (fInk0 (by omega) (by omega) (by decide))) (fun hz20 H locs hN => ?_)
          refine g_top (y := F (14 + k) c) (rInk_3 (by omega) (by omega)) ?_
          refine g_SI (As := [.ref (ad 43), .int (nI k), .int (F (14 + k) c)]) (rest := [.int (cCurve (F (14 + k) c) (F 2 k))]) ⟨hx, hb, hml, hown, hts⟩ hG hN (c_L_prints l k (F (14 + k) c) (by omega)) (va_cwS 3 hts gL_isCell_L_prints rfl rfl rfl (by decide +kernel) ⟨Nat.le_of_ble_eq_true rfl, Nat.le_of_ble_eq_true rfl⟩) rfl hl.1 rfl (Nat.le_of_ble_eq_true rfl) dL_isCell_164 ⟨by show _ ≤ 60; omega, by show _ ≤ 360; omega⟩ (fun H locs hN => ?_)
          refine g_top (y := cCurve (F (14 + k) c) (F 2 k)) (by rw [hR.2.2.2.1 _ (by omega)]) ?_
          refine lv_icmp_ne (tgt := 174) hx hb dL_isCell_167 (by decide) (fun c21 => absurd c21 (fun z => z rfl)) (fun c21 => ?_)
          refine lv_iconst (v := 1) hx hb dL_isCell_170 (by decide) ?_
          refine lv_goto (tgt := 175) hx hb dL_isCell_171 (by decide) ?_
          refine lv_istore (lv' := [(4, .int 1), (0, .ref (ad 0)), (1, .int (nI c)), (2, .ref (ad 43)), (3, .int (pS F V c (k + 1))), (5, .int (nI k)), (6, .int (nI a9)), (7, .int (nI w9)), (8, .int (nI t9))]) hx hb dL_isCell_175 hl (by decide) rfl (fun ls hl => ?_)
          refine lv_iinc (v := (nI (k + 1))) (lv' := [(5, .int (nI (k + 1))), (4, .int 1), (0, .ref (ad 0)), (1, .int (nI c)), (2, .ref (ad 43)), (3, .int (pS F V c (k + 1))), (6, .int (nI a9)), (7, .int (nI w9)), (8, .int (nI t9))]) hx hb dL_isCell_177 hl (k := 5) rfl (nI_1 _) (by decide) rfl (fun ls hl => ?_)
          refine lv_goto (tgt := 8) hx hb dL_isCell_180 (by decide) ?_
          refine W.widen (k := (0 + 15 * (k + 1))) (n := (0 + 90 * (k + 1))) (by omega) (by omega) ?_
          exact ih8 (k + 1) _ _ ls (by omega) (by omega) hN (lv_sub hl [2, 3, 4, 5, 1, 0] rfl)
        refine g_ifN_eq (a := t9) (tgt := 145) hx hb dL_isCell_127 (by decide) rfl (by omega) (fun c22 => ?_) (fun c22 => ?_)
        · refine W.widen (k := (9 + 15 * k)) (n := (54 + 90 * k)) (by omega) (by omega) ?_
          exact J18  _ _ ls  hN (lv_sub hl [0, 1, 2, 3, 4, 5, 6, 7, 8] rfl)
        · refine lv_aload_n hx hb dL_isCell_130 rfl (lv_at hl 2 rfl) ?_
          refine lv_iload hx hb dL_isCell_131 (lv_at hl 5 rfl) ?_
          refine lv_iload hx hb dL_isCell_133 (lv_at hl 8 rfl) ?_
          refine lv_iconst (v := 1) hx hb dL_isCell_135 (by decide) ?_
          refine g_subN (a := t9) (b := 1) hx hb rfl rfl (by omega) dL_isCell_136 ?_
          refine g_SI (As := [.ref (ad 43), .int (nI k), .int (nI (t9 - 1))]) (rest := []) ⟨hx, hb, hml, hown, hts⟩ hG hN (c_L_prints l k (nI (t9 - 1)) (by omega)) (va_cwS 3 hts gL_isCell_L_prints rfl rfl rfl (by decide +kernel) ⟨Nat.le_of_ble_eq_true rfl, Nat.le_of_ble_eq_true rfl⟩) rfl hl.1 rfl (Nat.le_of_ble_eq_true rfl) dL_isCell_137 ⟨by show _ ≤ 60; omega, by show _ ≤ 360; omega⟩ (fun H locs hN => ?_)
          refine g_top (y := cCurve (nI (t9 - 1)) (F 2 k)) (by rw [hR.2.2.2.1 _ (by omega)]) ?_
          refine lv_iload hx hb dL_isCell_140 (lv_at hl 7 rfl) ?_
          refine lv_icmp_ge (tgt := 174) hx hb dL_isCell_142 (by decide) (fun c23 => absurd c23 (Int32.not_le.mpr (ht3 c22))) (fun c23 => ?_)
          refine W.widen (k := (9 + 15 * k)) (n := (54 + 90 * k)) (by omega) (by omega) ?_
          exact J18  _ _ ls  hN (lv_sub hl [0, 1, 2, 3, 4, 5, 6, 7, 8] rfl)
      refine g_cN_ge (a := k) (b := 3) (tgt := 93) hx hb dL_isCell_83 (by decide) rfl rfl (by omega) (by omega) (fun c24 => ?_) (fun c24 => ?_)
      · refine lv_iload hx hb dL_isCell_93 (lv_at hl 2 rfl) ?_
        refine lv_iload hx hb dL_isCell_95 (lv_at hl 3 rfl) ?_
        refine g_cN_ne (a := w9) (b := a9) (tgt := 174) hx hb dL_isCell_97 (by decide) rfl rfl (by omega) (by omega) (fun c25 => absurd c25 (fun z => z (hwa9 (Or.inl (by omega))))) (fun c25 => ?_)
        refine W.widen (k := (9 + 15 * k)) (n := (54 + 90 * k)) (by omega) (by omega) ?_
        exact J14  _ _ ls  hN (lv_sub hl [4, 5, 6, 0, 7, 8, 3, 2, 1] rfl)
      · refine lv_aload_n hx hb dL_isCell_86 rfl (lv_at hl 6 rfl) ?_
        refine lv_iconst (v := 2) hx hb dL_isCell_87 (by decide) ?_
        refine g_iald hx hb hG hN (i := 43) (n := 9) (j := 2) (by decide) rfl (by decide) (by omega) rfl dL_isCell_88 ?_
        refine lv_iconst (v := 1) hx hb dL_isCell_89 (by decide) ?_
        refine lv_icmp_eq (tgt := 100) hx hb dL_isCell_90 (by decide) (fun c26 => ?_) (fun c26 => ?_)
        · refine W.widen (k := (9 + 15 * k)) (n := (54 + 90 * k)) (by omega) (by omega) ?_
          exact J14  _ _ ls  hN (lv_sub hl [4, 5, 6, 0, 7, 8, 3, 2, 1] rfl)
        · refine lv_iload hx hb dL_isCell_93 (lv_at hl 2 rfl) ?_
          refine lv_iload hx hb dL_isCell_95 (lv_at hl 3 rfl) ?_
          refine g_cN_ne (a := w9) (b := a9) (tgt := 174) hx hb dL_isCell_97 (by decide) rfl rfl (by omega) (by omega) (fun c27 => absurd c27 (fun z => z (hwa9 (Or.inr (hI.tr0 (by rw [← hR.2.2.1]; exact c26)))))) (fun c27 => ?_)
          refine W.widen (k := (9 + 15 * k)) (n := (54 + 90 * k)) (by omega) (by omega) ?_
          exact J14  _ _ ls  hN (lv_sub hl [4, 5, 6, 0, 7, 8, 3, 2, 1] rfl)
  exact L1 _ 0 _ _ ls (rfl) (by omega) hN (lv_sub hl [3, 4, 5, 2, 1, 0] rfl)
set_option maxHeartbeats 4000000 in
set_option maxRecDepth 100000 in
theorem c_L_areDots (l : Launch) {D : va_G} {ad : Nat → Nat} {cs : Nat → ClassId} {zd : Nat → Nat} {F V : gF} {o : gO} {sz : Nat} (hl9 : l.stackTraces = false) (r k b : Nat) (hr8 : r < 8) (hk : k < 4) (hI : CI F V b) : Met l yL_areDots wsL_areDots ({ frames := 8, cells := 40, slots := 240, locals := 134 } : Room) (gPc D ad cs zd F V o sz [.ref (ad 0), .int (nI r), .int (nI k)]) (gQI D ad cs 1 F V o sz) 40 240 (gX ad sz) := by
  refine g_met (Qc := fun z0 => gQI D ad cs 1 F V o z0) (cc := cL_areDots) (maxL := 7) (ret := (some .boolean)) (own := RL) (by decide +kernel) rfl rfl (Nat.le_of_ble_eq_true rfl) ?_
  intro p0 e0 s0 m0 b0 k0 c0 hx hb hr hts hown hlocks hml hG hN ls hl
  have hl : lv_has ls 7 [(0, .ref (ad 0)), (1, .int (nI r)), (2, .int (nI k))] := hl
  refine lv_iconst (v := 0) hx hb dL_areDots_0 (by decide) ?_
  refine lv_istore_n (lv' := [(3, .int 0), (0, .ref (ad 0)), (1, .int (nI r)), (2, .int (nI k))]) hx hb dL_areDots_1 rfl hl (by decide) rfl (fun ls hl => ?_)
  refine lv_iconst (v := 1) hx hb dL_areDots_2 (by decide) ?_
  refine lv_istore (lv' := [(4, .int 1), (3, .int 0), (0, .ref (ad 0)), (1, .int (nI r)), (2, .int (nI k))]) hx hb dL_areDots_3 hl (by decide) rfl (fun ls hl => ?_)
  refine lv_iconst (v := 0) hx hb dL_areDots_5 (by decide) ?_
  refine lv_istore (lv' := [(5, .int 0), (4, .int 1), (3, .int 0), (0, .ref (ad 0)), (1, .int (nI r)), (2, .int (nI k))]) hx hb dL_areDots_6 hl (by decide) rfl (fun ls hl => ?_)
  have L1 : ∀ (d9_8 : Nat) (i : Nat) (H : Heap) (locs : List Loc) (ls : Array Slot), 8 - i = d9_8 → (i ≤ 8) → gN D ad cs s0 F V o H locs → lv_has ls 7 [(0, .ref (ad 0)), (1, .int (nI r)), (2, .int (nI k)), (3, .int ((cDot1 F k (8 * r) i).1)), (4, .int 1), (5, .int (nI i))] → W p0 l e0 ({ frames := 8, cells := 40, slots := 240, locals := 134 } : Room) s0 m0 ([.ref (ad 0), .int (nI r), .int (nI k)] : List Value).toArray b0 k0 c0 H locs (0 + 5 * i) (0 + 30 * i) (MQ b0 (gQI D ad cs 1 F V o s0.heap.size) ([.ref (ad 0), .int (nI r), .int (nI k)] : List Value).toArray s0 40 240 (gX ad s0.heap.size)) (F0 m0 8 ls []) := by
    intro d9_8
    induction d9_8 with
    | zero =>
      intro i H locs ls hd_8 hi hN hl
      refine lv_iload hx hb dL_areDots_8 (lv_at hl 5 rfl) ?_
      refine lv_bipush (v := 8) hx hb dL_areDots_10 (by decide) ?_
      refine g_cN_ge (a := i) (b := 8) (tgt := 95) hx hb dL_areDots_12 (by decide) rfl rfl (by omega) (by omega) (fun c2 => ?_) (fun c2 => absurd c2 (by omega))
      refine lv_iload hx hb dL_areDots_95 (lv_at hl 4 rfl) ?_
      refine W.widen (k := 40) (n := 240) (by omega) (by omega) ?_
      exact g_rz hx hb hr hlocks (by decide) hN (⟨rfl, rfl⟩) dL_areDots_97
    | succ d9_8 ih8 =>
      intro i H locs ls hd_8 hi hN hl
      refine lv_iload hx hb dL_areDots_8 (lv_at hl 5 rfl) ?_
      refine lv_bipush (v := 8) hx hb dL_areDots_10 (by decide) ?_
      refine g_cN_ge (a := i) (b := 8) (tgt := 95) hx hb dL_areDots_12 (by decide) rfl rfl (by omega) (by omega) (fun c3 => absurd c3 (by omega)) (fun c3 => ?_)
      refine lv_iload hx hb dL_areDots_15 (lv_at hl 4 rfl) ?_
      refine lv_if_eq (tgt := 95) hx hb dL_areDots_17 (by decide) (fun c4 => False.elim (by revert c4; decide)) (fun _ => ?_)
      refine lv_iload_n hx hb dL_areDots_20 rfl (lv_at hl 3 rfl) ?_
      refine lv_aload_n hx hb dL_areDots_21 rfl (lv_at hl 0 rfl) ?_
      refine lv_bipush (v := 8) hx hb dL_areDots_22 (by decide) ?_
      refine lv_iload_n hx hb dL_areDots_24 rfl (lv_at hl 1 rfl) ?_
      refine g_mulN (a := 8) (b := r) hx hb rfl rfl dL_areDots_25 ?_
      refine lv_iload hx hb dL_areDots_26 (lv_at hl 5 rfl) ?_
      refine g_addN (a := 8 * r) (b := i) hx hb rfl rfl dL_areDots_28 ?_
      refine lv_iload_n hx hb dL_areDots_29 rfl (lv_at hl 2 rfl) ?_
      refine lv_iconst (v := 3) hx hb dL_areDots_30 (by decide) ?_
      refine g_nVI (As := [.int (nI ((8 * r) + i)), .int (nI k), .int 3]) (rest := [.int ((cDot1 F k (8 * r) i).1)]) ⟨hx, hb, hml, hown, hts⟩ hG hN (i := 0) (by decide) rfl rfl (c_X9_ink l hl9 (nI ((8 * r) + i)) (nI k) 3 (hI.z12)) (cwV 3 hts gL_areDots_X9_ink rfl rfl rfl (by decide +kernel) ⟨Nat.le_of_ble_eq_true rfl, Nat.le_of_ble_eq_true rfl⟩) rfl hl.1 rfl (Nat.le_of_ble_eq_true rfl) dL_areDots_31 ⟨by show _ ≤ 40; omega, by show _ ≤ 240; omega⟩ (no2 (fInk0 (by omega) (by omega) (by decide))) (fun hz5 H locs hN => ?_)
      refine g_top (y := F (14 + k) ((8 * r) + i)) (rInk_3 (by omega) (by omega)) ?_
      refine lv_iadd hx hb dL_areDots_34 ?_
      refine lv_istore (lv' := [(6, .int (((cDot1 F k (8 * r) i).1) + (F (14 + k) ((8 * r) + i)))), (0, .ref (ad 0)), (1, .int (nI r)), (2, .int (nI k)), (3, .int ((cDot1 F k (8 * r) i).1)), (4, .int 1), (5, .int (nI i))]) hx hb dL_areDots_35 hl (by decide) rfl (fun ls hl => ?_)
      refine lv_aload_n hx hb dL_areDots_37 rfl (lv_at hl 1 rfl) ?_
      refine lv_bipush (v := 8) hx hb dL_areDots_38 (by decide) ?_
      refine lv_iload_n hx hb dL_areDots_40 rfl (lv_at hl 2 rfl) ?_
      refine g_mulN (a := 8) (b := r) hx hb rfl rfl dL_areDots_41 ?_
      refine lv_iload hx hb dL_areDots_42 (lv_at hl 6 rfl) ?_
      refine g_addN (a := 8 * r) (b := i) hx hb rfl rfl dL_areDots_44 ?_
      refine lv_iload_n hx hb dL_areDots_45 rfl (lv_at hl 3 rfl) ?_
      refine g_nVI (As := [.int (nI ((8 * r) + i)), .int (nI k)]) (rest := []) ⟨hx, hb, hml, hown, hts⟩ hG hN (i := 0) (by decide) rfl rfl (c_X9_dot l hl9 (nI ((8 * r) + i)) (nI k)) (cwV 2 hts gL_areDots_X9_dot rfl rfl rfl (by decide +kernel) ⟨Nat.le_of_ble_eq_true rfl, Nat.le_of_ble_eq_true rfl⟩) rfl hl.1 rfl (Nat.le_of_ble_eq_true rfl) dL_areDots_46 ⟨by show _ ≤ 40; omega, by show _ ≤ 240; omega⟩ (no1 (fDot0 (by omega) (by omega))) (fun hz6 H locs hN => ?_)
      refine g_top (y := if 49 < ((cDot1 F k (8 * r) i).1 + F (14 + k) (8 * r + i)) then 1 else 0) (dot_v hr8 hk (by omega)) ?_
      refine lv_iload hx hb dL_areDots_49 (lv_at hl 0 rfl) ?_
      refine lv_bipush (v := 49) hx hb dL_areDots_51 (by decide) ?_
      refine lv_icmp_le (tgt := 60) hx hb dL_areDots_53 (by decide) (fun c7 => ?_) (fun c7 => ?_)
      · refine lv_iconst (v := 0) hx hb dL_areDots_60 (by decide) ?_
        refine lv_icmp_ne (tgt := 68) hx hb dL_areDots_61 (by decide) (fun c8 => absurd c8 (fun z => z (if_neg (Int32.not_lt.mpr c7)))) (fun c8 => ?_)
        refine lv_iconst (v := 1) hx hb dL_areDots_64 (by decide) ?_
        refine lv_goto (tgt := 69) hx hb dL_areDots_65 (by decide) ?_
        refine lv_istore (lv' := [(4, .int 1), (6, .int (((cDot1 F k (8 * r) i).1) + (F (14 + k) ((8 * r) + i)))), (0, .ref (ad 0)), (1, .int (nI r)), (2, .int (nI k)), (3, .int ((cDot1 F k (8 * r) i).1)), (5, .int (nI i))]) hx hb dL_areDots_69 hl (by decide) rfl (fun ls hl => ?_)
        refine lv_iload hx hb dL_areDots_71 (lv_at hl 1 rfl) ?_
        refine lv_bipush (v := 49) hx hb dL_areDots_73 (by decide) ?_
        refine lv_icmp_le (tgt := 86) hx hb dL_areDots_75 (by decide) (fun c9 => ?_) (fun c9 => absurd c9 (fun z => z c7))
        refine lv_iload hx hb dL_areDots_86 (lv_at hl 1 rfl) ?_
        refine g_top (y := (cDot1 F k (8 * r) (i + 1)).1) (by rw [dot_s, if_neg (Int32.not_lt.mpr c7)]) ?_
        refine lv_istore_n (lv' := [(3, .int ((cDot1 F k (8 * r) (i + 1)).1)), (4, .int 1), (6, .int (((cDot1 F k (8 * r) i).1) + (F (14 + k) ((8 * r) + i)))), (0, .ref (ad 0)), (1, .int (nI r)), (2, .int (nI k)), (5, .int (nI i))]) hx hb dL_areDots_88 rfl hl (by decide) rfl (fun ls hl => ?_)
        refine lv_iinc (v := (nI (i + 1))) (lv' := [(5, .int (nI (i + 1))), (3, .int ((cDot1 F k (8 * r) (i + 1)).1)), (4, .int 1), (6, .int (((cDot1 F k (8 * r) i).1) + (F (14 + k) ((8 * r) + i)))), (0, .ref (ad 0)), (1, .int (nI r)), (2, .int (nI k))]) hx hb dL_areDots_89 hl (k := 6) rfl (nI_1 _) (by decide) rfl (fun ls hl => ?_)
        refine lv_goto (tgt := 8) hx hb dL_areDots_92 (by decide) ?_
        refine W.widen (k := (0 + 5 * (i + 1))) (n := (0 + 30 * (i + 1))) (by omega) (by omega) ?_
        exact ih8 (i + 1) _ _ ls (by omega) (by omega) hN (lv_sub hl [4, 5, 6, 1, 2, 0] rfl)
      · refine lv_iconst (v := 1) hx hb dL_areDots_56 (by decide) ?_
        refine lv_goto (tgt := 61) hx hb dL_areDots_57 (by decide) ?_
        refine lv_icmp_ne (tgt := 68) hx hb dL_areDots_61 (by decide) (fun c10 => absurd c10 (fun z => z (if_pos (Int32.not_le.mp c7)))) (fun c10 => ?_)
        refine lv_iconst (v := 1) hx hb dL_areDots_64 (by decide) ?_
        refine lv_goto (tgt := 69) hx hb dL_areDots_65 (by decide) ?_
        refine lv_istore (lv' := [(4, .int 1), (6, .int (((cDot1 F k (8 * r) i).1) + (F (14 + k) ((8 * r) + i)))), (0, .ref (ad 0)), (1, .int (nI r)), (2, .int (nI k)), (3, .int ((cDot1 F k (8 * r) i).1)), (5, .int (nI i))]) hx hb dL_areDots_69 hl (by decide) rfl (fun ls hl => ?_)
        refine lv_iload hx hb dL_areDots_71 (lv_at hl 1 rfl) ?_
        refine lv_bipush (v := 49) hx hb dL_areDots_73 (by decide) ?_
        refine lv_icmp_le (tgt := 86) hx hb dL_areDots_75 (by decide) (fun c11 => absurd c11 (c7)) (fun c11 => ?_)
        refine lv_iload hx hb dL_areDots_78 (lv_at hl 1 rfl) ?_
        refine lv_bipush (v := 100) hx hb dL_areDots_80 (by decide) ?_
        refine lv_isub hx hb dL_areDots_82 ?_
        refine lv_goto (tgt := 88) hx hb dL_areDots_83 (by decide) ?_
        refine g_top (y := (cDot1 F k (8 * r) (i + 1)).1) (by rw [dot_s, if_pos (Int32.not_le.mp c7)]) ?_
        refine lv_istore_n (lv' := [(3, .int ((cDot1 F k (8 * r) (i + 1)).1)), (4, .int 1), (6, .int (((cDot1 F k (8 * r) i).1) + (F (14 + k) ((8 * r) + i)))), (0, .ref (ad 0)), (1, .int (nI r)), (2, .int (nI k)), (5, .int (nI i))]) hx hb dL_areDots_88 rfl hl (by decide) rfl (fun ls hl => ?_)
        refine lv_iinc (v := (nI (i + 1))) (lv' := [(5, .int (nI (i + 1))), (3, .int ((cDot1 F k (8 * r) (i + 1)).1)), (4, .int 1), (6, .int (((cDot1 F k (8 * r) i).1) + (F (14 + k) ((8 * r) + i)))), (0, .ref (ad 0)), (1, .int (nI r)), (2, .int (nI k))]) hx hb dL_areDots_89 hl (k := 6) rfl (nI_1 _) (by decide) rfl (fun ls hl => ?_)
        refine lv_goto (tgt := 8) hx hb dL_areDots_92 (by decide) ?_
        refine W.widen (k := (0 + 5 * (i + 1))) (n := (0 + 30 * (i + 1))) (by omega) (by omega) ?_
        exact ih8 (i + 1) _ _ ls (by omega) (by omega) hN (lv_sub hl [4, 5, 6, 1, 2, 0] rfl)
  exact L1 _ 0 _ _ ls (rfl) (by omega) hN (lv_sub hl [3, 4, 5, 2, 1, 0] rfl)
set_option maxHeartbeats 4000000 in
set_option maxRecDepth 100000 in
theorem c_L_density (l : Launch) {D : va_G} {ad : Nat → Nat} {cs : Nat → ClassId} {zd : Nat → Nat} {F V : gF} {o : gO} {sz : Nat} (hl9 : l.stackTraces = false) (u q b : Nat) (hu : u < 4) (hq : q < 8) (hI : CI F V b) (hK : PK F) (hT : ∀ k c, k < 4 → c < 64 → ∃ x, x ≤ 100 ∧ F (14 + k) c = nI x) : Met l yL_density wsL_density ({ frames := 8, cells := 24, slots := 144, locals := 134 } : Room) (gPc D ad cs zd F V o sz [.ref (ad 0), .int (nI u), .int (nI q), .ref (ad 44)]) (gQI D ad cs (cDens F u q) F V o sz) 24 144 (gX ad sz) := by
  refine g_met (Qc := fun z0 => gQI D ad cs (cDens F u q) F V o z0) (cc := cL_density) (maxL := 6) (ret := (some .int)) (own := RL) (by decide +kernel) rfl rfl (Nat.le_of_ble_eq_true rfl) ?_
  intro p0 e0 s0 m0 b0 k0 c0 hx hb hr hts hown hlocks hml hG hN ls hl
  have hl : lv_has ls 6 [(0, .ref (ad 0)), (1, .int (nI u)), (2, .int (nI q)), (3, .ref (ad 44))] := hl
  refine lv_sipush (v := (-400)) hx hb dL_density_0 (by decide) ?_
  refine g_top (y := (-400) + cSum F u q 0) (by show (-400 : Int32) = -400 + 0; decide) ?_
  refine lv_istore (lv' := [(4, .int ((-400) + cSum F u q 0)), (0, .ref (ad 0)), (1, .int (nI u)), (2, .int (nI q)), (3, .ref (ad 44))]) hx hb dL_density_3 hl (by decide) rfl (fun ls hl => ?_)
  refine lv_iconst (v := 0) hx hb dL_density_5 (by decide) ?_
  refine lv_istore (lv' := [(5, .int 0), (4, .int ((-400) + cSum F u q 0)), (0, .ref (ad 0)), (1, .int (nI u)), (2, .int (nI q)), (3, .ref (ad 44))]) hx hb dL_density_6 hl (by decide) rfl (fun ls hl => ?_)
  have L1 : ∀ (d9_8 : Nat) (i : Nat) (H : Heap) (locs : List Loc) (ls : Array Slot), 8 - i = d9_8 → (i ≤ 8) → gN D ad cs s0 F V o H locs → lv_has ls 6 [(0, .ref (ad 0)), (1, .int (nI u)), (2, .int (nI q)), (3, .ref (ad 44)), (4, .int ((-400) + cSum F u q i)), (5, .int (nI i))] → W p0 l e0 ({ frames := 8, cells := 24, slots := 144, locals := 134 } : Room) s0 m0 ([.ref (ad 0), .int (nI u), .int (nI q), .ref (ad 44)] : List Value).toArray b0 k0 c0 H locs (0 + 3 * i) (0 + 18 * i) (MQ b0 (gQI D ad cs (cDens F u q) F V o s0.heap.size) ([.ref (ad 0), .int (nI u), .int (nI q), .ref (ad 44)] : List Value).toArray s0 24 144 (gX ad s0.heap.size)) (F0 m0 8 ls []) := by
    intro d9_8
    induction d9_8 with
    | zero =>
      intro i H locs ls hd_8 hi hN hl
      refine lv_iload hx hb dL_density_8 (lv_at hl 5 rfl) ?_
      refine lv_bipush (v := 8) hx hb dL_density_10 (by decide) ?_
      refine g_cN_ge (a := i) (b := 8) (tgt := 39) hx hb dL_density_12 (by decide) rfl rfl (by omega) (by omega) (fun c2 => ?_) (fun c2 => absurd c2 (by omega))
      obtain rfl : i = 8 := by omega
      refine lv_iload hx hb dL_density_39 (lv_at hl 4 rfl) ?_
      refine lv_if_ge (tgt := 57) hx hb dL_density_41 (by decide) (fun c3 => ?_) (fun c3 => ?_)
      · refine lv_iload hx hb dL_density_57 (lv_at hl 4 rfl) ?_
        refine lv_bipush (v := 8) hx hb dL_density_59 (by decide) ?_
        refine lv_idiv hx hb dL_density_61 (by decide) ?_
        refine lv_bipush (v := 10) hx hb dL_density_62 (by decide) ?_
        refine lv_idiv hx hb dL_density_64 (by decide) ?_
        refine lv_istore (lv' := [(5, .int ((((-400) + cSum F u q 8) / 8) / 10)), (0, .ref (ad 0)), (1, .int (nI u)), (2, .int (nI q)), (3, .ref (ad 44)), (4, .int ((-400) + cSum F u q 8))]) hx hb dL_density_65 hl (by decide) rfl (fun ls hl => ?_)
        refine lv_bipush (v := 50) hx hb dL_density_67 (by decide) ?_
        refine lv_aload_n hx hb dL_density_69 rfl (lv_at hl 4 rfl) ?_
        refine lv_bipush (v := 8) hx hb dL_density_70 (by decide) ?_
        refine lv_iload_n hx hb dL_density_72 rfl (lv_at hl 2 rfl) ?_
        refine g_mulN (a := 8) (b := u) hx hb rfl rfl dL_density_73 ?_
        refine lv_iload_n hx hb dL_density_74 rfl (lv_at hl 3 rfl) ?_
        refine g_addN (a := 8 * u) (b := q) hx hb rfl rfl dL_density_75 ?_
        refine g_iald hx hb hG hN (i := 44) (n := 32) (j := (8 * u) + q) (by decide) rfl (by decide) (by omega) rfl dL_density_76 ?_
        refine lv_iadd hx hb dL_density_77 ?_
        refine lv_iload hx hb dL_density_78 (lv_at hl 0 rfl) ?_
        refine lv_isub hx hb dL_density_80 ?_
        refine W.widen (k := 24) (n := 144) (by omega) (by omega) ?_
        exact g_ri hx hb hr hlocks hN (⟨dens_f hT hu hq _ (hK u q hu hq) (Int32.not_lt.mpr c3), rfl⟩) dL_density_81
      · refine lv_iload hx hb dL_density_44 (lv_at hl 4 rfl) ?_
        refine lv_ineg hx hb dL_density_46 ?_
        refine lv_bipush (v := 8) hx hb dL_density_47 (by decide) ?_
        refine lv_idiv hx hb dL_density_49 (by decide) ?_
        refine lv_bipush (v := 10) hx hb dL_density_50 (by decide) ?_
        refine lv_idiv hx hb dL_density_52 (by decide) ?_
        refine lv_ineg hx hb dL_density_53 ?_
        refine lv_goto (tgt := 65) hx hb dL_density_54 (by decide) ?_
        refine lv_istore (lv' := [(5, .int (-(((-((-400) + cSum F u q 8)) / 8) / 10))), (0, .ref (ad 0)), (1, .int (nI u)), (2, .int (nI q)), (3, .ref (ad 44)), (4, .int ((-400) + cSum F u q 8))]) hx hb dL_density_65 hl (by decide) rfl (fun ls hl => ?_)
        refine lv_bipush (v := 50) hx hb dL_density_67 (by decide) ?_
        refine lv_aload_n hx hb dL_density_69 rfl (lv_at hl 4 rfl) ?_
        refine lv_bipush (v := 8) hx hb dL_density_70 (by decide) ?_
        refine lv_iload_n hx hb dL_density_72 rfl (lv_at hl 2 rfl) ?_
        refine g_mulN (a := 8) (b := u) hx hb rfl rfl dL_density_73 ?_
        refine lv_iload_n hx hb dL_density_74 rfl (lv_at hl 3 rfl) ?_
        refine g_addN (a := 8 * u) (b := q) hx hb rfl rfl dL_density_75 ?_
        refine g_iald hx hb hG hN (i := 44) (n := 32) (j := (8 * u) + q) (by decide) rfl (by decide) (by omega) rfl dL_density_76 ?_
        refine lv_iadd hx hb dL_density_77 ?_
        refine lv_iload hx hb dL_density_78 (lv_at hl 0 rfl) ?_
        refine lv_isub hx hb dL_density_80 ?_
        refine W.widen (k := 24) (n := 144) (by omega) (by omega) ?_
        exact g_ri hx hb hr hlocks hN (⟨dens_t hT hu hq _ (hK u q hu hq) (Int32.not_le.mp c3), rfl⟩) dL_density_81
    | succ d9_8 ih8 =>
      intro i H locs ls hd_8 hi hN hl
      refine lv_iload hx hb dL_density_8 (lv_at hl 5 rfl) ?_
      refine lv_bipush (v := 8) hx hb dL_density_10 (by decide) ?_
      refine g_cN_ge (a := i) (b := 8) (tgt := 39) hx hb dL_density_12 (by decide) rfl rfl (by omega) (by omega) (fun c4 => absurd c4 (by omega)) (fun c4 => ?_)
      refine lv_iload hx hb dL_density_15 (lv_at hl 4 rfl) ?_
      refine lv_aload_n hx hb dL_density_17 rfl (lv_at hl 0 rfl) ?_
      refine lv_bipush (v := 8) hx hb dL_density_18 (by decide) ?_
      refine lv_iload hx hb dL_density_20 (lv_at hl 5 rfl) ?_
      refine g_mulN (a := 8) (b := i) hx hb rfl rfl dL_density_22 ?_
      refine lv_iload_n hx hb dL_density_23 rfl (lv_at hl 2 rfl) ?_
      refine g_addN (a := 8 * i) (b := q) hx hb rfl rfl dL_density_24 ?_
      refine lv_iload_n hx hb dL_density_25 rfl (lv_at hl 1 rfl) ?_
      refine lv_iconst (v := 3) hx hb dL_density_26 (by decide) ?_
      refine g_nVI (As := [.int (nI ((8 * i) + q)), .int (nI u), .int 3]) (rest := [.int ((-400) + cSum F u q i)]) ⟨hx, hb, hml, hown, hts⟩ hG hN (i := 0) (by decide) rfl rfl (c_X9_ink l hl9 (nI ((8 * i) + q)) (nI u) 3 (hI.z12)) (cwV 3 hts gL_density_X9_ink rfl rfl rfl (by decide +kernel) ⟨Nat.le_of_ble_eq_true rfl, Nat.le_of_ble_eq_true rfl⟩) rfl hl.1 rfl (Nat.le_of_ble_eq_true rfl) dL_density_27 ⟨by show _ ≤ 24; omega, by show _ ≤ 144; omega⟩ (no2 (fInk0 (by omega) (by omega) (by decide))) (fun hz5 H locs hN => ?_)
      refine g_top (y := F (14 + u) (i * 8 + q)) ((rInk_3 (by omega) (by omega)).trans (by rw [Nat.mul_comm])) ?_
      refine lv_iadd hx hb dL_density_30 ?_
      refine g_top (y := (-400) + cSum F u q (i + 1)) (by rw [Int32.add_assoc]; rfl) ?_
      refine lv_istore (lv' := [(4, .int ((-400) + cSum F u q (i + 1))), (0, .ref (ad 0)), (1, .int (nI u)), (2, .int (nI q)), (3, .ref (ad 44)), (5, .int (nI i))]) hx hb dL_density_31 hl (by decide) rfl (fun ls hl => ?_)
      refine lv_iinc (v := (nI (i + 1))) (lv' := [(5, .int (nI (i + 1))), (4, .int ((-400) + cSum F u q (i + 1))), (0, .ref (ad 0)), (1, .int (nI u)), (2, .int (nI q)), (3, .ref (ad 44))]) hx hb dL_density_33 hl (k := 5) rfl (nI_1 _) (by decide) rfl (fun ls hl => ?_)
      refine lv_goto (tgt := 8) hx hb dL_density_36 (by decide) ?_
      refine W.widen (k := (0 + 3 * (i + 1))) (n := (0 + 18 * (i + 1))) (by omega) (by omega) ?_
      exact ih8 (i + 1) _ _ ls (by omega) (by omega) hN (lv_sub hl [2, 3, 4, 5, 1, 0] rfl)
  exact L1 _ 0 _ _ ls (rfl) (by omega) hN (lv_sub hl [2, 3, 4, 5, 1, 0] rfl)
set_option maxHeartbeats 4000000 in
set_option maxRecDepth 100000 in
theorem c_L_areUnits (l : Launch) {D : va_G} {ad : Nat → Nat} {cs : Nat → ClassId} {zd : Nat → Nat} {F V : gF} {o : gO} {sz : Nat} (hl9 : l.stackTraces = false) (b : Nat) (hI : CI F V b) (hK : PK F) (hT : ∀ k c, k < 4 → c < 64 → ∃ x, x ≤ 100 ∧ F (14 + k) c = nI x) : Met l yL_areUnits wsL_areUnits ({ frames := 9, cells := 832, slots := 4992, locals := 159 } : Room) (gPc D ad cs zd F V o sz [.ref (ad 0), .ref (ad 44)]) (gQI D ad cs 1 F V o sz) 832 4992 (gX ad sz) := by
  refine g_met (Qc := fun z0 => gQI D ad cs 1 F V o z0) (cc := cL_areUnits) (maxL := 5) (ret := (some .boolean)) (own := RL) (by decide +kernel) rfl rfl (Nat.le_of_ble_eq_true rfl) ?_
  intro p0 e0 s0 m0 b0 k0 c0 hx hb hr hts hown hlocks hml hG hN ls hl
  have hl : lv_has ls 5 [(0, .ref (ad 0)), (1, .ref (ad 44))] := hl
  refine lv_iconst (v := 1) hx hb dL_areUnits_0 (by decide) ?_
  refine lv_istore_n (lv' := [(2, .int 1), (0, .ref (ad 0)), (1, .ref (ad 44))]) hx hb dL_areUnits_1 rfl hl (by decide) rfl (fun ls hl => ?_)
  refine lv_iconst (v := 0) hx hb dL_areUnits_2 (by decide) ?_
  refine lv_istore_n (lv' := [(3, .int 0), (2, .int 1), (0, .ref (ad 0)), (1, .ref (ad 44))]) hx hb dL_areUnits_3 rfl hl (by decide) rfl (fun ls hl => ?_)
  have L1 : ∀ (d9_4 : Nat) (u : Nat) (H : Heap) (locs : List Loc) (ls : Array Slot), 4 - u = d9_4 → (u ≤ 4) → gN D ad cs s0 F V o H locs → lv_has ls 5 [(0, .ref (ad 0)), (1, .ref (ad 44)), (2, .int 1), (3, .int (nI u))] → W p0 l e0 ({ frames := 9, cells := 832, slots := 4992, locals := 159 } : Room) s0 m0 ([.ref (ad 0), .ref (ad 44)] : List Value).toArray b0 k0 c0 H locs (0 + 208 * u) (0 + 1248 * u) (MQ b0 (gQI D ad cs 1 F V o s0.heap.size) ([.ref (ad 0), .ref (ad 44)] : List Value).toArray s0 832 4992 (gX ad s0.heap.size)) (F0 m0 4 ls []) := by
    intro d9_4
    induction d9_4 with
    | zero =>
      intro u H locs ls hd_4 hu hN hl
      refine lv_iload_n hx hb dL_areUnits_4 rfl (lv_at hl 3 rfl) ?_
      refine lv_iconst (v := 4) hx hb dL_areUnits_5 (by decide) ?_
      refine g_cN_ge (a := u) (b := 4) (tgt := 61) hx hb dL_areUnits_6 (by decide) rfl rfl (by omega) (by omega) (fun c2 => ?_) (fun c2 => absurd c2 (by omega))
      refine lv_iload_n hx hb dL_areUnits_61 rfl (lv_at hl 2 rfl) ?_
      refine W.widen (k := 832) (n := 4992) (by omega) (by omega) ?_
      exact g_rz hx hb hr hlocks (by decide) hN (⟨rfl, rfl⟩) dL_areUnits_62
    | succ d9_4 ih4 =>
      intro u H locs ls hd_4 hu hN hl
      refine lv_iload_n hx hb dL_areUnits_4 rfl (lv_at hl 3 rfl) ?_
      refine lv_iconst (v := 4) hx hb dL_areUnits_5 (by decide) ?_
      refine g_cN_ge (a := u) (b := 4) (tgt := 61) hx hb dL_areUnits_6 (by decide) rfl rfl (by omega) (by omega) (fun c3 => absurd c3 (by omega)) (fun c3 => ?_)
      refine lv_iconst (v := 0) hx hb dL_areUnits_9 (by decide) ?_
      refine lv_istore (lv' := [(4, .int 0), (0, .ref (ad 0)), (1, .ref (ad 44)), (2, .int 1), (3, .int (nI u))]) hx hb dL_areUnits_10 hl (by decide) rfl (fun ls hl => ?_)
      have L4 : ∀ (d9_12 : Nat) (q : Nat) (H : Heap) (locs : List Loc) (ls : Array Slot), 8 - q = d9_12 → (q ≤ 8) → gN D ad cs s0 F V o H locs → lv_has ls 5 [(0, .ref (ad 0)), (1, .ref (ad 44)), (2, .int 1), (3, .int (nI u)), (4, .int (nI q))] → W p0 l e0 ({ frames := 9, cells := 832, slots := 4992, locals := 159 } : Room) s0 m0 ([.ref (ad 0), .ref (ad 44)] : List Value).toArray b0 k0 c0 H locs (0 + 208 * u + 26 * q) (0 + 1248 * u + 156 * q) (MQ b0 (gQI D ad cs 1 F V o s0.heap.size) ([.ref (ad 0), .ref (ad 44)] : List Value).toArray s0 832 4992 (gX ad s0.heap.size)) (F0 m0 12 ls []) := by
        intro d9_12
        induction d9_12 with
        | zero =>
          intro q H locs ls hd_12 hq hN hl
          refine lv_iload hx hb dL_areUnits_12 (lv_at hl 4 rfl) ?_
          refine lv_bipush (v := 8) hx hb dL_areUnits_14 (by decide) ?_
          refine g_cN_ge (a := q) (b := 8) (tgt := 55) hx hb dL_areUnits_16 (by decide) rfl rfl (by omega) (by omega) (fun c5 => ?_) (fun c5 => absurd c5 (by omega))
          refine lv_iinc (v := (nI (u + 1))) (lv' := [(3, .int (nI (u + 1))), (0, .ref (ad 0)), (1, .ref (ad 44)), (2, .int 1), (4, .int (nI q))]) hx hb dL_areUnits_55 hl (k := 3) rfl (nI_1 _) (by decide) rfl (fun ls hl => ?_)
          refine lv_goto (tgt := 4) hx hb dL_areUnits_58 (by decide) ?_
          refine W.widen (k := (0 + 208 * (u + 1))) (n := (0 + 1248 * (u + 1))) (by omega) (by omega) ?_
          exact ih4 (u + 1) _ _ ls (by omega) (by omega) hN (lv_sub hl [1, 2, 3, 0] rfl)
        | succ d9_12 ih12 =>
          intro q H locs ls hd_12 hq hN hl
          refine lv_iload hx hb dL_areUnits_12 (lv_at hl 4 rfl) ?_
          refine lv_bipush (v := 8) hx hb dL_areUnits_14 (by decide) ?_
          refine g_cN_ge (a := q) (b := 8) (tgt := 55) hx hb dL_areUnits_16 (by decide) rfl rfl (by omega) (by omega) (fun c6 => absurd c6 (by omega)) (fun c6 => ?_)
          refine lv_iload_n hx hb dL_areUnits_19 rfl (lv_at hl 2 rfl) ?_
          refine lv_if_eq (tgt := 55) hx hb dL_areUnits_20 (by decide) (fun c7 => False.elim (by revert c7; decide)) (fun _ => ?_)
          refine lv_aload_n hx hb dL_areUnits_23 rfl (lv_at hl 0 rfl) ?_
          refine lv_iload_n hx hb dL_areUnits_24 rfl (lv_at hl 3 rfl) ?_
          refine lv_iconst (v := 2) hx hb dL_areUnits_25 (by decide) ?_
          refine lv_iload hx hb dL_areUnits_26 (lv_at hl 4 rfl) ?_
          refine g_addN (a := 2) (b := q) hx hb rfl rfl dL_areUnits_28 ?_
          refine g_nVI (As := [.int (nI u), .int (nI (2 + q))]) (rest := []) ⟨hx, hb, hml, hown, hts⟩ hG hN (i := 0) (by decide) rfl rfl (c_X9_unit l hl9 (nI u) (nI (2 + q))) (cwV 2 hts gL_areUnits_X9_unit rfl rfl rfl (by decide +kernel) ⟨Nat.le_of_ble_eq_true rfl, Nat.le_of_ble_eq_true rfl⟩) rfl hl.1 rfl (Nat.le_of_ble_eq_true rfl) dL_areUnits_29 ⟨by show _ ≤ 832; omega, by show _ ≤ 4992; omega⟩ (no2 (fUni0 (by omega) (by omega))) (fun hz8 H locs hN => ?_)
          refine g_top (y := cDens F u q) (rUni_d (by omega) (by omega)) ?_
          refine lv_aload_n hx hb dL_areUnits_32 rfl (lv_at hl 0 rfl) ?_
          refine lv_iload_n hx hb dL_areUnits_33 rfl (lv_at hl 3 rfl) ?_
          refine lv_iload hx hb dL_areUnits_34 (lv_at hl 4 rfl) ?_
          refine lv_aload_n hx hb dL_areUnits_36 rfl (lv_at hl 1 rfl) ?_
          refine g_SI (As := [.ref (ad 0), .int (nI u), .int (nI q), .ref (ad 44)]) (rest := [.int (cDens F u q)]) ⟨hx, hb, hml, hown, hts⟩ hG hN (c_L_density l hl9 u q b (by omega) (by omega) hI hK hT) (va_cwS 4 hts gL_areUnits_L_density rfl rfl rfl (by decide +kernel) ⟨Nat.le_of_ble_eq_true rfl, Nat.le_of_ble_eq_true rfl⟩) rfl hl.1 rfl (Nat.le_of_ble_eq_true rfl) dL_areUnits_37 ⟨by show _ ≤ 832; omega, by show _ ≤ 4992; omega⟩ (fun H locs hN => ?_)
          refine lv_icmp_ne (tgt := 47) hx hb dL_areUnits_40 (by decide) (fun c9 => absurd c9 (fun z => z rfl)) (fun c9 => ?_)
          refine lv_iconst (v := 1) hx hb dL_areUnits_43 (by decide) ?_
          refine lv_goto (tgt := 48) hx hb dL_areUnits_44 (by decide) ?_
          refine lv_istore_n (lv' := [(2, .int 1), (0, .ref (ad 0)), (1, .ref (ad 44)), (3, .int (nI u)), (4, .int (nI q))]) hx hb dL_areUnits_48 rfl hl (by decide) rfl (fun ls hl => ?_)
          refine lv_iinc (v := (nI (q + 1))) (lv' := [(4, .int (nI (q + 1))), (2, .int 1), (0, .ref (ad 0)), (1, .ref (ad 44)), (3, .int (nI u))]) hx hb dL_areUnits_49 hl (k := 4) rfl (nI_1 _) (by decide) rfl (fun ls hl => ?_)
          refine lv_goto (tgt := 12) hx hb dL_areUnits_52 (by decide) ?_
          refine W.widen (k := (0 + 208 * u + 26 * (q + 1))) (n := (0 + 1248 * u + 156 * (q + 1))) (by omega) (by omega) ?_
          exact ih12 (q + 1) _ _ ls (by omega) (by omega) hN (lv_sub hl [2, 3, 1, 4, 0] rfl)
      refine W.widen (k := (0 + 208 * u)) (n := (0 + 1248 * u)) (by omega) (by omega) ?_
      exact L4 _ 0 _ _ ls (rfl) (by omega) hN (lv_sub hl [1, 2, 3, 4, 0] rfl)
  exact L1 _ 0 _ _ ls (rfl) (by omega) hN (lv_sub hl [2, 3, 1, 0] rfl)
