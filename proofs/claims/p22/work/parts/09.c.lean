theorem gAt_X9_needIndex_0 : ∀ w ∈ (vx_atS RX9 238 gE0 ["java/lang/RuntimeException", "java/lang/Exception"]).filter goodWord, w ∈ wsX9_needIndex := by decide +kernel
set_option maxHeartbeats 4000000 in
set_option maxRecDepth 100000 in
theorem c_X9_needIndex (l : Launch) (hl9 : l.stackTraces = false) {D : va_G} {ad : Nat → Nat} {cs : Nat → ClassId} {zd : Nat → Nat} {F V : gF} {o : gO} {sz : Nat} (x n : Int32) : vx_Met l yX9_needIndex wsX9_needIndex ({ frames := 6, cells := 1, slots := 6, locals := 90 } : Room) (gPc D ad cs zd F V o sz [.int x, .int n]) (gQv D ad cs sz (fun u9 => u9 = (F, V, o) ∧ gIdx x n = true)) (gXC D ad cs F V o (fun a => a = gE0 ∧ gIdx x n = false) sz) 1 6 (gX ad sz) := by
  refine g_metX (Qc := fun z0 => gQv D ad cs z0 (fun u9 => u9 = (F, V, o) ∧ gIdx x n = true)) (XC := fun z0 => gXC D ad cs F V o (fun a => a = gE0 ∧ gIdx x n = false) z0) (cc := cX9_needIndex) (maxL := 2) (ret := none) (own := RX9) (by decide +kernel) rfl rfl (Nat.le_of_ble_eq_true rfl) ?_
  intro p0 e0 s0 m0 b0 k0 c0 hx hb hr hts hown hlocks hml hout hG hN ls hl
  have hl : lv_has ls 2 [(0, .int x), (1, .int n)] := hl
  have hat_0 : ∀ w9 ∈ (vx_atS RX9 238 gE0 ["java/lang/RuntimeException", "java/lang/Exception"]).filter goodWord, w9.before ([.int x, .int n] : List Value).toArray s0 = true := fun w9 hw => hts w9 (gAt_X9_needIndex_0 w9 hw)
  have hn1_0 := hts (.classLink RX9 234 gE0) (by decide +kernel)
  have hn2_0 := hts (.initialized gE0) (by decide +kernel)
  refine lv_iload_n hx hb dX9_needIndex_0 rfl (lv_at hl 0 rfl) ?_
  refine lv_if_lt (tgt := 9) hx hb dX9_needIndex_1 (by decide) (fun c1 => ?_) (fun c1 => ?_)
  · exact g_throw hx hb hl9 (cls := gE0) (text := "no such cell, ink, unit, column or copy") (ik := 234) (ix := 236) (ic := 238) hown (by decide) hn1_0 hn2_0 (by decide) hG hN hat_0 gBt_0 (by decide) gGd_0 (hl.1.trans hml.symm) dX9_needIndex_9 dX9_needIndex_12 dX9_needIndex_13 dX9_needIndex_15 dX9_needIndex_18 hout ⟨Nat.le_of_ble_eq_true rfl, Nat.le_of_ble_eq_true rfl, Nat.le_of_ble_eq_true rfl, Nat.le_of_ble_eq_true rfl⟩ (Nat.le_of_ble_eq_true rfl) hlocks (⟨rfl, gIdx_f1 c1⟩) (by omega) (by omega)
  · refine lv_iload_n hx hb dX9_needIndex_4 rfl (lv_at hl 0 rfl) ?_
    refine lv_iload_n hx hb dX9_needIndex_5 rfl (lv_at hl 1 rfl) ?_
    refine lv_icmp_lt (tgt := 19) hx hb dX9_needIndex_6 (by decide) (fun c2 => ?_) (fun c2 => ?_)
    · refine W.widen (k := 1) (n := 6) (by omega) (by omega) ?_
      exact vx_ret <| g_rv hx hb hr hlocks hN (⟨rfl, gIdx_t c1 c2⟩) dX9_needIndex_19
    · exact g_throw hx hb hl9 (cls := gE0) (text := "no such cell, ink, unit, column or copy") (ik := 234) (ix := 236) (ic := 238) hown (by decide) hn1_0 hn2_0 (by decide) hG hN hat_0 gBt_0 (by decide) gGd_0 (hl.1.trans hml.symm) dX9_needIndex_9 dX9_needIndex_12 dX9_needIndex_13 dX9_needIndex_15 dX9_needIndex_18 hout ⟨Nat.le_of_ble_eq_true rfl, Nat.le_of_ble_eq_true rfl, Nat.le_of_ble_eq_true rfl, Nat.le_of_ble_eq_true rfl⟩ (Nat.le_of_ble_eq_true rfl) hlocks (⟨rfl, gIdx_f2 c2⟩) (by omega) (by omega)
theorem gAt_X9_needRange_1 : ∀ w ∈ (vx_atS RX9 85 gE1 ["java/lang/RuntimeException", "java/lang/Exception"]).filter goodWord, w ∈ wsX9_needRange := by decide +kernel
set_option maxHeartbeats 4000000 in
set_option maxRecDepth 100000 in
theorem c_X9_needRange (l : Launch) (hl9 : l.stackTraces = false) {D : va_G} {ad : Nat → Nat} {cs : Nat → ClassId} {zd : Nat → Nat} {F V : gF} {o : gO} {sz : Nat} (x n h : Int32) : vx_Met l yX9_needRange wsX9_needRange ({ frames := 6, cells := 1, slots := 6, locals := 90 } : Room) (gPc D ad cs zd F V o sz [.int x, .int n, .int h]) (gQv D ad cs sz (fun u9 => u9 = (F, V, o) ∧ gRng x n h = true)) (gXC D ad cs F V o (fun a => a = gE1 ∧ gRng x n h = false) sz) 1 6 (gX ad sz) := by
  refine g_metX (Qc := fun z0 => gQv D ad cs z0 (fun u9 => u9 = (F, V, o) ∧ gRng x n h = true)) (XC := fun z0 => gXC D ad cs F V o (fun a => a = gE1 ∧ gRng x n h = false) z0) (cc := cX9_needRange) (maxL := 3) (ret := none) (own := RX9) (by decide +kernel) rfl rfl (Nat.le_of_ble_eq_true rfl) ?_
  intro p0 e0 s0 m0 b0 k0 c0 hx hb hr hts hown hlocks hml hout hG hN ls hl
  have hl : lv_has ls 3 [(0, .int x), (1, .int n), (2, .int h)] := hl
  have hat_1 : ∀ w9 ∈ (vx_atS RX9 85 gE1 ["java/lang/RuntimeException", "java/lang/Exception"]).filter goodWord, w9.before ([.int x, .int n, .int h] : List Value).toArray s0 = true := fun w9 hw => hts w9 (gAt_X9_needRange_1 w9 hw)
  have hn1_1 := hts (.classLink RX9 81 gE1) (by decide +kernel)
  have hn2_1 := hts (.initialized gE1) (by decide +kernel)
  refine lv_iload_n hx hb dX9_needRange_0 rfl (lv_at hl 0 rfl) ?_
  refine lv_iload_n hx hb dX9_needRange_1 rfl (lv_at hl 1 rfl) ?_
  refine lv_icmp_lt (tgt := 10) hx hb dX9_needRange_2 (by decide) (fun c1 => ?_) (fun c1 => ?_)
  · exact g_throw hx hb hl9 (cls := gE1) (text := "out of range") (ik := 81) (ix := 239) (ic := 85) hown (by decide) hn1_1 hn2_1 (by decide) hG hN hat_1 gBt_1 (by decide) gGd_1 (hl.1.trans hml.symm) dX9_needRange_10 dX9_needRange_13 dX9_needRange_14 dX9_needRange_16 dX9_needRange_19 hout ⟨Nat.le_of_ble_eq_true rfl, Nat.le_of_ble_eq_true rfl, Nat.le_of_ble_eq_true rfl, Nat.le_of_ble_eq_true rfl⟩ (Nat.le_of_ble_eq_true rfl) hlocks (⟨rfl, gRng_f1 c1⟩) (by omega) (by omega)
  · refine lv_iload_n hx hb dX9_needRange_5 rfl (lv_at hl 0 rfl) ?_
    refine lv_iload_n hx hb dX9_needRange_6 rfl (lv_at hl 2 rfl) ?_
    refine lv_icmp_le (tgt := 20) hx hb dX9_needRange_7 (by decide) (fun c2 => ?_) (fun c2 => ?_)
    · refine W.widen (k := 1) (n := 6) (by omega) (by omega) ?_
      exact vx_ret <| g_rv hx hb hr hlocks hN (⟨rfl, gRng_t c1 c2⟩) dX9_needRange_20
    · exact g_throw hx hb hl9 (cls := gE1) (text := "out of range") (ik := 81) (ix := 239) (ic := 85) hown (by decide) hn1_1 hn2_1 (by decide) hG hN hat_1 gBt_1 (by decide) gGd_1 (hl.1.trans hml.symm) dX9_needRange_10 dX9_needRange_13 dX9_needRange_14 dX9_needRange_16 dX9_needRange_19 hout ⟨Nat.le_of_ble_eq_true rfl, Nat.le_of_ble_eq_true rfl, Nat.le_of_ble_eq_true rfl, Nat.le_of_ble_eq_true rfl⟩ (Nat.le_of_ble_eq_true rfl) hlocks (⟨rfl, gRng_f2 c2⟩) (by omega) (by omega)
theorem gAt_X9_needProof_2 : ∀ w ∈ (vx_atS RX9 96 gE2 ["java/lang/RuntimeException", "java/lang/Exception"]).filter goodWord, w ∈ wsX9_needProof := by decide +kernel
set_option maxHeartbeats 4000000 in
set_option maxRecDepth 100000 in
theorem c_X9_needProof (l : Launch) (hl9 : l.stackTraces = false) {D : va_G} {ad : Nat → Nat} {cs : Nat → ClassId} {zd : Nat → Nat} {F V : gF} {o : gO} {sz : Nat}  (hz : narrow .boolean (.int (V 37 1)) = .int (V 37 1)) : vx_Met l yX9_needProof wsX9_needProof ({ frames := 6, cells := 1, slots := 6, locals := 90 } : Room) (gPc D ad cs zd F V o sz [.ref (ad 0)]) (gQv D ad cs sz (fun u9 => u9 = (F, V, o) ∧ ¬ V 37 1 = 0)) (gXC D ad cs F V o (fun a => a = gE2 ∧ V 37 1 = 0) sz) 1 6 (gX ad sz) := by
  refine g_metX (Qc := fun z0 => gQv D ad cs z0 (fun u9 => u9 = (F, V, o) ∧ ¬ V 37 1 = 0)) (XC := fun z0 => gXC D ad cs F V o (fun a => a = gE2 ∧ V 37 1 = 0) z0) (cc := cX9_needProof) (maxL := 1) (ret := none) (own := RX9) (by decide +kernel) rfl rfl (Nat.le_of_ble_eq_true rfl) ?_
  intro p0 e0 s0 m0 b0 k0 c0 hx hb hr hts hown hlocks hml hout hG hN ls hl
  have hl : lv_has ls 1 [(0, .ref (ad 0))] := hl
  have hin_9 : ∀ w ∈ wsX90, w ∈ wsX9_needProof := by decide +kernel
  have hat_2 : ∀ w9 ∈ (vx_atS RX9 96 gE2 ["java/lang/RuntimeException", "java/lang/Exception"]).filter goodWord, w9.before ([.ref (ad 0)] : List Value).toArray s0 = true := fun w9 hw => hts w9 (gAt_X9_needProof_2 w9 hw)
  have hk_61 := hts (.fieldLink RX9 61 "GravureHouse" "proof" "LGravureHouse$Proof;") (by decide +kernel)
  have hn1_2 := hts (.classLink RX9 92 gE2) (by decide +kernel)
  have hn2_2 := hts (.initialized gE2) (by decide +kernel)
  refine lv_aload_n hx hb dX9_needProof_0 rfl (lv_at hl 0 rfl) ?_
  refine gf_0_7 hx hb hts hin_9 hown hG hN hk_61 dX9_needProof_1 ?_
  refine g_VI (As := []) (rest := []) ⟨hx, hb, hml, hown, hts⟩ hG hN (i := 37) (by decide) rfl rfl (c_X4_isSigned l hz) (cwV 0 hts gX9_needProof_X4_isSigned rfl rfl rfl (by decide +kernel) ⟨Nat.le_of_ble_eq_true rfl, Nat.le_of_ble_eq_true rfl⟩) rfl hl.1 rfl (Nat.le_of_ble_eq_true rfl) dX9_needProof_4 ⟨Nat.le_of_ble_eq_true rfl, Nat.le_of_ble_eq_true rfl⟩ (fun H locs hN => ?_)
  refine lv_if_ne (tgt := 20) hx hb dX9_needProof_7 (by decide) (fun c1 => ?_) (fun c1 => ?_)
  · refine W.widen (k := 1) (n := 6) (by omega) (by omega) ?_
    exact vx_ret <| g_rv hx hb hr hlocks hN (⟨rfl, c1⟩) dX9_needProof_20
  · exact g_throw hx hb hl9 (cls := gE2) (text := "no proof") (ik := 92) (ix := 244) (ic := 96) hown (by decide) hn1_2 hn2_2 (by decide) hG hN hat_2 gBt_2 (by decide) gGd_2 (hl.1.trans hml.symm) dX9_needProof_10 dX9_needProof_13 dX9_needProof_14 dX9_needProof_16 dX9_needProof_19 hout ⟨Nat.le_of_ble_eq_true rfl, Nat.le_of_ble_eq_true rfl, Nat.le_of_ble_eq_true rfl, Nat.le_of_ble_eq_true rfl⟩ (Nat.le_of_ble_eq_true rfl) hlocks (⟨rfl, c1⟩) (by omega) (by omega)
set_option maxHeartbeats 4000000 in
set_option maxRecDepth 100000 in
theorem c_X9_colour (l : Launch) (hl9 : l.stackTraces = false) {D : va_G} {ad : Nat → Nat} {cs : Nat → ClassId} {zd : Nat → Nat} {F V : gF} {o : gO} {sz : Nat} (c x y z : Int32) : vx_Met l yX9_colour wsX9_colour ({ frames := 7, cells := 4, slots := 24, locals := 112 } : Room) (gPc D ad cs zd F V o sz [.ref (ad 0), .int c, .int x, .int y, .int z]) (gQv D ad cs sz (fun u9 => fCol c x y z = 0 ∧ u9 = (gw (gw (gw F 9 c.toNatClampNeg x) 10 c.toNatClampNeg y) 11 c.toNatClampNeg z, V, o))) (gXC D ad cs F V o (fun a => (a = gE0 ∧ fCol c x y z = 1) ∨ (a = gE1 ∧ fCol c x y z = 2)) sz) 4 24 (gX ad sz) := by
  refine g_metX (Qc := fun z0 => gQv D ad cs z0 (fun u9 => fCol c x y z = 0 ∧ u9 = (gw (gw (gw F 9 c.toNatClampNeg x) 10 c.toNatClampNeg y) 11 c.toNatClampNeg z, V, o))) (XC := fun z0 => gXC D ad cs F V o (fun a => (a = gE0 ∧ fCol c x y z = 1) ∨ (a = gE1 ∧ fCol c x y z = 2)) z0) (cc := cX9_colour) (maxL := 5) (ret := none) (own := RX9) (by decide +kernel) rfl rfl (Nat.le_of_ble_eq_true rfl) ?_
  intro p0 e0 s0 m0 b0 k0 c0 hx hb hr hts hown hlocks hml hout hG hN ls hl
  have hl : lv_has ls 5 [(0, .ref (ad 0)), (1, .int c), (2, .int x), (3, .int y), (4, .int z)] := hl
  have hin_9 : ∀ w ∈ wsX90, w ∈ wsX9_colour := by decide +kernel
  have hk_26 := hts (.fieldLink RX9 26 "GravureHouse" "picture" "LGravureHouse$Picture;") (by decide +kernel)
  refine lv_iload_n hx hb dX9_colour_0 rfl (lv_at hl 1 rfl) ?_
  refine lv_bipush (v := 64) hx hb dX9_colour_1 (by decide) ?_
  refine g_xS (As := [.int c, .int 64]) (rest := []) ⟨hx, hb, hml, hown, hts⟩ hG hN (c_X9_needIndex l hl9 c 64) (va_cwS 2 hts gX9_colour_X9_needIndex rfl rfl rfl (by decide +kernel) ⟨Nat.le_of_ble_eq_true rfl, Nat.le_of_ble_eq_true rfl⟩) rfl hl.1 rfl (Nat.le_of_ble_eq_true rfl) dX9_colour_3 ⟨Nat.le_of_ble_eq_true rfl, Nat.le_of_ble_eq_true rfl⟩ hout hlocks (fun a h => Or.inl (⟨h.1, by simp [fCol, h.2]⟩)) ⟨by omega, by omega⟩ (fun Fq2 Vq3 oq4 H locs h1 hN => ?_)
  obtain ⟨eq9, h1⟩ := h1
  cases eq9
  obtain ⟨j, hj, ej⟩ := gIdx_n 64 rfl (by decide) h1
  subst ej
  refine lv_iload_n hx hb dX9_colour_6 rfl (lv_at hl 2 rfl) ?_
  refine lv_iconst (v := 0) hx hb dX9_colour_7 (by decide) ?_
  refine lv_bipush (v := 100) hx hb dX9_colour_8 (by decide) ?_
  refine g_xS (As := [.int x, .int 0, .int 100]) (rest := []) ⟨hx, hb, hml, hown, hts⟩ hG hN (c_X9_needRange l hl9 x 0 100) (va_cwS 3 hts gX9_colour_X9_needRange rfl rfl rfl (by decide +kernel) ⟨Nat.le_of_ble_eq_true rfl, Nat.le_of_ble_eq_true rfl⟩) rfl hl.1 rfl (Nat.le_of_ble_eq_true rfl) dX9_colour_10 ⟨Nat.le_of_ble_eq_true rfl, Nat.le_of_ble_eq_true rfl⟩ hout hlocks (fun a h => Or.inr (⟨h.1, by simp [fCol, h.2, h1]⟩)) ⟨by omega, by omega⟩ (fun Fq6 Vq7 oq8 H locs h5 hN => ?_)
  obtain ⟨eq9, h5⟩ := h5
  cases eq9
  refine lv_iload_n hx hb dX9_colour_13 rfl (lv_at hl 3 rfl) ?_
  refine lv_iconst (v := 0) hx hb dX9_colour_14 (by decide) ?_
  refine lv_bipush (v := 100) hx hb dX9_colour_15 (by decide) ?_
  refine g_xS (As := [.int y, .int 0, .int 100]) (rest := []) ⟨hx, hb, hml, hown, hts⟩ hG hN (c_X9_needRange l hl9 y 0 100) (va_cwS 3 hts gX9_colour_X9_needRange rfl rfl rfl (by decide +kernel) ⟨Nat.le_of_ble_eq_true rfl, Nat.le_of_ble_eq_true rfl⟩) rfl hl.1 rfl (Nat.le_of_ble_eq_true rfl) dX9_colour_17 ⟨Nat.le_of_ble_eq_true rfl, Nat.le_of_ble_eq_true rfl⟩ hout hlocks (fun a h => Or.inr (⟨h.1, by simp [fCol, h.2, h1, h5]⟩)) ⟨by omega, by omega⟩ (fun Fq10 Vq11 oq12 H locs h9 hN => ?_)
  obtain ⟨eq9, h9⟩ := h9
  cases eq9
  refine lv_iload hx hb dX9_colour_20 (lv_at hl 4 rfl) ?_
  refine lv_iconst (v := 0) hx hb dX9_colour_22 (by decide) ?_
  refine lv_bipush (v := 100) hx hb dX9_colour_23 (by decide) ?_
  refine g_xS (As := [.int z, .int 0, .int 100]) (rest := []) ⟨hx, hb, hml, hown, hts⟩ hG hN (c_X9_needRange l hl9 z 0 100) (va_cwS 3 hts gX9_colour_X9_needRange rfl rfl rfl (by decide +kernel) ⟨Nat.le_of_ble_eq_true rfl, Nat.le_of_ble_eq_true rfl⟩) rfl hl.1 rfl (Nat.le_of_ble_eq_true rfl) dX9_colour_25 ⟨Nat.le_of_ble_eq_true rfl, Nat.le_of_ble_eq_true rfl⟩ hout hlocks (fun a h => Or.inr (⟨h.1, by simp [fCol, h.2, h1, h5, h9]⟩)) ⟨by omega, by omega⟩ (fun Fq14 Vq15 oq16 H locs h13 hN => ?_)
  obtain ⟨eq9, h13⟩ := h13
  cases eq9
  refine lv_aload_n hx hb dX9_colour_28 rfl (lv_at hl 0 rfl) ?_
  refine gf_0_2 hx hb hts hin_9 hown hG hN hk_26 dX9_colour_29 ?_
  refine lv_iload_n hx hb dX9_colour_32 rfl (lv_at hl 1 rfl) ?_
  refine lv_iload_n hx hb dX9_colour_33 rfl (lv_at hl 2 rfl) ?_
  refine lv_iload_n hx hb dX9_colour_34 rfl (lv_at hl 3 rfl) ?_
  refine lv_iload hx hb dX9_colour_35 (lv_at hl 4 rfl) ?_
  refine g_VV (As := [.int (nI j), .int x, .int y, .int z]) (rest := []) ⟨hx, hb, hml, hown, hts⟩ hG hN (i := 7) (by decide) rfl rfl (c_X1_paint l j x y z (by omega)) (cwV 4 hts gX9_colour_X1_paint rfl rfl rfl (by decide +kernel) ⟨Nat.le_of_ble_eq_true rfl, Nat.le_of_ble_eq_true rfl⟩) rfl hl.1 rfl (Nat.le_of_ble_eq_true rfl) dX9_colour_37 ⟨Nat.le_of_ble_eq_true rfl, Nat.le_of_ble_eq_true rfl⟩ (fun H locs hN => ?_)
  exact vx_ret <| g_rv hx hb hr hlocks hN (⟨by simp [fCol, h1, h5, h9, h13], by simp [nI_clamp (show j < 2 ^ 31 by omega), h1, h5, h9, h13]⟩) dX9_colour_40
set_option maxHeartbeats 4000000 in
set_option maxRecDepth 100000 in
theorem c_X9_drift (l : Launch) (hl9 : l.stackTraces = false) {D : va_G} {ad : Nat → Nat} {cs : Nat → ClassId} {zd : Nat → Nat} {F V : gF} {o : gO} {sz : Nat} (u x y : Int32) : vx_Met l yX9_drift wsX9_drift ({ frames := 7, cells := 3, slots := 18, locals := 112 } : Room) (gPc D ad cs zd F V o sz [.ref (ad 0), .int u, .int x, .int y]) (gQv D ad cs sz (fun u9 => fDri u x y = 0 ∧ u9 = (gw (gw F 21 u.toNatClampNeg x) 22 u.toNatClampNeg y, V, o))) (gXC D ad cs F V o (fun a => (a = gE0 ∧ fDri u x y = 1) ∨ (a = gE1 ∧ fDri u x y = 2)) sz) 3 18 (gX ad sz) := by
  refine g_metX (Qc := fun z0 => gQv D ad cs z0 (fun u9 => fDri u x y = 0 ∧ u9 = (gw (gw F 21 u.toNatClampNeg x) 22 u.toNatClampNeg y, V, o))) (XC := fun z0 => gXC D ad cs F V o (fun a => (a = gE0 ∧ fDri u x y = 1) ∨ (a = gE1 ∧ fDri u x y = 2)) z0) (cc := cX9_drift) (maxL := 4) (ret := none) (own := RX9) (by decide +kernel) rfl rfl (Nat.le_of_ble_eq_true rfl) ?_
  intro p0 e0 s0 m0 b0 k0 c0 hx hb hr hts hown hlocks hml hout hG hN ls hl
  have hl : lv_has ls 4 [(0, .ref (ad 0)), (1, .int u), (2, .int x), (3, .int y)] := hl
  have hin_9 : ∀ w ∈ wsX90, w ∈ wsX9_drift := by decide +kernel
  have hk_40 := hts (.fieldLink RX9 40 "GravureHouse" "registers" "LGravureHouse$Registers;") (by decide +kernel)
  refine lv_iload_n hx hb dX9_drift_0 rfl (lv_at hl 1 rfl) ?_
  refine lv_iconst (v := 4) hx hb dX9_drift_1 (by decide) ?_
  refine g_xS (As := [.int u, .int 4]) (rest := []) ⟨hx, hb, hml, hown, hts⟩ hG hN (c_X9_needIndex l hl9 u 4) (va_cwS 2 hts gX9_drift_X9_needIndex rfl rfl rfl (by decide +kernel) ⟨Nat.le_of_ble_eq_true rfl, Nat.le_of_ble_eq_true rfl⟩) rfl hl.1 rfl (Nat.le_of_ble_eq_true rfl) dX9_drift_2 ⟨Nat.le_of_ble_eq_true rfl, Nat.le_of_ble_eq_true rfl⟩ hout hlocks (fun a h => Or.inl (⟨h.1, by simp [fDri, h.2]⟩)) ⟨by omega, by omega⟩ (fun Fq2 Vq3 oq4 H locs h1 hN => ?_)
  obtain ⟨eq9, h1⟩ := h1
  cases eq9
  obtain ⟨j, hj, ej⟩ := gIdx_n 4 rfl (by decide) h1
  subst ej
  refine lv_iload_n hx hb dX9_drift_5 rfl (lv_at hl 2 rfl) ?_
  refine lv_bipush (v := (-5)) hx hb dX9_drift_6 (by decide) ?_
  refine lv_iconst (v := 5) hx hb dX9_drift_8 (by decide) ?_
  refine g_xS (As := [.int x, .int (-5), .int 5]) (rest := []) ⟨hx, hb, hml, hown, hts⟩ hG hN (c_X9_needRange l hl9 x (-5) 5) (va_cwS 3 hts gX9_drift_X9_needRange rfl rfl rfl (by decide +kernel) ⟨Nat.le_of_ble_eq_true rfl, Nat.le_of_ble_eq_true rfl⟩) rfl hl.1 rfl (Nat.le_of_ble_eq_true rfl) dX9_drift_9 ⟨Nat.le_of_ble_eq_true rfl, Nat.le_of_ble_eq_true rfl⟩ hout hlocks (fun a h => Or.inr (⟨h.1, by simp [fDri, h.2, h1]⟩)) ⟨by omega, by omega⟩ (fun Fq6 Vq7 oq8 H locs h5 hN => ?_)
  obtain ⟨eq9, h5⟩ := h5
  cases eq9
  refine lv_iload_n hx hb dX9_drift_12 rfl (lv_at hl 3 rfl) ?_
  refine lv_bipush (v := (-5)) hx hb dX9_drift_13 (by decide) ?_
  refine lv_iconst (v := 5) hx hb dX9_drift_15 (by decide) ?_
  refine g_xS (As := [.int y, .int (-5), .int 5]) (rest := []) ⟨hx, hb, hml, hown, hts⟩ hG hN (c_X9_needRange l hl9 y (-5) 5) (va_cwS 3 hts gX9_drift_X9_needRange rfl rfl rfl (by decide +kernel) ⟨Nat.le_of_ble_eq_true rfl, Nat.le_of_ble_eq_true rfl⟩) rfl hl.1 rfl (Nat.le_of_ble_eq_true rfl) dX9_drift_16 ⟨Nat.le_of_ble_eq_true rfl, Nat.le_of_ble_eq_true rfl⟩ hout hlocks (fun a h => Or.inr (⟨h.1, by simp [fDri, h.2, h1, h5]⟩)) ⟨by omega, by omega⟩ (fun Fq10 Vq11 oq12 H locs h9 hN => ?_)
  obtain ⟨eq9, h9⟩ := h9
  cases eq9
  refine lv_aload_n hx hb dX9_drift_19 rfl (lv_at hl 0 rfl) ?_
  refine gf_0_4 hx hb hts hin_9 hown hG hN hk_40 dX9_drift_20 ?_
  refine lv_iload_n hx hb dX9_drift_23 rfl (lv_at hl 1 rfl) ?_
  refine lv_iload_n hx hb dX9_drift_24 rfl (lv_at hl 2 rfl) ?_
  refine lv_iload_n hx hb dX9_drift_25 rfl (lv_at hl 3 rfl) ?_
  refine g_VV (As := [.int (nI j), .int x, .int y]) (rest := []) ⟨hx, hb, hml, hown, hts⟩ hG hN (i := 18) (by decide) rfl rfl (c_X5_setDrift l j x y (by omega)) (cwV 3 hts gX9_drift_X5_setDrift rfl rfl rfl (by decide +kernel) ⟨Nat.le_of_ble_eq_true rfl, Nat.le_of_ble_eq_true rfl⟩) rfl hl.1 rfl (Nat.le_of_ble_eq_true rfl) dX9_drift_26 ⟨Nat.le_of_ble_eq_true rfl, Nat.le_of_ble_eq_true rfl⟩ (fun H locs hN => ?_)
  exact vx_ret <| g_rv hx hb hr hlocks hN (⟨by simp [fDri, h1, h5, h9], by simp [nI_clamp (show j < 2 ^ 31 by omega), h1, h5, h9]⟩) dX9_drift_29
set_option maxHeartbeats 4000000 in
set_option maxRecDepth 100000 in
theorem c_X9_key (l : Launch) (hl9 : l.stackTraces = false) {D : va_G} {ad : Nat → Nat} {cs : Nat → ClassId} {zd : Nat → Nat} {F V : gF} {o : gO} {sz : Nat} (u q x : Int32) : vx_Met l yX9_key wsX9_key ({ frames := 7, cells := 3, slots := 18, locals := 112 } : Room) (gPc D ad cs zd F V o sz [.ref (ad 0), .int u, .int q, .int x]) (gQi D ad cs sz (fun r9 u9 => fKey u q x = 0 ∧ r9 = F (29 + u.toNatClampNeg) (q.toNatClampNeg) ∧ u9 = (gw F (29 + u.toNatClampNeg) (q.toNatClampNeg) x, V, o))) (gXC D ad cs F V o (fun a => (a = gE0 ∧ fKey u q x = 1) ∨ (a = gE1 ∧ fKey u q x = 2)) sz) 3 18 (gX ad sz) := by
  refine g_metX (Qc := fun z0 => gQi D ad cs z0 (fun r9 u9 => fKey u q x = 0 ∧ r9 = F (29 + u.toNatClampNeg) (q.toNatClampNeg) ∧ u9 = (gw F (29 + u.toNatClampNeg) (q.toNatClampNeg) x, V, o))) (XC := fun z0 => gXC D ad cs F V o (fun a => (a = gE0 ∧ fKey u q x = 1) ∨ (a = gE1 ∧ fKey u q x = 2)) z0) (cc := cX9_key) (maxL := 4) (ret := (some .int)) (own := RX9) (by decide +kernel) rfl rfl (Nat.le_of_ble_eq_true rfl) ?_
  intro p0 e0 s0 m0 b0 k0 c0 hx hb hr hts hown hlocks hml hout hG hN ls hl
  have hl : lv_has ls 4 [(0, .ref (ad 0)), (1, .int u), (2, .int q), (3, .int x)] := hl
  have hin_9 : ∀ w ∈ wsX90, w ∈ wsX9_key := by decide +kernel
  have hk_47 := hts (.fieldLink RX9 47 "GravureHouse" "press" "LGravureHouse$Press;") (by decide +kernel)
  refine lv_iload_n hx hb dX9_key_0 rfl (lv_at hl 1 rfl) ?_
  refine lv_iconst (v := 4) hx hb dX9_key_1 (by decide) ?_
  refine g_xS (As := [.int u, .int 4]) (rest := []) ⟨hx, hb, hml, hown, hts⟩ hG hN (c_X9_needIndex l hl9 u 4) (va_cwS 2 hts gX9_key_X9_needIndex rfl rfl rfl (by decide +kernel) ⟨Nat.le_of_ble_eq_true rfl, Nat.le_of_ble_eq_true rfl⟩) rfl hl.1 rfl (Nat.le_of_ble_eq_true rfl) dX9_key_2 ⟨Nat.le_of_ble_eq_true rfl, Nat.le_of_ble_eq_true rfl⟩ hout hlocks (fun a h => Or.inl (⟨h.1, by simp [fKey, h.2]⟩)) ⟨by omega, by omega⟩ (fun Fq2 Vq3 oq4 H locs h1 hN => ?_)
  obtain ⟨eq9, h1⟩ := h1
  cases eq9
  obtain ⟨j, hj, ej⟩ := gIdx_n 4 rfl (by decide) h1
  subst ej
  refine lv_iload_n hx hb dX9_key_5 rfl (lv_at hl 2 rfl) ?_
  refine lv_bipush (v := 8) hx hb dX9_key_6 (by decide) ?_
  refine g_xS (As := [.int q, .int 8]) (rest := []) ⟨hx, hb, hml, hown, hts⟩ hG hN (c_X9_needIndex l hl9 q 8) (va_cwS 2 hts gX9_key_X9_needIndex rfl rfl rfl (by decide +kernel) ⟨Nat.le_of_ble_eq_true rfl, Nat.le_of_ble_eq_true rfl⟩) rfl hl.1 rfl (Nat.le_of_ble_eq_true rfl) dX9_key_8 ⟨Nat.le_of_ble_eq_true rfl, Nat.le_of_ble_eq_true rfl⟩ hout hlocks (fun a h => Or.inl (⟨h.1, by simp [fKey, h.2, h1]⟩)) ⟨by omega, by omega⟩ (fun Fq6 Vq7 oq8 H locs h5 hN => ?_)
  obtain ⟨eq9, h5⟩ := h5
  cases eq9
  obtain ⟨i, hi, ei⟩ := gIdx_n 8 rfl (by decide) h5
  subst ei
  refine lv_iload_n hx hb dX9_key_11 rfl (lv_at hl 3 rfl) ?_
  refine lv_iconst (v := 0) hx hb dX9_key_12 (by decide) ?_
  refine lv_bipush (v := 100) hx hb dX9_key_13 (by decide) ?_
  refine g_xS (As := [.int x, .int 0, .int 100]) (rest := []) ⟨hx, hb, hml, hown, hts⟩ hG hN (c_X9_needRange l hl9 x 0 100) (va_cwS 3 hts gX9_key_X9_needRange rfl rfl rfl (by decide +kernel) ⟨Nat.le_of_ble_eq_true rfl, Nat.le_of_ble_eq_true rfl⟩) rfl hl.1 rfl (Nat.le_of_ble_eq_true rfl) dX9_key_15 ⟨Nat.le_of_ble_eq_true rfl, Nat.le_of_ble_eq_true rfl⟩ hout hlocks (fun a h => Or.inr (⟨h.1, by simp [fKey, h.2, h1, h5]⟩)) ⟨by omega, by omega⟩ (fun Fq10 Vq11 oq12 H locs h9 hN => ?_)
  obtain ⟨eq9, h9⟩ := h9
  cases eq9
  refine lv_aload_n hx hb dX9_key_18 rfl (lv_at hl 0 rfl) ?_
  refine gf_0_5 hx hb hts hin_9 hown hG hN hk_47 dX9_key_19 ?_
  refine lv_iload_n hx hb dX9_key_22 rfl (lv_at hl 1 rfl) ?_
  refine lv_iload_n hx hb dX9_key_23 rfl (lv_at hl 2 rfl) ?_
  refine lv_iload_n hx hb dX9_key_24 rfl (lv_at hl 3 rfl) ?_
  refine g_VI (As := [.int (nI j), .int (nI i), .int x]) (rest := []) ⟨hx, hb, hml, hown, hts⟩ hG hN (i := 27) (by decide) rfl rfl (c_X3_turnKey l j i x (by omega) (by omega)) (cwV 3 hts gX9_key_X3_turnKey rfl rfl rfl (by decide +kernel) ⟨Nat.le_of_ble_eq_true rfl, Nat.le_of_ble_eq_true rfl⟩) rfl hl.1 rfl (Nat.le_of_ble_eq_true rfl) dX9_key_25 ⟨Nat.le_of_ble_eq_true rfl, Nat.le_of_ble_eq_true rfl⟩ (fun H locs hN => ?_)
  exact vx_ret <| g_ri hx hb hr hlocks hN (⟨by simp [fKey, h1, h5, h9], by simp [nI_clamp (show j < 2 ^ 31 by omega), nI_clamp (show i < 2 ^ 31 by omega), h1, h5, h9], by simp [nI_clamp (show j < 2 ^ 31 by omega), nI_clamp (show i < 2 ^ 31 by omega), h1, h5, h9]⟩) dX9_key_28
set_option maxHeartbeats 4000000 in
set_option maxRecDepth 100000 in
theorem c_X8_isFigure (l : Launch) {D : va_G} {ad : Nat → Nat} {cs : Nat → ClassId} {zd : Nat → Nat} {F V : gF} {o : gO} {sz : Nat} (x : Int32) : Met l yX8_isFigure wsX8_isFigure ({ frames := 0, cells := 0, slots := 0, locals := 0 } : Room) (gPc D ad cs zd F V o sz [.int x]) (gQI D ad cs (if gRng x 48 57 = true then 1 else 0) F V o sz) 0 0 (gX ad sz) := by
  refine g_met (Qc := fun z0 => gQI D ad cs (if gRng x 48 57 = true then 1 else 0) F V o z0) (cc := cX8_isFigure) (maxL := 1) (ret := (some .boolean)) (own := RX8) (by decide +kernel) rfl rfl (Nat.le_of_ble_eq_true rfl) ?_
  intro p0 e0 s0 m0 b0 k0 c0 hx hb hr hts hown hlocks hml hG hN ls hl
  have hl : lv_has ls 1 [(0, .int x)] := hl
  refine lv_iload_n hx hb dX8_isFigure_0 rfl (lv_at hl 0 rfl) ?_
  refine lv_bipush (v := 48) hx hb dX8_isFigure_1 (by decide) ?_
  refine lv_icmp_lt (tgt := 16) hx hb dX8_isFigure_3 (by decide) (fun c1 => ?_) (fun c1 => ?_)
  · refine lv_iconst (v := 0) hx hb dX8_isFigure_16 (by decide) ?_
    exact g_rz hx hb hr hlocks (by decide) hN (⟨by simp [gRng, c1, Int32.not_le.mpr c1], rfl⟩) dX8_isFigure_17
  · refine lv_iload_n hx hb dX8_isFigure_6 rfl (lv_at hl 0 rfl) ?_
    refine lv_bipush (v := 57) hx hb dX8_isFigure_7 (by decide) ?_
    refine lv_icmp_gt (tgt := 16) hx hb dX8_isFigure_9 (by decide) (fun c2 => ?_) (fun c2 => ?_)
    · refine lv_iconst (v := 0) hx hb dX8_isFigure_16 (by decide) ?_
      exact g_rz hx hb hr hlocks (by decide) hN (⟨by simp [gRng, c1, Int32.not_lt.mp c1, c2, Int32.not_le.mpr c2], rfl⟩) dX8_isFigure_17
    · refine lv_iconst (v := 1) hx hb dX8_isFigure_12 (by decide) ?_
      refine lv_goto (tgt := 17) hx hb dX8_isFigure_13 (by decide) ?_
      exact g_rz hx hb hr hlocks (by decide) hN (⟨by simp [gRng, c1, Int32.not_lt.mp c1, c2, Int32.not_lt.mp c2], rfl⟩) dX8_isFigure_17
set_option maxHeartbeats 4000000 in
set_option maxRecDepth 100000 in
theorem c_X8_takes (l : Launch) {D : va_G} {ad : Nat → Nat} {cs : Nat → ClassId} {zd : Nat → Nat} {F V : gF} {o : gO} {sz : Nat} (x : Int32) : Met l yX8_takes wsX8_takes ({ frames := 1, cells := 0, slots := 0, locals := 20 } : Room) (gPc D ad cs zd F V o sz [.int x]) (gQI D ad cs (if gTk x then 1 else 0) F V o sz) 0 0 (gX ad sz) := by
  refine g_met (Qc := fun z0 => gQI D ad cs (if gTk x then 1 else 0) F V o z0) (cc := cX8_takes) (maxL := 1) (ret := (some .boolean)) (own := RX8) (by decide +kernel) rfl rfl (Nat.le_of_ble_eq_true rfl) ?_
  intro p0 e0 s0 m0 b0 k0 c0 hx hb hr hts hown hlocks hml hG hN ls hl
  have hl : lv_has ls 1 [(0, .int x)] := hl
  refine lv_iload_n hx hb dX8_takes_0 rfl (lv_at hl 0 rfl) ?_
  refine lv_bipush (v := 97) hx hb dX8_takes_1 (by decide) ?_
  refine lv_icmp_lt (tgt := 12) hx hb dX8_takes_3 (by decide) (fun c1 => ?_) (fun c1 => ?_)
  · refine lv_iload_n hx hb dX8_takes_12 rfl (lv_at hl 0 rfl) ?_
    refine g_SI (As := [.int x]) (rest := []) ⟨hx, hb, hml, hown, hts⟩ hG hN (c_X8_isFigure l x) (va_cwS 1 hts gX8_takes_X8_isFigure rfl rfl rfl (by decide +kernel) ⟨Nat.le_of_ble_eq_true rfl, Nat.le_of_ble_eq_true rfl⟩) rfl hl.1 rfl (Nat.le_of_ble_eq_true rfl) dX8_takes_13 ⟨Nat.le_of_ble_eq_true rfl, Nat.le_of_ble_eq_true rfl⟩ (fun H locs hN => ?_)
    refine g_ifb_ne (gRng x 48 57 = true) (tgt := 25) hx hb dX8_takes_16 (by decide) rfl (fun c2 => ?_) (fun c2 => ?_)
    · refine lv_iconst (v := 1) hx hb dX8_takes_25 (by decide) ?_
      refine lv_goto (tgt := 30) hx hb dX8_takes_26 (by decide) ?_
      exact g_rz hx hb hr hlocks (by decide) hN (⟨by simp [gTk, gRng_f1 c1, c2], rfl⟩) dX8_takes_30
    · refine lv_iload_n hx hb dX8_takes_19 rfl (lv_at hl 0 rfl) ?_
      refine lv_bipush (v := 32) hx hb dX8_takes_20 (by decide) ?_
      refine lv_icmp_ne (tgt := 29) hx hb dX8_takes_22 (by decide) (fun c3 => ?_) (fun c3 => ?_)
      · refine lv_iconst (v := 0) hx hb dX8_takes_29 (by decide) ?_
        exact g_rz hx hb hr hlocks (by decide) hN (⟨by simp [gTk, gRng_f1 c1, c2, c3], rfl⟩) dX8_takes_30
      · refine lv_iconst (v := 1) hx hb dX8_takes_25 (by decide) ?_
        refine lv_goto (tgt := 30) hx hb dX8_takes_26 (by decide) ?_
        exact g_rz hx hb hr hlocks (by decide) hN (⟨by simp [gTk, gRng_f1 c1, c2, c3], rfl⟩) dX8_takes_30
  · refine lv_iload_n hx hb dX8_takes_6 rfl (lv_at hl 0 rfl) ?_
    refine lv_bipush (v := 122) hx hb dX8_takes_7 (by decide) ?_
    refine lv_icmp_le (tgt := 25) hx hb dX8_takes_9 (by decide) (fun c4 => ?_) (fun c4 => ?_)
    · refine lv_iconst (v := 1) hx hb dX8_takes_25 (by decide) ?_
      refine lv_goto (tgt := 30) hx hb dX8_takes_26 (by decide) ?_
      exact g_rz hx hb hr hlocks (by decide) hN (⟨by simp [gTk, gRng_t c1 c4], rfl⟩) dX8_takes_30
    · refine lv_iload_n hx hb dX8_takes_12 rfl (lv_at hl 0 rfl) ?_
      refine g_SI (As := [.int x]) (rest := []) ⟨hx, hb, hml, hown, hts⟩ hG hN (c_X8_isFigure l x) (va_cwS 1 hts gX8_takes_X8_isFigure rfl rfl rfl (by decide +kernel) ⟨Nat.le_of_ble_eq_true rfl, Nat.le_of_ble_eq_true rfl⟩) rfl hl.1 rfl (Nat.le_of_ble_eq_true rfl) dX8_takes_13 ⟨Nat.le_of_ble_eq_true rfl, Nat.le_of_ble_eq_true rfl⟩ (fun H locs hN => ?_)
      refine g_ifb_ne (gRng x 48 57 = true) (tgt := 25) hx hb dX8_takes_16 (by decide) rfl (fun c5 => ?_) (fun c5 => ?_)
      · refine lv_iconst (v := 1) hx hb dX8_takes_25 (by decide) ?_
        refine lv_goto (tgt := 30) hx hb dX8_takes_26 (by decide) ?_
        exact g_rz hx hb hr hlocks (by decide) hN (⟨by simp [gTk, gRng_f2 c4, c5], rfl⟩) dX8_takes_30
      · refine lv_iload_n hx hb dX8_takes_19 rfl (lv_at hl 0 rfl) ?_
        refine lv_bipush (v := 32) hx hb dX8_takes_20 (by decide) ?_
        refine lv_icmp_ne (tgt := 29) hx hb dX8_takes_22 (by decide) (fun c6 => ?_) (fun c6 => ?_)
        · refine lv_iconst (v := 0) hx hb dX8_takes_29 (by decide) ?_
          exact g_rz hx hb hr hlocks (by decide) hN (⟨by simp [gTk, gRng_f2 c4, c5, c6], rfl⟩) dX8_takes_30
        · refine lv_iconst (v := 1) hx hb dX8_takes_25 (by decide) ?_
          refine lv_goto (tgt := 30) hx hb dX8_takes_26 (by decide) ?_
          exact g_rz hx hb hr hlocks (by decide) hN (⟨by simp [gTk, gRng_f2 c4, c5, c6], rfl⟩) dX8_takes_30
set_option maxHeartbeats 4000000 in
set_option maxRecDepth 100000 in
theorem c_X8_isFull (l : Launch) {D : va_G} {ad : Nat → Nat} {cs : Nat → ClassId} {zd : Nat → Nat} {F V : gF} {o : gO} {sz : Nat} : Met l yX8_isFull wsX8_isFull ({ frames := 0, cells := 0, slots := 0, locals := 0 } : Room) (gPc D ad cs zd F V o sz [.ref (ad 3)]) (gQI D ad cs (if 60 ≤ V 3 3 then 1 else 0) F V o sz) 0 0 (gX ad sz) := by
  refine g_met (Qc := fun z0 => gQI D ad cs (if 60 ≤ V 3 3 then 1 else 0) F V o z0) (cc := cX8_isFull) (maxL := 1) (ret := (some .boolean)) (own := RX8) (by decide +kernel) rfl rfl (Nat.le_of_ble_eq_true rfl) ?_
  intro p0 e0 s0 m0 b0 k0 c0 hx hb hr hts hown hlocks hml hG hN ls hl
  have hl : lv_has ls 1 [(0, .ref (ad 3))] := hl
  have hin_8 : ∀ w ∈ wsX80, w ∈ wsX8_isFull := by decide +kernel
  have hk_22 := hts (.fieldLink RX8 22 "GravureHouse$Script" "length" "I") (by decide +kernel)
  refine lv_aload_n hx hb dX8_isFull_0 rfl (lv_at hl 0 rfl) ?_
  refine gf_3_3 hx hb hts hin_8 hown hG hN hk_22 dX8_isFull_1 ?_
  refine lv_bipush (v := 60) hx hb dX8_isFull_4 (by decide) ?_
  refine lv_icmp_lt (tgt := 13) hx hb dX8_isFull_6 (by decide) (fun c1 => ?_) (fun c1 => ?_)
  · refine lv_iconst (v := 0) hx hb dX8_isFull_13 (by decide) ?_
    exact g_rz hx hb hr hlocks (by decide) hN (⟨by simp [c1, Int32.not_le.mpr c1], rfl⟩) dX8_isFull_14
  · refine lv_iconst (v := 1) hx hb dX8_isFull_9 (by decide) ?_
    refine lv_goto (tgt := 14) hx hb dX8_isFull_10 (by decide) ?_
    exact g_rz hx hb hr hlocks (by decide) hN (⟨by simp [c1, Int32.not_lt.mp c1], rfl⟩) dX8_isFull_14
set_option maxHeartbeats 4000000 in
set_option maxRecDepth 100000 in
theorem c_X8_add (l : Launch) {D : va_G} {ad : Nat → Nat} {cs : Nat → ClassId} {zd : Nat → Nat} {F V : gF} {o : gO} {sz : Nat} (n : Nat) (x : Int32) (hn : V 3 3 = nI n) (hn2 : n < 60) (hx9 : vp_nar .char x = x) : Met l yX8_add wsX8_add ({ frames := 0, cells := 0, slots := 0, locals := 0 } : Room) (gPc D ad cs zd F V o sz [.ref (ad 3), .int x]) (gQI D ad cs (nI (n + 1)) (gw F 4 n x) (gw V 3 3 (nI (n + 1))) o sz) 0 0 (gX ad sz) := by
  refine g_met (Qc := fun z0 => gQI D ad cs (nI (n + 1)) (gw F 4 n x) (gw V 3 3 (nI (n + 1))) o z0) (cc := cX8_add) (maxL := 2) (ret := (some .int)) (own := RX8) (by decide +kernel) rfl rfl (Nat.le_of_ble_eq_true rfl) ?_
  intro p0 e0 s0 m0 b0 k0 c0 hx hb hr hts hown hlocks hml hG hN ls hl
  have hl : lv_has ls 2 [(0, .ref (ad 3)), (1, .int x)] := hl
  have hin_8 : ∀ w ∈ wsX80, w ∈ wsX8_add := by decide +kernel
  have hk_22 := hts (.fieldLink RX8 22 "GravureHouse$Script" "length" "I") (by decide +kernel)
  have hk_9 := hts (.fieldLink RX8 9 "GravureHouse$Script" "signs" "[C") (by decide +kernel)
  refine lv_aload_n hx hb dX8_add_0 rfl (lv_at hl 0 rfl) ?_
  refine gf_3_3 hx hb hts hin_8 hown hG hN hk_22 dX8_add_1 ?_
  refine g_top (y := nI n) hn ?_
  refine lv_bipush (v := 60) hx hb dX8_add_4 (by decide) ?_
  refine g_cN_ge (a := n) (b := 60) (tgt := 29) hx hb dX8_add_6 (by decide) rfl rfl (by omega) (by omega) (fun c1 => absurd c1 (by omega)) (fun c1 => ?_)
  refine lv_aload_n hx hb dX8_add_9 rfl (lv_at hl 0 rfl) ?_
  refine gf_3_0 hx hb hts hin_8 hown hG hN hk_9 dX8_add_10 ?_
  refine lv_aload_n hx hb dX8_add_13 rfl (lv_at hl 0 rfl) ?_
  refine gf_3_3 hx hb hts hin_8 hown hG hN hk_22 dX8_add_14 ?_
  refine g_top (y := nI n) hn ?_
  refine lv_iload_n hx hb dX8_add_17 rfl (lv_at hl 1 rfl) ?_
  refine g_cast hx hb hG hN (i := 4) (n := 60) (j := n) (by decide) (fun _ => rfl) (by decide) (by omega) rfl (hx9) dX8_add_18 (fun H locs hN => ?_)
  refine lv_aload_n hx hb dX8_add_19 rfl (lv_at hl 0 rfl) ?_
  refine lv_dup hx hb dX8_add_20 rfl ?_
  refine gf_3_3 hx hb hts hin_8 hown hG hN hk_22 dX8_add_21 ?_
  refine g_top (y := nI n) hn ?_
  refine lv_iconst (v := 1) hx hb dX8_add_24 (by decide) ?_
  refine g_addN (a := n) (b := 1) hx hb rfl rfl dX8_add_25 ?_
  refine gp_3_3 hx hb hts hin_8 hown hG hN hk_22 dX8_add_26 (fun H locs hN => ?_)
  refine lv_aload_n hx hb dX8_add_29 rfl (lv_at hl 0 rfl) ?_
  refine gf_3_3 hx hb hts hin_8 hown hG hN hk_22 dX8_add_30 ?_
  refine g_top (y := (nI (n + 1))) rfl ?_
  exact g_ri hx hb hr hlocks hN (⟨rfl, rfl⟩) dX8_add_33
theorem gAt_X9_type_1 : ∀ w ∈ (vx_atS RX9 85 gE1 ["java/lang/RuntimeException", "java/lang/Exception"]).filter goodWord, w ∈ wsX9_type := by decide +kernel
theorem gAt_X9_type_2 : ∀ w ∈ (vx_atS RX9 96 gE2 ["java/lang/RuntimeException", "java/lang/Exception"]).filter goodWord, w ∈ wsX9_type := by decide +kernel
set_option maxHeartbeats 4000000 in
set_option maxRecDepth 100000 in
theorem c_X9_type (l : Launch) (hl9 : l.stackTraces = false) {D : va_G} {ad : Nat → Nat} {cs : Nat → ClassId} {zd : Nat → Nat} {F V : gF} {o : gO} {sz : Nat} (x : Int32) (n : Nat) (hn : V 3 3 = nI n) (hn2 : n ≤ 60) (hx9 : vp_nar .char x = x) : vx_Met l yX9_type wsX9_type ({ frames := 6, cells := 1, slots := 6, locals := 90 } : Room) (gPc D ad cs zd F V o sz [.ref (ad 0), .int x]) (gQi D ad cs sz (fun r9 u9 => fTyp V x = 0 ∧ r9 = nI (n + 1) ∧ u9 = (gw F 4 n x, gw V 3 3 (nI (n + 1)), o))) (gXC D ad cs F V o (fun a => (a = gE1 ∧ fTyp V x = 1) ∨ (a = gE2 ∧ fTyp V x = 2)) sz) 1 6 (gX ad sz) := by
  refine g_metX (Qc := fun z0 => gQi D ad cs z0 (fun r9 u9 => fTyp V x = 0 ∧ r9 = nI (n + 1) ∧ u9 = (gw F 4 n x, gw V 3 3 (nI (n + 1)), o))) (XC := fun z0 => gXC D ad cs F V o (fun a => (a = gE1 ∧ fTyp V x = 1) ∨ (a = gE2 ∧ fTyp V x = 2)) z0) (cc := cX9_type) (maxL := 2) (ret := (some .int)) (own := RX9) (by decide +kernel) rfl rfl (Nat.le_of_ble_eq_true rfl) ?_
  intro p0 e0 s0 m0 b0 k0 c0 hx hb hr hts hown hlocks hml hout hG hN ls hl
  have hl : lv_has ls 2 [(0, .ref (ad 0)), (1, .int x)] := hl
  have hin_9 : ∀ w ∈ wsX90, w ∈ wsX9_type := by decide +kernel
  have hat_2 : ∀ w9 ∈ (vx_atS RX9 96 gE2 ["java/lang/RuntimeException", "java/lang/Exception"]).filter goodWord, w9.before ([.ref (ad 0), .int x] : List Value).toArray s0 = true := fun w9 hw => hts w9 (gAt_X9_type_2 w9 hw)
  have hat_1 : ∀ w9 ∈ (vx_atS RX9 85 gE1 ["java/lang/RuntimeException", "java/lang/Exception"]).filter goodWord, w9.before ([.ref (ad 0), .int x] : List Value).toArray s0 = true := fun w9 hw => hts w9 (gAt_X9_type_1 w9 hw)
  have hk_19 := hts (.fieldLink RX9 19 "GravureHouse" "script" "LGravureHouse$Script;") (by decide +kernel)
  have hn1_2 := hts (.classLink RX9 92 gE2) (by decide +kernel)
  have hn2_2 := hts (.initialized gE2) (by decide +kernel)
  have hn1_1 := hts (.classLink RX9 81 gE1) (by decide +kernel)
  have hn2_1 := hts (.initialized gE1) (by decide +kernel)
  refine lv_iload_n hx hb dX9_type_0 rfl (lv_at hl 1 rfl) ?_
  refine g_SI (As := [.int x]) (rest := []) ⟨hx, hb, hml, hown, hts⟩ hG hN (c_X8_takes l x) (va_cwS 1 hts gX9_type_X8_takes rfl rfl rfl (by decide +kernel) ⟨Nat.le_of_ble_eq_true rfl, Nat.le_of_ble_eq_true rfl⟩) rfl hl.1 rfl (Nat.le_of_ble_eq_true rfl) dX9_type_1 ⟨Nat.le_of_ble_eq_true rfl, Nat.le_of_ble_eq_true rfl⟩ (fun H locs hN => ?_)
  refine g_ifb_ne (gTk x) (tgt := 17) hx hb dX9_type_4 (by decide) rfl (fun c1 => ?_) (fun c1 => ?_)
  · refine lv_aload_n hx hb dX9_type_17 rfl (lv_at hl 0 rfl) ?_
    refine gf_0_1 hx hb hts hin_9 hown hG hN hk_19 dX9_type_18 ?_
    refine g_VI (As := []) (rest := []) ⟨hx, hb, hml, hown, hts⟩ hG hN (i := 3) (by decide) rfl rfl (c_X8_isFull l ) (cwV 0 hts gX9_type_X8_isFull rfl rfl rfl (by decide +kernel) ⟨Nat.le_of_ble_eq_true rfl, Nat.le_of_ble_eq_true rfl⟩) rfl hl.1 rfl (Nat.le_of_ble_eq_true rfl) dX9_type_21 ⟨Nat.le_of_ble_eq_true rfl, Nat.le_of_ble_eq_true rfl⟩ (fun H locs hN => ?_)
    refine g_ifb_eq (60 ≤ V 3 3) (tgt := 37) hx hb dX9_type_24 (by decide) rfl (fun c2 => ?_) (fun c2 => ?_)
    · refine lv_aload_n hx hb dX9_type_37 rfl (lv_at hl 0 rfl) ?_
      refine gf_0_1 hx hb hts hin_9 hown hG hN hk_19 dX9_type_38 ?_
      refine lv_iload_n hx hb dX9_type_41 rfl (lv_at hl 1 rfl) ?_
      refine g_VI (As := [.int x]) (rest := []) ⟨hx, hb, hml, hown, hts⟩ hG hN (i := 3) (by decide) rfl rfl (c_X8_add l n x hn (g_lt60 hn hn2 c2) hx9) (cwV 1 hts gX9_type_X8_add rfl rfl rfl (by decide +kernel) ⟨Nat.le_of_ble_eq_true rfl, Nat.le_of_ble_eq_true rfl⟩) rfl hl.1 rfl (Nat.le_of_ble_eq_true rfl) dX9_type_42 ⟨Nat.le_of_ble_eq_true rfl, Nat.le_of_ble_eq_true rfl⟩ (fun H locs hN => ?_)
      refine W.widen (k := 1) (n := 6) (by omega) (by omega) ?_
      exact vx_ret <| g_ri hx hb hr hlocks hN (⟨by simp [fTyp, c1, c2], rfl, rfl⟩) dX9_type_45
    · exact g_throw hx hb hl9 (cls := gE2) (text := "no more signs can be typed") (ik := 92) (ix := 94) (ic := 96) hown (by decide) hn1_2 hn2_2 (by decide) hG hN hat_2 gBt_2 (by decide) gGd_2 (hl.1.trans hml.symm) dX9_type_27 dX9_type_30 dX9_type_31 dX9_type_33 dX9_type_36 hout ⟨Nat.le_of_ble_eq_true rfl, Nat.le_of_ble_eq_true rfl, Nat.le_of_ble_eq_true rfl, Nat.le_of_ble_eq_true rfl⟩ (Nat.le_of_ble_eq_true rfl) hlocks (Or.inr (⟨rfl, by simp [fTyp, c1, c2]⟩)) (by omega) (by omega)
  · exact g_throw hx hb hl9 (cls := gE1) (text := "neither a small letter nor a figure nor a blank") (ik := 81) (ix := 83) (ic := 85) hown (by decide) hn1_1 hn2_1 (by decide) hG hN hat_1 gBt_1 (by decide) gGd_1 (hl.1.trans hml.symm) dX9_type_7 dX9_type_10 dX9_type_11 dX9_type_13 dX9_type_16 hout ⟨Nat.le_of_ble_eq_true rfl, Nat.le_of_ble_eq_true rfl, Nat.le_of_ble_eq_true rfl, Nat.le_of_ble_eq_true rfl⟩ (Nat.le_of_ble_eq_true rfl) hlocks (Or.inl (⟨rfl, by simp [fTyp, c1]⟩)) (by omega) (by omega)
set_option maxHeartbeats 4000000 in
set_option maxRecDepth 100000 in
theorem c_X9_plates (l : Launch) {D : va_G} {ad : Nat → Nat} {cs : Nat → ClassId} {zd : Nat → Nat} {F V : gF} {o : gO} {sz : Nat}  (hz : narrow .boolean (.int (V 1 2)) = .int (V 1 2)) : Met l yX9_plates wsX9_plates ({ frames := 5, cells := 0, slots := 0, locals := 125 } : Room) (gPc D ad cs zd F V o sz [.ref (ad 0)]) (gQI D ad cs (cMkN F V 256) (cMkF F V 256) V o sz) 0 0 (gX ad sz) := by
  refine g_met (Qc := fun z0 => gQI D ad cs (cMkN F V 256) (cMkF F V 256) V o z0) (cc := cX9_plates) (maxL := 1) (ret := (some .int)) (own := RX9) (by decide +kernel) rfl rfl (Nat.le_of_ble_eq_true rfl) ?_
  intro p0 e0 s0 m0 b0 k0 c0 hx hb hr hts hown hlocks hml hG hN ls hl
  have hl : lv_has ls 1 [(0, .ref (ad 0))] := hl
  have hin_9 : ∀ w ∈ wsX90, w ∈ wsX9_plates := by decide +kernel
  have hk_33 := hts (.fieldLink RX9 33 "GravureHouse" "plateSet" "LGravureHouse$PlateSet;") (by decide +kernel)
  have hk_26 := hts (.fieldLink RX9 26 "GravureHouse" "picture" "LGravureHouse$Picture;") (by decide +kernel)
  have hk_10 := hts (.fieldLink RX9 10 "GravureHouse" "rules" "LGravureHouse$Rules;") (by decide +kernel)
  refine lv_aload_n hx hb dX9_plates_0 rfl (lv_at hl 0 rfl) ?_
  refine gf_0_3 hx hb hts hin_9 hown hG hN hk_33 dX9_plates_1 ?_
  refine lv_aload_n hx hb dX9_plates_4 rfl (lv_at hl 0 rfl) ?_
  refine gf_0_2 hx hb hts hin_9 hown hG hN hk_26 dX9_plates_5 ?_
  refine lv_aload_n hx hb dX9_plates_8 rfl (lv_at hl 0 rfl) ?_
  refine gf_0_0 hx hb hts hin_9 hown hG hN hk_10 dX9_plates_9 ?_
  refine g_VI (As := [.ref (ad 7), .ref (ad 1)]) (rest := []) ⟨hx, hb, hml, hown, hts⟩ hG hN (i := 12) (by decide) rfl rfl (c_X2_make l hz) (cwV 2 hts gX9_plates_X2_make rfl rfl rfl (by decide +kernel) ⟨Nat.le_of_ble_eq_true rfl, Nat.le_of_ble_eq_true rfl⟩) rfl hl.1 rfl (Nat.le_of_ble_eq_true rfl) dX9_plates_12 ⟨Nat.le_of_ble_eq_true rfl, Nat.le_of_ble_eq_true rfl⟩ (fun H locs hN => ?_)
  exact g_ri hx hb hr hlocks hN (⟨rfl, rfl⟩) dX9_plates_15
set_option maxHeartbeats 4000000 in
set_option maxRecDepth 100000 in
theorem c_X9_tear (l : Launch) {D : va_G} {ad : Nat → Nat} {cs : Nat → ClassId} {zd : Nat → Nat} {F V : gF} {o : gO} {sz : Nat} : Met l yX9_tear wsX9_tear ({ frames := 1, cells := 0, slots := 0, locals := 20 } : Room) (gPc D ad cs zd F V o sz [.ref (ad 0)]) (gQI D ad cs 20 F (gw V 27 1 20) o sz) 0 0 (gX ad sz) := by
  refine g_met (Qc := fun z0 => gQI D ad cs 20 F (gw V 27 1 20) o z0) (cc := cX9_tear) (maxL := 1) (ret := (some .int)) (own := RX9) (by decide +kernel) rfl rfl (Nat.le_of_ble_eq_true rfl) ?_
  intro p0 e0 s0 m0 b0 k0 c0 hx hb hr hts hown hlocks hml hG hN ls hl
  have hl : lv_has ls 1 [(0, .ref (ad 0))] := hl
  have hin_9 : ∀ w ∈ wsX90, w ∈ wsX9_tear := by decide +kernel
  have hk_47 := hts (.fieldLink RX9 47 "GravureHouse" "press" "LGravureHouse$Press;") (by decide +kernel)
  refine lv_aload_n hx hb dX9_tear_0 rfl (lv_at hl 0 rfl) ?_
  refine gf_0_5 hx hb hts hin_9 hown hG hN hk_47 dX9_tear_1 ?_
  refine g_VI (As := []) (rest := []) ⟨hx, hb, hml, hown, hts⟩ hG hN (i := 27) (by decide) rfl rfl (c_X3_breakWeb l ) (cwV 0 hts gX9_tear_X3_breakWeb rfl rfl rfl (by decide +kernel) ⟨Nat.le_of_ble_eq_true rfl, Nat.le_of_ble_eq_true rfl⟩) rfl hl.1 rfl (Nat.le_of_ble_eq_true rfl) dX9_tear_4 ⟨Nat.le_of_ble_eq_true rfl, Nat.le_of_ble_eq_true rfl⟩ (fun H locs hN => ?_)
  exact g_ri hx hb hr hlocks hN (⟨rfl, rfl⟩) dX9_tear_7
set_option maxHeartbeats 4000000 in
set_option maxRecDepth 100000 in
theorem c_X9_sign (l : Launch) {D : va_G} {ad : Nat → Nat} {cs : Nat → ClassId} {zd : Nat → Nat} {F V : gF} {o : gO} {sz : Nat} : Met l yX9_sign wsX9_sign ({ frames := 3, cells := 0, slots := 0, locals := 69 } : Room) (gPc D ad cs zd F V o sz [.ref (ad 0)]) (gQI D ad cs (cTkN F 256) (cTkF F 256) (gw V 37 1 1) o sz) 0 0 (gX ad sz) := by
  refine g_met (Qc := fun z0 => gQI D ad cs (cTkN F 256) (cTkF F 256) (gw V 37 1 1) o z0) (cc := cX9_sign) (maxL := 1) (ret := (some .int)) (own := RX9) (by decide +kernel) rfl rfl (Nat.le_of_ble_eq_true rfl) ?_
  intro p0 e0 s0 m0 b0 k0 c0 hx hb hr hts hown hlocks hml hG hN ls hl
  have hl : lv_has ls 1 [(0, .ref (ad 0))] := hl
  have hin_9 : ∀ w ∈ wsX90, w ∈ wsX9_sign := by decide +kernel
  have hk_61 := hts (.fieldLink RX9 61 "GravureHouse" "proof" "LGravureHouse$Proof;") (by decide +kernel)
  have hk_33 := hts (.fieldLink RX9 33 "GravureHouse" "plateSet" "LGravureHouse$PlateSet;") (by decide +kernel)
  have hk_10 := hts (.fieldLink RX9 10 "GravureHouse" "rules" "LGravureHouse$Rules;") (by decide +kernel)
  refine lv_aload_n hx hb dX9_sign_0 rfl (lv_at hl 0 rfl) ?_
  refine gf_0_7 hx hb hts hin_9 hown hG hN hk_61 dX9_sign_1 ?_
  refine lv_aload_n hx hb dX9_sign_4 rfl (lv_at hl 0 rfl) ?_
  refine gf_0_3 hx hb hts hin_9 hown hG hN hk_33 dX9_sign_5 ?_
  refine lv_aload_n hx hb dX9_sign_8 rfl (lv_at hl 0 rfl) ?_
  refine gf_0_0 hx hb hts hin_9 hown hG hN hk_10 dX9_sign_9 ?_
  refine g_VI (As := [.ref (ad 12), .ref (ad 1)]) (rest := []) ⟨hx, hb, hml, hown, hts⟩ hG hN (i := 37) (by decide) rfl rfl (c_X4_take l ) (cwV 2 hts gX9_sign_X4_take rfl rfl rfl (by decide +kernel) ⟨Nat.le_of_ble_eq_true rfl, Nat.le_of_ble_eq_true rfl⟩) rfl hl.1 rfl (Nat.le_of_ble_eq_true rfl) dX9_sign_12 ⟨Nat.le_of_ble_eq_true rfl, Nat.le_of_ble_eq_true rfl⟩ (fun H locs hN => ?_)
  exact g_ri hx hb hr hlocks hN (⟨rfl, rfl⟩) dX9_sign_15
set_option maxHeartbeats 4000000 in
set_option maxRecDepth 100000 in
theorem c_X9_next (l : Launch) {D : va_G} {ad : Nat → Nat} {cs : Nat → ClassId} {zd : Nat → Nat} {F V : gF} {o : gO} {sz : Nat} (h w : Nat) (hh : V 33 4 = nI h) (hh2 : h < 200) (hw : V 33 5 = nI w) (hw2 : w ≤ 200) : Met l yX9_next wsX9_next ({ frames := 1, cells := 0, slots := 0, locals := 20 } : Room) (gPc D ad cs zd F V o sz [.ref (ad 0)]) (gQI D ad cs (if w = 0 then -1 else F 36 h) F V o sz) 0 0 (gX ad sz) := by
  refine g_met (Qc := fun z0 => gQI D ad cs (if w = 0 then -1 else F 36 h) F V o z0) (cc := cX9_next) (maxL := 1) (ret := (some .int)) (own := RX9) (by decide +kernel) rfl rfl (Nat.le_of_ble_eq_true rfl) ?_
  intro p0 e0 s0 m0 b0 k0 c0 hx hb hr hts hown hlocks hml hG hN ls hl
  have hl : lv_has ls 1 [(0, .ref (ad 0))] := hl
  have hin_9 : ∀ w ∈ wsX90, w ∈ wsX9_next := by decide +kernel
  have hk_54 := hts (.fieldLink RX9 54 "GravureHouse" "work" "LGravureHouse$Job;") (by decide +kernel)
  refine lv_aload_n hx hb dX9_next_0 rfl (lv_at hl 0 rfl) ?_
  refine gf_0_6 hx hb hts hin_9 hown hG hN hk_54 dX9_next_1 ?_
  refine g_VI (As := []) (rest := []) ⟨hx, hb, hml, hown, hts⟩ hG hN (i := 33) (by decide) rfl rfl (c_X0_first l h w hh hh2 hw hw2) (cwV 0 hts gX9_next_X0_first rfl rfl rfl (by decide +kernel) ⟨Nat.le_of_ble_eq_true rfl, Nat.le_of_ble_eq_true rfl⟩) rfl hl.1 rfl (Nat.le_of_ble_eq_true rfl) dX9_next_4 ⟨Nat.le_of_ble_eq_true rfl, Nat.le_of_ble_eq_true rfl⟩ (fun H locs hN => ?_)
  exact g_ri hx hb hr hlocks hN (⟨rfl, rfl⟩) dX9_next_7
theorem gAt_X9_correct_2 : ∀ w ∈ (vx_atS RX9 96 gE2 ["java/lang/RuntimeException", "java/lang/Exception"]).filter goodWord, w ∈ wsX9_correct := by decide +kernel
set_option maxHeartbeats 4000000 in
set_option maxRecDepth 100000 in
theorem c_X9_correct (l : Launch) (hl9 : l.stackTraces = false) {D : va_G} {ad : Nat → Nat} {cs : Nat → ClassId} {zd : Nat → Nat} {F V : gF} {o : gO} {sz : Nat} (u x y : Int32) (t : Nat) (ht : V 18 8 = nI t) (ht2 : t ≤ 20) : vx_Met l yX9_correct wsX9_correct ({ frames := 7, cells := 4, slots := 24, locals := 112 } : Room) (gPc D ad cs zd F V o sz [.ref (ad 0), .int u, .int x, .int y]) (gQi D ad cs sz (fun r9 u9 => fCor V u x y = 0 ∧ r9 = (if V 1 4 = 0 then 0 else nI (t + 1)) ∧ u9 = (if V 1 4 = 0 then cMove F u.toNatClampNeg x y else cKeep F t u x y (V 27 2 + V 1 4), if V 1 4 = 0 then V else gw V 18 8 (nI (t + 1)), o))) (gXC D ad cs F V o (fun a => (a = gE0 ∧ fCor V u x y = 1) ∨ (a = gE1 ∧ fCor V u x y = 2) ∨ (a = gE2 ∧ fCor V u x y = 3)) sz) 4 24 (gX ad sz) := by
  refine g_metX (Qc := fun z0 => gQi D ad cs z0 (fun r9 u9 => fCor V u x y = 0 ∧ r9 = (if V 1 4 = 0 then 0 else nI (t + 1)) ∧ u9 = (if V 1 4 = 0 then cMove F u.toNatClampNeg x y else cKeep F t u x y (V 27 2 + V 1 4), if V 1 4 = 0 then V else gw V 18 8 (nI (t + 1)), o))) (XC := fun z0 => gXC D ad cs F V o (fun a => (a = gE0 ∧ fCor V u x y = 1) ∨ (a = gE1 ∧ fCor V u x y = 2) ∨ (a = gE2 ∧ fCor V u x y = 3)) z0) (cc := cX9_correct) (maxL := 4) (ret := (some .int)) (own := RX9) (by decide +kernel) rfl rfl (Nat.le_of_ble_eq_true rfl) ?_
  intro p0 e0 s0 m0 b0 k0 c0 hx hb hr hts hown hlocks hml hout hG hN ls hl
  have hl : lv_has ls 4 [(0, .ref (ad 0)), (1, .int u), (2, .int x), (3, .int y)] := hl
  have hin_9 : ∀ w ∈ wsX90, w ∈ wsX9_correct := by decide +kernel
  have hat_2 : ∀ w9 ∈ (vx_atS RX9 96 gE2 ["java/lang/RuntimeException", "java/lang/Exception"]).filter goodWord, w9.before ([.ref (ad 0), .int u, .int x, .int y] : List Value).toArray s0 = true := fun w9 hw => hts w9 (gAt_X9_correct_2 w9 hw)
  have hk_40 := hts (.fieldLink RX9 40 "GravureHouse" "registers" "LGravureHouse$Registers;") (by decide +kernel)
  have hk_10 := hts (.fieldLink RX9 10 "GravureHouse" "rules" "LGravureHouse$Rules;") (by decide +kernel)
  have hk_47 := hts (.fieldLink RX9 47 "GravureHouse" "press" "LGravureHouse$Press;") (by decide +kernel)
  have hn1_2 := hts (.classLink RX9 92 gE2) (by decide +kernel)
  have hn2_2 := hts (.initialized gE2) (by decide +kernel)
  refine lv_iload_n hx hb dX9_correct_0 rfl (lv_at hl 1 rfl) ?_
  refine lv_iconst (v := 4) hx hb dX9_correct_1 (by decide) ?_
  refine g_xS (As := [.int u, .int 4]) (rest := []) ⟨hx, hb, hml, hown, hts⟩ hG hN (c_X9_needIndex l hl9 u 4) (va_cwS 2 hts gX9_correct_X9_needIndex rfl rfl rfl (by decide +kernel) ⟨Nat.le_of_ble_eq_true rfl, Nat.le_of_ble_eq_true rfl⟩) rfl hl.1 rfl (Nat.le_of_ble_eq_true rfl) dX9_correct_2 ⟨Nat.le_of_ble_eq_true rfl, Nat.le_of_ble_eq_true rfl⟩ hout hlocks (fun a h => Or.inl (⟨h.1, by simp [fCor, h.2]⟩)) ⟨by omega, by omega⟩ (fun Fq2 Vq3 oq4 H locs h1 hN => ?_)
  obtain ⟨eq9, h1⟩ := h1
  cases eq9
  obtain ⟨j, hj, ej⟩ := gIdx_n 4 rfl (by decide) h1
  subst ej
  refine lv_iload_n hx hb dX9_correct_5 rfl (lv_at hl 2 rfl) ?_
  refine lv_bipush (v := (-50)) hx hb dX9_correct_6 (by decide) ?_
  refine lv_bipush (v := 50) hx hb dX9_correct_8 (by decide) ?_
  refine g_xS (As := [.int x, .int (-50), .int 50]) (rest := []) ⟨hx, hb, hml, hown, hts⟩ hG hN (c_X9_needRange l hl9 x (-50) 50) (va_cwS 3 hts gX9_correct_X9_needRange rfl rfl rfl (by decide +kernel) ⟨Nat.le_of_ble_eq_true rfl, Nat.le_of_ble_eq_true rfl⟩) rfl hl.1 rfl (Nat.le_of_ble_eq_true rfl) dX9_correct_10 ⟨Nat.le_of_ble_eq_true rfl, Nat.le_of_ble_eq_true rfl⟩ hout hlocks (fun a h => Or.inr (Or.inl (⟨h.1, by simp [fCor, h.2, h1]⟩))) ⟨by omega, by omega⟩ (fun Fq6 Vq7 oq8 H locs h5 hN => ?_)
  obtain ⟨eq9, h5⟩ := h5
  cases eq9
  refine lv_iload_n hx hb dX9_correct_13 rfl (lv_at hl 3 rfl) ?_
  refine lv_bipush (v := (-50)) hx hb dX9_correct_14 (by decide) ?_
  refine lv_bipush (v := 50) hx hb dX9_correct_16 (by decide) ?_
  refine g_xS (As := [.int y, .int (-50), .int 50]) (rest := []) ⟨hx, hb, hml, hown, hts⟩ hG hN (c_X9_needRange l hl9 y (-50) 50) (va_cwS 3 hts gX9_correct_X9_needRange rfl rfl rfl (by decide +kernel) ⟨Nat.le_of_ble_eq_true rfl, Nat.le_of_ble_eq_true rfl⟩) rfl hl.1 rfl (Nat.le_of_ble_eq_true rfl) dX9_correct_18 ⟨Nat.le_of_ble_eq_true rfl, Nat.le_of_ble_eq_true rfl⟩ hout hlocks (fun a h => Or.inr (Or.inl (⟨h.1, by simp [fCor, h.2, h1, h5]⟩))) ⟨by omega, by omega⟩ (fun Fq10 Vq11 oq12 H locs h9 hN => ?_)
  obtain ⟨eq9, h9⟩ := h9
  cases eq9
  refine lv_aload_n hx hb dX9_correct_21 rfl (lv_at hl 0 rfl) ?_
  refine gf_0_4 hx hb hts hin_9 hown hG hN hk_40 dX9_correct_22 ?_
  refine g_VI (As := []) (rest := []) ⟨hx, hb, hml, hown, hts⟩ hG hN (i := 18) (by decide) rfl rfl (c_X5_toCome l ) (cwV 0 hts gX9_correct_X5_toCome rfl rfl rfl (by decide +kernel) ⟨Nat.le_of_ble_eq_true rfl, Nat.le_of_ble_eq_true rfl⟩) rfl hl.1 rfl (Nat.le_of_ble_eq_true rfl) dX9_correct_25 ⟨Nat.le_of_ble_eq_true rfl, Nat.le_of_ble_eq_true rfl⟩ (fun H locs hN => ?_)
  refine lv_bipush (v := 20) hx hb dX9_correct_28 (by decide) ?_
  refine lv_icmp_lt (tgt := 43) hx hb dX9_correct_30 (by decide) (fun c13 => ?_) (fun c13 => ?_)
  · refine lv_aload_n hx hb dX9_correct_43 rfl (lv_at hl 0 rfl) ?_
    refine gf_0_0 hx hb hts hin_9 hown hG hN hk_10 dX9_correct_44 ?_
    refine g_VI (As := []) (rest := []) ⟨hx, hb, hml, hown, hts⟩ hG hN (i := 1) (by decide) rfl rfl (c_X7_delay l ) (cwV 0 hts gX9_correct_X7_delay rfl rfl rfl (by decide +kernel) ⟨Nat.le_of_ble_eq_true rfl, Nat.le_of_ble_eq_true rfl⟩) rfl hl.1 rfl (Nat.le_of_ble_eq_true rfl) dX9_correct_47 ⟨Nat.le_of_ble_eq_true rfl, Nat.le_of_ble_eq_true rfl⟩ (fun H locs hN => ?_)
    refine lv_if_ne (tgt := 65) hx hb dX9_correct_50 (by decide) (fun c14 => ?_) (fun c14 => ?_)
    · refine lv_aload_n hx hb dX9_correct_65 rfl (lv_at hl 0 rfl) ?_
      refine gf_0_4 hx hb hts hin_9 hown hG hN hk_40 dX9_correct_66 ?_
      refine lv_iload_n hx hb dX9_correct_69 rfl (lv_at hl 1 rfl) ?_
      refine lv_iload_n hx hb dX9_correct_70 rfl (lv_at hl 2 rfl) ?_
      refine lv_iload_n hx hb dX9_correct_71 rfl (lv_at hl 3 rfl) ?_
      refine lv_aload_n hx hb dX9_correct_72 rfl (lv_at hl 0 rfl) ?_
      refine gf_0_5 hx hb hts hin_9 hown hG hN hk_47 dX9_correct_73 ?_
      refine g_VI (As := []) (rest := [.int y, .int x, .int (nI j), .ref (ad 18)]) ⟨hx, hb, hml, hown, hts⟩ hG hN (i := 27) (by decide) rfl rfl (c_X3_printed l ) (cwV 0 hts gX9_correct_X3_printed rfl rfl rfl (by decide +kernel) ⟨Nat.le_of_ble_eq_true rfl, Nat.le_of_ble_eq_true rfl⟩) rfl hl.1 rfl (Nat.le_of_ble_eq_true rfl) dX9_correct_76 ⟨Nat.le_of_ble_eq_true rfl, Nat.le_of_ble_eq_true rfl⟩ (fun H locs hN => ?_)
      refine lv_aload_n hx hb dX9_correct_79 rfl (lv_at hl 0 rfl) ?_
      refine gf_0_0 hx hb hts hin_9 hown hG hN hk_10 dX9_correct_80 ?_
      refine g_VI (As := []) (rest := [.int (V 27 2), .int y, .int x, .int (nI j), .ref (ad 18)]) ⟨hx, hb, hml, hown, hts⟩ hG hN (i := 1) (by decide) rfl rfl (c_X7_delay l ) (cwV 0 hts gX9_correct_X7_delay rfl rfl rfl (by decide +kernel) ⟨Nat.le_of_ble_eq_true rfl, Nat.le_of_ble_eq_true rfl⟩) rfl hl.1 rfl (Nat.le_of_ble_eq_true rfl) dX9_correct_83 ⟨Nat.le_of_ble_eq_true rfl, Nat.le_of_ble_eq_true rfl⟩ (fun H locs hN => ?_)
      refine lv_iadd hx hb dX9_correct_86 ?_
      refine g_VI (As := [.int (nI j), .int x, .int y, .int ((V 27 2) + (V 1 4))]) (rest := []) ⟨hx, hb, hml, hown, hts⟩ hG hN (i := 18) (by decide) rfl rfl (c_X5_putOff l t (nI j) x y ((V 27 2) + (V 1 4)) ht (g_lt20 ht ht2 c13)) (cwV 4 hts gX9_correct_X5_putOff rfl rfl rfl (by decide +kernel) ⟨Nat.le_of_ble_eq_true rfl, Nat.le_of_ble_eq_true rfl⟩) rfl hl.1 rfl (Nat.le_of_ble_eq_true rfl) dX9_correct_87 ⟨Nat.le_of_ble_eq_true rfl, Nat.le_of_ble_eq_true rfl⟩ (fun H locs hN => ?_)
      refine W.widen (k := 4) (n := 24) (by omega) (by omega) ?_
      exact vx_ret <| g_ri hx hb hr hlocks hN (⟨by simp [fCor, h1, h5, h9, c13, Int32.not_le.mpr c13, c14], by simp [nI_clamp (show j < 2 ^ 31 by omega), h1, h5, h9, c13, Int32.not_le.mpr c13, c14], by simp [nI_clamp (show j < 2 ^ 31 by omega), h1, h5, h9, c13, Int32.not_le.mpr c13, c14]⟩) dX9_correct_90
    · refine lv_aload_n hx hb dX9_correct_53 rfl (lv_at hl 0 rfl) ?_
      refine gf_0_4 hx hb hts hin_9 hown hG hN hk_40 dX9_correct_54 ?_
      refine lv_iload_n hx hb dX9_correct_57 rfl (lv_at hl 1 rfl) ?_
      refine lv_iload_n hx hb dX9_correct_58 rfl (lv_at hl 2 rfl) ?_
      refine lv_iload_n hx hb dX9_correct_59 rfl (lv_at hl 3 rfl) ?_
      refine g_VV (As := [.int (nI j), .int x, .int y]) (rest := []) ⟨hx, hb, hml, hown, hts⟩ hG hN (i := 18) (by decide) rfl rfl (c_X5_move l j x y (by omega)) (cwV 3 hts gX9_correct_X5_move rfl rfl rfl (by decide +kernel) ⟨Nat.le_of_ble_eq_true rfl, Nat.le_of_ble_eq_true rfl⟩) rfl hl.1 rfl (Nat.le_of_ble_eq_true rfl) dX9_correct_60 ⟨Nat.le_of_ble_eq_true rfl, Nat.le_of_ble_eq_true rfl⟩ (fun H locs hN => ?_)
      refine lv_iconst (v := 0) hx hb dX9_correct_63 (by decide) ?_
      refine W.widen (k := 4) (n := 24) (by omega) (by omega) ?_
      exact vx_ret <| g_ri hx hb hr hlocks hN (⟨by simp [fCor, h1, h5, h9, c13, Int32.not_le.mpr c13, c14], by simp [nI_clamp (show j < 2 ^ 31 by omega), h1, h5, h9, c13, Int32.not_le.mpr c13, c14], by simp [nI_clamp (show j < 2 ^ 31 by omega), h1, h5, h9, c13, Int32.not_le.mpr c13, c14]⟩) dX9_correct_64
  · exact g_throw hx hb hl9 (cls := gE2) (text := "too many corrections are to come") (ik := 92) (ix := 116) (ic := 96) hown (by decide) hn1_2 hn2_2 (by decide) hG hN hat_2 gBt_2 (by decide) gGd_2 (hl.1.trans hml.symm) dX9_correct_33 dX9_correct_36 dX9_correct_37 dX9_correct_39 dX9_correct_42 hout ⟨Nat.le_of_ble_eq_true rfl, Nat.le_of_ble_eq_true rfl, Nat.le_of_ble_eq_true rfl, Nat.le_of_ble_eq_true rfl⟩ (Nat.le_of_ble_eq_true rfl) hlocks (Or.inr (Or.inr (⟨rfl, by simp [fCor, h1, h5, h9, c13, Int32.not_lt.mp c13]⟩))) (by omega) (by omega)
theorem gAt_X9_job_2 : ∀ w ∈ (vx_atS RX9 96 gE2 ["java/lang/RuntimeException", "java/lang/Exception"]).filter goodWord, w ∈ wsX9_job := by decide +kernel
set_option maxHeartbeats 4000000 in
set_option maxRecDepth 100000 in
theorem c_X9_job (l : Launch) (hl9 : l.stackTraces = false) {D : va_G} {ad : Nat → Nat} {cs : Nat → ClassId} {zd : Nat → Nat} {F V : gF} {o : gO} {sz : Nat} (n : Int32) : vx_Met l yX9_job wsX9_job ({ frames := 7, cells := 2, slots := 12, locals := 112 } : Room) (gPc D ad cs zd F V o sz [.ref (ad 0), .int n]) (gQv D ad cs sz (fun u9 => fJob V n = 0 ∧ u9 = (cBeg F n.toNatClampNeg, gw (gw (gw V 33 3 n) 33 4 0) 33 5 n, o))) (gXC D ad cs F V o (fun a => (a = gE1 ∧ fJob V n = 1) ∨ (a = gE2 ∧ fJob V n = 2)) sz) 2 12 (gX ad sz) := by
  refine g_metX (Qc := fun z0 => gQv D ad cs z0 (fun u9 => fJob V n = 0 ∧ u9 = (cBeg F n.toNatClampNeg, gw (gw (gw V 33 3 n) 33 4 0) 33 5 n, o))) (XC := fun z0 => gXC D ad cs F V o (fun a => (a = gE1 ∧ fJob V n = 1) ∨ (a = gE2 ∧ fJob V n = 2)) z0) (cc := cX9_job) (maxL := 2) (ret := none) (own := RX9) (by decide +kernel) rfl rfl (Nat.le_of_ble_eq_true rfl) ?_
  intro p0 e0 s0 m0 b0 k0 c0 hx hb hr hts hown hlocks hml hout hG hN ls hl
  have hl : lv_has ls 2 [(0, .ref (ad 0)), (1, .int n)] := hl
  have hin_9 : ∀ w ∈ wsX90, w ∈ wsX9_job := by decide +kernel
  have hat_2 : ∀ w9 ∈ (vx_atS RX9 96 gE2 ["java/lang/RuntimeException", "java/lang/Exception"]).filter goodWord, w9.before ([.ref (ad 0), .int n] : List Value).toArray s0 = true := fun w9 hw => hts w9 (gAt_X9_job_2 w9 hw)
  have hk_54 := hts (.fieldLink RX9 54 "GravureHouse" "work" "LGravureHouse$Job;") (by decide +kernel)
  have hn1_2 := hts (.classLink RX9 92 gE2) (by decide +kernel)
  have hn2_2 := hts (.initialized gE2) (by decide +kernel)
  refine lv_iload_n hx hb dX9_job_0 rfl (lv_at hl 1 rfl) ?_
  refine lv_iconst (v := 1) hx hb dX9_job_1 (by decide) ?_
  refine lv_sipush (v := 200) hx hb dX9_job_2 (by decide) ?_
  refine g_xS (As := [.int n, .int 1, .int 200]) (rest := []) ⟨hx, hb, hml, hown, hts⟩ hG hN (c_X9_needRange l hl9 n 1 200) (va_cwS 3 hts gX9_job_X9_needRange rfl rfl rfl (by decide +kernel) ⟨Nat.le_of_ble_eq_true rfl, Nat.le_of_ble_eq_true rfl⟩) rfl hl.1 rfl (Nat.le_of_ble_eq_true rfl) dX9_job_5 ⟨Nat.le_of_ble_eq_true rfl, Nat.le_of_ble_eq_true rfl⟩ hout hlocks (fun a h => Or.inl (⟨h.1, by simp [fJob, h.2]⟩)) ⟨by omega, by omega⟩ (fun Fq2 Vq3 oq4 H locs h1 hN => ?_)
  obtain ⟨eq9, h1⟩ := h1
  cases eq9
  obtain ⟨j, hj, ej⟩ := gRng_n1 200 rfl (by decide) h1
  subst ej
  refine lv_aload_n hx hb dX9_job_8 rfl (lv_at hl 0 rfl) ?_
  refine gf_0_6 hx hb hts hin_9 hown hG hN hk_54 dX9_job_9 ?_
  refine g_VI (As := []) (rest := []) ⟨hx, hb, hml, hown, hts⟩ hG hN (i := 33) (by decide) rfl rfl (c_X0_toPrint l ) (cwV 0 hts gX9_job_X0_toPrint rfl rfl rfl (by decide +kernel) ⟨Nat.le_of_ble_eq_true rfl, Nat.le_of_ble_eq_true rfl⟩) rfl hl.1 rfl (Nat.le_of_ble_eq_true rfl) dX9_job_12 ⟨Nat.le_of_ble_eq_true rfl, Nat.le_of_ble_eq_true rfl⟩ (fun H locs hN => ?_)
  refine lv_if_le (tgt := 28) hx hb dX9_job_15 (by decide) (fun c5 => ?_) (fun c5 => ?_)
  · refine lv_aload_n hx hb dX9_job_28 rfl (lv_at hl 0 rfl) ?_
    refine gf_0_6 hx hb hts hin_9 hown hG hN hk_54 dX9_job_29 ?_
    refine lv_iload_n hx hb dX9_job_32 rfl (lv_at hl 1 rfl) ?_
    refine g_VV (As := [.int (nI j)]) (rest := []) ⟨hx, hb, hml, hown, hts⟩ hG hN (i := 33) (by decide) rfl rfl (c_X0_begin l j (by omega)) (cwV 1 hts gX9_job_X0_begin rfl rfl rfl (by decide +kernel) ⟨Nat.le_of_ble_eq_true rfl, Nat.le_of_ble_eq_true rfl⟩) rfl hl.1 rfl (Nat.le_of_ble_eq_true rfl) dX9_job_33 ⟨Nat.le_of_ble_eq_true rfl, Nat.le_of_ble_eq_true rfl⟩ (fun H locs hN => ?_)
    refine W.widen (k := 2) (n := 12) (by omega) (by omega) ?_
    exact vx_ret <| g_rv hx hb hr hlocks hN (⟨by simp [fJob, h1, c5, Int32.not_lt.mpr c5], by simp [nI_clamp (show j < 2 ^ 31 by omega), h1, c5, Int32.not_lt.mpr c5]⟩) dX9_job_36
  · exact g_throw hx hb hl9 (cls := gE2) (text := "the job ahead is not done") (ik := 92) (ix := 141) (ic := 96) hown (by decide) hn1_2 hn2_2 (by decide) hG hN hat_2 gBt_2 (by decide) gGd_2 (hl.1.trans hml.symm) dX9_job_18 dX9_job_21 dX9_job_22 dX9_job_24 dX9_job_27 hout ⟨Nat.le_of_ble_eq_true rfl, Nat.le_of_ble_eq_true rfl, Nat.le_of_ble_eq_true rfl, Nat.le_of_ble_eq_true rfl⟩ (Nat.le_of_ble_eq_true rfl) hlocks (Or.inr (⟨rfl, by simp [fJob, h1, c5, Int32.not_le.mp c5]⟩)) (by omega) (by omega)
set_option maxHeartbeats 4000000 in
set_option maxRecDepth 100000 in
theorem c_X9_differs (l : Launch) (hl9 : l.stackTraces = false) {D : va_G} {ad : Nat → Nat} {cs : Nat → ClassId} {zd : Nat → Nat} {F V : gF} {o : gO} {sz : Nat} (c : Int32) (hz37 : narrow .boolean (.int (V 37 1)) = .int (V 37 1)) : vx_Met l yX9_differs wsX9_differs ({ frames := 7, cells := 2, slots := 12, locals := 111 } : Room) (gPc D ad cs zd F V o sz [.ref (ad 0), .int c]) (gQi D ad cs sz (fun r9 u9 => fDif V c = 0 ∧ r9 = cDif F c.toNatClampNeg 4 ∧ u9 = (F, V, o))) (gXC D ad cs F V o (fun a => (a = gE0 ∧ fDif V c = 1) ∨ (a = gE2 ∧ fDif V c = 2)) sz) 2 12 (gX ad sz) := by
  refine g_metX (Qc := fun z0 => gQi D ad cs z0 (fun r9 u9 => fDif V c = 0 ∧ r9 = cDif F c.toNatClampNeg 4 ∧ u9 = (F, V, o))) (XC := fun z0 => gXC D ad cs F V o (fun a => (a = gE0 ∧ fDif V c = 1) ∨ (a = gE2 ∧ fDif V c = 2)) z0) (cc := cX9_differs) (maxL := 2) (ret := (some .int)) (own := RX9) (by decide +kernel) rfl rfl (Nat.le_of_ble_eq_true rfl) ?_
  intro p0 e0 s0 m0 b0 k0 c0 hx hb hr hts hown hlocks hml hout hG hN ls hl
  have hl : lv_has ls 2 [(0, .ref (ad 0)), (1, .int c)] := hl
  have hin_9 : ∀ w ∈ wsX90, w ∈ wsX9_differs := by decide +kernel
  have hk_61 := hts (.fieldLink RX9 61 "GravureHouse" "proof" "LGravureHouse$Proof;") (by decide +kernel)
  have hk_33 := hts (.fieldLink RX9 33 "GravureHouse" "plateSet" "LGravureHouse$PlateSet;") (by decide +kernel)
  have hk_10 := hts (.fieldLink RX9 10 "GravureHouse" "rules" "LGravureHouse$Rules;") (by decide +kernel)
  refine lv_iload_n hx hb dX9_differs_0 rfl (lv_at hl 1 rfl) ?_
  refine lv_bipush (v := 64) hx hb dX9_differs_1 (by decide) ?_
  refine g_xS (As := [.int c, .int 64]) (rest := []) ⟨hx, hb, hml, hown, hts⟩ hG hN (c_X9_needIndex l hl9 c 64) (va_cwS 2 hts gX9_differs_X9_needIndex rfl rfl rfl (by decide +kernel) ⟨Nat.le_of_ble_eq_true rfl, Nat.le_of_ble_eq_true rfl⟩) rfl hl.1 rfl (Nat.le_of_ble_eq_true rfl) dX9_differs_3 ⟨Nat.le_of_ble_eq_true rfl, Nat.le_of_ble_eq_true rfl⟩ hout hlocks (fun a h => Or.inl (⟨h.1, by simp [fDif, h.2]⟩)) ⟨by omega, by omega⟩ (fun Fq2 Vq3 oq4 H locs h1 hN => ?_)
  obtain ⟨eq9, h1⟩ := h1
  cases eq9
  obtain ⟨j, hj, ej⟩ := gIdx_n 64 rfl (by decide) h1
  subst ej
  refine lv_aload_n hx hb dX9_differs_6 rfl (lv_at hl 0 rfl) ?_
  refine g_xV (As := []) (rest := []) ⟨hx, hb, hml, hown, hts⟩ hG hN (i := 0) (by decide) rfl rfl (c_X9_needProof l hl9 hz37) (cwV 0 hts gX9_differs_X9_needProof rfl rfl rfl (by decide +kernel) ⟨Nat.le_of_ble_eq_true rfl, Nat.le_of_ble_eq_true rfl⟩) rfl hl.1 rfl (Nat.le_of_ble_eq_true rfl) dX9_differs_7 ⟨Nat.le_of_ble_eq_true rfl, Nat.le_of_ble_eq_true rfl⟩ hout hlocks (fun a h => Or.inr (⟨h.1, by simp [fDif, h.2, h1]⟩)) ⟨by omega, by omega⟩ (fun Fq6 Vq7 oq8 H locs h5 hN => ?_)
  obtain ⟨eq9, h5⟩ := h5
  cases eq9
  refine lv_aload_n hx hb dX9_differs_10 rfl (lv_at hl 0 rfl) ?_
  refine gf_0_7 hx hb hts hin_9 hown hG hN hk_61 dX9_differs_11 ?_
  refine lv_iload_n hx hb dX9_differs_14 rfl (lv_at hl 1 rfl) ?_
  refine lv_aload_n hx hb dX9_differs_15 rfl (lv_at hl 0 rfl) ?_
  refine gf_0_3 hx hb hts hin_9 hown hG hN hk_33 dX9_differs_16 ?_
  refine lv_aload_n hx hb dX9_differs_19 rfl (lv_at hl 0 rfl) ?_
  refine gf_0_0 hx hb hts hin_9 hown hG hN hk_10 dX9_differs_20 ?_
  refine g_VI (As := [.int (nI j), .ref (ad 12), .ref (ad 1)]) (rest := []) ⟨hx, hb, hml, hown, hts⟩ hG hN (i := 37) (by decide) rfl rfl (c_X4_difference l j (by omega)) (cwV 3 hts gX9_differs_X4_difference rfl rfl rfl (by decide +kernel) ⟨Nat.le_of_ble_eq_true rfl, Nat.le_of_ble_eq_true rfl⟩) rfl hl.1 rfl (Nat.le_of_ble_eq_true rfl) dX9_differs_23 ⟨Nat.le_of_ble_eq_true rfl, Nat.le_of_ble_eq_true rfl⟩ (fun H locs hN => ?_)
  exact vx_ret <| g_ri hx hb hr hlocks hN (⟨by simp [fDif, h1, h5], by simp [nI_clamp (show j < 2 ^ 31 by omega), h1, h5], by simp [nI_clamp (show j < 2 ^ 31 by omega), h1, h5]⟩) dX9_differs_26
set_option maxHeartbeats 4000000 in
set_option maxRecDepth 100000 in
theorem c_X9_claim (l : Launch) (hl9 : l.stackTraces = false) {D : va_G} {ad : Nat → Nat} {cs : Nat → ClassId} {zd : Nat → Nat} {F V : gF} {o : gO} {sz : Nat} (c : Int32) (hz37 : narrow .boolean (.int (V 37 1)) = .int (V 37 1)) : vx_Met l yX9_claim wsX9_claim ({ frames := 7, cells := 2, slots := 12, locals := 111 } : Room) (gPc D ad cs zd F V o sz [.ref (ad 0), .int c]) (gQi D ad cs sz (fun r9 u9 => fDif V c = 0 ∧ r9 = (if 5 < cDif F c.toNatClampNeg 4 then 1 else 0) ∧ u9 = (F, V, o))) (gXC D ad cs F V o (fun a => (a = gE0 ∧ fDif V c = 1) ∨ (a = gE2 ∧ fDif V c = 2)) sz) 2 12 (gX ad sz) := by
  refine g_metX (Qc := fun z0 => gQi D ad cs z0 (fun r9 u9 => fDif V c = 0 ∧ r9 = (if 5 < cDif F c.toNatClampNeg 4 then 1 else 0) ∧ u9 = (F, V, o))) (XC := fun z0 => gXC D ad cs F V o (fun a => (a = gE0 ∧ fDif V c = 1) ∨ (a = gE2 ∧ fDif V c = 2)) z0) (cc := cX9_claim) (maxL := 2) (ret := (some .boolean)) (own := RX9) (by decide +kernel) rfl rfl (Nat.le_of_ble_eq_true rfl) ?_
  intro p0 e0 s0 m0 b0 k0 c0 hx hb hr hts hown hlocks hml hout hG hN ls hl
  have hl : lv_has ls 2 [(0, .ref (ad 0)), (1, .int c)] := hl
  have hin_9 : ∀ w ∈ wsX90, w ∈ wsX9_claim := by decide +kernel
  have hk_61 := hts (.fieldLink RX9 61 "GravureHouse" "proof" "LGravureHouse$Proof;") (by decide +kernel)
  have hk_33 := hts (.fieldLink RX9 33 "GravureHouse" "plateSet" "LGravureHouse$PlateSet;") (by decide +kernel)
  have hk_10 := hts (.fieldLink RX9 10 "GravureHouse" "rules" "LGravureHouse$Rules;") (by decide +kernel)
  refine lv_iload_n hx hb dX9_claim_0 rfl (lv_at hl 1 rfl) ?_
  refine lv_bipush (v := 64) hx hb dX9_claim_1 (by decide) ?_
  refine g_xS (As := [.int c, .int 64]) (rest := []) ⟨hx, hb, hml, hown, hts⟩ hG hN (c_X9_needIndex l hl9 c 64) (va_cwS 2 hts gX9_claim_X9_needIndex rfl rfl rfl (by decide +kernel) ⟨Nat.le_of_ble_eq_true rfl, Nat.le_of_ble_eq_true rfl⟩) rfl hl.1 rfl (Nat.le_of_ble_eq_true rfl) dX9_claim_3 ⟨Nat.le_of_ble_eq_true rfl, Nat.le_of_ble_eq_true rfl⟩ hout hlocks (fun a h => Or.inl (⟨h.1, by simp [fDif, h.2]⟩)) ⟨by omega, by omega⟩ (fun Fq2 Vq3 oq4 H locs h1 hN => ?_)
  obtain ⟨eq9, h1⟩ := h1
  cases eq9
  obtain ⟨j, hj, ej⟩ := gIdx_n 64 rfl (by decide) h1
  subst ej
  refine lv_aload_n hx hb dX9_claim_6 rfl (lv_at hl 0 rfl) ?_
  refine g_xV (As := []) (rest := []) ⟨hx, hb, hml, hown, hts⟩ hG hN (i := 0) (by decide) rfl rfl (c_X9_needProof l hl9 hz37) (cwV 0 hts gX9_claim_X9_needProof rfl rfl rfl (by decide +kernel) ⟨Nat.le_of_ble_eq_true rfl, Nat.le_of_ble_eq_true rfl⟩) rfl hl.1 rfl (Nat.le_of_ble_eq_true rfl) dX9_claim_7 ⟨Nat.le_of_ble_eq_true rfl, Nat.le_of_ble_eq_true rfl⟩ hout hlocks (fun a h => Or.inr (⟨h.1, by simp [fDif, h.2, h1]⟩)) ⟨by omega, by omega⟩ (fun Fq6 Vq7 oq8 H locs h5 hN => ?_)
  obtain ⟨eq9, h5⟩ := h5
  cases eq9
  refine lv_aload_n hx hb dX9_claim_10 rfl (lv_at hl 0 rfl) ?_
  refine gf_0_7 hx hb hts hin_9 hown hG hN hk_61 dX9_claim_11 ?_
  refine lv_iload_n hx hb dX9_claim_14 rfl (lv_at hl 1 rfl) ?_
  refine lv_aload_n hx hb dX9_claim_15 rfl (lv_at hl 0 rfl) ?_
  refine gf_0_3 hx hb hts hin_9 hown hG hN hk_33 dX9_claim_16 ?_
  refine lv_aload_n hx hb dX9_claim_19 rfl (lv_at hl 0 rfl) ?_
  refine gf_0_0 hx hb hts hin_9 hown hG hN hk_10 dX9_claim_20 ?_
  refine g_VI (As := [.int (nI j), .ref (ad 12), .ref (ad 1)]) (rest := []) ⟨hx, hb, hml, hown, hts⟩ hG hN (i := 37) (by decide) rfl rfl (c_X4_difference l j (by omega)) (cwV 3 hts gX9_claim_X4_difference rfl rfl rfl (by decide +kernel) ⟨Nat.le_of_ble_eq_true rfl, Nat.le_of_ble_eq_true rfl⟩) rfl hl.1 rfl (Nat.le_of_ble_eq_true rfl) dX9_claim_23 ⟨Nat.le_of_ble_eq_true rfl, Nat.le_of_ble_eq_true rfl⟩ (fun H locs hN => ?_)
  refine lv_iconst (v := 5) hx hb dX9_claim_26 (by decide) ?_
  refine lv_icmp_le (tgt := 34) hx hb dX9_claim_27 (by decide) (fun c9 => ?_) (fun c9 => ?_)
  · refine lv_iconst (v := 0) hx hb dX9_claim_34 (by decide) ?_
    exact vx_ret <| g_rz hx hb hr hlocks (by decide) hN (⟨by simp [fDif, h1, h5, c9, Int32.not_lt.mpr c9], by simp [nI_clamp (show j < 2 ^ 31 by omega), h1, h5, c9, Int32.not_lt.mpr c9], by simp [nI_clamp (show j < 2 ^ 31 by omega), h1, h5, c9, Int32.not_lt.mpr c9]⟩) dX9_claim_35
  · refine lv_iconst (v := 1) hx hb dX9_claim_30 (by decide) ?_
    refine lv_goto (tgt := 35) hx hb dX9_claim_31 (by decide) ?_
    exact vx_ret <| g_rz hx hb hr hlocks (by decide) hN (⟨by simp [fDif, h1, h5, c9, Int32.not_le.mp c9], by simp [nI_clamp (show j < 2 ^ 31 by omega), h1, h5, c9, Int32.not_le.mp c9], by simp [nI_clamp (show j < 2 ^ 31 by omega), h1, h5, c9, Int32.not_le.mp c9]⟩) dX9_claim_35
theorem gAt_X9_ink_1 : ∀ w ∈ (vx_atS RX9 85 gE1 ["java/lang/RuntimeException", "java/lang/Exception"]).filter goodWord, w ∈ wsX9_ink := by decide +kernel
set_option maxHeartbeats 4000000 in
set_option maxRecDepth 100000 in
theorem c_X9_ink (l : Launch) (hl9 : l.stackTraces = false) {D : va_G} {ad : Nat → Nat} {cs : Nat → ClassId} {zd : Nat → Nat} {F V : gF} {o : gO} {sz : Nat} (c k w : Int32) (hz : narrow .boolean (.int (V 1 2)) = .int (V 1 2)) : vx_Met l yX9_ink wsX9_ink ({ frames := 7, cells := 3, slots := 18, locals := 111 } : Room) (gPc D ad cs zd F V o sz [.ref (ad 0), .int c, .int k, .int w]) (gQi D ad cs sz (fun r9 u9 => fInk c k w = 0 ∧ r9 = rInk F V (c.toNatClampNeg) (k.toNatClampNeg) w ∧ u9 = (F, V, o))) (gXC D ad cs F V o (fun a => (a = gE0 ∧ fInk c k w = 1) ∨ (a = gE1 ∧ fInk c k w = 2)) sz) 3 18 (gX ad sz) := by
  refine g_metX (Qc := fun z0 => gQi D ad cs z0 (fun r9 u9 => fInk c k w = 0 ∧ r9 = rInk F V (c.toNatClampNeg) (k.toNatClampNeg) w ∧ u9 = (F, V, o))) (XC := fun z0 => gXC D ad cs F V o (fun a => (a = gE0 ∧ fInk c k w = 1) ∨ (a = gE1 ∧ fInk c k w = 2)) z0) (cc := cX9_ink) (maxL := 4) (ret := (some .int)) (own := RX9) (by decide +kernel) rfl rfl (Nat.le_of_ble_eq_true rfl) ?_
  intro p0 e0 s0 m0 b0 k0 c0 hx hb hr hts hown hlocks hml hout hG hN ls hl
  have hl : lv_has ls 4 [(0, .ref (ad 0)), (1, .int c), (2, .int k), (3, .int w)] := hl
  have hin_9 : ∀ w ∈ wsX90, w ∈ wsX9_ink := by decide +kernel
  have hat_1 : ∀ w9 ∈ (vx_atS RX9 85 gE1 ["java/lang/RuntimeException", "java/lang/Exception"]).filter goodWord, w9.before ([.ref (ad 0), .int c, .int k, .int w] : List Value).toArray s0 = true := fun w9 hw => hts w9 (gAt_X9_ink_1 w9 hw)
  have hk_26 := hts (.fieldLink RX9 26 "GravureHouse" "picture" "LGravureHouse$Picture;") (by decide +kernel)
  have hk_10 := hts (.fieldLink RX9 10 "GravureHouse" "rules" "LGravureHouse$Rules;") (by decide +kernel)
  have hk_33 := hts (.fieldLink RX9 33 "GravureHouse" "plateSet" "LGravureHouse$PlateSet;") (by decide +kernel)
  have hn1_1 := hts (.classLink RX9 81 gE1) (by decide +kernel)
  have hn2_1 := hts (.initialized gE1) (by decide +kernel)
  refine lv_iload_n hx hb dX9_ink_0 rfl (lv_at hl 1 rfl) ?_
  refine lv_bipush (v := 64) hx hb dX9_ink_1 (by decide) ?_
  refine g_xS (As := [.int c, .int 64]) (rest := []) ⟨hx, hb, hml, hown, hts⟩ hG hN (c_X9_needIndex l hl9 c 64) (va_cwS 2 hts gX9_ink_X9_needIndex rfl rfl rfl (by decide +kernel) ⟨Nat.le_of_ble_eq_true rfl, Nat.le_of_ble_eq_true rfl⟩) rfl hl.1 rfl (Nat.le_of_ble_eq_true rfl) dX9_ink_3 ⟨Nat.le_of_ble_eq_true rfl, Nat.le_of_ble_eq_true rfl⟩ hout hlocks (fun a h => Or.inl (⟨h.1, by simp [fInk, h.2]⟩)) ⟨by omega, by omega⟩ (fun Fq2 Vq3 oq4 H locs h1 hN => ?_)
  obtain ⟨eq9, h1⟩ := h1
  cases eq9
  obtain ⟨j, hj, ej⟩ := gIdx_n 64 rfl (by decide) h1
  subst ej
  refine lv_iload_n hx hb dX9_ink_6 rfl (lv_at hl 2 rfl) ?_
  refine lv_iconst (v := 4) hx hb dX9_ink_7 (by decide) ?_
  refine g_xS (As := [.int k, .int 4]) (rest := []) ⟨hx, hb, hml, hown, hts⟩ hG hN (c_X9_needIndex l hl9 k 4) (va_cwS 2 hts gX9_ink_X9_needIndex rfl rfl rfl (by decide +kernel) ⟨Nat.le_of_ble_eq_true rfl, Nat.le_of_ble_eq_true rfl⟩) rfl hl.1 rfl (Nat.le_of_ble_eq_true rfl) dX9_ink_8 ⟨Nat.le_of_ble_eq_true rfl, Nat.le_of_ble_eq_true rfl⟩ hout hlocks (fun a h => Or.inl (⟨h.1, by simp [fInk, h.2, h1]⟩)) ⟨by omega, by omega⟩ (fun Fq6 Vq7 oq8 H locs h5 hN => ?_)
  obtain ⟨eq9, h5⟩ := h5
  cases eq9
  obtain ⟨i, hi, ei⟩ := gIdx_n 4 rfl (by decide) h5
  subst ei
  refine lv_iload_n hx hb dX9_ink_11 rfl (lv_at hl 3 rfl) ?_
  by_cases e9 : w = 0
  · refine lv_tableIn (off := 36) (tgt := 48) hx hb dX9_ink_12 (by rw [e9]; decide) (by rw [e9]; decide) (by rw [e9]; rfl) (by decide) ?_
    refine lv_aload_n hx hb dX9_ink_48 rfl (lv_at hl 0 rfl) ?_
    refine gf_0_2 hx hb hts hin_9 hown hG hN hk_26 dX9_ink_49 ?_
    refine lv_iload_n hx hb dX9_ink_52 rfl (lv_at hl 1 rfl) ?_
    refine lv_iload_n hx hb dX9_ink_53 rfl (lv_at hl 2 rfl) ?_
    refine lv_aload_n hx hb dX9_ink_54 rfl (lv_at hl 0 rfl) ?_
    refine gf_0_0 hx hb hts hin_9 hown hG hN hk_10 dX9_ink_55 ?_
    refine g_VI (As := [.int (nI j), .int (nI i), .ref (ad 1)]) (rest := []) ⟨hx, hb, hml, hown, hts⟩ hG hN (i := 7) (by decide) rfl rfl (c_X1_aheadOfTraps l j i (by omega) (by omega)) (cwV 3 hts gX9_ink_X1_aheadOfTraps rfl rfl rfl (by decide +kernel) ⟨Nat.le_of_ble_eq_true rfl, Nat.le_of_ble_eq_true rfl⟩) rfl hl.1 rfl (Nat.le_of_ble_eq_true rfl) dX9_ink_58 ⟨Nat.le_of_ble_eq_true rfl, Nat.le_of_ble_eq_true rfl⟩ (fun H locs hN => ?_)
    refine W.widen (k := 3) (n := 18) (by omega) (by omega) ?_
    exact vx_ret <| g_ri hx hb hr hlocks hN (⟨by simp [fInk, gRng, h1, h5, e9], by simp [rInk, cPlate, cPrn, nI_clamp (show j < 2 ^ 31 by omega), nI_clamp (show i < 2 ^ 31 by omega), h1, h5, e9], rfl⟩) dX9_ink_61
  by_cases e10 : w = 1
  · refine lv_tableIn (off := 50) (tgt := 62) hx hb dX9_ink_12 (by rw [e10]; decide) (by rw [e10]; decide) (by rw [e10]; rfl) (by decide) ?_
    refine lv_aload_n hx hb dX9_ink_62 rfl (lv_at hl 0 rfl) ?_
    refine gf_0_2 hx hb hts hin_9 hown hG hN hk_26 dX9_ink_63 ?_
    refine lv_iload_n hx hb dX9_ink_66 rfl (lv_at hl 1 rfl) ?_
    refine lv_iload_n hx hb dX9_ink_67 rfl (lv_at hl 2 rfl) ?_
    refine lv_aload_n hx hb dX9_ink_68 rfl (lv_at hl 0 rfl) ?_
    refine gf_0_0 hx hb hts hin_9 hown hG hN hk_10 dX9_ink_69 ?_
    refine g_VI (As := [.int (nI j), .int (nI i), .ref (ad 1)]) (rest := []) ⟨hx, hb, hml, hown, hts⟩ hG hN (i := 7) (by decide) rfl rfl (c_X1_wanted l j i hz (by omega) (by omega)) (cwV 3 hts gX9_ink_X1_wanted rfl rfl rfl (by decide +kernel) ⟨Nat.le_of_ble_eq_true rfl, Nat.le_of_ble_eq_true rfl⟩) rfl hl.1 rfl (Nat.le_of_ble_eq_true rfl) dX9_ink_72 ⟨Nat.le_of_ble_eq_true rfl, Nat.le_of_ble_eq_true rfl⟩ (fun H locs hN => ?_)
    refine W.widen (k := 3) (n := 18) (by omega) (by omega) ?_
    exact vx_ret <| g_ri hx hb hr hlocks hN (⟨by simp [fInk, gRng, h1, h5, e10], by simp [rInk, cPlate, cPrn, nI_clamp (show j < 2 ^ 31 by omega), nI_clamp (show i < 2 ^ 31 by omega), h1, h5, e10], rfl⟩) dX9_ink_75
  by_cases e11 : w = 2
  · refine lv_tableIn (off := 64) (tgt := 76) hx hb dX9_ink_12 (by rw [e11]; decide) (by rw [e11]; decide) (by rw [e11]; rfl) (by decide) ?_
    refine lv_aload_n hx hb dX9_ink_76 rfl (lv_at hl 0 rfl) ?_
    refine gf_0_2 hx hb hts hin_9 hown hG hN hk_26 dX9_ink_77 ?_
    refine lv_iload_n hx hb dX9_ink_80 rfl (lv_at hl 1 rfl) ?_
    refine lv_iload_n hx hb dX9_ink_81 rfl (lv_at hl 2 rfl) ?_
    refine lv_aload_n hx hb dX9_ink_82 rfl (lv_at hl 0 rfl) ?_
    refine gf_0_0 hx hb hts hin_9 hown hG hN hk_10 dX9_ink_83 ?_
    refine g_VI (As := [.int (nI j), .int (nI i), .ref (ad 1)]) (rest := []) ⟨hx, hb, hml, hown, hts⟩ hG hN (i := 7) (by decide) rfl rfl (c_X1_wanted l j i hz (by omega) (by omega)) (cwV 3 hts gX9_ink_X1_wanted rfl rfl rfl (by decide +kernel) ⟨Nat.le_of_ble_eq_true rfl, Nat.le_of_ble_eq_true rfl⟩) rfl hl.1 rfl (Nat.le_of_ble_eq_true rfl) dX9_ink_86 ⟨Nat.le_of_ble_eq_true rfl, Nat.le_of_ble_eq_true rfl⟩ (fun H locs hN => ?_)
    refine lv_aload_n hx hb dX9_ink_89 rfl (lv_at hl 0 rfl) ?_
    refine gf_0_0 hx hb hts hin_9 hown hG hN hk_10 dX9_ink_90 ?_
    refine lv_iload_n hx hb dX9_ink_93 rfl (lv_at hl 2 rfl) ?_
    refine g_VI (As := [.int (nI i)]) (rest := [.int (cWant F V j i)]) ⟨hx, hb, hml, hown, hts⟩ hG hN (i := 1) (by decide) rfl rfl (c_X7_gain l i (by omega)) (cwV 1 hts gX9_ink_X7_gain rfl rfl rfl (by decide +kernel) ⟨Nat.le_of_ble_eq_true rfl, Nat.le_of_ble_eq_true rfl⟩) rfl hl.1 rfl (Nat.le_of_ble_eq_true rfl) dX9_ink_94 ⟨Nat.le_of_ble_eq_true rfl, Nat.le_of_ble_eq_true rfl⟩ (fun H locs hN => ?_)
    refine g_SI (As := [.int (cWant F V j i), .int (F 2 i)]) (rest := []) ⟨hx, hb, hml, hown, hts⟩ hG hN (c_X2_leastTint l (cWant F V j i) (F 2 i)) (va_cwS 2 hts gX9_ink_X2_leastTint rfl rfl rfl (by decide +kernel) ⟨Nat.le_of_ble_eq_true rfl, Nat.le_of_ble_eq_true rfl⟩) rfl hl.1 rfl (Nat.le_of_ble_eq_true rfl) dX9_ink_97 ⟨Nat.le_of_ble_eq_true rfl, Nat.le_of_ble_eq_true rfl⟩ (fun H locs hN => ?_)
    refine W.widen (k := 3) (n := 18) (by omega) (by omega) ?_
    exact vx_ret <| g_ri hx hb hr hlocks hN (⟨by simp [fInk, gRng, h1, h5, e11], by simp [rInk, cPlate, cPrn, nI_clamp (show j < 2 ^ 31 by omega), nI_clamp (show i < 2 ^ 31 by omega), h1, h5, e11], rfl⟩) dX9_ink_100
  by_cases e12 : w = 3
  · refine lv_tableIn (off := 89) (tgt := 101) hx hb dX9_ink_12 (by rw [e12]; decide) (by rw [e12]; decide) (by rw [e12]; rfl) (by decide) ?_
    refine lv_aload_n hx hb dX9_ink_101 rfl (lv_at hl 0 rfl) ?_
    refine gf_0_3 hx hb hts hin_9 hown hG hN hk_33 dX9_ink_102 ?_
    refine lv_iload_n hx hb dX9_ink_105 rfl (lv_at hl 1 rfl) ?_
    refine lv_iload_n hx hb dX9_ink_106 rfl (lv_at hl 2 rfl) ?_
    refine g_VI (As := [.int (nI j), .int (nI i)]) (rest := []) ⟨hx, hb, hml, hown, hts⟩ hG hN (i := 12) (by decide) rfl rfl (c_X2_tint l j i (by omega) (by omega)) (cwV 2 hts gX9_ink_X2_tint rfl rfl rfl (by decide +kernel) ⟨Nat.le_of_ble_eq_true rfl, Nat.le_of_ble_eq_true rfl⟩) rfl hl.1 rfl (Nat.le_of_ble_eq_true rfl) dX9_ink_107 ⟨Nat.le_of_ble_eq_true rfl, Nat.le_of_ble_eq_true rfl⟩ (fun H locs hN => ?_)
    refine W.widen (k := 3) (n := 18) (by omega) (by omega) ?_
    exact vx_ret <| g_ri hx hb hr hlocks hN (⟨by simp [fInk, gRng, h1, h5, e12], by simp [rInk, cPlate, cPrn, nI_clamp (show j < 2 ^ 31 by omega), nI_clamp (show i < 2 ^ 31 by omega), h1, h5, e12], rfl⟩) dX9_ink_110
  by_cases e13 : w = 4
  · refine lv_tableIn (off := 99) (tgt := 111) hx hb dX9_ink_12 (by rw [e13]; decide) (by rw [e13]; decide) (by rw [e13]; rfl) (by decide) ?_
    refine lv_aload_n hx hb dX9_ink_111 rfl (lv_at hl 0 rfl) ?_
    refine gf_0_3 hx hb hts hin_9 hown hG hN hk_33 dX9_ink_112 ?_
    refine lv_iload_n hx hb dX9_ink_115 rfl (lv_at hl 1 rfl) ?_
    refine lv_iload_n hx hb dX9_ink_116 rfl (lv_at hl 2 rfl) ?_
    refine lv_aload_n hx hb dX9_ink_117 rfl (lv_at hl 0 rfl) ?_
    refine gf_0_0 hx hb hts hin_9 hown hG hN hk_10 dX9_ink_118 ?_
    refine g_VI (As := [.int (nI j), .int (nI i), .ref (ad 1)]) (rest := []) ⟨hx, hb, hml, hown, hts⟩ hG hN (i := 12) (by decide) rfl rfl (c_X2_printed l j i (by omega) (by omega)) (cwV 3 hts gX9_ink_X2_printed rfl rfl rfl (by decide +kernel) ⟨Nat.le_of_ble_eq_true rfl, Nat.le_of_ble_eq_true rfl⟩) rfl hl.1 rfl (Nat.le_of_ble_eq_true rfl) dX9_ink_121 ⟨Nat.le_of_ble_eq_true rfl, Nat.le_of_ble_eq_true rfl⟩ (fun H locs hN => ?_)
    refine W.widen (k := 3) (n := 18) (by omega) (by omega) ?_
    exact vx_ret <| g_ri hx hb hr hlocks hN (⟨by simp [fInk, gRng, h1, h5, e13], by simp [rInk, cPlate, cPrn, nI_clamp (show j < 2 ^ 31 by omega), nI_clamp (show i < 2 ^ 31 by omega), h1, h5, e13], rfl⟩) dX9_ink_124
  have h14 : w.toInt < 0 ∨ 4 < w.toInt := by
    have := lv_neT (a := 0) e9 (by decide)
    have := lv_neT (a := 1) e10 (by decide)
    have := lv_neT (a := 2) e11 (by decide)
    have := lv_neT (a := 3) e12 (by decide)
    have := lv_neT (a := 4) e13 (by decide)
    omega
  refine lv_tableOut (tgt := 125) hx hb dX9_ink_12 h14 (by decide) ?_
  exact g_throw hx hb hl9 (cls := gE1) (text := "nothing that can be asked of an ink") (ik := 81) (ix := 194) (ic := 85) hown (by decide) hn1_1 hn2_1 (by decide) hG hN hat_1 gBt_1 (by decide) gGd_1 (hl.1.trans hml.symm) dX9_ink_125 dX9_ink_128 dX9_ink_129 dX9_ink_131 dX9_ink_134 hout ⟨Nat.le_of_ble_eq_true rfl, Nat.le_of_ble_eq_true rfl, Nat.le_of_ble_eq_true rfl, Nat.le_of_ble_eq_true rfl⟩ (Nat.le_of_ble_eq_true rfl) hlocks (Or.inr (⟨rfl, by simp [fInk, h1, h5, e9, e10, e11, e12, e13, h14, gRng_o (lo := 0) (hi := 4) h14]⟩)) (by omega) (by omega)
set_option maxHeartbeats 4000000 in
set_option maxRecDepth 100000 in
theorem c_X9_dot (l : Launch) (hl9 : l.stackTraces = false) {D : va_G} {ad : Nat → Nat} {cs : Nat → ClassId} {zd : Nat → Nat} {F V : gF} {o : gO} {sz : Nat} (c k : Int32) : vx_Met l yX9_dot wsX9_dot ({ frames := 7, cells := 2, slots := 12, locals := 111 } : Room) (gPc D ad cs zd F V o sz [.ref (ad 0), .int c, .int k]) (gQi D ad cs sz (fun r9 u9 => fDot c k = 0 ∧ r9 = (if (cDot1 F (k.toNatClampNeg) (c.toNatClampNeg - c.toNatClampNeg % 8) (c.toNatClampNeg % 8 + 1)).2 = true then 1 else 0) ∧ u9 = (F, V, o))) (gXC D ad cs F V o (fun a => (a = gE0 ∧ fDot c k = 1)) sz) 2 12 (gX ad sz) := by
  refine g_metX (Qc := fun z0 => gQi D ad cs z0 (fun r9 u9 => fDot c k = 0 ∧ r9 = (if (cDot1 F (k.toNatClampNeg) (c.toNatClampNeg - c.toNatClampNeg % 8) (c.toNatClampNeg % 8 + 1)).2 = true then 1 else 0) ∧ u9 = (F, V, o))) (XC := fun z0 => gXC D ad cs F V o (fun a => (a = gE0 ∧ fDot c k = 1)) z0) (cc := cX9_dot) (maxL := 3) (ret := (some .boolean)) (own := RX9) (by decide +kernel) rfl rfl (Nat.le_of_ble_eq_true rfl) ?_
  intro p0 e0 s0 m0 b0 k0 c0 hx hb hr hts hown hlocks hml hout hG hN ls hl
  have hl : lv_has ls 3 [(0, .ref (ad 0)), (1, .int c), (2, .int k)] := hl
  have hin_9 : ∀ w ∈ wsX90, w ∈ wsX9_dot := by decide +kernel
  have hk_33 := hts (.fieldLink RX9 33 "GravureHouse" "plateSet" "LGravureHouse$PlateSet;") (by decide +kernel)
  refine lv_iload_n hx hb dX9_dot_0 rfl (lv_at hl 1 rfl) ?_
  refine lv_bipush (v := 64) hx hb dX9_dot_1 (by decide) ?_
  refine g_xS (As := [.int c, .int 64]) (rest := []) ⟨hx, hb, hml, hown, hts⟩ hG hN (c_X9_needIndex l hl9 c 64) (va_cwS 2 hts gX9_dot_X9_needIndex rfl rfl rfl (by decide +kernel) ⟨Nat.le_of_ble_eq_true rfl, Nat.le_of_ble_eq_true rfl⟩) rfl hl.1 rfl (Nat.le_of_ble_eq_true rfl) dX9_dot_3 ⟨Nat.le_of_ble_eq_true rfl, Nat.le_of_ble_eq_true rfl⟩ hout hlocks (fun a h => ⟨h.1, by simp [fDot, h.2]⟩) ⟨by omega, by omega⟩ (fun Fq2 Vq3 oq4 H locs h1 hN => ?_)
  obtain ⟨eq9, h1⟩ := h1
  cases eq9
  obtain ⟨j, hj, ej⟩ := gIdx_n 64 rfl (by decide) h1
  subst ej
  refine lv_iload_n hx hb dX9_dot_6 rfl (lv_at hl 2 rfl) ?_
  refine lv_iconst (v := 4) hx hb dX9_dot_7 (by decide) ?_
  refine g_xS (As := [.int k, .int 4]) (rest := []) ⟨hx, hb, hml, hown, hts⟩ hG hN (c_X9_needIndex l hl9 k 4) (va_cwS 2 hts gX9_dot_X9_needIndex rfl rfl rfl (by decide +kernel) ⟨Nat.le_of_ble_eq_true rfl, Nat.le_of_ble_eq_true rfl⟩) rfl hl.1 rfl (Nat.le_of_ble_eq_true rfl) dX9_dot_8 ⟨Nat.le_of_ble_eq_true rfl, Nat.le_of_ble_eq_true rfl⟩ hout hlocks (fun a h => ⟨h.1, by simp [fDot, h.2, h1]⟩) ⟨by omega, by omega⟩ (fun Fq6 Vq7 oq8 H locs h5 hN => ?_)
  obtain ⟨eq9, h5⟩ := h5
  cases eq9
  obtain ⟨i, hi, ei⟩ := gIdx_n 4 rfl (by decide) h5
  subst ei
  refine lv_aload_n hx hb dX9_dot_11 rfl (lv_at hl 0 rfl) ?_
  refine gf_0_3 hx hb hts hin_9 hown hG hN hk_33 dX9_dot_12 ?_
  refine lv_iload_n hx hb dX9_dot_15 rfl (lv_at hl 1 rfl) ?_
  refine lv_iload_n hx hb dX9_dot_16 rfl (lv_at hl 2 rfl) ?_
  refine g_VI (As := [.int (nI j), .int (nI i)]) (rest := []) ⟨hx, hb, hml, hown, hts⟩ hG hN (i := 12) (by decide) rfl rfl (c_X2_hasDot l j i (by omega) (by omega)) (cwV 2 hts gX9_dot_X2_hasDot rfl rfl rfl (by decide +kernel) ⟨Nat.le_of_ble_eq_true rfl, Nat.le_of_ble_eq_true rfl⟩) rfl hl.1 rfl (Nat.le_of_ble_eq_true rfl) dX9_dot_17 ⟨Nat.le_of_ble_eq_true rfl, Nat.le_of_ble_eq_true rfl⟩ (fun H locs hN => ?_)
  exact vx_ret <| g_rz hx hb hr hlocks (g_nz _) hN (⟨by simp [fDot, h1, h5], by simp [nI_clamp (show j < 2 ^ 31 by omega), nI_clamp (show i < 2 ^ 31 by omega), h1, h5], by simp [nI_clamp (show j < 2 ^ 31 by omega), nI_clamp (show i < 2 ^ 31 by omega), h1, h5]⟩) dX9_dot_20
set_option maxHeartbeats 4000000 in
set_option maxRecDepth 100000 in
theorem c_X9_unit (l : Launch) (hl9 : l.stackTraces = false) {D : va_G} {ad : Nat → Nat} {cs : Nat → ClassId} {zd : Nat → Nat} {F V : gF} {o : gO} {sz : Nat} (u w : Int32) : vx_Met l yX9_unit wsX9_unit ({ frames := 7, cells := 2, slots := 12, locals := 112 } : Room) (gPc D ad cs zd F V o sz [.ref (ad 0), .int u, .int w]) (gQi D ad cs sz (fun r9 u9 => fUni u w = 0 ∧ r9 = rUni F (u.toNatClampNeg) (w.toNatClampNeg) ∧ u9 = (F, V, o))) (gXC D ad cs F V o (fun a => (a = gE0 ∧ fUni u w = 1) ∨ (a = gE1 ∧ fUni u w = 2)) sz) 2 12 (gX ad sz) := by
  refine g_metX (Qc := fun z0 => gQi D ad cs z0 (fun r9 u9 => fUni u w = 0 ∧ r9 = rUni F (u.toNatClampNeg) (w.toNatClampNeg) ∧ u9 = (F, V, o))) (XC := fun z0 => gXC D ad cs F V o (fun a => (a = gE0 ∧ fUni u w = 1) ∨ (a = gE1 ∧ fUni u w = 2)) z0) (cc := cX9_unit) (maxL := 3) (ret := (some .int)) (own := RX9) (by decide +kernel) rfl rfl (Nat.le_of_ble_eq_true rfl) ?_
  intro p0 e0 s0 m0 b0 k0 c0 hx hb hr hts hown hlocks hml hout hG hN ls hl
  have hl : lv_has ls 3 [(0, .ref (ad 0)), (1, .int u), (2, .int w)] := hl
  have hin_9 : ∀ w ∈ wsX90, w ∈ wsX9_unit := by decide +kernel
  have hk_47 := hts (.fieldLink RX9 47 "GravureHouse" "press" "LGravureHouse$Press;") (by decide +kernel)
  have hk_33 := hts (.fieldLink RX9 33 "GravureHouse" "plateSet" "LGravureHouse$PlateSet;") (by decide +kernel)
  have hk_40 := hts (.fieldLink RX9 40 "GravureHouse" "registers" "LGravureHouse$Registers;") (by decide +kernel)
  refine lv_iload_n hx hb dX9_unit_0 rfl (lv_at hl 1 rfl) ?_
  refine lv_iconst (v := 4) hx hb dX9_unit_1 (by decide) ?_
  refine g_xS (As := [.int u, .int 4]) (rest := []) ⟨hx, hb, hml, hown, hts⟩ hG hN (c_X9_needIndex l hl9 u 4) (va_cwS 2 hts gX9_unit_X9_needIndex rfl rfl rfl (by decide +kernel) ⟨Nat.le_of_ble_eq_true rfl, Nat.le_of_ble_eq_true rfl⟩) rfl hl.1 rfl (Nat.le_of_ble_eq_true rfl) dX9_unit_2 ⟨Nat.le_of_ble_eq_true rfl, Nat.le_of_ble_eq_true rfl⟩ hout hlocks (fun a h => Or.inl (⟨h.1, by simp [fUni, h.2]⟩)) ⟨by omega, by omega⟩ (fun Fq2 Vq3 oq4 H locs h1 hN => ?_)
  obtain ⟨eq9, h1⟩ := h1
  cases eq9
  obtain ⟨j, hj, ej⟩ := gIdx_n 4 rfl (by decide) h1
  subst ej
  refine lv_iload_n hx hb dX9_unit_5 rfl (lv_at hl 2 rfl) ?_
  refine lv_iconst (v := 0) hx hb dX9_unit_6 (by decide) ?_
  refine lv_bipush (v := 9) hx hb dX9_unit_7 (by decide) ?_
  refine g_xS (As := [.int w, .int 0, .int 9]) (rest := []) ⟨hx, hb, hml, hown, hts⟩ hG hN (c_X9_needRange l hl9 w 0 9) (va_cwS 3 hts gX9_unit_X9_needRange rfl rfl rfl (by decide +kernel) ⟨Nat.le_of_ble_eq_true rfl, Nat.le_of_ble_eq_true rfl⟩) rfl hl.1 rfl (Nat.le_of_ble_eq_true rfl) dX9_unit_9 ⟨Nat.le_of_ble_eq_true rfl, Nat.le_of_ble_eq_true rfl⟩ hout hlocks (fun a h => Or.inr (⟨h.1, by simp [fUni, h.2, h1]⟩)) ⟨by omega, by omega⟩ (fun Fq6 Vq7 oq8 H locs h5 hN => ?_)
  obtain ⟨eq9, h5⟩ := h5
  cases eq9
  obtain ⟨i, hi, ei⟩ := gRng_n 9 rfl (by decide) h5
  subst ei
  refine lv_iload_n hx hb dX9_unit_12 rfl (lv_at hl 2 rfl) ?_
  refine g_ifN_ne (a := i) (tgt := 25) hx hb dX9_unit_13 (by decide) rfl (by omega) (fun c9 => ?_) (fun c9 => ?_)
  · refine lv_iload_n hx hb dX9_unit_25 rfl (lv_at hl 2 rfl) ?_
    refine lv_iconst (v := 1) hx hb dX9_unit_26 (by decide) ?_
    refine g_cN_ne (a := i) (b := 1) (tgt := 39) hx hb dX9_unit_27 (by decide) rfl rfl (by omega) (by omega) (fun c10 => ?_) (fun c10 => ?_)
    · refine lv_aload_n hx hb dX9_unit_39 rfl (lv_at hl 0 rfl) ?_
      refine gf_0_5 hx hb hts hin_9 hown hG hN hk_47 dX9_unit_40 ?_
      refine lv_iload_n hx hb dX9_unit_43 rfl (lv_at hl 1 rfl) ?_
      refine lv_iload_n hx hb dX9_unit_44 rfl (lv_at hl 2 rfl) ?_
      refine lv_iconst (v := 2) hx hb dX9_unit_45 (by decide) ?_
      refine g_subN (a := i) (b := 2) hx hb rfl rfl (by omega) dX9_unit_46 ?_
      refine lv_aload_n hx hb dX9_unit_47 rfl (lv_at hl 0 rfl) ?_
      refine gf_0_3 hx hb hts hin_9 hown hG hN hk_33 dX9_unit_48 ?_
      refine g_VI (As := [.int (nI j), .int (nI (i - 2)), .ref (ad 12)]) (rest := []) ⟨hx, hb, hml, hown, hts⟩ hG hN (i := 27) (by decide) rfl rfl (c_X3_density l j (i - 2) (by omega) (by omega)) (cwV 3 hts gX9_unit_X3_density rfl rfl rfl (by decide +kernel) ⟨Nat.le_of_ble_eq_true rfl, Nat.le_of_ble_eq_true rfl⟩) rfl hl.1 rfl (Nat.le_of_ble_eq_true rfl) dX9_unit_51 ⟨Nat.le_of_ble_eq_true rfl, Nat.le_of_ble_eq_true rfl⟩ (fun H locs hN => ?_)
      exact vx_ret <| g_ri hx hb hr hlocks hN (⟨by simp [fUni, h1, h5], by rw [nI_clamp (show i < 2 ^ 31 by omega), nI_clamp (show j < 2 ^ 31 by omega)]; simp [rUni, c9, c10, Nat.ne_of_gt c9, gw], rfl⟩) dX9_unit_54
    · refine lv_aload_n hx hb dX9_unit_30 rfl (lv_at hl 0 rfl) ?_
      refine gf_0_4 hx hb hts hin_9 hown hG hN hk_40 dX9_unit_31 ?_
      refine lv_iload_n hx hb dX9_unit_34 rfl (lv_at hl 1 rfl) ?_
      refine g_VI (As := [.int (nI j)]) (rest := []) ⟨hx, hb, hml, hown, hts⟩ hG hN (i := 18) (by decide) rfl rfl (c_X5_y l j (by omega)) (cwV 1 hts gX9_unit_X5_y rfl rfl rfl (by decide +kernel) ⟨Nat.le_of_ble_eq_true rfl, Nat.le_of_ble_eq_true rfl⟩) rfl hl.1 rfl (Nat.le_of_ble_eq_true rfl) dX9_unit_35 ⟨Nat.le_of_ble_eq_true rfl, Nat.le_of_ble_eq_true rfl⟩ (fun H locs hN => ?_)
      exact vx_ret <| g_ri hx hb hr hlocks hN (⟨by simp [fUni, h1, h5], by rw [nI_clamp (show i < 2 ^ 31 by omega), nI_clamp (show j < 2 ^ 31 by omega)]; simp [rUni, c9, c10, Nat.ne_of_gt c9, gw], rfl⟩) dX9_unit_38
  · refine lv_aload_n hx hb dX9_unit_16 rfl (lv_at hl 0 rfl) ?_
    refine gf_0_4 hx hb hts hin_9 hown hG hN hk_40 dX9_unit_17 ?_
    refine lv_iload_n hx hb dX9_unit_20 rfl (lv_at hl 1 rfl) ?_
    refine g_VI (As := [.int (nI j)]) (rest := []) ⟨hx, hb, hml, hown, hts⟩ hG hN (i := 18) (by decide) rfl rfl (c_X5_x l j (by omega)) (cwV 1 hts gX9_unit_X5_x rfl rfl rfl (by decide +kernel) ⟨Nat.le_of_ble_eq_true rfl, Nat.le_of_ble_eq_true rfl⟩) rfl hl.1 rfl (Nat.le_of_ble_eq_true rfl) dX9_unit_21 ⟨Nat.le_of_ble_eq_true rfl, Nat.le_of_ble_eq_true rfl⟩ (fun H locs hN => ?_)
    exact vx_ret <| g_ri hx hb hr hlocks hN (⟨by simp [fUni, h1, h5], by rw [nI_clamp (show i < 2 ^ 31 by omega), nI_clamp (show j < 2 ^ 31 by omega)]; simp [rUni, c9, gw], rfl⟩) dX9_unit_24
theorem gAt_X9_all_1 : ∀ w ∈ (vx_atS RX9 85 gE1 ["java/lang/RuntimeException", "java/lang/Exception"]).filter goodWord, w ∈ wsX9_all := by decide +kernel
set_option maxHeartbeats 4000000 in
set_option maxRecDepth 100000 in
theorem c_X9_all (l : Launch) (hl9 : l.stackTraces = false) {D : va_G} {ad : Nat → Nat} {cs : Nat → ClassId} {zd : Nat → Nat} {F V : gF} {o : gO} {sz : Nat} (w : Int32) : vx_Met l yX9_all wsX9_all ({ frames := 6, cells := 1, slots := 6, locals := 90 } : Room) (gPc D ad cs zd F V o sz [.ref (ad 0), .int w]) (gQi D ad cs sz (fun r9 u9 => fAll w = 0 ∧ r9 = rAll V w ∧ u9 = (F, V, o))) (gXC D ad cs F V o (fun a => (a = gE1 ∧ fAll w = 1)) sz) 1 6 (gX ad sz) := by
  refine g_metX (Qc := fun z0 => gQi D ad cs z0 (fun r9 u9 => fAll w = 0 ∧ r9 = rAll V w ∧ u9 = (F, V, o))) (XC := fun z0 => gXC D ad cs F V o (fun a => (a = gE1 ∧ fAll w = 1)) z0) (cc := cX9_all) (maxL := 2) (ret := (some .int)) (own := RX9) (by decide +kernel) rfl rfl (Nat.le_of_ble_eq_true rfl) ?_
  intro p0 e0 s0 m0 b0 k0 c0 hx hb hr hts hown hlocks hml hout hG hN ls hl
  have hl : lv_has ls 2 [(0, .ref (ad 0)), (1, .int w)] := hl
  have hin_9 : ∀ w ∈ wsX90, w ∈ wsX9_all := by decide +kernel
  have hat_1 : ∀ w9 ∈ (vx_atS RX9 85 gE1 ["java/lang/RuntimeException", "java/lang/Exception"]).filter goodWord, w9.before ([.ref (ad 0), .int w] : List Value).toArray s0 = true := fun w9 hw => hts w9 (gAt_X9_all_1 w9 hw)
  have hk_47 := hts (.fieldLink RX9 47 "GravureHouse" "press" "LGravureHouse$Press;") (by decide +kernel)
  have hk_54 := hts (.fieldLink RX9 54 "GravureHouse" "work" "LGravureHouse$Job;") (by decide +kernel)
  have hk_40 := hts (.fieldLink RX9 40 "GravureHouse" "registers" "LGravureHouse$Registers;") (by decide +kernel)
  have hn1_1 := hts (.classLink RX9 81 gE1) (by decide +kernel)
  have hn2_1 := hts (.initialized gE1) (by decide +kernel)
  refine lv_iload_n hx hb dX9_all_0 rfl (lv_at hl 1 rfl) ?_
  by_cases e1 : w = 0
  · refine lv_tableIn (off := 43) (tgt := 44) hx hb dX9_all_1 (by rw [e1]; decide) (by rw [e1]; decide) (by rw [e1]; rfl) (by decide) ?_
    refine lv_aload_n hx hb dX9_all_44 rfl (lv_at hl 0 rfl) ?_
    refine gf_0_5 hx hb hts hin_9 hown hG hN hk_47 dX9_all_45 ?_
    refine g_VI (As := []) (rest := []) ⟨hx, hb, hml, hown, hts⟩ hG hN (i := 27) (by decide) rfl rfl (c_X3_printed l ) (cwV 0 hts gX9_all_X3_printed rfl rfl rfl (by decide +kernel) ⟨Nat.le_of_ble_eq_true rfl, Nat.le_of_ble_eq_true rfl⟩) rfl hl.1 rfl (Nat.le_of_ble_eq_true rfl) dX9_all_48 ⟨Nat.le_of_ble_eq_true rfl, Nat.le_of_ble_eq_true rfl⟩ (fun H locs hN => ?_)
    refine W.widen (k := 1) (n := 6) (by omega) (by omega) ?_
    exact vx_ret <| g_ri hx hb hr hlocks hN (⟨by simp [fAll, gRng, e1], by simp [rAll, e1], rfl⟩) dX9_all_51
  by_cases e2 : w = 1
  · refine lv_tableIn (off := 51) (tgt := 52) hx hb dX9_all_1 (by rw [e2]; decide) (by rw [e2]; decide) (by rw [e2]; rfl) (by decide) ?_
    refine lv_aload_n hx hb dX9_all_52 rfl (lv_at hl 0 rfl) ?_
    refine gf_0_5 hx hb hts hin_9 hown hG hN hk_47 dX9_all_53 ?_
    refine g_VI (As := []) (rest := []) ⟨hx, hb, hml, hown, hts⟩ hG hN (i := 27) (by decide) rfl rfl (c_X3_good l ) (cwV 0 hts gX9_all_X3_good rfl rfl rfl (by decide +kernel) ⟨Nat.le_of_ble_eq_true rfl, Nat.le_of_ble_eq_true rfl⟩) rfl hl.1 rfl (Nat.le_of_ble_eq_true rfl) dX9_all_56 ⟨Nat.le_of_ble_eq_true rfl, Nat.le_of_ble_eq_true rfl⟩ (fun H locs hN => ?_)
    refine W.widen (k := 1) (n := 6) (by omega) (by omega) ?_
    exact vx_ret <| g_ri hx hb hr hlocks hN (⟨by simp [fAll, gRng, e2], by simp [rAll, e2], rfl⟩) dX9_all_59
  by_cases e3 : w = 2
  · refine lv_tableIn (off := 59) (tgt := 60) hx hb dX9_all_1 (by rw [e3]; decide) (by rw [e3]; decide) (by rw [e3]; rfl) (by decide) ?_
    refine lv_aload_n hx hb dX9_all_60 rfl (lv_at hl 0 rfl) ?_
    refine gf_0_5 hx hb hts hin_9 hown hG hN hk_47 dX9_all_61 ?_
    refine g_VI (As := []) (rest := []) ⟨hx, hb, hml, hown, hts⟩ hG hN (i := 27) (by decide) rfl rfl (c_X3_printed l ) (cwV 0 hts gX9_all_X3_printed rfl rfl rfl (by decide +kernel) ⟨Nat.le_of_ble_eq_true rfl, Nat.le_of_ble_eq_true rfl⟩) rfl hl.1 rfl (Nat.le_of_ble_eq_true rfl) dX9_all_64 ⟨Nat.le_of_ble_eq_true rfl, Nat.le_of_ble_eq_true rfl⟩ (fun H locs hN => ?_)
    refine lv_aload_n hx hb dX9_all_67 rfl (lv_at hl 0 rfl) ?_
    refine gf_0_5 hx hb hts hin_9 hown hG hN hk_47 dX9_all_68 ?_
    refine g_VI (As := []) (rest := [.int (V 27 2)]) ⟨hx, hb, hml, hown, hts⟩ hG hN (i := 27) (by decide) rfl rfl (c_X3_good l ) (cwV 0 hts gX9_all_X3_good rfl rfl rfl (by decide +kernel) ⟨Nat.le_of_ble_eq_true rfl, Nat.le_of_ble_eq_true rfl⟩) rfl hl.1 rfl (Nat.le_of_ble_eq_true rfl) dX9_all_71 ⟨Nat.le_of_ble_eq_true rfl, Nat.le_of_ble_eq_true rfl⟩ (fun H locs hN => ?_)
    refine lv_isub hx hb dX9_all_74 ?_
    refine W.widen (k := 1) (n := 6) (by omega) (by omega) ?_
    exact vx_ret <| g_ri hx hb hr hlocks hN (⟨by simp [fAll, gRng, e3], by simp [rAll, e3], rfl⟩) dX9_all_75
  by_cases e4 : w = 3
  · refine lv_tableIn (off := 75) (tgt := 76) hx hb dX9_all_1 (by rw [e4]; decide) (by rw [e4]; decide) (by rw [e4]; rfl) (by decide) ?_
    refine lv_aload_n hx hb dX9_all_76 rfl (lv_at hl 0 rfl) ?_
    refine gf_0_5 hx hb hts hin_9 hown hG hN hk_47 dX9_all_77 ?_
    refine g_VI (As := []) (rest := []) ⟨hx, hb, hml, hown, hts⟩ hG hN (i := 27) (by decide) rfl rfl (c_X3_wasteByRegister l ) (cwV 0 hts gX9_all_X3_wasteByRegister rfl rfl rfl (by decide +kernel) ⟨Nat.le_of_ble_eq_true rfl, Nat.le_of_ble_eq_true rfl⟩) rfl hl.1 rfl (Nat.le_of_ble_eq_true rfl) dX9_all_80 ⟨Nat.le_of_ble_eq_true rfl, Nat.le_of_ble_eq_true rfl⟩ (fun H locs hN => ?_)
    refine W.widen (k := 1) (n := 6) (by omega) (by omega) ?_
    exact vx_ret <| g_ri hx hb hr hlocks hN (⟨by simp [fAll, gRng, e4], by simp [rAll, e4], rfl⟩) dX9_all_83
  by_cases e5 : w = 4
  · refine lv_tableIn (off := 83) (tgt := 84) hx hb dX9_all_1 (by rw [e5]; decide) (by rw [e5]; decide) (by rw [e5]; rfl) (by decide) ?_
    refine lv_aload_n hx hb dX9_all_84 rfl (lv_at hl 0 rfl) ?_
    refine gf_0_5 hx hb hts hin_9 hown hG hN hk_47 dX9_all_85 ?_
    refine g_VI (As := []) (rest := []) ⟨hx, hb, hml, hown, hts⟩ hG hN (i := 27) (by decide) rfl rfl (c_X3_wasteByDensity l ) (cwV 0 hts gX9_all_X3_wasteByDensity rfl rfl rfl (by decide +kernel) ⟨Nat.le_of_ble_eq_true rfl, Nat.le_of_ble_eq_true rfl⟩) rfl hl.1 rfl (Nat.le_of_ble_eq_true rfl) dX9_all_88 ⟨Nat.le_of_ble_eq_true rfl, Nat.le_of_ble_eq_true rfl⟩ (fun H locs hN => ?_)
    refine W.widen (k := 1) (n := 6) (by omega) (by omega) ?_
    exact vx_ret <| g_ri hx hb hr hlocks hN (⟨by simp [fAll, gRng, e5], by simp [rAll, e5], rfl⟩) dX9_all_91
  by_cases e6 : w = 5
  · refine lv_tableIn (off := 91) (tgt := 92) hx hb dX9_all_1 (by rw [e6]; decide) (by rw [e6]; decide) (by rw [e6]; rfl) (by decide) ?_
    refine lv_aload_n hx hb dX9_all_92 rfl (lv_at hl 0 rfl) ?_
    refine gf_0_6 hx hb hts hin_9 hown hG hN hk_54 dX9_all_93 ?_
    refine g_VI (As := []) (rest := []) ⟨hx, hb, hml, hown, hts⟩ hG hN (i := 33) (by decide) rfl rfl (c_X0_toPrint l ) (cwV 0 hts gX9_all_X0_toPrint rfl rfl rfl (by decide +kernel) ⟨Nat.le_of_ble_eq_true rfl, Nat.le_of_ble_eq_true rfl⟩) rfl hl.1 rfl (Nat.le_of_ble_eq_true rfl) dX9_all_96 ⟨Nat.le_of_ble_eq_true rfl, Nat.le_of_ble_eq_true rfl⟩ (fun H locs hN => ?_)
    refine W.widen (k := 1) (n := 6) (by omega) (by omega) ?_
    exact vx_ret <| g_ri hx hb hr hlocks hN (⟨by simp [fAll, gRng, e6], by simp [rAll, e6], rfl⟩) dX9_all_99
  by_cases e7 : w = 6
  · refine lv_tableIn (off := 99) (tgt := 100) hx hb dX9_all_1 (by rw [e7]; decide) (by rw [e7]; decide) (by rw [e7]; rfl) (by decide) ?_
    refine lv_aload_n hx hb dX9_all_100 rfl (lv_at hl 0 rfl) ?_
    refine gf_0_4 hx hb hts hin_9 hown hG hN hk_40 dX9_all_101 ?_
    refine g_VI (As := []) (rest := []) ⟨hx, hb, hml, hown, hts⟩ hG hN (i := 18) (by decide) rfl rfl (c_X5_toCome l ) (cwV 0 hts gX9_all_X5_toCome rfl rfl rfl (by decide +kernel) ⟨Nat.le_of_ble_eq_true rfl, Nat.le_of_ble_eq_true rfl⟩) rfl hl.1 rfl (Nat.le_of_ble_eq_true rfl) dX9_all_104 ⟨Nat.le_of_ble_eq_true rfl, Nat.le_of_ble_eq_true rfl⟩ (fun H locs hN => ?_)
    refine W.widen (k := 1) (n := 6) (by omega) (by omega) ?_
    exact vx_ret <| g_ri hx hb hr hlocks hN (⟨by simp [fAll, gRng, e7], by simp [rAll, e7], rfl⟩) dX9_all_107
  have h8 : w.toInt < 0 ∨ 6 < w.toInt := by
    have := lv_neT (a := 0) e1 (by decide)
    have := lv_neT (a := 1) e2 (by decide)
    have := lv_neT (a := 2) e3 (by decide)
    have := lv_neT (a := 3) e4 (by decide)
    have := lv_neT (a := 4) e5 (by decide)
    have := lv_neT (a := 5) e6 (by decide)
    have := lv_neT (a := 6) e7 (by decide)
    omega
  refine lv_tableOut (tgt := 108) hx hb dX9_all_1 h8 (by decide) ?_
  exact g_throw hx hb hl9 (cls := gE1) (text := "no such sum") (ik := 81) (ix := 232) (ic := 85) hown (by decide) hn1_1 hn2_1 (by decide) hG hN hat_1 gBt_1 (by decide) gGd_1 (hl.1.trans hml.symm) dX9_all_108 dX9_all_111 dX9_all_112 dX9_all_114 dX9_all_117 hout ⟨Nat.le_of_ble_eq_true rfl, Nat.le_of_ble_eq_true rfl, Nat.le_of_ble_eq_true rfl, Nat.le_of_ble_eq_true rfl⟩ (Nat.le_of_ble_eq_true rfl) hlocks (⟨rfl, by simp [fAll, gRng_o (lo := 0) (hi := 6) h8]⟩) (by omega) (by omega)
