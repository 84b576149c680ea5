theorem gAt_X9_needIndex_0 : ∀ w ∈ (vx_atS RX9 238 gE0 ["java/lang/RuntimeException", "java/lang/Exception"]).filter goodWord, w ∈ wsX9_needIndex := by decide +kernel
set_option maxHeartbeats 4000000 in
set_option maxRecDepth 100000 in
theorem c_X9_needIndex (l : Launch) (hl9 : l.stackTraces = false) {D : va_G} {ad : Nat → Nat} {cs : Nat → ClassId} {zd : Nat → Nat} {F V : gF} {o : gO} {sz : Nat} (x n : Int32) : vx_Met l yX9_needIndex wsX9_needIndex ({ frames := 6, cells := 1, slots := 6, locals := 90 } : Room) (gPc D ad cs zd F V o sz [.int x, .int n]) (gQv D ad cs sz (fun u9 => u9 = (F, V, o) ∧ gIdx x n = true)) (gXC D ad cs F V o (fun a => a = gE0 ∧ gIdx x n = false) sz) 1 6 (gX ad sz) := by
  refine g_metX (Qc := fun z0 => gQv D ad cs z0 (fun u9 => u9 = (F, V, o) ∧ gIdx x n = true)) (XC := fun z0 => gXC D ad cs F V o (fun a => a = gE0 ∧ gIdx x n = false) z0) (cc := cX9_needIndex) (maxL := 2) (ret := none) (own := RX9) (by decide +kernel) rfl rfl (Nat.le_of_ble_eq_true rfl) ?_
  intro p0 e0 s0 m0 b0 k0 c0 hx hb hr hts hown hlocks hml hout hG hN ls hl
  have hl : lv_has ls 2 [(0, .int x), (1, .int n)] := hl
  have hat_0 : ∀ w ∈ (vx_atS RX9 238 gE0 ["java/lang/RuntimeException", "java/lang/Exception"]).filter goodWord, w.before ([.int x, .int n] : List Value).toArray s0 = true := fun w hw => hts w (gAt_X9_needIndex_0 w hw)
  have hn1_0 := hts (.classLink RX9 234 gE0) (by decide +kernel)
  have hn2_0 := hts (.initialized gE0) (by decide +kernel)
  refine lv_iload_n hx hb dX9_needIndex_0 rfl (lv_at hl 0 rfl) ?_
  refine lv_if_lt (tgt := 9) hx hb dX9_needIndex_1 (by decide) (fun c1 => ?_) (fun c1 => ?_)
  · exact g_throw hx hb hl9 (cls := gE0) (text := "no such cell, ink, unit, column or copy") (ik := 234) (ix := 236) (ic := 238) hown (by decide) hn1_0 hn2_0 (by decide) hG hN hat_0 gBt_0 (by decide) gGd_0 (hl.1.trans hml.symm) dX9_needIndex_9 dX9_needIndex_12 dX9_needIndex_13 dX9_needIndex_15 dX9_needIndex_18 hout ⟨Nat.le_of_ble_eq_true rfl, Nat.le_of_ble_eq_true rfl, Nat.le_of_ble_eq_true rfl, Nat.le_of_ble_eq_true rfl⟩ (Nat.le_of_ble_eq_true rfl) hlocks (⟨rfl, gIdx_f1 c1⟩) (by omega) (by omega)
  · refine lv_iload_n hx hb dX9_needIndex_4 rfl (lv_at hl 0 rfl) ?_
    refine lv_iload_n hx hb dX9_needIndex_5 rfl (lv_at hl 1 rfl) ?_
    refine lv_icmp_lt (tgt := 19) hx hb dX9_needIndex_6 (by decide) (fun c2 => ?_) (fun c2 => ?_)
    · refine W.widen (k := 1) (n := 6) (by omega) (by omega) ?_
      exact vx_ret <| g_rv hx hb hr hlocks hN (⟨rfl, gIdx_t c1 c2⟩) dX9_needIndex_19
    · exact g_throw hx hb hl9 (cls := gE0) (text := "no such cell, ink, unit, column or copy") (ik := 234) (ix := 236) (ic := 238) hown (by decide) hn1_0 hn2_0 (by decide) hG hN hat_0 gBt_0 (by decide) gGd_0 (hl.1.trans hml.symm) dX9_needIndex_9 dX9_needIndex_12 dX9_needIndex_13 dX9_needIndex_15 dX9_needIndex_18 hout ⟨Nat.le_of_ble_eq_true rfl, Nat.le_of_ble_eq_true rfl, Nat.le_of_ble_eq_true rfl, Nat.le_of_ble_eq_true rfl⟩ (Nat.le_of_ble_eq_true rfl) hlocks (⟨rfl, gIdx_f2 c2⟩) (by omega) (by omega)
theorem gAt_X9_needRange_1 : ∀ w ∈ (vx_atS RX9 85 gE1 ["java/lang/RuntimeException", "java/lang/Exception"]).filter goodWord, w ∈ wsX9_needRange := by decide +kernel
set_option maxHeartbeats 4000000 in
set_option maxRecDepth 100000 in
theorem c_X9_needRange (l : Launch) (hl9 : l.stackTraces = false) {D : va_G} {ad : Nat → Nat} {cs : Nat → ClassId} {zd : Nat → Nat} {F V : gF} {o : gO} {sz : Nat} (x n h : Int32) : vx_Met l yX9_needRange wsX9_needRange ({ frames := 6, cells := 1, slots := 6, locals := 90 } : Room) (gPc D ad cs zd F V o sz [.int x, .int n, .int h]) (gQv D ad cs sz (fun u9 => u9 = (F, V, o) ∧ gRng x n h = true)) (gXC D ad cs F V o (fun a => a = gE1 ∧ gRng x n h = false) sz) 1 6 (gX ad sz) := by
  refine g_metX (Qc := fun z0 => gQv D ad cs z0 (fun u9 => u9 = (F, V, o) ∧ gRng x n h = true)) (XC := fun z0 => gXC D ad cs F V o (fun a => a = gE1 ∧ gRng x n h = false) z0) (cc := cX9_needRange) (maxL := 3) (ret := none) (own := RX9) (by decide +kernel) rfl rfl (Nat.le_of_ble_eq_true rfl) ?_
  intro p0 e0 s0 m0 b0 k0 c0 hx hb hr hts hown hlocks hml hout hG hN ls hl
  have hl : lv_has ls 3 [(0, .int x), (1, .int n), (2, .int h)] := hl
  have hat_1 : ∀ w ∈ (vx_atS RX9 85 gE1 ["java/lang/RuntimeException", "java/lang/Exception"]).filter goodWord, w.before ([.int x, .int n, .int h] : List Value).toArray s0 = true := fun w hw => hts w (gAt_X9_needRange_1 w hw)
  have hn1_1 := hts (.classLink RX9 81 gE1) (by decide +kernel)
  have hn2_1 := hts (.initialized gE1) (by decide +kernel)
  refine lv_iload_n hx hb dX9_needRange_0 rfl (lv_at hl 0 rfl) ?_
  refine lv_iload_n hx hb dX9_needRange_1 rfl (lv_at hl 1 rfl) ?_
  refine lv_icmp_lt (tgt := 10) hx hb dX9_needRange_2 (by decide) (fun c1 => ?_) (fun c1 => ?_)
  · exact g_throw hx hb hl9 (cls := gE1) (text := "out of range") (ik := 81) (ix := 239) (ic := 85) hown (by decide) hn1_1 hn2_1 (by decide) hG hN hat_1 gBt_1 (by decide) gGd_1 (hl.1.trans hml.symm) dX9_needRange_10 dX9_needRange_13 dX9_needRange_14 dX9_needRange_16 dX9_needRange_19 hout ⟨Nat.le_of_ble_eq_true rfl, Nat.le_of_ble_eq_true rfl, Nat.le_of_ble_eq_true rfl, Nat.le_of_ble_eq_true rfl⟩ (Nat.le_of_ble_eq_true rfl) hlocks (⟨rfl, gRng_f1 c1⟩) (by omega) (by omega)
  · refine lv_iload_n hx hb dX9_needRange_5 rfl (lv_at hl 0 rfl) ?_
    refine lv_iload_n hx hb dX9_needRange_6 rfl (lv_at hl 2 rfl) ?_
    refine lv_icmp_le (tgt := 20) hx hb dX9_needRange_7 (by decide) (fun c2 => ?_) (fun c2 => ?_)
    · refine W.widen (k := 1) (n := 6) (by omega) (by omega) ?_
      exact vx_ret <| g_rv hx hb hr hlocks hN (⟨rfl, gRng_t c1 c2⟩) dX9_needRange_20
    · exact g_throw hx hb hl9 (cls := gE1) (text := "out of range") (ik := 81) (ix := 239) (ic := 85) hown (by decide) hn1_1 hn2_1 (by decide) hG hN hat_1 gBt_1 (by decide) gGd_1 (hl.1.trans hml.symm) dX9_needRange_10 dX9_needRange_13 dX9_needRange_14 dX9_needRange_16 dX9_needRange_19 hout ⟨Nat.le_of_ble_eq_true rfl, Nat.le_of_ble_eq_true rfl, Nat.le_of_ble_eq_true rfl, Nat.le_of_ble_eq_true rfl⟩ (Nat.le_of_ble_eq_true rfl) hlocks (⟨rfl, gRng_f2 c2⟩) (by omega) (by omega)
theorem gAt_X9_needProof_2 : ∀ w ∈ (vx_atS RX9 96 gE2 ["java/lang/RuntimeException", "java/lang/Exception"]).filter goodWord, w ∈ wsX9_needProof := by decide +kernel
set_option maxHeartbeats 4000000 in
set_option maxRecDepth 100000 in
theorem c_X9_needProof (l : Launch) (hl9 : l.stackTraces = false) {D : va_G} {ad : Nat → Nat} {cs : Nat → ClassId} {zd : Nat → Nat} {F V : gF} {o : gO} {sz : Nat}  (hz : narrow .boolean (.int (V 37 1)) = .int (V 37 1)) : vx_Met l yX9_needProof wsX9_needProof ({ frames := 6, cells := 1, slots := 6, locals := 90 } : Room) (gPc D ad cs zd F V o sz [.ref (ad 0)]) (gQv D ad cs sz (fun u9 => u9 = (F, V, o) ∧ ¬ V 37 1 = 0)) (gXC D ad cs F V o (fun a => a = gE2 ∧ V 37 1 = 0) sz) 1 6 (gX ad sz) := by
  refine g_metX (Qc := fun z0 => gQv D ad cs z0 (fun u9 => u9 = (F, V, o) ∧ ¬ V 37 1 = 0)) (XC := fun z0 => gXC D ad cs F V o (fun a => a = gE2 ∧ V 37 1 = 0) z0) (cc := cX9_needProof) (maxL := 1) (ret := none) (own := RX9) (by decide +kernel) rfl rfl (Nat.le_of_ble_eq_true rfl) ?_
  intro p0 e0 s0 m0 b0 k0 c0 hx hb hr hts hown hlocks hml hout hG hN ls hl
  have hl : lv_has ls 1 [(0, .ref (ad 0))] := hl
  have hin_9 : ∀ w ∈ wsX90, w ∈ wsX9_needProof := by decide +kernel
  have hat_2 : ∀ w ∈ (vx_atS RX9 96 gE2 ["java/lang/RuntimeException", "java/lang/Exception"]).filter goodWord, w.before ([.ref (ad 0)] : List Value).toArray s0 = true := fun w hw => hts w (gAt_X9_needProof_2 w hw)
  have hk_61 := hts (.fieldLink RX9 61 "GravureHouse" "proof" "LGravureHouse$Proof;") (by decide +kernel)
  have hn1_2 := hts (.classLink RX9 92 gE2) (by decide +kernel)
  have hn2_2 := hts (.initialized gE2) (by decide +kernel)
  refine lv_aload_n hx hb dX9_needProof_0 rfl (lv_at hl 0 rfl) ?_
  refine gf_0_7 hx hb hts hin_9 hown hG hN hk_61 dX9_needProof_1 ?_
  refine g_VI (As := []) (rest := []) ⟨hx, hb, hml, hown, hts⟩ hG hN (i := 37) (by decide) rfl rfl (c_X4_isSigned l hz) (cwV 0 hts gX9_needProof_X4_isSigned rfl rfl rfl (by decide +kernel) ⟨Nat.le_of_ble_eq_true rfl, Nat.le_of_ble_eq_true rfl⟩) rfl hl.1 rfl (Nat.le_of_ble_eq_true rfl) dX9_needProof_4 ⟨Nat.le_of_ble_eq_true rfl, Nat.le_of_ble_eq_true rfl⟩ (fun H locs hN => ?_)
  refine lv_if_ne (tgt := 20) hx hb dX9_needProof_7 (by decide) (fun c1 => ?_) (fun c1 => ?_)
  · refine W.widen (k := 1) (n := 6) (by omega) (by omega) ?_
    exact vx_ret <| g_rv hx hb hr hlocks hN (⟨rfl, c1⟩) dX9_needProof_20
  · exact g_throw hx hb hl9 (cls := gE2) (text := "no proof") (ik := 92) (ix := 244) (ic := 96) hown (by decide) hn1_2 hn2_2 (by decide) hG hN hat_2 gBt_2 (by decide) gGd_2 (hl.1.trans hml.symm) dX9_needProof_10 dX9_needProof_13 dX9_needProof_14 dX9_needProof_16 dX9_needProof_19 hout ⟨Nat.le_of_ble_eq_true rfl, Nat.le_of_ble_eq_true rfl, Nat.le_of_ble_eq_true rfl, Nat.le_of_ble_eq_true rfl⟩ (Nat.le_of_ble_eq_true rfl) hlocks (⟨rfl, c1⟩) (by omega) (by omega)
set_option maxHeartbeats 4000000 in
set_option maxRecDepth 100000 in
theorem c_X9_colour (l : Launch) (hl9 : l.stackTraces = false) {D : va_G} {ad : Nat → Nat} {cs : Nat → ClassId} {zd : Nat → Nat} {F V : gF} {o : gO} {sz : Nat} (c x y z : Int32) : vx_Met l yX9_colour wsX9_colour ({ frames := 7, cells := 4, slots := 24, locals := 112 } : Room) (gPc D ad cs zd F V o sz [.ref (ad 0), .int c, .int x, .int y, .int z]) (gQv D ad cs sz (fun u9 => fCol c x y z = 0 ∧ u9 = (gw (gw (gw F 9 c.toNatClampNeg x) 10 c.toNatClampNeg y) 11 c.toNatClampNeg z, V, o))) (gXC D ad cs F V o (fun a => (a = gE0 ∧ fCol c x y z = 1) ∨ (a = gE1 ∧ fCol c x y z = 2)) sz) 4 24 (gX ad sz) := by
  refine g_metX (Qc := fun z0 => gQv D ad cs z0 (fun u9 => fCol c x y z = 0 ∧ u9 = (gw (gw (gw F 9 c.toNatClampNeg x) 10 c.toNatClampNeg y) 11 c.toNatClampNeg z, V, o))) (XC := fun z0 => gXC D ad cs F V o (fun a => (a = gE0 ∧ fCol c x y z = 1) ∨ (a = gE1 ∧ fCol c x y z = 2)) z0) (cc := cX9_colour) (maxL := 5) (ret := none) (own := RX9) (by decide +kernel) rfl rfl (Nat.le_of_ble_eq_true rfl) ?_
  intro p0 e0 s0 m0 b0 k0 c0 hx hb hr hts hown hlocks hml hout hG hN ls hl
  have hl : lv_has ls 5 [(0, .ref (ad 0)), (1, .int c), (2, .int x), (3, .int y), (4, .int z)] := hl
  have hin_9 : ∀ w ∈ wsX90, w ∈ wsX9_colour := by decide +kernel
  have hk_26 := hts (.fieldLink RX9 26 "GravureHouse" "picture" "LGravureHouse$Picture;") (by decide +kernel)
  refine lv_iload_n hx hb dX9_colour_0 rfl (lv_at hl 1 rfl) ?_
  refine lv_bipush (v := 64) hx hb dX9_colour_1 (by decide) ?_
  refine g_xS (As := [.int c, .int 64]) (rest := []) ⟨hx, hb, hml, hown, hts⟩ hG hN (c_X9_needIndex l hl9 c 64) (va_cwS 2 hts gX9_colour_X9_needIndex rfl rfl rfl (by decide +kernel) ⟨Nat.le_of_ble_eq_true rfl, Nat.le_of_ble_eq_true rfl⟩) rfl hl.1 rfl (Nat.le_of_ble_eq_true rfl) dX9_colour_3 ⟨Nat.le_of_ble_eq_true rfl, Nat.le_of_ble_eq_true rfl⟩ hout hlocks (fun a h => Or.inl (⟨h.1, by simp [fCol, h.2]⟩)) ⟨by omega, by omega⟩ (fun Fq2 Vq3 oq4 H locs h1 hN => ?_)
  obtain ⟨eq9, h1⟩ := h1
  cases eq9
  obtain ⟨j, hj, ej⟩ := gIdx_n 64 rfl (by decide) h1
  subst ej
  refine lv_iload_n hx hb dX9_colour_6 rfl (lv_at hl 2 rfl) ?_
  refine lv_iconst (v := 0) hx hb dX9_colour_7 (by decide) ?_
  refine lv_bipush (v := 100) hx hb dX9_colour_8 (by decide) ?_
  refine g_xS (As := [.int x, .int 0, .int 100]) (rest := []) ⟨hx, hb, hml, hown, hts⟩ hG hN (c_X9_needRange l hl9 x 0 100) (va_cwS 3 hts gX9_colour_X9_needRange rfl rfl rfl (by decide +kernel) ⟨Nat.le_of_ble_eq_true rfl, Nat.le_of_ble_eq_true rfl⟩) rfl hl.1 rfl (Nat.le_of_ble_eq_true rfl) dX9_colour_10 ⟨Nat.le_of_ble_eq_true rfl, Nat.le_of_ble_eq_true rfl⟩ hout hlocks (fun a h => Or.inr (⟨h.1, by simp [fCol, h.2, h1]⟩)) ⟨by omega, by omega⟩ (fun Fq6 Vq7 oq8 H locs h5 hN => ?_)
  obtain ⟨eq9, h5⟩ := h5
  cases eq9
  refine lv_iload_n hx hb dX9_colour_13 rfl (lv_at hl 3 rfl) ?_
  refine lv_iconst (v := 0) hx hb dX9_colour_14 (by decide) ?_
  refine lv_bipush (v := 100) hx hb dX9_colour_15 (by decide) ?_
  refine g_xS (As := [.int y, .int 0, .int 100]) (rest := []) ⟨hx, hb, hml, hown, hts⟩ hG hN (c_X9_needRange l hl9 y 0 100) (va_cwS 3 hts gX9_colour_X9_needRange rfl rfl rfl (by decide +kernel) ⟨Nat.le_of_ble_eq_true rfl, Nat.le_of_ble_eq_true rfl⟩) rfl hl.1 rfl (Nat.le_of_ble_eq_true rfl) dX9_colour_17 ⟨Nat.le_of_ble_eq_true rfl, Nat.le_of_ble_eq_true rfl⟩ hout hlocks (fun a h => Or.inr (⟨h.1, by simp [fCol, h.2, h1, h5]⟩)) ⟨by omega, by omega⟩ (fun Fq10 Vq11 oq12 H locs h9 hN => ?_)
  obtain ⟨eq9, h9⟩ := h9
  cases eq9
  refine lv_iload hx hb dX9_colour_20 (lv_at hl 4 rfl) ?_
  refine lv_iconst (v := 0) hx hb dX9_colour_22 (by decide) ?_
  refine lv_bipush (v := 100) hx hb dX9_colour_23 (by decide) ?_
  refine g_xS (As := [.int z, .int 0, .int 100]) (rest := []) ⟨hx, hb, hml, hown, hts⟩ hG hN (c_X9_needRange l hl9 z 0 100) (va_cwS 3 hts gX9_colour_X9_needRange rfl rfl rfl (by decide +kernel) ⟨Nat.le_of_ble_eq_true rfl, Nat.le_of_ble_eq_true rfl⟩) rfl hl.1 rfl (Nat.le_of_ble_eq_true rfl) dX9_colour_25 ⟨Nat.le_of_ble_eq_true rfl, Nat.le_of_ble_eq_true rfl⟩ hout hlocks (fun a h => Or.inr (⟨h.1, by simp [fCol, h.2, h1, h5, h9]⟩)) ⟨by omega, by omega⟩ (fun Fq14 Vq15 oq16 H locs h13 hN => ?_)
  obtain ⟨eq9, h13⟩ := h13
  cases eq9
  refine lv_aload_n hx hb dX9_colour_28 rfl (lv_at hl 0 rfl) ?_
  refine gf_0_2 hx hb hts hin_9 hown hG hN hk_26 dX9_colour_29 ?_
  refine lv_iload_n hx hb dX9_colour_32 rfl (lv_at hl 1 rfl) ?_
  refine lv_iload_n hx hb dX9_colour_33 rfl (lv_at hl 2 rfl) ?_
  refine lv_iload_n hx hb dX9_colour_34 rfl (lv_at hl 3 rfl) ?_
  refine lv_iload hx hb dX9_colour_35 (lv_at hl 4 rfl) ?_
  refine g_VV (As := [.int (nI j), .int x, .int y, .int z]) (rest := []) ⟨hx, hb, hml, hown, hts⟩ hG hN (i := 7) (by decide) rfl rfl (c_X1_paint l j x y z (by omega)) (cwV 4 hts gX9_colour_X1_paint rfl rfl rfl (by decide +kernel) ⟨Nat.le_of_ble_eq_true rfl, Nat.le_of_ble_eq_true rfl⟩) rfl hl.1 rfl (Nat.le_of_ble_eq_true rfl) dX9_colour_37 ⟨Nat.le_of_ble_eq_true rfl, Nat.le_of_ble_eq_true rfl⟩ (fun H locs hN => ?_)
  exact vx_ret <| g_rv hx hb hr hlocks hN (⟨by simp [fCol, h1, h5, h9, h13], by simp [nI_clamp (show j < 2 ^ 31 by omega), h1, h5, h9, h13]⟩) dX9_colour_40
set_option maxHeartbeats 4000000 in
set_option maxRecDepth 100000 in
theorem c_X9_drift (l : Launch) (hl9 : l.stackTraces = false) {D : va_G} {ad : Nat → Nat} {cs : Nat → ClassId} {zd : Nat → Nat} {F V : gF} {o : gO} {sz : Nat} (u x y : Int32) : vx_Met l yX9_drift wsX9_drift ({ frames := 7, cells := 3, slots := 18, locals := 112 } : Room) (gPc D ad cs zd F V o sz [.ref (ad 0), .int u, .int x, .int y]) (gQv D ad cs sz (fun u9 => fDri u x y = 0 ∧ u9 = (gw (gw F 21 u.toNatClampNeg x) 22 u.toNatClampNeg y, V, o))) (gXC D ad cs F V o (fun a => (a = gE0 ∧ fDri u x y = 1) ∨ (a = gE1 ∧ fDri u x y = 2)) sz) 3 18 (gX ad sz) := by
  refine g_metX (Qc := fun z0 => gQv D ad cs z0 (fun u9 => fDri u x y = 0 ∧ u9 = (gw (gw F 21 u.toNatClampNeg x) 22 u.toNatClampNeg y, V, o))) (XC := fun z0 => gXC D ad cs F V o (fun a => (a = gE0 ∧ fDri u x y = 1) ∨ (a = gE1 ∧ fDri u x y = 2)) z0) (cc := cX9_drift) (maxL := 4) (ret := none) (own := RX9) (by decide +kernel) rfl rfl (Nat.le_of_ble_eq_true rfl) ?_
  intro p0 e0 s0 m0 b0 k0 c0 hx hb hr hts hown hlocks hml hout hG hN ls hl
  have hl : lv_has ls 4 [(0, .ref (ad 0)), (1, .int u), (2, .int x), (3, .int y)] := hl
  have hin_9 : ∀ w ∈ wsX90, w ∈ wsX9_drift := by decide +kernel
  have hk_40 := hts (.fieldLink RX9 40 "GravureHouse" "registers" "LGravureHouse$Registers;") (by decide +kernel)
  refine lv_iload_n hx hb dX9_drift_0 rfl (lv_at hl 1 rfl) ?_
  refine lv_iconst (v := 4) hx hb dX9_drift_1 (by decide) ?_
  refine g_xS (As := [.int u, .int 4]) (rest := []) ⟨hx, hb, hml, hown, hts⟩ hG hN (c_X9_needIndex l hl9 u 4) (va_cwS 2 hts gX9_drift_X9_needIndex rfl rfl rfl (by decide +kernel) ⟨Nat.le_of_ble_eq_true rfl, Nat.le_of_ble_eq_true rfl⟩) rfl hl.1 rfl (Nat.le_of_ble_eq_true rfl) dX9_drift_2 ⟨Nat.le_of_ble_eq_true rfl, Nat.le_of_ble_eq_true rfl⟩ hout hlocks (fun a h => Or.inl (⟨h.1, by simp [fDri, h.2]⟩)) ⟨by omega, by omega⟩ (fun Fq2 Vq3 oq4 H locs h1 hN => ?_)
  obtain ⟨eq9, h1⟩ := h1
  cases eq9
  obtain ⟨j, hj, ej⟩ := gIdx_n 4 rfl (by decide) h1
  subst ej
  refine lv_iload_n hx hb dX9_drift_5 rfl (lv_at hl 2 rfl) ?_
  refine lv_bipush (v := (-5)) hx hb dX9_drift_6 (by decide) ?_
  refine lv_iconst (v := 5) hx hb dX9_drift_8 (by decide) ?_
  refine g_xS (As := [.int x, .int (-5), .int 5]) (rest := []) ⟨hx, hb, hml, hown, hts⟩ hG hN (c_X9_needRange l hl9 x (-5) 5) (va_cwS 3 hts gX9_drift_X9_needRange rfl rfl rfl (by decide +kernel) ⟨Nat.le_of_ble_eq_true rfl, Nat.le_of_ble_eq_true rfl⟩) rfl hl.1 rfl (Nat.le_of_ble_eq_true rfl) dX9_drift_9 ⟨Nat.le_of_ble_eq_true rfl, Nat.le_of_ble_eq_true rfl⟩ hout hlocks (fun a h => Or.inr (⟨h.1, by simp [fDri, h.2, h1]⟩)) ⟨by omega, by omega⟩ (fun Fq6 Vq7 oq8 H locs h5 hN => ?_)
  obtain ⟨eq9, h5⟩ := h5
  cases eq9
  refine lv_iload_n hx hb dX9_drift_12 rfl (lv_at hl 3 rfl) ?_
  refine lv_bipush (v := (-5)) hx hb dX9_drift_13 (by decide) ?_
  refine lv_iconst (v := 5) hx hb dX9_drift_15 (by decide) ?_
  refine g_xS (As := [.int y, .int (-5), .int 5]) (rest := []) ⟨hx, hb, hml, hown, hts⟩ hG hN (c_X9_needRange l hl9 y (-5) 5) (va_cwS 3 hts gX9_drift_X9_needRange rfl rfl rfl (by decide +kernel) ⟨Nat.le_of_ble_eq_true rfl, Nat.le_of_ble_eq_true rfl⟩) rfl hl.1 rfl (Nat.le_of_ble_eq_true rfl) dX9_drift_16 ⟨Nat.le_of_ble_eq_true rfl, Nat.le_of_ble_eq_true rfl⟩ hout hlocks (fun a h => Or.inr (⟨h.1, by simp [fDri, h.2, h1, h5]⟩)) ⟨by omega, by omega⟩ (fun Fq10 Vq11 oq12 H locs h9 hN => ?_)
  obtain ⟨eq9, h9⟩ := h9
  cases eq9
  refine lv_aload_n hx hb dX9_drift_19 rfl (lv_at hl 0 rfl) ?_
  refine gf_0_4 hx hb hts hin_9 hown hG hN hk_40 dX9_drift_20 ?_
  refine lv_iload_n hx hb dX9_drift_23 rfl (lv_at hl 1 rfl) ?_
  refine lv_iload_n hx hb dX9_drift_24 rfl (lv_at hl 2 rfl) ?_
  refine lv_iload_n hx hb dX9_drift_25 rfl (lv_at hl 3 rfl) ?_
  refine g_VV (As := [.int (nI j), .int x, .int y]) (rest := []) ⟨hx, hb, hml, hown, hts⟩ hG hN (i := 18) (by decide) rfl rfl (c_X5_setDrift l j x y (by omega)) (cwV 3 hts gX9_drift_X5_setDrift rfl rfl rfl (by decide +kernel) ⟨Nat.le_of_ble_eq_true rfl, Nat.le_of_ble_eq_true rfl⟩) rfl hl.1 rfl (Nat.le_of_ble_eq_true rfl) dX9_drift_26 ⟨Nat.le_of_ble_eq_true rfl, Nat.le_of_ble_eq_true rfl⟩ (fun H locs hN => ?_)
  exact vx_ret <| g_rv hx hb hr hlocks hN (⟨by simp [fDri, h1, h5, h9], by simp [nI_clamp (show j < 2 ^ 31 by omega), h1, h5, h9]⟩) dX9_drift_29
set_option maxHeartbeats 4000000 in
set_option maxRecDepth 100000 in
theorem c_X9_key (l : Launch) (hl9 : l.stackTraces = false) {D : va_G} {ad : Nat → Nat} {cs : Nat → ClassId} {zd : Nat → Nat} {F V : gF} {o : gO} {sz : Nat} (u q x : Int32) : vx_Met l yX9_key wsX9_key ({ frames := 7, cells := 3, slots := 18, locals := 112 } : Room) (gPc D ad cs zd F V o sz [.ref (ad 0), .int u, .int q, .int x]) (gQi D ad cs sz (fun r9 u9 => fKey u q x = 0 ∧ r9 = F (29 + u.toNatClampNeg) (q.toNatClampNeg) ∧ u9 = (gw F (29 + u.toNatClampNeg) (q.toNatClampNeg) x, V, o))) (gXC D ad cs F V o (fun a => (a = gE0 ∧ fKey u q x = 1) ∨ (a = gE1 ∧ fKey u q x = 2)) sz) 3 18 (gX ad sz) := by
  refine g_metX (Qc := fun z0 => gQi D ad cs z0 (fun r9 u9 => fKey u q x = 0 ∧ r9 = F (29 + u.toNatClampNeg) (q.toNatClampNeg) ∧ u9 = (gw F (29 + u.toNatClampNeg) (q.toNatClampNeg) x, V, o))) (XC := fun z0 => gXC D ad cs F V o (fun a => (a = gE0 ∧ fKey u q x = 1) ∨ (a = gE1 ∧ fKey u q x = 2)) z0) (cc := cX9_key) (maxL := 4) (ret := (some .int)) (own := RX9) (by decide +kernel) rfl rfl (Nat.le_of_ble_eq_true rfl) ?_
  intro p0 e0 s0 m0 b0 k0 c0 hx hb hr hts hown hlocks hml hout hG hN ls hl
  have hl : lv_has ls 4 [(0, .ref (ad 0)), (1, .int u), (2, .int q), (3, .int x)] := hl
  have hin_9 : ∀ w ∈ wsX90, w ∈ wsX9_key := by decide +kernel
  have hk_47 := hts (.fieldLink RX9 47 "GravureHouse" "press" "LGravureHouse$Press;") (by decide +kernel)
  refine lv_iload_n hx hb dX9_key_0 rfl (lv_at hl 1 rfl) ?_
  refine lv_iconst (v := 4) hx hb dX9_key_1 (by decide) ?_
  refine g_xS (As := [.int u, .int 4]) (rest := []) ⟨hx, hb, hml, hown, hts⟩ hG hN (c_X9_needIndex l hl9 u 4) (va_cwS 2 hts gX9_key_X9_needIndex rfl rfl rfl (by decide +kernel) ⟨Nat.le_of_ble_eq_true rfl, Nat.le_of_ble_eq_true rfl⟩) rfl hl.1 rfl (Nat.le_of_ble_eq_true rfl) dX9_key_2 ⟨Nat.le_of_ble_eq_true rfl, Nat.le_of_ble_eq_true rfl⟩ hout hlocks (fun a h => Or.inl (⟨h.1, by simp [fKey, h.2]⟩)) ⟨by omega, by omega⟩ (fun Fq2 Vq3 oq4 H locs h1 hN => ?_)
  obtain ⟨eq9, h1⟩ := h1
  cases eq9
  obtain ⟨j, hj, ej⟩ := gIdx_n 4 rfl (by decide) h1
  subst ej
  refine lv_iload_n hx hb dX9_key_5 rfl (lv_at hl 2 rfl) ?_
  refine lv_bipush (v := 8) hx hb dX9_key_6 (by decide) ?_
  refine g_xS (As := [.int q, .int 8]) (rest := []) ⟨hx, hb, hml, hown, hts⟩ hG hN (c_X9_needIndex l hl9 q 8) (va_cwS 2 hts gX9_key_X9_needIndex rfl rfl rfl (by decide +kernel) ⟨Nat.le_of_ble_eq_true rfl, Nat.le_of_ble_eq_true rfl⟩) rfl hl.1 rfl (Nat.le_of_ble_eq_true rfl) dX9_key_8 ⟨Nat.le_of_ble_eq_true rfl, Nat.le_of_ble_eq_true rfl⟩ hout hlocks (fun a h => Or.inl (⟨h.1, by simp [fKey, h.2, h1]⟩)) ⟨by omega, by omega⟩ (fun Fq6 Vq7 oq8 H locs h5 hN => ?_)
  obtain ⟨eq9, h5⟩ := h5
  cases eq9
  obtain ⟨i, hi, ei⟩ := gIdx_n 8 rfl (by decide) h5
  subst ei
  refine lv_iload_n hx hb dX9_key_11 rfl (lv_at hl 3 rfl) ?_
  refine lv_iconst (v := 0) hx hb dX9_key_12 (by decide) ?_
  refine lv_bipush (v := 100) hx hb dX9_key_13 (by decide) ?_
  refine g_xS (As := [.int x, .int 0, .int 100]) (rest := []) ⟨hx, hb, hml, hown, hts⟩ hG hN (c_X9_needRange l hl9 x 0 100) (va_cwS 3 hts gX9_key_X9_needRange rfl rfl rfl (by decide +kernel) ⟨Nat.le_of_ble_eq_true rfl, Nat.le_of_ble_eq_true rfl⟩) rfl hl.1 rfl (Nat.le_of_ble_eq_true rfl) dX9_key_15 ⟨Nat.le_of_ble_eq_true rfl, Nat.le_of_ble_eq_true rfl⟩ hout hlocks (fun a h => Or.inr (⟨h.1, by simp [fKey, h.2, h1, h5]⟩)) ⟨by omega, by omega⟩ (fun Fq10 Vq11 oq12 H locs h9 hN => ?_)
  obtain ⟨eq9, h9⟩ := h9
  cases eq9
  refine lv_aload_n hx hb dX9_key_18 rfl (lv_at hl 0 rfl) ?_
  refine gf_0_5 hx hb hts hin_9 hown hG hN hk_47 dX9_key_19 ?_
  refine lv_iload_n hx hb dX9_key_22 rfl (lv_at hl 1 rfl) ?_
  refine lv_iload_n hx hb dX9_key_23 rfl (lv_at hl 2 rfl) ?_
  refine lv_iload_n hx hb dX9_key_24 rfl (lv_at hl 3 rfl) ?_
  refine g_VI (As := [.int (nI j), .int (nI i), .int x]) (rest := []) ⟨hx, hb, hml, hown, hts⟩ hG hN (i := 27) (by decide) rfl rfl (c_X3_turnKey l j i x (by omega) (by omega)) (cwV 3 hts gX9_key_X3_turnKey rfl rfl rfl (by decide +kernel) ⟨Nat.le_of_ble_eq_true rfl, Nat.le_of_ble_eq_true rfl⟩) rfl hl.1 rfl (Nat.le_of_ble_eq_true rfl) dX9_key_25 ⟨Nat.le_of_ble_eq_true rfl, Nat.le_of_ble_eq_true rfl⟩ (fun H locs hN => ?_)
  exact vx_ret <| g_ri hx hb hr hlocks hN (⟨by simp [fKey, h1, h5, h9], by simp [nI_clamp (show j < 2 ^ 31 by omega), nI_clamp (show i < 2 ^ 31 by omega), h1, h5, h9], by simp [nI_clamp (show j < 2 ^ 31 by omega), nI_clamp (show i < 2 ^ 31 by omega)]⟩) dX9_key_28
