set_option maxHeartbeats 4000000 in
set_option maxRecDepth 100000 in
theorem c_X7_share (l : Launch) {D : va_G} {ad : Nat → Nat} {cs : Nat → ClassId} {zd : Nat → Nat} {F V : gF} {o : gO} {sz : Nat} : Met l yX7_share wsX7_share ({ frames := 0, cells := 0, slots := 0, locals := 0 } : Room) (gPc D ad cs zd F V o sz [.ref (ad 1)]) (gQI D ad cs (V 1 0) F V o sz) 0 0 (gX ad sz) := by
  refine g_met (Qc := fun z0 => gQI D ad cs (V 1 0) F V o z0) (cc := cX7_share) (maxL := 1) (ret := (some .int)) (own := RX7) (by decide +kernel) rfl rfl (Nat.le_of_ble_eq_true rfl) ?_
  intro p0 e0 s0 m0 b0 k0 c0 hx hb hr hts hown hlocks hml hG hN ls hl
  have hl : lv_has ls 1 [(0, .ref (ad 1))] := hl
  have hin_7 : ∀ w ∈ wsX70, w ∈ wsX7_share := by decide +kernel
  have hk_9 := hts (.fieldLink RX7 9 "GravureHouse$Rules" "share" "I") (by decide +kernel)
  refine lv_aload_n hx hb dX7_share_0 rfl (lv_at hl 0 rfl) ?_
  refine gf_1_0 hx hb hts hin_7 hown hG hN hk_9 dX7_share_1 ?_
  exact g_ri hx hb hr hlocks hN (⟨rfl, rfl⟩) dX7_share_4
set_option maxHeartbeats 4000000 in
set_option maxRecDepth 100000 in
theorem c_X7_limit (l : Launch) {D : va_G} {ad : Nat → Nat} {cs : Nat → ClassId} {zd : Nat → Nat} {F V : gF} {o : gO} {sz : Nat} : Met l yX7_limit wsX7_limit ({ frames := 0, cells := 0, slots := 0, locals := 0 } : Room) (gPc D ad cs zd F V o sz [.ref (ad 1)]) (gQI D ad cs (V 1 1) F V o sz) 0 0 (gX ad sz) := by
  refine g_met (Qc := fun z0 => gQI D ad cs (V 1 1) F V o z0) (cc := cX7_limit) (maxL := 1) (ret := (some .int)) (own := RX7) (by decide +kernel) rfl rfl (Nat.le_of_ble_eq_true rfl) ?_
  intro p0 e0 s0 m0 b0 k0 c0 hx hb hr hts hown hlocks hml hG hN ls hl
  have hl : lv_has ls 1 [(0, .ref (ad 1))] := hl
  have hin_7 : ∀ w ∈ wsX70, w ∈ wsX7_limit := by decide +kernel
  have hk_15 := hts (.fieldLink RX7 15 "GravureHouse$Rules" "limit" "I") (by decide +kernel)
  refine lv_aload_n hx hb dX7_limit_0 rfl (lv_at hl 0 rfl) ?_
  refine gf_1_1 hx hb hts hin_7 hown hG hN hk_15 dX7_limit_1 ?_
  exact g_ri hx hb hr hlocks hN (⟨rfl, rfl⟩) dX7_limit_4
set_option maxHeartbeats 4000000 in
set_option maxRecDepth 100000 in
theorem c_X7_tolerance (l : Launch) {D : va_G} {ad : Nat → Nat} {cs : Nat → ClassId} {zd : Nat → Nat} {F V : gF} {o : gO} {sz : Nat} : Met l yX7_tolerance wsX7_tolerance ({ frames := 0, cells := 0, slots := 0, locals := 0 } : Room) (gPc D ad cs zd F V o sz [.ref (ad 1)]) (gQI D ad cs (V 1 3) F V o sz) 0 0 (gX ad sz) := by
  refine g_met (Qc := fun z0 => gQI D ad cs (V 1 3) F V o z0) (cc := cX7_tolerance) (maxL := 1) (ret := (some .int)) (own := RX7) (by decide +kernel) rfl rfl (Nat.le_of_ble_eq_true rfl) ?_
  intro p0 e0 s0 m0 b0 k0 c0 hx hb hr hts hown hlocks hml hG hN ls hl
  have hl : lv_has ls 1 [(0, .ref (ad 1))] := hl
  have hin_7 : ∀ w ∈ wsX70, w ∈ wsX7_tolerance := by decide +kernel
  have hk_22 := hts (.fieldLink RX7 22 "GravureHouse$Rules" "tolerance" "I") (by decide +kernel)
  refine lv_aload_n hx hb dX7_tolerance_0 rfl (lv_at hl 0 rfl) ?_
  refine gf_1_3 hx hb hts hin_7 hown hG hN hk_22 dX7_tolerance_1 ?_
  exact g_ri hx hb hr hlocks hN (⟨rfl, rfl⟩) dX7_tolerance_4
set_option maxHeartbeats 4000000 in
set_option maxRecDepth 100000 in
theorem c_X7_delay (l : Launch) {D : va_G} {ad : Nat → Nat} {cs : Nat → ClassId} {zd : Nat → Nat} {F V : gF} {o : gO} {sz : Nat} : Met l yX7_delay wsX7_delay ({ frames := 0, cells := 0, slots := 0, locals := 0 } : Room) (gPc D ad cs zd F V o sz [.ref (ad 1)]) (gQI D ad cs (V 1 4) F V o sz) 0 0 (gX ad sz) := by
  refine g_met (Qc := fun z0 => gQI D ad cs (V 1 4) F V o z0) (cc := cX7_delay) (maxL := 1) (ret := (some .int)) (own := RX7) (by decide +kernel) rfl rfl (Nat.le_of_ble_eq_true rfl) ?_
  intro p0 e0 s0 m0 b0 k0 c0 hx hb hr hts hown hlocks hml hG hN ls hl
  have hl : lv_has ls 1 [(0, .ref (ad 1))] := hl
  have hin_7 : ∀ w ∈ wsX70, w ∈ wsX7_delay := by decide +kernel
  have hk_25 := hts (.fieldLink RX7 25 "GravureHouse$Rules" "delay" "I") (by decide +kernel)
  refine lv_aload_n hx hb dX7_delay_0 rfl (lv_at hl 0 rfl) ?_
  refine gf_1_4 hx hb hts hin_7 hown hG hN hk_25 dX7_delay_1 ?_
  exact g_ri hx hb hr hlocks hN (⟨rfl, rfl⟩) dX7_delay_4
set_option maxHeartbeats 4000000 in
set_option maxRecDepth 100000 in
theorem c_X7_trap (l : Launch) {D : va_G} {ad : Nat → Nat} {cs : Nat → ClassId} {zd : Nat → Nat} {F V : gF} {o : gO} {sz : Nat}  (hz : narrow .boolean (.int (V 1 2)) = .int (V 1 2)) : Met l yX7_trap wsX7_trap ({ frames := 0, cells := 0, slots := 0, locals := 0 } : Room) (gPc D ad cs zd F V o sz [.ref (ad 1)]) (gQI D ad cs (V 1 2) F V o sz) 0 0 (gX ad sz) := by
  refine g_met (Qc := fun z0 => gQI D ad cs (V 1 2) F V o z0) (cc := cX7_trap) (maxL := 1) (ret := (some .boolean)) (own := RX7) (by decide +kernel) rfl rfl (Nat.le_of_ble_eq_true rfl) ?_
  intro p0 e0 s0 m0 b0 k0 c0 hx hb hr hts hown hlocks hml hG hN ls hl
  have hl : lv_has ls 1 [(0, .ref (ad 1))] := hl
  have hin_7 : ∀ w ∈ wsX70, w ∈ wsX7_trap := by decide +kernel
  have hk_18 := hts (.fieldLink RX7 18 "GravureHouse$Rules" "trap" "Z") (by decide +kernel)
  refine lv_aload_n hx hb dX7_trap_0 rfl (lv_at hl 0 rfl) ?_
  refine gf_1_2 hx hb hts hin_7 hown hG hN hk_18 dX7_trap_1 ?_
  exact g_rz hx hb hr hlocks (hz) hN (⟨rfl, rfl⟩) dX7_trap_4
set_option maxHeartbeats 4000000 in
set_option maxRecDepth 100000 in
theorem c_X7_gain (l : Launch) {D : va_G} {ad : Nat → Nat} {cs : Nat → ClassId} {zd : Nat → Nat} {F V : gF} {o : gO} {sz : Nat} (k : Nat) (hk : k < 4) : Met l yX7_gain wsX7_gain ({ frames := 0, cells := 0, slots := 0, locals := 0 } : Room) (gPc D ad cs zd F V o sz [.ref (ad 1), .int (nI k)]) (gQI D ad cs (F 2 k) F V o sz) 0 0 (gX ad sz) := by
  refine g_met (Qc := fun z0 => gQI D ad cs (F 2 k) F V o z0) (cc := cX7_gain) (maxL := 2) (ret := (some .int)) (own := RX7) (by decide +kernel) rfl rfl (Nat.le_of_ble_eq_true rfl) ?_
  intro p0 e0 s0 m0 b0 k0 c0 hx hb hr hts hown hlocks hml hG hN ls hl
  have hl : lv_has ls 2 [(0, .ref (ad 1)), (1, .int (nI k))] := hl
  have hin_7 : ∀ w ∈ wsX70, w ∈ wsX7_gain := by decide +kernel
  have hk_28 := hts (.fieldLink RX7 28 "GravureHouse$Rules" "gains" "[I") (by decide +kernel)
  refine lv_aload_n hx hb dX7_gain_0 rfl (lv_at hl 0 rfl) ?_
  refine gf_1_5 hx hb hts hin_7 hown hG hN hk_28 dX7_gain_1 ?_
  refine lv_iload_n hx hb dX7_gain_4 rfl (lv_at hl 1 rfl) ?_
  refine g_iald hx hb hG hN (i := 2) (n := 4) (j := k) (by decide) rfl (by decide) (by omega) rfl dX7_gain_5 ?_
  exact g_ri hx hb hr hlocks hN (⟨rfl, rfl⟩) dX7_gain_6
set_option maxHeartbeats 4000000 in
set_option maxRecDepth 100000 in
theorem c_X1_paint (l : Launch) {D : va_G} {ad : Nat → Nat} {cs : Nat → ClassId} {zd : Nat → Nat} {F V : gF} {o : gO} {sz : Nat} (c : Nat) (x y z : Int32) (hc : c < 64) : Met l yX1_paint wsX1_paint ({ frames := 0, cells := 0, slots := 0, locals := 0 } : Room) (gPc D ad cs zd F V o sz [.ref (ad 7), .int (nI c), .int x, .int y, .int z]) (gQV D ad cs (gw (gw (gw F 9 c x) 10 c y) 11 c z) V o sz) 0 0 (gX ad sz) := by
  refine g_met (Qc := fun z0 => gQV D ad cs (gw (gw (gw F 9 c x) 10 c y) 11 c z) V o z0) (cc := cX1_paint) (maxL := 5) (ret := none) (own := RX1) (by decide +kernel) rfl rfl (Nat.le_of_ble_eq_true rfl) ?_
  intro p0 e0 s0 m0 b0 k0 c0 hx hb hr hts hown hlocks hml hG hN ls hl
  have hl : lv_has ls 5 [(0, .ref (ad 7)), (1, .int (nI c)), (2, .int x), (3, .int y), (4, .int z)] := hl
  have hin_1 : ∀ w ∈ wsX10, w ∈ wsX1_paint := by decide +kernel
  have hk_11 := hts (.fieldLink RX1 11 "GravureHouse$Picture" "lights" "[[I") (by decide +kernel)
  refine lv_aload_n hx hb dX1_paint_0 rfl (lv_at hl 0 rfl) ?_
  refine gf_7_0 hx hb hts hin_1 hown hG hN hk_11 dX1_paint_1 ?_
  refine lv_iconst (v := 0) hx hb dX1_paint_4 (by decide) ?_
  refine g_aald hx hb hG hN (i := 8) (n := 3) (j := 0) (b := 9) (by decide) rfl (by decide) (by omega) rfl dX1_paint_5 ?_
  refine W.eq (g2 := F0 m0 6 ls [.ref (ad 9)]) rfl ?_
  refine lv_iload_n hx hb dX1_paint_6 rfl (lv_at hl 1 rfl) ?_
  refine lv_iload_n hx hb dX1_paint_7 rfl (lv_at hl 2 rfl) ?_
  refine g_iast hx hb hG hN (i := 9) (n := 64) (j := c) (by decide) (fun _ => rfl) (by decide) (by omega) rfl dX1_paint_8 (fun H locs hN => ?_)
  refine lv_aload_n hx hb dX1_paint_9 rfl (lv_at hl 0 rfl) ?_
  refine gf_7_0 hx hb hts hin_1 hown hG hN hk_11 dX1_paint_10 ?_
  refine lv_iconst (v := 1) hx hb dX1_paint_13 (by decide) ?_
  refine g_aald hx hb hG hN (i := 8) (n := 3) (j := 1) (b := 9) (by decide) rfl (by decide) (by omega) rfl dX1_paint_14 ?_
  refine W.eq (g2 := F0 m0 15 ls [.ref (ad 10)]) rfl ?_
  refine lv_iload_n hx hb dX1_paint_15 rfl (lv_at hl 1 rfl) ?_
  refine lv_iload_n hx hb dX1_paint_16 rfl (lv_at hl 3 rfl) ?_
  refine g_iast hx hb hG hN (i := 10) (n := 64) (j := c) (by decide) (fun _ => rfl) (by decide) (by omega) rfl dX1_paint_17 (fun H locs hN => ?_)
  refine lv_aload_n hx hb dX1_paint_18 rfl (lv_at hl 0 rfl) ?_
  refine gf_7_0 hx hb hts hin_1 hown hG hN hk_11 dX1_paint_19 ?_
  refine lv_iconst (v := 2) hx hb dX1_paint_22 (by decide) ?_
  refine g_aald hx hb hG hN (i := 8) (n := 3) (j := 2) (b := 9) (by decide) rfl (by decide) (by omega) rfl dX1_paint_23 ?_
  refine W.eq (g2 := F0 m0 24 ls [.ref (ad 11)]) rfl ?_
  refine lv_iload_n hx hb dX1_paint_24 rfl (lv_at hl 1 rfl) ?_
  refine lv_iload hx hb dX1_paint_25 (lv_at hl 4 rfl) ?_
  refine g_iast hx hb hG hN (i := 11) (n := 64) (j := c) (by decide) (fun _ => rfl) (by decide) (by omega) rfl dX1_paint_27 (fun H locs hN => ?_)
  exact g_rv hx hb hr hlocks hN (rfl) dX1_paint_28
set_option maxHeartbeats 4000000 in
set_option maxRecDepth 100000 in
theorem c_X1_light (l : Launch) {D : va_G} {ad : Nat → Nat} {cs : Nat → ClassId} {zd : Nat → Nat} {F V : gF} {o : gO} {sz : Nat} (c : Nat) (hc : c < 64) : Met l yX1_light wsX1_light ({ frames := 0, cells := 0, slots := 0, locals := 0 } : Room) (gPc D ad cs zd F V o sz [.ref (ad 7), .int (nI c)]) (gQI D ad cs (cLight F c) F V o sz) 0 0 (gX ad sz) := by
  refine g_met (Qc := fun z0 => gQI D ad cs (cLight F c) F V o z0) (cc := cX1_light) (maxL := 2) (ret := (some .int)) (own := RX1) (by decide +kernel) rfl rfl (Nat.le_of_ble_eq_true rfl) ?_
  intro p0 e0 s0 m0 b0 k0 c0 hx hb hr hts hown hlocks hml hG hN ls hl
  have hl : lv_has ls 2 [(0, .ref (ad 7)), (1, .int (nI c))] := hl
  have hin_1 : ∀ w ∈ wsX10, w ∈ wsX1_light := by decide +kernel
  have hk_11 := hts (.fieldLink RX1 11 "GravureHouse$Picture" "lights" "[[I") (by decide +kernel)
  refine lv_aload_n hx hb dX1_light_0 rfl (lv_at hl 0 rfl) ?_
  refine gf_7_0 hx hb hts hin_1 hown hG hN hk_11 dX1_light_1 ?_
  refine lv_iconst (v := 0) hx hb dX1_light_4 (by decide) ?_
  refine g_aald hx hb hG hN (i := 8) (n := 3) (j := 0) (b := 9) (by decide) rfl (by decide) (by omega) rfl dX1_light_5 ?_
  refine W.eq (g2 := F0 m0 6 ls [.ref (ad 9)]) rfl ?_
  refine lv_iload_n hx hb dX1_light_6 rfl (lv_at hl 1 rfl) ?_
  refine g_iald hx hb hG hN (i := 9) (n := 64) (j := c) (by decide) rfl (by decide) (by omega) rfl dX1_light_7 ?_
  refine lv_aload_n hx hb dX1_light_8 rfl (lv_at hl 0 rfl) ?_
  refine gf_7_0 hx hb hts hin_1 hown hG hN hk_11 dX1_light_9 ?_
  refine lv_iconst (v := 1) hx hb dX1_light_12 (by decide) ?_
  refine g_aald hx hb hG hN (i := 8) (n := 3) (j := 1) (b := 9) (by decide) rfl (by decide) (by omega) rfl dX1_light_13 ?_
  refine W.eq (g2 := F0 m0 14 ls [.ref (ad 10), .int (F 9 c)]) rfl ?_
  refine lv_iload_n hx hb dX1_light_14 rfl (lv_at hl 1 rfl) ?_
  refine g_iald hx hb hG hN (i := 10) (n := 64) (j := c) (by decide) rfl (by decide) (by omega) rfl dX1_light_15 ?_
  refine lv_iadd hx hb dX1_light_16 ?_
  refine lv_aload_n hx hb dX1_light_17 rfl (lv_at hl 0 rfl) ?_
  refine gf_7_0 hx hb hts hin_1 hown hG hN hk_11 dX1_light_18 ?_
  refine lv_iconst (v := 2) hx hb dX1_light_21 (by decide) ?_
  refine g_aald hx hb hG hN (i := 8) (n := 3) (j := 2) (b := 9) (by decide) rfl (by decide) (by omega) rfl dX1_light_22 ?_
  refine W.eq (g2 := F0 m0 23 ls [.ref (ad 11), .int ((F 9 c) + (F 10 c))]) rfl ?_
  refine lv_iload_n hx hb dX1_light_23 rfl (lv_at hl 1 rfl) ?_
  refine g_iald hx hb hG hN (i := 11) (n := 64) (j := c) (by decide) rfl (by decide) (by omega) rfl dX1_light_24 ?_
  refine lv_iadd hx hb dX1_light_25 ?_
  exact g_ri hx hb hr hlocks hN (⟨rfl, rfl⟩) dX1_light_26
set_option maxHeartbeats 4000000 in
set_option maxRecDepth 100000 in
theorem c_X1_aheadOfTraps (l : Launch) {D : va_G} {ad : Nat → Nat} {cs : Nat → ClassId} {zd : Nat → Nat} {F V : gF} {o : gO} {sz : Nat} (c k : Nat) (hc : c < 64) (hk : k < 4) : Met l yX1_aheadOfTraps wsX1_aheadOfTraps ({ frames := 1, cells := 0, slots := 0, locals := 21 } : Room) (gPc D ad cs zd F V o sz [.ref (ad 7), .int (nI c), .int (nI k), .ref (ad 1)]) (gQI D ad cs (cAhead F V c k) F V o sz) 0 0 (gX ad sz) := by
  refine g_met (Qc := fun z0 => gQI D ad cs (cAhead F V c k) F V o z0) (cc := cX1_aheadOfTraps) (maxL := 10) (ret := (some .int)) (own := RX1) (by decide +kernel) rfl rfl (Nat.le_of_ble_eq_true rfl) ?_
  intro p0 e0 s0 m0 b0 k0 c0 hx hb hr hts hown hlocks hml hG hN ls hl
  have hl : lv_has ls 10 [(0, .ref (ad 7)), (1, .int (nI c)), (2, .int (nI k)), (3, .ref (ad 1))] := hl
  have hin_1 : ∀ w ∈ wsX10, w ∈ wsX1_aheadOfTraps := by decide +kernel
  have hk_11 := hts (.fieldLink RX1 11 "GravureHouse$Picture" "lights" "[[I") (by decide +kernel)
  have hm1min := hts (.methodLink RX1 20 Lib.Math.min.name) (by decide +kernel)
  have hm2min := hts (.static Lib.Math.min.name) (by decide +kernel)
  have hm4min := hts (.code Lib.Math.min.name Lib.Math.min.code 2 (some .int)) (by decide +kernel)
  have hm3 := hts (.initialized "java/lang/Math") (by decide +kernel)
  refine lv_bipush (v := 100) hx hb dX1_aheadOfTraps_0 (by decide) ?_
  refine lv_aload_n hx hb dX1_aheadOfTraps_2 rfl (lv_at hl 0 rfl) ?_
  refine gf_7_0 hx hb hts hin_1 hown hG hN hk_11 dX1_aheadOfTraps_3 ?_
  refine lv_iconst (v := 0) hx hb dX1_aheadOfTraps_6 (by decide) ?_
  refine g_aald hx hb hG hN (i := 8) (n := 3) (j := 0) (b := 9) (by decide) rfl (by decide) (by omega) rfl dX1_aheadOfTraps_7 ?_
  refine W.eq (g2 := F0 m0 8 ls [.ref (ad 9), .int 100]) rfl ?_
  refine lv_iload_n hx hb dX1_aheadOfTraps_8 rfl (lv_at hl 1 rfl) ?_
  refine g_iald hx hb hG hN (i := 9) (n := 64) (j := c) (by decide) rfl (by decide) (by omega) rfl dX1_aheadOfTraps_9 ?_
  refine lv_isub hx hb dX1_aheadOfTraps_10 ?_
  refine lv_istore (lv' := [(4, .int (100 - (F 9 c))), (0, .ref (ad 7)), (1, .int (nI c)), (2, .int (nI k)), (3, .ref (ad 1))]) hx hb dX1_aheadOfTraps_11 hl (by decide) rfl (fun ls hl => ?_)
  refine lv_bipush (v := 100) hx hb dX1_aheadOfTraps_13 (by decide) ?_
  refine lv_aload_n hx hb dX1_aheadOfTraps_15 rfl (lv_at hl 1 rfl) ?_
  refine gf_7_0 hx hb hts hin_1 hown hG hN hk_11 dX1_aheadOfTraps_16 ?_
  refine lv_iconst (v := 1) hx hb dX1_aheadOfTraps_19 (by decide) ?_
  refine g_aald hx hb hG hN (i := 8) (n := 3) (j := 1) (b := 9) (by decide) rfl (by decide) (by omega) rfl dX1_aheadOfTraps_20 ?_
  refine W.eq (g2 := F0 m0 21 ls [.ref (ad 10), .int 100]) rfl ?_
  refine lv_iload_n hx hb dX1_aheadOfTraps_21 rfl (lv_at hl 2 rfl) ?_
  refine g_iald hx hb hG hN (i := 10) (n := 64) (j := c) (by decide) rfl (by decide) (by omega) rfl dX1_aheadOfTraps_22 ?_
  refine lv_isub hx hb dX1_aheadOfTraps_23 ?_
  refine lv_istore (lv' := [(5, .int (100 - (F 10 c))), (4, .int (100 - (F 9 c))), (0, .ref (ad 7)), (1, .int (nI c)), (2, .int (nI k)), (3, .ref (ad 1))]) hx hb dX1_aheadOfTraps_24 hl (by decide) rfl (fun ls hl => ?_)
  refine lv_bipush (v := 100) hx hb dX1_aheadOfTraps_26 (by decide) ?_
  refine lv_aload_n hx hb dX1_aheadOfTraps_28 rfl (lv_at hl 2 rfl) ?_
  refine gf_7_0 hx hb hts hin_1 hown hG hN hk_11 dX1_aheadOfTraps_29 ?_
  refine lv_iconst (v := 2) hx hb dX1_aheadOfTraps_32 (by decide) ?_
  refine g_aald hx hb hG hN (i := 8) (n := 3) (j := 2) (b := 9) (by decide) rfl (by decide) (by omega) rfl dX1_aheadOfTraps_33 ?_
  refine W.eq (g2 := F0 m0 34 ls [.ref (ad 11), .int 100]) rfl ?_
  refine lv_iload_n hx hb dX1_aheadOfTraps_34 rfl (lv_at hl 3 rfl) ?_
  refine g_iald hx hb hG hN (i := 11) (n := 64) (j := c) (by decide) rfl (by decide) (by omega) rfl dX1_aheadOfTraps_35 ?_
  refine lv_isub hx hb dX1_aheadOfTraps_36 ?_
  refine lv_istore (lv' := [(6, .int (100 - (F 11 c))), (5, .int (100 - (F 10 c))), (4, .int (100 - (F 9 c))), (0, .ref (ad 7)), (1, .int (nI c)), (2, .int (nI k)), (3, .ref (ad 1))]) hx hb dX1_aheadOfTraps_37 hl (by decide) rfl (fun ls hl => ?_)
  refine lv_iload hx hb dX1_aheadOfTraps_39 (lv_at hl 2 rfl) ?_
  refine lv_iload hx hb dX1_aheadOfTraps_41 (lv_at hl 1 rfl) ?_
  refine lv_iload hx hb dX1_aheadOfTraps_43 (lv_at hl 0 rfl) ?_
  refine va_mmin hx hb (hml.trans hl.1.symm) hown hm1min hm2min hm3 hm4min (Nat.le_of_ble_eq_true rfl) (Nat.le_of_ble_eq_true rfl) (Nat.le_of_ble_eq_true rfl) (Nat.le_of_ble_eq_true rfl) dX1_aheadOfTraps_45 ?_
  refine va_mmin hx hb (hml.trans hl.1.symm) hown hm1min hm2min hm3 hm4min (Nat.le_of_ble_eq_true rfl) (Nat.le_of_ble_eq_true rfl) (Nat.le_of_ble_eq_true rfl) (Nat.le_of_ble_eq_true rfl) dX1_aheadOfTraps_48 ?_
  refine lv_aload_n hx hb dX1_aheadOfTraps_51 rfl (lv_at hl 6 rfl) ?_
  refine g_VI (As := []) (rest := [.int (if (if (100 - (F 11 c)) < (100 - (F 10 c)) then (100 - (F 11 c)) else (100 - (F 10 c))) < (100 - (F 9 c)) then (if (100 - (F 11 c)) < (100 - (F 10 c)) then (100 - (F 11 c)) else (100 - (F 10 c))) else (100 - (F 9 c)))]) ⟨hx, hb, hml, hown, hts⟩ hG hN (i := 1) (by decide) rfl rfl (c_X7_share l ) (cwV 0 hts gX1_aheadOfTraps_X7_share rfl rfl rfl (by decide +kernel) ⟨Nat.le_of_ble_eq_true rfl, Nat.le_of_ble_eq_true rfl⟩) rfl hl.1 rfl (Nat.le_of_ble_eq_true rfl) dX1_aheadOfTraps_52 ⟨Nat.le_of_ble_eq_true rfl, Nat.le_of_ble_eq_true rfl⟩ (fun H locs hN => ?_)
  refine lv_imul hx hb dX1_aheadOfTraps_55 ?_
  refine lv_bipush (v := 100) hx hb dX1_aheadOfTraps_56 (by decide) ?_
  refine lv_idiv hx hb dX1_aheadOfTraps_58 (by decide) ?_
  refine g_top (y := cBlk F V c) (rfl) ?_
  refine lv_istore (lv' := [(7, .int (cBlk F V c)), (6, .int (100 - (F 11 c))), (5, .int (100 - (F 10 c))), (4, .int (100 - (F 9 c))), (0, .ref (ad 7)), (1, .int (nI c)), (2, .int (nI k)), (3, .ref (ad 1))]) hx hb dX1_aheadOfTraps_59 hl (by decide) rfl (fun ls hl => ?_)
  refine lv_iload_n hx hb dX1_aheadOfTraps_61 rfl (lv_at hl 6 rfl) ?_
  refine lv_iconst (v := 3) hx hb dX1_aheadOfTraps_62 (by decide) ?_
  refine g_cN_ne (a := k) (b := 3) (tgt := 69) hx hb dX1_aheadOfTraps_63 (by decide) rfl rfl (by omega) (by omega) (fun c1 => ?_) (fun c1 => ?_)
  · refine lv_iload hx hb dX1_aheadOfTraps_69 (lv_at hl 3 rfl) ?_
    refine lv_iload hx hb dX1_aheadOfTraps_71 (lv_at hl 2 rfl) ?_
    refine lv_iadd hx hb dX1_aheadOfTraps_73 ?_
    refine lv_iload hx hb dX1_aheadOfTraps_74 (lv_at hl 1 rfl) ?_
    refine lv_iadd hx hb dX1_aheadOfTraps_76 ?_
    refine lv_iconst (v := 3) hx hb dX1_aheadOfTraps_77 (by decide) ?_
    refine lv_iload hx hb dX1_aheadOfTraps_78 (lv_at hl 0 rfl) ?_
    refine lv_imul hx hb dX1_aheadOfTraps_80 ?_
    refine lv_isub hx hb dX1_aheadOfTraps_81 ?_
    refine g_top (y := cThr F V c) (rfl) ?_
    refine lv_istore (lv' := [(8, .int (cThr F V c)), (7, .int (cBlk F V c)), (6, .int (100 - (F 11 c))), (5, .int (100 - (F 10 c))), (4, .int (100 - (F 9 c))), (0, .ref (ad 7)), (1, .int (nI c)), (2, .int (nI k)), (3, .ref (ad 1))]) hx hb dX1_aheadOfTraps_82 hl (by decide) rfl (fun ls hl => ?_)
    refine lv_bipush (v := 100) hx hb dX1_aheadOfTraps_84 (by decide) ?_
    refine lv_aload_n hx hb dX1_aheadOfTraps_86 rfl (lv_at hl 5 rfl) ?_
    refine gf_7_0 hx hb hts hin_1 hown hG hN hk_11 dX1_aheadOfTraps_87 ?_
    refine lv_iload_n hx hb dX1_aheadOfTraps_90 rfl (lv_at hl 7 rfl) ?_
    refine g_aald hx hb hG hN (i := 8) (n := 3) (j := k) (b := 9) (by decide) rfl (by decide) (by omega) rfl dX1_aheadOfTraps_91 ?_
    refine lv_iload_n hx hb dX1_aheadOfTraps_92 rfl (lv_at hl 6 rfl) ?_
    refine g_iald hx hb hG hN (i := (9 + k)) (n := 64) (j := c) (by omega) (gC_r9 (by omega) _) (by decide) (by omega) rfl dX1_aheadOfTraps_93 ?_
    refine lv_isub hx hb dX1_aheadOfTraps_94 ?_
    refine lv_iload hx hb dX1_aheadOfTraps_95 (lv_at hl 1 rfl) ?_
    refine lv_isub hx hb dX1_aheadOfTraps_97 ?_
    refine lv_istore (lv' := [(9, .int ((100 - (F (9 + k) c)) - (cBlk F V c))), (8, .int (cThr F V c)), (7, .int (cBlk F V c)), (6, .int (100 - (F 11 c))), (5, .int (100 - (F 10 c))), (4, .int (100 - (F 9 c))), (0, .ref (ad 7)), (1, .int (nI c)), (2, .int (nI k)), (3, .ref (ad 1))]) hx hb dX1_aheadOfTraps_98 hl (by decide) rfl (fun ls hl => ?_)
    refine lv_iload hx hb dX1_aheadOfTraps_100 (lv_at hl 1 rfl) ?_
    refine lv_if_le (tgt := 117) hx hb dX1_aheadOfTraps_102 (by decide) (fun c2 => ?_) (fun c2 => ?_)
    · refine lv_iload hx hb dX1_aheadOfTraps_117 (lv_at hl 0 rfl) ?_
      exact g_ri hx hb hr hlocks hN (⟨by simp [cAhead, cOwn, c1, c2, Int32.not_lt.mpr c2], rfl⟩) dX1_aheadOfTraps_119
    · refine lv_iload hx hb dX1_aheadOfTraps_105 (lv_at hl 1 rfl) ?_
      refine lv_iload hx hb dX1_aheadOfTraps_107 (lv_at hl 2 rfl) ?_
      refine lv_iadd hx hb dX1_aheadOfTraps_109 ?_
      refine lv_aload_n hx hb dX1_aheadOfTraps_110 rfl (lv_at hl 9 rfl) ?_
      refine g_VI (As := []) (rest := [.int ((cThr F V c) + (cBlk F V c))]) ⟨hx, hb, hml, hown, hts⟩ hG hN (i := 1) (by decide) rfl rfl (c_X7_limit l ) (cwV 0 hts gX1_aheadOfTraps_X7_limit rfl rfl rfl (by decide +kernel) ⟨Nat.le_of_ble_eq_true rfl, Nat.le_of_ble_eq_true rfl⟩) rfl hl.1 rfl (Nat.le_of_ble_eq_true rfl) dX1_aheadOfTraps_111 ⟨Nat.le_of_ble_eq_true rfl, Nat.le_of_ble_eq_true rfl⟩ (fun H locs hN => ?_)
      refine lv_icmp_gt (tgt := 120) hx hb dX1_aheadOfTraps_114 (by decide) (fun c3 => ?_) (fun c3 => ?_)
      · refine lv_iload hx hb dX1_aheadOfTraps_120 (lv_at hl 0 rfl) ?_
        refine lv_aload_n hx hb dX1_aheadOfTraps_122 rfl (lv_at hl 9 rfl) ?_
        refine g_VI (As := []) (rest := [.int ((100 - (F (9 + k) c)) - (cBlk F V c))]) ⟨hx, hb, hml, hown, hts⟩ hG hN (i := 1) (by decide) rfl rfl (c_X7_limit l ) (cwV 0 hts gX1_aheadOfTraps_X7_limit rfl rfl rfl (by decide +kernel) ⟨Nat.le_of_ble_eq_true rfl, Nat.le_of_ble_eq_true rfl⟩) rfl hl.1 rfl (Nat.le_of_ble_eq_true rfl) dX1_aheadOfTraps_123 ⟨Nat.le_of_ble_eq_true rfl, Nat.le_of_ble_eq_true rfl⟩ (fun H locs hN => ?_)
        refine lv_iload hx hb dX1_aheadOfTraps_126 (lv_at hl 2 rfl) ?_
        refine lv_isub hx hb dX1_aheadOfTraps_128 ?_
        refine lv_imul hx hb dX1_aheadOfTraps_129 ?_
        refine lv_iload hx hb dX1_aheadOfTraps_130 (lv_at hl 1 rfl) ?_
        refine lv_idiv hx hb dX1_aheadOfTraps_132 (g_pos0 (by assumption)) ?_
        exact g_ri hx hb hr hlocks hN (⟨by simp [cAhead, cOwn, c1, c2, Int32.not_le.mp c2, c3, Int32.not_le.mpr c3], rfl⟩) dX1_aheadOfTraps_133
      · refine lv_iload hx hb dX1_aheadOfTraps_117 (lv_at hl 0 rfl) ?_
        exact g_ri hx hb hr hlocks hN (⟨by simp [cAhead, cOwn, c1, c2, Int32.not_le.mp c2, c3, Int32.not_lt.mp c3], rfl⟩) dX1_aheadOfTraps_119
  · refine lv_iload hx hb dX1_aheadOfTraps_66 (lv_at hl 0 rfl) ?_
    exact g_ri hx hb hr hlocks hN (⟨by simp [cAhead, cOwn, c1], rfl⟩) dX1_aheadOfTraps_68
set_option maxHeartbeats 4000000 in
set_option maxRecDepth 100000 in
theorem c_X1_fromSide (l : Launch) {D : va_G} {ad : Nat → Nat} {cs : Nat → ClassId} {zd : Nat → Nat} {F V : gF} {o : gO} {sz : Nat} (c q k : Nat) (hc : c < 64) (hq : q < 64) (hk : k < 4) : Met l yX1_fromSide wsX1_fromSide ({ frames := 2, cells := 0, slots := 0, locals := 50 } : Room) (gPc D ad cs zd F V o sz [.ref (ad 7), .int (nI c), .int (nI q), .int (nI k), .ref (ad 1)]) (gQI D ad cs (cSide F V c q k) F V o sz) 0 0 (gX ad sz) := by
  refine g_met (Qc := fun z0 => gQI D ad cs (cSide F V c q k) F V o z0) (cc := cX1_fromSide) (maxL := 5) (ret := (some .int)) (own := RX1) (by decide +kernel) rfl rfl (Nat.le_of_ble_eq_true rfl) ?_
  intro p0 e0 s0 m0 b0 k0 c0 hx hb hr hts hown hlocks hml hG hN ls hl
  have hl : lv_has ls 5 [(0, .ref (ad 7)), (1, .int (nI c)), (2, .int (nI q)), (3, .int (nI k)), (4, .ref (ad 1))] := hl
  refine lv_aload_n hx hb dX1_fromSide_0 rfl (lv_at hl 0 rfl) ?_
  refine lv_iload_n hx hb dX1_fromSide_1 rfl (lv_at hl 2 rfl) ?_
  refine g_VI (As := [.int (nI q)]) (rest := []) ⟨hx, hb, hml, hown, hts⟩ hG hN (i := 7) (by decide) rfl rfl (c_X1_light l q (by omega)) (cwV 1 hts gX1_fromSide_X1_light rfl rfl rfl (by decide +kernel) ⟨Nat.le_of_ble_eq_true rfl, Nat.le_of_ble_eq_true rfl⟩) rfl hl.1 rfl (Nat.le_of_ble_eq_true rfl) dX1_fromSide_2 ⟨Nat.le_of_ble_eq_true rfl, Nat.le_of_ble_eq_true rfl⟩ (fun H locs hN => ?_)
  refine lv_aload_n hx hb dX1_fromSide_5 rfl (lv_at hl 0 rfl) ?_
  refine lv_iload_n hx hb dX1_fromSide_6 rfl (lv_at hl 1 rfl) ?_
  refine g_VI (As := [.int (nI c)]) (rest := [.int (cLight F q)]) ⟨hx, hb, hml, hown, hts⟩ hG hN (i := 7) (by decide) rfl rfl (c_X1_light l c (by omega)) (cwV 1 hts gX1_fromSide_X1_light rfl rfl rfl (by decide +kernel) ⟨Nat.le_of_ble_eq_true rfl, Nat.le_of_ble_eq_true rfl⟩) rfl hl.1 rfl (Nat.le_of_ble_eq_true rfl) dX1_fromSide_7 ⟨Nat.le_of_ble_eq_true rfl, Nat.le_of_ble_eq_true rfl⟩ (fun H locs hN => ?_)
  refine lv_icmp_le (tgt := 24) hx hb dX1_fromSide_10 (by decide) (fun c1 => ?_) (fun c1 => ?_)
  · refine lv_iconst (v := 0) hx hb dX1_fromSide_24 (by decide) ?_
    exact g_ri hx hb hr hlocks hN (⟨by simp [cSide, c1, Int32.not_lt.mpr c1], rfl⟩) dX1_fromSide_25
  · refine lv_aload_n hx hb dX1_fromSide_13 rfl (lv_at hl 0 rfl) ?_
    refine lv_iload_n hx hb dX1_fromSide_14 rfl (lv_at hl 2 rfl) ?_
    refine lv_iload_n hx hb dX1_fromSide_15 rfl (lv_at hl 3 rfl) ?_
    refine lv_aload hx hb dX1_fromSide_16 (lv_at hl 4 rfl) ?_
    refine g_VI (As := [.int (nI q), .int (nI k), .ref (ad 1)]) (rest := []) ⟨hx, hb, hml, hown, hts⟩ hG hN (i := 7) (by decide) rfl rfl (c_X1_aheadOfTraps l q k (by omega) (by omega)) (cwV 3 hts gX1_fromSide_X1_aheadOfTraps rfl rfl rfl (by decide +kernel) ⟨Nat.le_of_ble_eq_true rfl, Nat.le_of_ble_eq_true rfl⟩) rfl hl.1 rfl (Nat.le_of_ble_eq_true rfl) dX1_fromSide_18 ⟨Nat.le_of_ble_eq_true rfl, Nat.le_of_ble_eq_true rfl⟩ (fun H locs hN => ?_)
    refine lv_goto (tgt := 25) hx hb dX1_fromSide_21 (by decide) ?_
    exact g_ri hx hb hr hlocks hN (⟨by simp [cSide, c1, Int32.not_le.mp c1], rfl⟩) dX1_fromSide_25
set_option maxHeartbeats 4000000 in
set_option maxRecDepth 100000 in
theorem c_X1_wanted (l : Launch) {D : va_G} {ad : Nat → Nat} {cs : Nat → ClassId} {zd : Nat → Nat} {F V : gF} {o : gO} {sz : Nat} (c k : Nat) (hz : narrow .boolean (.int (V 1 2)) = .int (V 1 2)) (hc : c < 64) (hk : k < 4) : Met l yX1_wanted wsX1_wanted ({ frames := 3, cells := 0, slots := 0, locals := 74 } : Room) (gPc D ad cs zd F V o sz [.ref (ad 7), .int (nI c), .int (nI k), .ref (ad 1)]) (gQI D ad cs (cWant F V c k) F V o sz) 0 0 (gX ad sz) := by
  refine g_met (Qc := fun z0 => gQI D ad cs (cWant F V c k) F V o z0) (cc := cX1_wanted) (maxL := 6) (ret := (some .int)) (own := RX1) (by decide +kernel) rfl rfl (Nat.le_of_ble_eq_true rfl) ?_
  intro p0 e0 s0 m0 b0 k0 c0 hx hb hr hts hown hlocks hml hG hN ls hl
  have hl : lv_has ls 6 [(0, .ref (ad 7)), (1, .int (nI c)), (2, .int (nI k)), (3, .ref (ad 1))] := hl
  have hm1max := hts (.methodLink RX1 47 Lib.Math.max.name) (by decide +kernel)
  have hm2max := hts (.static Lib.Math.max.name) (by decide +kernel)
  have hm4max := hts (.code Lib.Math.max.name Lib.Math.max.code 2 (some .int)) (by decide +kernel)
  have hm3 := hts (.initialized "java/lang/Math") (by decide +kernel)
  refine lv_aload_n hx hb dX1_wanted_0 rfl (lv_at hl 0 rfl) ?_
  refine lv_iload_n hx hb dX1_wanted_1 rfl (lv_at hl 1 rfl) ?_
  refine lv_iload_n hx hb dX1_wanted_2 rfl (lv_at hl 2 rfl) ?_
  refine lv_aload_n hx hb dX1_wanted_3 rfl (lv_at hl 3 rfl) ?_
  refine g_VI (As := [.int (nI c), .int (nI k), .ref (ad 1)]) (rest := []) ⟨hx, hb, hml, hown, hts⟩ hG hN (i := 7) (by decide) rfl rfl (c_X1_aheadOfTraps l c k (by omega) (by omega)) (cwV 3 hts gX1_wanted_X1_aheadOfTraps rfl rfl rfl (by decide +kernel) ⟨Nat.le_of_ble_eq_true rfl, Nat.le_of_ble_eq_true rfl⟩) rfl hl.1 rfl (Nat.le_of_ble_eq_true rfl) dX1_wanted_4 ⟨Nat.le_of_ble_eq_true rfl, Nat.le_of_ble_eq_true rfl⟩ (fun H locs hN => ?_)
  refine lv_istore (lv' := [(4, .int (cAhead F V c k)), (0, .ref (ad 7)), (1, .int (nI c)), (2, .int (nI k)), (3, .ref (ad 1))]) hx hb dX1_wanted_7 hl (by decide) rfl (fun ls hl => ?_)
  refine lv_iload_n hx hb dX1_wanted_9 rfl (lv_at hl 3 rfl) ?_
  refine lv_iconst (v := 3) hx hb dX1_wanted_10 (by decide) ?_
  refine g_cN_eq (a := k) (b := 3) (tgt := 21) hx hb dX1_wanted_11 (by decide) rfl rfl (by omega) (by omega) (fun c1 => ?_) (fun c1 => ?_)
  · refine lv_iload hx hb dX1_wanted_21 (lv_at hl 0 rfl) ?_
    exact g_ri hx hb hr hlocks hN (⟨by simp [cWant, gmax, c1], rfl⟩) dX1_wanted_23
  · refine lv_aload_n hx hb dX1_wanted_14 rfl (lv_at hl 4 rfl) ?_
    refine g_VI (As := []) (rest := []) ⟨hx, hb, hml, hown, hts⟩ hG hN (i := 1) (by decide) rfl rfl (c_X7_trap l hz) (cwV 0 hts gX1_wanted_X7_trap rfl rfl rfl (by decide +kernel) ⟨Nat.le_of_ble_eq_true rfl, Nat.le_of_ble_eq_true rfl⟩) rfl hl.1 rfl (Nat.le_of_ble_eq_true rfl) dX1_wanted_15 ⟨Nat.le_of_ble_eq_true rfl, Nat.le_of_ble_eq_true rfl⟩ (fun H locs hN => ?_)
    refine lv_if_ne (tgt := 24) hx hb dX1_wanted_18 (by decide) (fun c2 => ?_) (fun c2 => ?_)
    · refine lv_iload_n hx hb dX1_wanted_24 rfl (lv_at hl 2 rfl) ?_
      refine lv_bipush (v := 8) hx hb dX1_wanted_25 (by decide) ?_
      refine g_remN (a := c) (b := 8) hx hb rfl rfl (by omega) (by omega) (by omega) dX1_wanted_27 ?_
      refine lv_istore (lv' := [(5, .int (nI (c % 8))), (4, .int (cAhead F V c k)), (0, .ref (ad 7)), (1, .int (nI c)), (2, .int (nI k)), (3, .ref (ad 1))]) hx hb dX1_wanted_28 hl (by decide) rfl (fun ls hl => ?_)
      have J3 : ∀ (x54 : Int32) (H : Heap) (locs : List Loc) (ls : Array Slot), (x54 = cW1 F V c k) → gN D ad cs s0 F V o H locs → lv_has ls 6 [(0, .ref (ad 7)), (1, .int (nI c)), (2, .int (nI k)), (3, .ref (ad 1)), (4, .int x54), (5, .int (nI (c % 8)))] → W p0 l e0 ({ frames := 3, cells := 0, slots := 0, locals := 74 } : Room) s0 m0 ([.ref (ad 7), .int (nI c), .int (nI k), .ref (ad 1)] : List Value).toArray b0 k0 c0 H locs 0 0 (MQ b0 (gQI D ad cs (cWant F V c k) F V o s0.heap.size) ([.ref (ad 7), .int (nI c), .int (nI k), .ref (ad 1)] : List Value).toArray s0 0 0 (gX ad s0.heap.size)) (F0 m0 54 ls []) := by
        intro x54 H locs ls e54 hN hl
        have J4 : ∀ (x78 : Int32) (H : Heap) (locs : List Loc) (ls : Array Slot), (x78 = cW2 F V c k) → gN D ad cs s0 F V o H locs → lv_has ls 6 [(0, .ref (ad 7)), (1, .int (nI c)), (2, .int (nI k)), (3, .ref (ad 1)), (4, .int x78), (5, .int (nI (c % 8)))] → W p0 l e0 ({ frames := 3, cells := 0, slots := 0, locals := 74 } : Room) s0 m0 ([.ref (ad 7), .int (nI c), .int (nI k), .ref (ad 1)] : List Value).toArray b0 k0 c0 H locs 0 0 (MQ b0 (gQI D ad cs (cWant F V c k) F V o s0.heap.size) ([.ref (ad 7), .int (nI c), .int (nI k), .ref (ad 1)] : List Value).toArray s0 0 0 (gX ad s0.heap.size)) (F0 m0 78 ls []) := by
          intro x78 H locs ls e78 hN hl
          have J5 : ∀ (x100 : Int32) (H : Heap) (locs : List Loc) (ls : Array Slot), (x100 = cW3 F V c k) → gN D ad cs s0 F V o H locs → lv_has ls 6 [(0, .ref (ad 7)), (1, .int (nI c)), (2, .int (nI k)), (3, .ref (ad 1)), (4, .int x100), (5, .int (nI (c % 8)))] → W p0 l e0 ({ frames := 3, cells := 0, slots := 0, locals := 74 } : Room) s0 m0 ([.ref (ad 7), .int (nI c), .int (nI k), .ref (ad 1)] : List Value).toArray b0 k0 c0 H locs 0 0 (MQ b0 (gQI D ad cs (cWant F V c k) F V o s0.heap.size) ([.ref (ad 7), .int (nI c), .int (nI k), .ref (ad 1)] : List Value).toArray s0 0 0 (gX ad s0.heap.size)) (F0 m0 100 ls []) := by
            intro x100 H locs ls e100 hN hl
            have J6 : ∀ (x124 : Int32) (H : Heap) (locs : List Loc) (ls : Array Slot), (x124 = cW4 F V c k) → gN D ad cs s0 F V o H locs → lv_has ls 6 [(0, .ref (ad 7)), (1, .int (nI c)), (2, .int (nI k)), (3, .ref (ad 1)), (4, .int x124), (5, .int (nI (c % 8)))] → W p0 l e0 ({ frames := 3, cells := 0, slots := 0, locals := 74 } : Room) s0 m0 ([.ref (ad 7), .int (nI c), .int (nI k), .ref (ad 1)] : List Value).toArray b0 k0 c0 H locs 0 0 (MQ b0 (gQI D ad cs (cWant F V c k) F V o s0.heap.size) ([.ref (ad 7), .int (nI c), .int (nI k), .ref (ad 1)] : List Value).toArray s0 0 0 (gX ad s0.heap.size)) (F0 m0 124 ls []) := by
              intro x124 H locs ls e124 hN hl
              refine lv_iload hx hb dX1_wanted_124 (lv_at hl 4 rfl) ?_
              exact g_ri hx hb hr hlocks hN (⟨by simp [cWant, gmax, c1, c2, e54, e78, e100, e124], rfl⟩) dX1_wanted_126
            refine lv_iload hx hb dX1_wanted_100 (lv_at hl 5 rfl) ?_
            refine lv_bipush (v := 7) hx hb dX1_wanted_102 (by decide) ?_
            refine g_cN_ge (a := c % 8) (b := 7) (tgt := 124) hx hb dX1_wanted_104 (by decide) rfl rfl (by omega) (by omega) (fun c7 => ?_) (fun c7 => ?_)
            · exact J6 x100 _ _ ls (by simp [cW4, gmax, c1, c2, e54, e78, e100, c7, Nat.not_lt.mpr c7]) hN (lv_sub hl [0, 1, 2, 3, 4, 5] rfl)
            · refine lv_iload hx hb dX1_wanted_107 (lv_at hl 4 rfl) ?_
              refine lv_aload_n hx hb dX1_wanted_109 rfl (lv_at hl 0 rfl) ?_
              refine lv_iload_n hx hb dX1_wanted_110 rfl (lv_at hl 1 rfl) ?_
              refine lv_iload_n hx hb dX1_wanted_111 rfl (lv_at hl 1 rfl) ?_
              refine lv_iconst (v := 1) hx hb dX1_wanted_112 (by decide) ?_
              refine g_addN (a := c) (b := 1) hx hb rfl rfl dX1_wanted_113 ?_
              refine lv_iload_n hx hb dX1_wanted_114 rfl (lv_at hl 2 rfl) ?_
              refine lv_aload_n hx hb dX1_wanted_115 rfl (lv_at hl 3 rfl) ?_
              refine g_VI (As := [.int (nI c), .int (nI (c + 1)), .int (nI k), .ref (ad 1)]) (rest := [.int x100]) ⟨hx, hb, hml, hown, hts⟩ hG hN (i := 7) (by decide) rfl rfl (c_X1_fromSide l c (c + 1) k (by omega) (by omega) (by omega)) (cwV 4 hts gX1_wanted_X1_fromSide rfl rfl rfl (by decide +kernel) ⟨Nat.le_of_ble_eq_true rfl, Nat.le_of_ble_eq_true rfl⟩) rfl hl.1 rfl (Nat.le_of_ble_eq_true rfl) dX1_wanted_116 ⟨Nat.le_of_ble_eq_true rfl, Nat.le_of_ble_eq_true rfl⟩ (fun H locs hN => ?_)
              refine va_mmax hx hb (hml.trans hl.1.symm) hown hm1max hm2max hm3 hm4max (Nat.le_of_ble_eq_true rfl) (Nat.le_of_ble_eq_true rfl) (Nat.le_of_ble_eq_true rfl) (Nat.le_of_ble_eq_true rfl) dX1_wanted_119 ?_
              refine lv_istore (lv' := [(4, .int (if x100 < (cSide F V c (c + 1) k) then (cSide F V c (c + 1) k) else x100)), (0, .ref (ad 7)), (1, .int (nI c)), (2, .int (nI k)), (3, .ref (ad 1)), (5, .int (nI (c % 8)))]) hx hb dX1_wanted_122 hl (by decide) rfl (fun ls hl => ?_)
              exact J6 (if x100 < (cSide F V c (c + 1) k) then (cSide F V c (c + 1) k) else x100) _ _ ls (by simp [cW4, gmax, c1, c2, e54, e78, e100, c7, Nat.not_le.mpr c7]) hN (lv_sub hl [1, 2, 3, 4, 0, 5] rfl)
          refine lv_iload hx hb dX1_wanted_78 (lv_at hl 5 rfl) ?_
          refine g_ifN_le (a := c % 8) (tgt := 100) hx hb dX1_wanted_80 (by decide) rfl (by omega) (fun c8 => ?_) (fun c8 => ?_)
          · exact J5 x78 _ _ ls (by simp [cW3, gmax, c1, c2, e54, e78, c8]) hN (lv_sub hl [0, 1, 2, 3, 4, 5] rfl)
          · refine lv_iload hx hb dX1_wanted_83 (lv_at hl 4 rfl) ?_
            refine lv_aload_n hx hb dX1_wanted_85 rfl (lv_at hl 0 rfl) ?_
            refine lv_iload_n hx hb dX1_wanted_86 rfl (lv_at hl 1 rfl) ?_
            refine lv_iload_n hx hb dX1_wanted_87 rfl (lv_at hl 1 rfl) ?_
            refine lv_iconst (v := 1) hx hb dX1_wanted_88 (by decide) ?_
            refine g_subN (a := c) (b := 1) hx hb rfl rfl (by omega) dX1_wanted_89 ?_
            refine lv_iload_n hx hb dX1_wanted_90 rfl (lv_at hl 2 rfl) ?_
            refine lv_aload_n hx hb dX1_wanted_91 rfl (lv_at hl 3 rfl) ?_
            refine g_VI (As := [.int (nI c), .int (nI (c - 1)), .int (nI k), .ref (ad 1)]) (rest := [.int x78]) ⟨hx, hb, hml, hown, hts⟩ hG hN (i := 7) (by decide) rfl rfl (c_X1_fromSide l c (c - 1) k (by omega) (by omega) (by omega)) (cwV 4 hts gX1_wanted_X1_fromSide rfl rfl rfl (by decide +kernel) ⟨Nat.le_of_ble_eq_true rfl, Nat.le_of_ble_eq_true rfl⟩) rfl hl.1 rfl (Nat.le_of_ble_eq_true rfl) dX1_wanted_92 ⟨Nat.le_of_ble_eq_true rfl, Nat.le_of_ble_eq_true rfl⟩ (fun H locs hN => ?_)
            refine va_mmax hx hb (hml.trans hl.1.symm) hown hm1max hm2max hm3 hm4max (Nat.le_of_ble_eq_true rfl) (Nat.le_of_ble_eq_true rfl) (Nat.le_of_ble_eq_true rfl) (Nat.le_of_ble_eq_true rfl) dX1_wanted_95 ?_
            refine lv_istore (lv' := [(4, .int (if x78 < (cSide F V c (c - 1) k) then (cSide F V c (c - 1) k) else x78)), (0, .ref (ad 7)), (1, .int (nI c)), (2, .int (nI k)), (3, .ref (ad 1)), (5, .int (nI (c % 8)))]) hx hb dX1_wanted_98 hl (by decide) rfl (fun ls hl => ?_)
            exact J5 (if x78 < (cSide F V c (c - 1) k) then (cSide F V c (c - 1) k) else x78) _ _ ls (by simp [cW3, gmax, c1, c2, e54, e78, c8, Nat.ne_of_gt c8]) hN (lv_sub hl [1, 2, 3, 4, 0, 5] rfl)
        refine lv_iload_n hx hb dX1_wanted_54 rfl (lv_at hl 1 rfl) ?_
        refine lv_bipush (v := 56) hx hb dX1_wanted_55 (by decide) ?_
        refine g_cN_ge (a := c) (b := 56) (tgt := 78) hx hb dX1_wanted_57 (by decide) rfl rfl (by omega) (by omega) (fun c9 => ?_) (fun c9 => ?_)
        · exact J4 x54 _ _ ls (by simp [cW2, gmax, c1, c2, e54, c9, Nat.not_lt.mpr c9]) hN (lv_sub hl [0, 1, 2, 3, 4, 5] rfl)
        · refine lv_iload hx hb dX1_wanted_60 (lv_at hl 4 rfl) ?_
          refine lv_aload_n hx hb dX1_wanted_62 rfl (lv_at hl 0 rfl) ?_
          refine lv_iload_n hx hb dX1_wanted_63 rfl (lv_at hl 1 rfl) ?_
          refine lv_iload_n hx hb dX1_wanted_64 rfl (lv_at hl 1 rfl) ?_
          refine lv_bipush (v := 8) hx hb dX1_wanted_65 (by decide) ?_
          refine g_addN (a := c) (b := 8) hx hb rfl rfl dX1_wanted_67 ?_
          refine lv_iload_n hx hb dX1_wanted_68 rfl (lv_at hl 2 rfl) ?_
          refine lv_aload_n hx hb dX1_wanted_69 rfl (lv_at hl 3 rfl) ?_
          refine g_VI (As := [.int (nI c), .int (nI (c + 8)), .int (nI k), .ref (ad 1)]) (rest := [.int x54]) ⟨hx, hb, hml, hown, hts⟩ hG hN (i := 7) (by decide) rfl rfl (c_X1_fromSide l c (c + 8) k (by omega) (by omega) (by omega)) (cwV 4 hts gX1_wanted_X1_fromSide rfl rfl rfl (by decide +kernel) ⟨Nat.le_of_ble_eq_true rfl, Nat.le_of_ble_eq_true rfl⟩) rfl hl.1 rfl (Nat.le_of_ble_eq_true rfl) dX1_wanted_70 ⟨Nat.le_of_ble_eq_true rfl, Nat.le_of_ble_eq_true rfl⟩ (fun H locs hN => ?_)
          refine va_mmax hx hb (hml.trans hl.1.symm) hown hm1max hm2max hm3 hm4max (Nat.le_of_ble_eq_true rfl) (Nat.le_of_ble_eq_true rfl) (Nat.le_of_ble_eq_true rfl) (Nat.le_of_ble_eq_true rfl) dX1_wanted_73 ?_
          refine lv_istore (lv' := [(4, .int (if x54 < (cSide F V c (c + 8) k) then (cSide F V c (c + 8) k) else x54)), (0, .ref (ad 7)), (1, .int (nI c)), (2, .int (nI k)), (3, .ref (ad 1)), (5, .int (nI (c % 8)))]) hx hb dX1_wanted_76 hl (by decide) rfl (fun ls hl => ?_)
          exact J4 (if x54 < (cSide F V c (c + 8) k) then (cSide F V c (c + 8) k) else x54) _ _ ls (by simp [cW2, gmax, c1, c2, e54, c9, Nat.not_le.mpr c9]) hN (lv_sub hl [1, 2, 3, 4, 0, 5] rfl)
      refine lv_iload_n hx hb dX1_wanted_30 rfl (lv_at hl 3 rfl) ?_
      refine lv_bipush (v := 8) hx hb dX1_wanted_31 (by decide) ?_
      refine g_cN_lt (a := c) (b := 8) (tgt := 54) hx hb dX1_wanted_33 (by decide) rfl rfl (by omega) (by omega) (fun c10 => ?_) (fun c10 => ?_)
      · exact J3 (cAhead F V c k) _ _ ls (by simp [cW1, gmax, c1, c2, c10, Nat.not_le.mpr c10]) hN (lv_sub hl [2, 3, 4, 5, 1, 0] rfl)
      · refine lv_iload hx hb dX1_wanted_36 (lv_at hl 1 rfl) ?_
        refine lv_aload_n hx hb dX1_wanted_38 rfl (lv_at hl 2 rfl) ?_
        refine lv_iload_n hx hb dX1_wanted_39 rfl (lv_at hl 3 rfl) ?_
        refine lv_iload_n hx hb dX1_wanted_40 rfl (lv_at hl 3 rfl) ?_
        refine lv_bipush (v := 8) hx hb dX1_wanted_41 (by decide) ?_
        refine g_subN (a := c) (b := 8) hx hb rfl rfl (by omega) dX1_wanted_43 ?_
        refine lv_iload_n hx hb dX1_wanted_44 rfl (lv_at hl 4 rfl) ?_
        refine lv_aload_n hx hb dX1_wanted_45 rfl (lv_at hl 5 rfl) ?_
        refine g_VI (As := [.int (nI c), .int (nI (c - 8)), .int (nI k), .ref (ad 1)]) (rest := [.int (cAhead F V c k)]) ⟨hx, hb, hml, hown, hts⟩ hG hN (i := 7) (by decide) rfl rfl (c_X1_fromSide l c (c - 8) k (by omega) (by omega) (by omega)) (cwV 4 hts gX1_wanted_X1_fromSide rfl rfl rfl (by decide +kernel) ⟨Nat.le_of_ble_eq_true rfl, Nat.le_of_ble_eq_true rfl⟩) rfl hl.1 rfl (Nat.le_of_ble_eq_true rfl) dX1_wanted_46 ⟨Nat.le_of_ble_eq_true rfl, Nat.le_of_ble_eq_true rfl⟩ (fun H locs hN => ?_)
        refine va_mmax hx hb (hml.trans hl.1.symm) hown hm1max hm2max hm3 hm4max (Nat.le_of_ble_eq_true rfl) (Nat.le_of_ble_eq_true rfl) (Nat.le_of_ble_eq_true rfl) (Nat.le_of_ble_eq_true rfl) dX1_wanted_49 ?_
        refine lv_istore (lv' := [(4, .int (if (cAhead F V c k) < (cSide F V c (c - 8) k) then (cSide F V c (c - 8) k) else (cAhead F V c k))), (5, .int (nI (c % 8))), (0, .ref (ad 7)), (1, .int (nI c)), (2, .int (nI k)), (3, .ref (ad 1))]) hx hb dX1_wanted_52 hl (by decide) rfl (fun ls hl => ?_)
        exact J3 (if (cAhead F V c k) < (cSide F V c (c - 8) k) then (cSide F V c (c - 8) k) else (cAhead F V c k)) _ _ ls (by simp [cW1, gmax, c1, c2, c10, Nat.not_lt.mpr c10]) hN (lv_sub hl [2, 3, 4, 5, 0, 1] rfl)
    · refine lv_iload hx hb dX1_wanted_21 (lv_at hl 0 rfl) ?_
      exact g_ri hx hb hr hlocks hN (⟨by simp [cWant, gmax, c1, c2], rfl⟩) dX1_wanted_23
set_option maxHeartbeats 4000000 in
set_option maxRecDepth 100000 in
theorem c_X2_curve (l : Launch) {D : va_G} {ad : Nat → Nat} {cs : Nat → ClassId} {zd : Nat → Nat} {F V : gF} {o : gO} {sz : Nat} (t g : Int32) : Met l yX2_curve wsX2_curve ({ frames := 0, cells := 0, slots := 0, locals := 0 } : Room) (gPc D ad cs zd F V o sz [.int t, .int g]) (gQI D ad cs (cCurve t g) F V o sz) 0 0 (gX ad sz) := by
  refine g_met (Qc := fun z0 => gQI D ad cs (cCurve t g) F V o z0) (cc := cX2_curve) (maxL := 2) (ret := (some .int)) (own := RX2) (by decide +kernel) rfl rfl (Nat.le_of_ble_eq_true rfl) ?_
  intro p0 e0 s0 m0 b0 k0 c0 hx hb hr hts hown hlocks hml hG hN ls hl
  have hl : lv_has ls 2 [(0, .int t), (1, .int g)] := hl
  refine lv_iload_n hx hb dX2_curve_0 rfl (lv_at hl 0 rfl) ?_
  refine lv_iload_n hx hb dX2_curve_1 rfl (lv_at hl 1 rfl) ?_
  refine lv_iload_n hx hb dX2_curve_2 rfl (lv_at hl 0 rfl) ?_
  refine lv_imul hx hb dX2_curve_3 ?_
  refine lv_bipush (v := 100) hx hb dX2_curve_4 (by decide) ?_
  refine lv_iload_n hx hb dX2_curve_6 rfl (lv_at hl 0 rfl) ?_
  refine lv_isub hx hb dX2_curve_7 ?_
  refine lv_imul hx hb dX2_curve_8 ?_
  refine lv_sipush (v := 2500) hx hb dX2_curve_9 (by decide) ?_
  refine lv_idiv hx hb dX2_curve_12 (by decide) ?_
  refine lv_iadd hx hb dX2_curve_13 ?_
  exact g_ri hx hb hr hlocks hN (⟨rfl, rfl⟩) dX2_curve_14
set_option maxHeartbeats 4000000 in
set_option maxRecDepth 100000 in
theorem c_X2_leastTint (l : Launch) {D : va_G} {ad : Nat → Nat} {cs : Nat → ClassId} {zd : Nat → Nat} {F V : gF} {o : gO} {sz : Nat} (w g : Int32) : Met l yX2_leastTint wsX2_leastTint ({ frames := 1, cells := 0, slots := 0, locals := 21 } : Room) (gPc D ad cs zd F V o sz [.int w, .int g]) (gQI D ad cs (nI (cTint w g)) F V o sz) 0 0 (gX ad sz) := by
  refine g_met (Qc := fun z0 => gQI D ad cs (nI (cTint w g)) F V o z0) (cc := cX2_leastTint) (maxL := 3) (ret := (some .int)) (own := RX2) (by decide +kernel) rfl rfl (Nat.le_of_ble_eq_true rfl) ?_
  intro p0 e0 s0 m0 b0 k0 c0 hx hb hr hts hown hlocks hml hG hN ls hl
  have hl : lv_has ls 3 [(0, .int w), (1, .int g)] := hl
  refine lv_iconst (v := 0) hx hb dX2_leastTint_0 (by decide) ?_
  refine lv_istore_n (lv' := [(2, .int 0), (0, .int w), (1, .int g)]) hx hb dX2_leastTint_1 rfl hl (by decide) rfl (fun ls hl => ?_)
  have L1 : ∀ (d9_2 : Nat) (t : Nat) (H : Heap) (locs : List Loc) (ls : Array Slot), 100 - t = d9_2 → (t ≤ 100) → (cLeast w g (100 - t) t = cTint w g) → gN D ad cs s0 F V o H locs → lv_has ls 3 [(0, .int w), (1, .int g), (2, .int (nI t))] → W p0 l e0 ({ frames := 1, cells := 0, slots := 0, locals := 21 } : Room) s0 m0 ([.int w, .int g] : List Value).toArray b0 k0 c0 H locs 0 0 (MQ b0 (gQI D ad cs (nI (cTint w g)) F V o s0.heap.size) ([.int w, .int g] : List Value).toArray s0 0 0 (gX ad s0.heap.size)) (F0 m0 2 ls []) := by
    intro d9_2
    induction d9_2 with
    | zero =>
      intro t H locs ls hd_2 ht he hN hl
      refine lv_iload_n hx hb dX2_leastTint_2 rfl (lv_at hl 2 rfl) ?_
      refine lv_bipush (v := 100) hx hb dX2_leastTint_3 (by decide) ?_
      refine g_cN_ge (a := t) (b := 100) (tgt := 23) hx hb dX2_leastTint_5 (by decide) rfl rfl (by omega) (by omega) (fun c2 => ?_) (fun c2 => absurd c2 (by omega))
      refine lv_iload_n hx hb dX2_leastTint_23 rfl (lv_at hl 2 rfl) ?_
      exact g_ri hx hb hr hlocks hN (⟨by rw [← he, hd_2]; rfl, rfl⟩) dX2_leastTint_24
    | succ d9_2 ih2 =>
      intro t H locs ls hd_2 ht he hN hl
      refine lv_iload_n hx hb dX2_leastTint_2 rfl (lv_at hl 2 rfl) ?_
      refine lv_bipush (v := 100) hx hb dX2_leastTint_3 (by decide) ?_
      refine g_cN_ge (a := t) (b := 100) (tgt := 23) hx hb dX2_leastTint_5 (by decide) rfl rfl (by omega) (by omega) (fun c3 => absurd c3 (by omega)) (fun c3 => ?_)
      refine lv_iload_n hx hb dX2_leastTint_8 rfl (lv_at hl 2 rfl) ?_
      refine lv_iload_n hx hb dX2_leastTint_9 rfl (lv_at hl 1 rfl) ?_
      refine g_SI (As := [.int (nI t), .int g]) (rest := []) ⟨hx, hb, hml, hown, hts⟩ hG hN (c_X2_curve l (nI t) g) (va_cwS 2 hts gX2_leastTint_X2_curve rfl rfl rfl (by decide +kernel) ⟨Nat.le_of_ble_eq_true rfl, Nat.le_of_ble_eq_true rfl⟩) rfl hl.1 rfl (Nat.le_of_ble_eq_true rfl) dX2_leastTint_10 ⟨Nat.le_of_ble_eq_true rfl, Nat.le_of_ble_eq_true rfl⟩ (fun H locs hN => ?_)
      refine lv_iload_n hx hb dX2_leastTint_13 rfl (lv_at hl 0 rfl) ?_
      refine lv_icmp_ge (tgt := 23) hx hb dX2_leastTint_14 (by decide) (fun c4 => ?_) (fun c4 => ?_)
      · refine lv_iload_n hx hb dX2_leastTint_23 rfl (lv_at hl 2 rfl) ?_
        exact g_ri hx hb hr hlocks hN (⟨by rw [← he, hd_2]; simp [cLeast, c4, Int32.not_lt.mpr c4], rfl⟩) dX2_leastTint_24
      · refine lv_iinc (v := (nI (t + 1))) (lv' := [(2, .int (nI (t + 1))), (0, .int w), (1, .int g)]) hx hb dX2_leastTint_17 hl (k := 2) rfl (nI_1 _) (by decide) rfl (fun ls hl => ?_)
        refine lv_goto (tgt := 2) hx hb dX2_leastTint_20 (by decide) ?_
        exact ih2 (t + 1) _ _ ls (by omega) (by omega) (by rw [← he, hd_2]; simp [cLeast, c4, Int32.not_le.mp c4]; congr 1; omega) hN (lv_sub hl [1, 2, 0] rfl)
  exact L1 _ 0 _ _ ls (rfl) (by omega) (rfl) hN (lv_sub hl [1, 2, 0] rfl)
set_option maxHeartbeats 4000000 in
set_option maxRecDepth 100000 in
theorem c_X2_tint (l : Launch) {D : va_G} {ad : Nat → Nat} {cs : Nat → ClassId} {zd : Nat → Nat} {F V : gF} {o : gO} {sz : Nat} (c k : Nat) (hc : c < 64) (hk : k < 4) : Met l yX2_tint wsX2_tint ({ frames := 0, cells := 0, slots := 0, locals := 0 } : Room) (gPc D ad cs zd F V o sz [.ref (ad 12), .int (nI c), .int (nI k)]) (gQI D ad cs (F (14 + k) c) F V o sz) 0 0 (gX ad sz) := by
  refine g_met (Qc := fun z0 => gQI D ad cs (F (14 + k) c) F V o z0) (cc := cX2_tint) (maxL := 3) (ret := (some .int)) (own := RX2) (by decide +kernel) rfl rfl (Nat.le_of_ble_eq_true rfl) ?_
  intro p0 e0 s0 m0 b0 k0 c0 hx hb hr hts hown hlocks hml hG hN ls hl
  have hl : lv_has ls 3 [(0, .ref (ad 12)), (1, .int (nI c)), (2, .int (nI k))] := hl
  have hin_2 : ∀ w ∈ wsX20, w ∈ wsX2_tint := by decide +kernel
  have hk_11 := hts (.fieldLink RX2 11 "GravureHouse$PlateSet" "tints" "[[I") (by decide +kernel)
  refine lv_aload_n hx hb dX2_tint_0 rfl (lv_at hl 0 rfl) ?_
  refine gf_12_0 hx hb hts hin_2 hown hG hN hk_11 dX2_tint_1 ?_
  refine lv_iload_n hx hb dX2_tint_4 rfl (lv_at hl 2 rfl) ?_
  refine g_aald hx hb hG hN (i := 13) (n := 4) (j := k) (b := 14) (by decide) rfl (by decide) (by omega) rfl dX2_tint_5 ?_
  refine lv_iload_n hx hb dX2_tint_6 rfl (lv_at hl 1 rfl) ?_
  refine g_iald hx hb hG hN (i := (14 + k)) (n := 64) (j := c) (by omega) (gC_r14 (by omega) _) (by decide) (by omega) rfl dX2_tint_7 ?_
  exact g_ri hx hb hr hlocks hN (⟨rfl, rfl⟩) dX2_tint_8
set_option maxHeartbeats 4000000 in
set_option maxRecDepth 100000 in
theorem c_X2_printed (l : Launch) {D : va_G} {ad : Nat → Nat} {cs : Nat → ClassId} {zd : Nat → Nat} {F V : gF} {o : gO} {sz : Nat} (c k : Nat) (hc : c < 64) (hk : k < 4) : Met l yX2_printed wsX2_printed ({ frames := 1, cells := 0, slots := 0, locals := 21 } : Room) (gPc D ad cs zd F V o sz [.ref (ad 12), .int (nI c), .int (nI k), .ref (ad 1)]) (gQI D ad cs (cCurve (F (14 + k) c) (F 2 k)) F V o sz) 0 0 (gX ad sz) := by
  refine g_met (Qc := fun z0 => gQI D ad cs (cCurve (F (14 + k) c) (F 2 k)) F V o z0) (cc := cX2_printed) (maxL := 4) (ret := (some .int)) (own := RX2) (by decide +kernel) rfl rfl (Nat.le_of_ble_eq_true rfl) ?_
  intro p0 e0 s0 m0 b0 k0 c0 hx hb hr hts hown hlocks hml hG hN ls hl
  have hl : lv_has ls 4 [(0, .ref (ad 12)), (1, .int (nI c)), (2, .int (nI k)), (3, .ref (ad 1))] := hl
  have hin_2 : ∀ w ∈ wsX20, w ∈ wsX2_printed := by decide +kernel
  have hk_11 := hts (.fieldLink RX2 11 "GravureHouse$PlateSet" "tints" "[[I") (by decide +kernel)
  refine lv_aload_n hx hb dX2_printed_0 rfl (lv_at hl 0 rfl) ?_
  refine gf_12_0 hx hb hts hin_2 hown hG hN hk_11 dX2_printed_1 ?_
  refine lv_iload_n hx hb dX2_printed_4 rfl (lv_at hl 2 rfl) ?_
  refine g_aald hx hb hG hN (i := 13) (n := 4) (j := k) (b := 14) (by decide) rfl (by decide) (by omega) rfl dX2_printed_5 ?_
  refine lv_iload_n hx hb dX2_printed_6 rfl (lv_at hl 1 rfl) ?_
  refine g_iald hx hb hG hN (i := (14 + k)) (n := 64) (j := c) (by omega) (gC_r14 (by omega) _) (by decide) (by omega) rfl dX2_printed_7 ?_
  refine lv_aload_n hx hb dX2_printed_8 rfl (lv_at hl 3 rfl) ?_
  refine lv_iload_n hx hb dX2_printed_9 rfl (lv_at hl 2 rfl) ?_
  refine g_VI (As := [.int (nI k)]) (rest := [.int (F (14 + k) c)]) ⟨hx, hb, hml, hown, hts⟩ hG hN (i := 1) (by decide) rfl rfl (c_X7_gain l k (by omega)) (cwV 1 hts gX2_printed_X7_gain rfl rfl rfl (by decide +kernel) ⟨Nat.le_of_ble_eq_true rfl, Nat.le_of_ble_eq_true rfl⟩) rfl hl.1 rfl (Nat.le_of_ble_eq_true rfl) dX2_printed_10 ⟨Nat.le_of_ble_eq_true rfl, Nat.le_of_ble_eq_true rfl⟩ (fun H locs hN => ?_)
  refine g_SI (As := [.int (F (14 + k) c), .int (F 2 k)]) (rest := []) ⟨hx, hb, hml, hown, hts⟩ hG hN (c_X2_curve l (F (14 + k) c) (F 2 k)) (va_cwS 2 hts gX2_printed_X2_curve rfl rfl rfl (by decide +kernel) ⟨Nat.le_of_ble_eq_true rfl, Nat.le_of_ble_eq_true rfl⟩) rfl hl.1 rfl (Nat.le_of_ble_eq_true rfl) dX2_printed_13 ⟨Nat.le_of_ble_eq_true rfl, Nat.le_of_ble_eq_true rfl⟩ (fun H locs hN => ?_)
  exact g_ri hx hb hr hlocks hN (⟨rfl, rfl⟩) dX2_printed_16
set_option maxHeartbeats 4000000 in
set_option maxRecDepth 100000 in
theorem c_X2_columnSum (l : Launch) {D : va_G} {ad : Nat → Nat} {cs : Nat → ClassId} {zd : Nat → Nat} {F V : gF} {o : gO} {sz : Nat} (k q : Nat) (hk : k < 4) (hq : q < 8) : Met l yX2_columnSum wsX2_columnSum ({ frames := 0, cells := 0, slots := 0, locals := 0 } : Room) (gPc D ad cs zd F V o sz [.ref (ad 12), .int (nI k), .int (nI q)]) (gQI D ad cs (cSum F k q 8) F V o sz) 0 0 (gX ad sz) := by
  refine g_met (Qc := fun z0 => gQI D ad cs (cSum F k q 8) F V o z0) (cc := cX2_columnSum) (maxL := 5) (ret := (some .int)) (own := RX2) (by decide +kernel) rfl rfl (Nat.le_of_ble_eq_true rfl) ?_
  intro p0 e0 s0 m0 b0 k0 c0 hx hb hr hts hown hlocks hml hG hN ls hl
  have hl : lv_has ls 5 [(0, .ref (ad 12)), (1, .int (nI k)), (2, .int (nI q))] := hl
  have hin_2 : ∀ w ∈ wsX20, w ∈ wsX2_columnSum := by decide +kernel
  have hk_11 := hts (.fieldLink RX2 11 "GravureHouse$PlateSet" "tints" "[[I") (by decide +kernel)
  refine lv_iconst (v := 0) hx hb dX2_columnSum_0 (by decide) ?_
  refine lv_istore_n (lv' := [(3, .int 0), (0, .ref (ad 12)), (1, .int (nI k)), (2, .int (nI q))]) hx hb dX2_columnSum_1 rfl hl (by decide) rfl (fun ls hl => ?_)
  refine lv_iconst (v := 0) hx hb dX2_columnSum_2 (by decide) ?_
  refine lv_istore (lv' := [(4, .int 0), (3, .int 0), (0, .ref (ad 12)), (1, .int (nI k)), (2, .int (nI q))]) hx hb dX2_columnSum_3 hl (by decide) rfl (fun ls hl => ?_)
  have L1 : ∀ (d9_5 : Nat) (n : Nat) (x3 : Int32) (H : Heap) (locs : List Loc) (ls : Array Slot), 8 - n = d9_5 → (n ≤ 8) → (x3 = cSum F k q n) → gN D ad cs s0 F V o H locs → lv_has ls 5 [(0, .ref (ad 12)), (1, .int (nI k)), (2, .int (nI q)), (3, .int x3), (4, .int (nI n))] → W p0 l e0 ({ frames := 0, cells := 0, slots := 0, locals := 0 } : Room) s0 m0 ([.ref (ad 12), .int (nI k), .int (nI q)] : List Value).toArray b0 k0 c0 H locs 0 0 (MQ b0 (gQI D ad cs (cSum F k q 8) F V o s0.heap.size) ([.ref (ad 12), .int (nI k), .int (nI q)] : List Value).toArray s0 0 0 (gX ad s0.heap.size)) (F0 m0 5 ls []) := by
    intro d9_5
    induction d9_5 with
    | zero =>
      intro n x3 H locs ls hd_5 hn e3 hN hl
      refine lv_iload hx hb dX2_columnSum_5 (lv_at hl 4 rfl) ?_
      refine lv_bipush (v := 8) hx hb dX2_columnSum_7 (by decide) ?_
      refine g_cN_ge (a := n) (b := 8) (tgt := 35) hx hb dX2_columnSum_9 (by decide) rfl rfl (by omega) (by omega) (fun c2 => ?_) (fun c2 => absurd c2 (by omega))
      refine lv_iload_n hx hb dX2_columnSum_35 rfl (lv_at hl 3 rfl) ?_
      exact g_ri hx hb hr hlocks hN (⟨by rw [e3, show n = 8 by omega], rfl⟩) dX2_columnSum_36
    | succ d9_5 ih5 =>
      intro n x3 H locs ls hd_5 hn e3 hN hl
      refine lv_iload hx hb dX2_columnSum_5 (lv_at hl 4 rfl) ?_
      refine lv_bipush (v := 8) hx hb dX2_columnSum_7 (by decide) ?_
      refine g_cN_ge (a := n) (b := 8) (tgt := 35) hx hb dX2_columnSum_9 (by decide) rfl rfl (by omega) (by omega) (fun c3 => absurd c3 (by omega)) (fun c3 => ?_)
      refine lv_iload_n hx hb dX2_columnSum_12 rfl (lv_at hl 3 rfl) ?_
      refine lv_aload_n hx hb dX2_columnSum_13 rfl (lv_at hl 0 rfl) ?_
      refine gf_12_0 hx hb hts hin_2 hown hG hN hk_11 dX2_columnSum_14 ?_
      refine lv_iload_n hx hb dX2_columnSum_17 rfl (lv_at hl 1 rfl) ?_
      refine g_aald hx hb hG hN (i := 13) (n := 4) (j := k) (b := 14) (by decide) rfl (by decide) (by omega) rfl dX2_columnSum_18 ?_
      refine lv_iload hx hb dX2_columnSum_19 (lv_at hl 4 rfl) ?_
      refine lv_bipush (v := 8) hx hb dX2_columnSum_21 (by decide) ?_
      refine g_mulN (a := n) (b := 8) hx hb rfl rfl dX2_columnSum_23 ?_
      refine lv_iload_n hx hb dX2_columnSum_24 rfl (lv_at hl 2 rfl) ?_
      refine g_addN (a := n * 8) (b := q) hx hb rfl rfl dX2_columnSum_25 ?_
      refine g_iald hx hb hG hN (i := (14 + k)) (n := 64) (j := (n * 8) + q) (by omega) (gC_r14 (by omega) _) (by decide) (by omega) rfl dX2_columnSum_26 ?_
      refine lv_iadd hx hb dX2_columnSum_27 ?_
      refine lv_istore_n (lv' := [(3, .int (x3 + (F (14 + k) ((n * 8) + q)))), (0, .ref (ad 12)), (1, .int (nI k)), (2, .int (nI q)), (4, .int (nI n))]) hx hb dX2_columnSum_28 rfl hl (by decide) rfl (fun ls hl => ?_)
      refine lv_iinc (v := (nI (n + 1))) (lv' := [(4, .int (nI (n + 1))), (3, .int (x3 + (F (14 + k) ((n * 8) + q)))), (0, .ref (ad 12)), (1, .int (nI k)), (2, .int (nI q))]) hx hb dX2_columnSum_29 hl (k := 4) rfl (nI_1 _) (by decide) rfl (fun ls hl => ?_)
      refine lv_goto (tgt := 5) hx hb dX2_columnSum_32 (by decide) ?_
      exact ih5 (n + 1) (x3 + (F (14 + k) ((n * 8) + q))) _ _ ls (by omega) (by omega) (by rw [e3]; rfl) hN (lv_sub hl [2, 3, 4, 1, 0] rfl)
  exact L1 _ 0 0 _ _ ls (rfl) (by omega) (rfl) hN (lv_sub hl [2, 3, 4, 1, 0] rfl)
set_option maxHeartbeats 4000000 in
set_option maxRecDepth 100000 in
theorem c_X2_hasDot (l : Launch) {D : va_G} {ad : Nat → Nat} {cs : Nat → ClassId} {zd : Nat → Nat} {F V : gF} {o : gO} {sz : Nat} (c k : Nat) (hc : c < 64) (hk : k < 4) : Met l yX2_hasDot wsX2_hasDot ({ frames := 0, cells := 0, slots := 0, locals := 0 } : Room) (gPc D ad cs zd F V o sz [.ref (ad 12), .int (nI c), .int (nI k)]) (gQI D ad cs (if (cDot1 F k (c - c % 8) (c % 8 + 1)).2 = true then 1 else 0) F V o sz) 0 0 (gX ad sz) := by
  refine g_met (Qc := fun z0 => gQI D ad cs (if (cDot1 F k (c - c % 8) (c % 8 + 1)).2 = true then 1 else 0) F V o z0) (cc := cX2_hasDot) (maxL := 6) (ret := (some .boolean)) (own := RX2) (by decide +kernel) rfl rfl (Nat.le_of_ble_eq_true rfl) ?_
  intro p0 e0 s0 m0 b0 k0 c0 hx hb hr hts hown hlocks hml hG hN ls hl
  have hl : lv_has ls 6 [(0, .ref (ad 12)), (1, .int (nI c)), (2, .int (nI k))] := hl
  have hin_2 : ∀ w ∈ wsX20, w ∈ wsX2_hasDot := by decide +kernel
  have hk_11 := hts (.fieldLink RX2 11 "GravureHouse$PlateSet" "tints" "[[I") (by decide +kernel)
  refine lv_iconst (v := 0) hx hb dX2_hasDot_0 (by decide) ?_
  refine lv_istore_n (lv' := [(3, .int 0), (0, .ref (ad 12)), (1, .int (nI c)), (2, .int (nI k))]) hx hb dX2_hasDot_1 rfl hl (by decide) rfl (fun ls hl => ?_)
  refine lv_iconst (v := 0) hx hb dX2_hasDot_2 (by decide) ?_
  refine lv_istore (lv' := [(4, .int 0), (3, .int 0), (0, .ref (ad 12)), (1, .int (nI c)), (2, .int (nI k))]) hx hb dX2_hasDot_3 hl (by decide) rfl (fun ls hl => ?_)
  refine lv_iload_n hx hb dX2_hasDot_5 rfl (lv_at hl 3 rfl) ?_
  refine lv_iload_n hx hb dX2_hasDot_6 rfl (lv_at hl 3 rfl) ?_
  refine lv_bipush (v := 8) hx hb dX2_hasDot_7 (by decide) ?_
  refine g_remN (a := c) (b := 8) hx hb rfl rfl (by omega) (by omega) (by omega) dX2_hasDot_9 ?_
  refine g_subN (a := c) (b := c % 8) hx hb rfl rfl (by omega) dX2_hasDot_10 ?_
  refine lv_istore (lv' := [(5, .int (nI (c - (c % 8)))), (4, .int 0), (3, .int 0), (0, .ref (ad 12)), (1, .int (nI c)), (2, .int (nI k))]) hx hb dX2_hasDot_11 hl (by decide) rfl (fun ls hl => ?_)
  have L1 : ∀ (d9_13 : Nat) (n : Nat) (x3 : Int32) (x4 : Int32) (H : Heap) (locs : List Loc) (ls : Array Slot), c % 8 + 1 - n = d9_13 → (n ≤ c % 8 + 1) → (x3 = if (cDot1 F k (c - c % 8) n).2 = true then 1 else 0) → (x4 = (cDot1 F k (c - c % 8) n).1) → gN D ad cs s0 F V o H locs → lv_has ls 6 [(0, .ref (ad 12)), (1, .int (nI c)), (2, .int (nI k)), (3, .int x3), (4, .int x4), (5, .int (nI (c - c % 8 + n)))] → W p0 l e0 ({ frames := 0, cells := 0, slots := 0, locals := 0 } : Room) s0 m0 ([.ref (ad 12), .int (nI c), .int (nI k)] : List Value).toArray b0 k0 c0 H locs 0 0 (MQ b0 (gQI D ad cs (if (cDot1 F k (c - c % 8) (c % 8 + 1)).2 = true then 1 else 0) F V o s0.heap.size) ([.ref (ad 12), .int (nI c), .int (nI k)] : List Value).toArray s0 0 0 (gX ad s0.heap.size)) (F0 m0 13 ls []) := by
    intro d9_13
    induction d9_13 with
    | zero =>
      intro n x3 x4 H locs ls hd_13 hn e3 e4 hN hl
      refine lv_iload hx hb dX2_hasDot_13 (lv_at hl 5 rfl) ?_
      refine lv_iload_n hx hb dX2_hasDot_15 rfl (lv_at hl 1 rfl) ?_
      refine g_cN_gt (a := c - c % 8 + n) (b := c) (tgt := 59) hx hb dX2_hasDot_16 (by decide) rfl rfl (by omega) (by omega) (fun c2 => ?_) (fun c2 => absurd c2 (by omega))
      refine lv_iload_n hx hb dX2_hasDot_59 rfl (lv_at hl 3 rfl) ?_
      exact g_rz hx hb hr hlocks (by rw [e3]; exact g_nz _) hN (⟨by rw [e3, show n = c % 8 + 1 by omega], rfl⟩) dX2_hasDot_60
    | succ d9_13 ih13 =>
      intro n x3 x4 H locs ls hd_13 hn e3 e4 hN hl
      refine lv_iload hx hb dX2_hasDot_13 (lv_at hl 5 rfl) ?_
      refine lv_iload_n hx hb dX2_hasDot_15 rfl (lv_at hl 1 rfl) ?_
      refine g_cN_gt (a := c - c % 8 + n) (b := c) (tgt := 59) hx hb dX2_hasDot_16 (by decide) rfl rfl (by omega) (by omega) (fun c3 => absurd c3 (by omega)) (fun c3 => ?_)
      refine lv_iload hx hb dX2_hasDot_19 (lv_at hl 4 rfl) ?_
      refine lv_aload_n hx hb dX2_hasDot_21 rfl (lv_at hl 0 rfl) ?_
      refine gf_12_0 hx hb hts hin_2 hown hG hN hk_11 dX2_hasDot_22 ?_
      refine lv_iload_n hx hb dX2_hasDot_25 rfl (lv_at hl 2 rfl) ?_
      refine g_aald hx hb hG hN (i := 13) (n := 4) (j := k) (b := 14) (by decide) rfl (by decide) (by omega) rfl dX2_hasDot_26 ?_
      refine lv_iload hx hb dX2_hasDot_27 (lv_at hl 5 rfl) ?_
      refine g_iald hx hb hG hN (i := (14 + k)) (n := 64) (j := c - c % 8 + n) (by omega) (gC_r14 (by omega) _) (by decide) (by omega) rfl dX2_hasDot_29 ?_
      refine lv_iadd hx hb dX2_hasDot_30 ?_
      refine lv_istore (lv' := [(4, .int (x4 + (F (14 + k) (c - c % 8 + n)))), (0, .ref (ad 12)), (1, .int (nI c)), (2, .int (nI k)), (3, .int x3), (5, .int (nI (c - c % 8 + n)))]) hx hb dX2_hasDot_31 hl (by decide) rfl (fun ls hl => ?_)
      refine lv_iload hx hb dX2_hasDot_33 (lv_at hl 0 rfl) ?_
      refine lv_bipush (v := 50) hx hb dX2_hasDot_35 (by decide) ?_
      refine lv_icmp_lt (tgt := 44) hx hb dX2_hasDot_37 (by decide) (fun c4 => ?_) (fun c4 => ?_)
      · refine lv_iconst (v := 0) hx hb dX2_hasDot_44 (by decide) ?_
        refine lv_istore_n (lv' := [(3, .int 0), (4, .int (x4 + (F (14 + k) (c - c % 8 + n)))), (0, .ref (ad 12)), (1, .int (nI c)), (2, .int (nI k)), (5, .int (nI (c - c % 8 + n)))]) hx hb dX2_hasDot_45 rfl hl (by decide) rfl (fun ls hl => ?_)
        refine lv_iload_n hx hb dX2_hasDot_46 rfl (lv_at hl 0 rfl) ?_
        refine lv_if_eq (tgt := 53) hx hb dX2_hasDot_47 (by decide) (fun _ => ?_) (fun c5 => False.elim (by revert c5; decide))
        refine lv_iinc (v := (nI ((c - c % 8 + n) + 1))) (lv' := [(5, .int (nI ((c - c % 8 + n) + 1))), (3, .int 0), (4, .int (x4 + (F (14 + k) (c - c % 8 + n)))), (0, .ref (ad 12)), (1, .int (nI c)), (2, .int (nI k))]) hx hb dX2_hasDot_53 hl (k := 5) rfl (nI_1 _) (by decide) rfl (fun ls hl => ?_)
        refine lv_goto (tgt := 13) hx hb dX2_hasDot_56 (by decide) ?_
        exact ih13 (n + 1) 0 (x4 + (F (14 + k) (c - c % 8 + n))) _ _ ls (by omega) (by omega) (by simp [cDot1, ← e4, c4, Int32.not_le.mpr c4]) (by simp [cDot1, ← e4, c4, Int32.not_le.mpr c4]) hN (lv_sub hl [3, 4, 5, 1, 2, 0] rfl)
      · refine lv_iconst (v := 1) hx hb dX2_hasDot_40 (by decide) ?_
        refine lv_goto (tgt := 45) hx hb dX2_hasDot_41 (by decide) ?_
        refine lv_istore_n (lv' := [(3, .int 1), (4, .int (x4 + (F (14 + k) (c - c % 8 + n)))), (0, .ref (ad 12)), (1, .int (nI c)), (2, .int (nI k)), (5, .int (nI (c - c % 8 + n)))]) hx hb dX2_hasDot_45 rfl hl (by decide) rfl (fun ls hl => ?_)
        refine lv_iload_n hx hb dX2_hasDot_46 rfl (lv_at hl 0 rfl) ?_
        refine lv_if_eq (tgt := 53) hx hb dX2_hasDot_47 (by decide) (fun c6 => False.elim (by revert c6; decide)) (fun _ => ?_)
        refine lv_iinc (v := ((x4 + (F (14 + k) (c - c % 8 + n))) + (-100))) (lv' := [(4, .int ((x4 + (F (14 + k) (c - c % 8 + n))) + (-100))), (3, .int 1), (0, .ref (ad 12)), (1, .int (nI c)), (2, .int (nI k)), (5, .int (nI (c - c % 8 + n)))]) hx hb dX2_hasDot_50 hl (k := 1) rfl (rfl) (by decide) rfl (fun ls hl => ?_)
        refine lv_iinc (v := (nI ((c - c % 8 + n) + 1))) (lv' := [(5, .int (nI ((c - c % 8 + n) + 1))), (4, .int ((x4 + (F (14 + k) (c - c % 8 + n))) + (-100))), (3, .int 1), (0, .ref (ad 12)), (1, .int (nI c)), (2, .int (nI k))]) hx hb dX2_hasDot_53 hl (k := 5) rfl (nI_1 _) (by decide) rfl (fun ls hl => ?_)
        refine lv_goto (tgt := 13) hx hb dX2_hasDot_56 (by decide) ?_
        exact ih13 (n + 1) 1 ((x4 + (F (14 + k) (c - c % 8 + n))) + (-100)) _ _ ls (by omega) (by omega) (by simp [cDot1, ← e4, c4, Int32.not_lt.mp c4]) (by simp [cDot1, ← e4, c4, Int32.not_lt.mp c4]) hN (lv_sub hl [3, 4, 5, 2, 1, 0] rfl)
  exact L1 _ 0 0 0 _ _ ls (rfl) (by omega) (rfl) (rfl) hN (lv_sub hl [3, 4, 5, 2, 1, 0] rfl)
set_option maxHeartbeats 4000000 in
set_option maxRecDepth 100000 in
theorem c_X2_make (l : Launch) {D : va_G} {ad : Nat → Nat} {cs : Nat → ClassId} {zd : Nat → Nat} {F V : gF} {o : gO} {sz : Nat}  (hz : narrow .boolean (.int (V 1 2)) = .int (V 1 2)) : Met l yX2_make wsX2_make ({ frames := 4, cells := 0, slots := 0, locals := 99 } : Room) (gPc D ad cs zd F V o sz [.ref (ad 12), .ref (ad 7), .ref (ad 1)]) (gQI D ad cs (cMkN F V 256) (cMkF F V 256) V o sz) 0 0 (gX ad sz) := by
  refine g_met (Qc := fun z0 => gQI D ad cs (cMkN F V 256) (cMkF F V 256) V o z0) (cc := cX2_make) (maxL := 7) (ret := (some .int)) (own := RX2) (by decide +kernel) rfl rfl (Nat.le_of_ble_eq_true rfl) ?_
  intro p0 e0 s0 m0 b0 k0 c0 hx hb hr hts hown hlocks hml hG hN ls hl
  have hl : lv_has ls 7 [(0, .ref (ad 12)), (1, .ref (ad 7)), (2, .ref (ad 1))] := hl
  have hin_2 : ∀ w ∈ wsX20, w ∈ wsX2_make := by decide +kernel
  have hk_11 := hts (.fieldLink RX2 11 "GravureHouse$PlateSet" "tints" "[[I") (by decide +kernel)
  refine lv_iconst (v := 0) hx hb dX2_make_0 (by decide) ?_
  refine lv_istore_n (lv' := [(3, .int 0), (0, .ref (ad 12)), (1, .ref (ad 7)), (2, .ref (ad 1))]) hx hb dX2_make_1 rfl hl (by decide) rfl (fun ls hl => ?_)
  refine lv_iconst (v := 0) hx hb dX2_make_2 (by decide) ?_
  refine lv_istore (lv' := [(4, .int 0), (3, .int 0), (0, .ref (ad 12)), (1, .ref (ad 7)), (2, .ref (ad 1))]) hx hb dX2_make_3 hl (by decide) rfl (fun ls hl => ?_)
  have L1 : ∀ (d9_5 : Nat) (k : Nat) (x31 : Int32) (F1 : gF) (H : Heap) (locs : List Loc) (ls : Array Slot), 4 - k = d9_5 → (k ≤ 4) → (x31 = cMkN F V (k * 64)) → (F1 = cMkF F V (k * 64)) → gN D ad cs s0 F1 V o H locs → lv_has ls 7 [(0, .ref (ad 12)), (1, .ref (ad 7)), (2, .ref (ad 1)), (3, .int x31), (4, .int (nI k))] → W p0 l e0 ({ frames := 4, cells := 0, slots := 0, locals := 99 } : Room) s0 m0 ([.ref (ad 12), .ref (ad 7), .ref (ad 1)] : List Value).toArray b0 k0 c0 H locs 0 0 (MQ b0 (gQI D ad cs (cMkN F V 256) (cMkF F V 256) V o s0.heap.size) ([.ref (ad 12), .ref (ad 7), .ref (ad 1)] : List Value).toArray s0 0 0 (gX ad s0.heap.size)) (F0 m0 5 ls []) := by
    intro d9_5
    induction d9_5 with
    | zero =>
      intro k x31 F1 H locs ls hd_5 hk e31 eF1 hN hl
      refine lv_iload hx hb dX2_make_5 (lv_at hl 4 rfl) ?_
      refine lv_iconst (v := 4) hx hb dX2_make_7 (by decide) ?_
      refine g_cN_ge (a := k) (b := 4) (tgt := 83) hx hb dX2_make_8 (by decide) rfl rfl (by omega) (by omega) (fun c2 => ?_) (fun c2 => absurd c2 (by omega))
      refine lv_iload_n hx hb dX2_make_83 rfl (lv_at hl 3 rfl) ?_
      exact g_ri hx hb hr hlocks hN (⟨by rw [e31, show k * 64 = 256 by omega], by rw [eF1, show k * 64 = 256 by omega]⟩) dX2_make_84
    | succ d9_5 ih5 =>
      intro k x31 F1 H locs ls hd_5 hk e31 eF1 hN hl
      refine lv_iload hx hb dX2_make_5 (lv_at hl 4 rfl) ?_
      refine lv_iconst (v := 4) hx hb dX2_make_7 (by decide) ?_
      refine g_cN_ge (a := k) (b := 4) (tgt := 83) hx hb dX2_make_8 (by decide) rfl rfl (by omega) (by omega) (fun c3 => absurd c3 (by omega)) (fun c3 => ?_)
      refine lv_iconst (v := 0) hx hb dX2_make_11 (by decide) ?_
      refine lv_istore (lv' := [(5, .int 0), (0, .ref (ad 12)), (1, .ref (ad 7)), (2, .ref (ad 1)), (3, .int x31), (4, .int (nI k))]) hx hb dX2_make_12 hl (by decide) rfl (fun ls hl => ?_)
      have L4 : ∀ (d9_14 : Nat) (q : Nat) (x32 : Int32) (F2 : gF) (H : Heap) (locs : List Loc) (ls : Array Slot), 64 - q = d9_14 → (q ≤ 64) → (x32 = cMkN F V (k * 64 + q)) → (F2 = cMkF F V (k * 64 + q)) → gN D ad cs s0 F2 V o H locs → lv_has ls 7 [(0, .ref (ad 12)), (1, .ref (ad 7)), (2, .ref (ad 1)), (3, .int x32), (4, .int (nI k)), (5, .int (nI q))] → W p0 l e0 ({ frames := 4, cells := 0, slots := 0, locals := 99 } : Room) s0 m0 ([.ref (ad 12), .ref (ad 7), .ref (ad 1)] : List Value).toArray b0 k0 c0 H locs 0 0 (MQ b0 (gQI D ad cs (cMkN F V 256) (cMkF F V 256) V o s0.heap.size) ([.ref (ad 12), .ref (ad 7), .ref (ad 1)] : List Value).toArray s0 0 0 (gX ad s0.heap.size)) (F0 m0 14 ls []) := by
        intro d9_14
        induction d9_14 with
        | zero =>
          intro q x32 F2 H locs ls hd_14 hq e32 eF2 hN hl
          refine lv_iload hx hb dX2_make_14 (lv_at hl 5 rfl) ?_
          refine lv_bipush (v := 64) hx hb dX2_make_16 (by decide) ?_
          refine g_cN_ge (a := q) (b := 64) (tgt := 77) hx hb dX2_make_18 (by decide) rfl rfl (by omega) (by omega) (fun c5 => ?_) (fun c5 => absurd c5 (by omega))
          refine lv_iinc (v := (nI (k + 1))) (lv' := [(4, .int (nI (k + 1))), (0, .ref (ad 12)), (1, .ref (ad 7)), (2, .ref (ad 1)), (3, .int x32), (5, .int (nI q))]) hx hb dX2_make_77 hl (k := 4) rfl (nI_1 _) (by decide) rfl (fun ls hl => ?_)
          refine lv_goto (tgt := 5) hx hb dX2_make_80 (by decide) ?_
          exact ih5 (k + 1) x32 F2 _ _ ls (by omega) (by omega) (by rw [e32, show k * 64 + q = (k + 1) * 64 by omega]) (by rw [eF2, show k * 64 + q = (k + 1) * 64 by omega]) hN (lv_sub hl [1, 2, 3, 4, 0] rfl)
        | succ d9_14 ih14 =>
          intro q x32 F2 H locs ls hd_14 hq e32 eF2 hN hl
          refine lv_iload hx hb dX2_make_14 (lv_at hl 5 rfl) ?_
          refine lv_bipush (v := 64) hx hb dX2_make_16 (by decide) ?_
          refine g_cN_ge (a := q) (b := 64) (tgt := 77) hx hb dX2_make_18 (by decide) rfl rfl (by omega) (by omega) (fun c6 => absurd c6 (by omega)) (fun c6 => ?_)
          refine lv_aload_n hx hb dX2_make_21 rfl (lv_at hl 1 rfl) ?_
          refine lv_iload hx hb dX2_make_22 (lv_at hl 5 rfl) ?_
          refine lv_iload hx hb dX2_make_24 (lv_at hl 4 rfl) ?_
          refine lv_aload_n hx hb dX2_make_26 rfl (lv_at hl 2 rfl) ?_
          refine g_VI (As := [.int (nI q), .int (nI k), .ref (ad 1)]) (rest := []) ⟨hx, hb, hml, hown, hts⟩ hG hN (i := 7) (by decide) rfl rfl (c_X1_wanted l q k hz (by omega) (by omega)) (cwV 3 hts gX2_make_X1_wanted rfl rfl rfl (by decide +kernel) ⟨Nat.le_of_ble_eq_true rfl, Nat.le_of_ble_eq_true rfl⟩) rfl hl.1 rfl (Nat.le_of_ble_eq_true rfl) dX2_make_27 ⟨Nat.le_of_ble_eq_true rfl, Nat.le_of_ble_eq_true rfl⟩ (fun H locs hN => ?_)
          refine g_top (y := cWant F V q k) (by rw [eF2]; exact cMkF_want (by omega)) ?_
          refine lv_aload_n hx hb dX2_make_30 rfl (lv_at hl 2 rfl) ?_
          refine lv_iload hx hb dX2_make_31 (lv_at hl 4 rfl) ?_
          refine g_VI (As := [.int (nI k)]) (rest := [.int (cWant F V q k)]) ⟨hx, hb, hml, hown, hts⟩ hG hN (i := 1) (by decide) rfl rfl (c_X7_gain l k (by omega)) (cwV 1 hts gX2_make_X7_gain rfl rfl rfl (by decide +kernel) ⟨Nat.le_of_ble_eq_true rfl, Nat.le_of_ble_eq_true rfl⟩) rfl hl.1 rfl (Nat.le_of_ble_eq_true rfl) dX2_make_33 ⟨Nat.le_of_ble_eq_true rfl, Nat.le_of_ble_eq_true rfl⟩ (fun H locs hN => ?_)
          refine g_top (y := F 2 k) (by rw [eF2]; exact cMkF_lo (by omega)) ?_
          refine g_SI (As := [.int (cWant F V q k), .int (F 2 k)]) (rest := []) ⟨hx, hb, hml, hown, hts⟩ hG hN (c_X2_leastTint l (cWant F V q k) (F 2 k)) (va_cwS 2 hts gX2_make_X2_leastTint rfl rfl rfl (by decide +kernel) ⟨Nat.le_of_ble_eq_true rfl, Nat.le_of_ble_eq_true rfl⟩) rfl hl.1 rfl (Nat.le_of_ble_eq_true rfl) dX2_make_36 ⟨Nat.le_of_ble_eq_true rfl, Nat.le_of_ble_eq_true rfl⟩ (fun H locs hN => ?_)
          refine g_top (y := nI (cPlate F V k q)) (rfl) ?_
          refine lv_istore (lv' := [(6, .int (nI (cPlate F V k q))), (0, .ref (ad 12)), (1, .ref (ad 7)), (2, .ref (ad 1)), (3, .int x32), (4, .int (nI k)), (5, .int (nI q))]) hx hb dX2_make_39 hl (by decide) rfl (fun ls hl => ?_)
          refine lv_iload hx hb dX2_make_41 (lv_at hl 0 rfl) ?_
          refine lv_aload_n hx hb dX2_make_43 rfl (lv_at hl 1 rfl) ?_
          refine gf_12_0 hx hb hts hin_2 hown hG hN hk_11 dX2_make_44 ?_
          refine lv_iload hx hb dX2_make_47 (lv_at hl 5 rfl) ?_
          refine g_aald hx hb hG hN (i := 13) (n := 4) (j := k) (b := 14) (by decide) rfl (by decide) (by omega) rfl dX2_make_49 ?_
          refine lv_iload hx hb dX2_make_50 (lv_at hl 6 rfl) ?_
          refine g_iald hx hb hG hN (i := (14 + k)) (n := 64) (j := q) (by omega) (gC_r14 (by omega) _) (by decide) (by omega) rfl dX2_make_52 ?_
          refine lv_icmp_eq (tgt := 71) hx hb dX2_make_53 (by decide) (fun c7 => ?_) (fun c7 => ?_)
          · refine lv_iinc (v := (nI (q + 1))) (lv' := [(5, .int (nI (q + 1))), (6, .int (nI (cPlate F V k q))), (0, .ref (ad 12)), (1, .ref (ad 7)), (2, .ref (ad 1)), (3, .int x32), (4, .int (nI k))]) hx hb dX2_make_71 hl (k := 6) rfl (nI_1 _) (by decide) rfl (fun ls hl => ?_)
            refine lv_goto (tgt := 14) hx hb dX2_make_74 (by decide) ?_
            exact ih14 (q + 1) x32 F2 _ _ ls (by omega) (by omega) (by rw [e32, cMkN_eq (by omega) (by rw [← eF2]; exact c7)]) (by rw [eF2, cMkF_eq (by omega) (by rw [← eF2]; exact c7)]) hN (lv_sub hl [2, 3, 4, 5, 6, 0] rfl)
          · refine lv_aload_n hx hb dX2_make_56 rfl (lv_at hl 1 rfl) ?_
            refine gf_12_0 hx hb hts hin_2 hown hG hN hk_11 dX2_make_57 ?_
            refine lv_iload hx hb dX2_make_60 (lv_at hl 5 rfl) ?_
            refine g_aald hx hb hG hN (i := 13) (n := 4) (j := k) (b := 14) (by decide) rfl (by decide) (by omega) rfl dX2_make_62 ?_
            refine lv_iload hx hb dX2_make_63 (lv_at hl 6 rfl) ?_
            refine lv_iload hx hb dX2_make_65 (lv_at hl 0 rfl) ?_
            refine g_iast hx hb hG hN (i := (14 + k)) (n := 64) (j := q) (by omega) (gC_r14 (by omega)) (by decide) (by omega) rfl dX2_make_67 (fun H locs hN => ?_)
            refine lv_iinc (v := (x32 + 1)) (lv' := [(3, .int (x32 + 1)), (6, .int (nI (cPlate F V k q))), (0, .ref (ad 12)), (1, .ref (ad 7)), (2, .ref (ad 1)), (4, .int (nI k)), (5, .int (nI q))]) hx hb dX2_make_68 hl (k := 4) rfl (rfl) (by decide) rfl (fun ls hl => ?_)
            refine lv_iinc (v := (nI (q + 1))) (lv' := [(5, .int (nI (q + 1))), (3, .int (x32 + 1)), (6, .int (nI (cPlate F V k q))), (0, .ref (ad 12)), (1, .ref (ad 7)), (2, .ref (ad 1)), (4, .int (nI k))]) hx hb dX2_make_71 hl (k := 6) rfl (nI_1 _) (by decide) rfl (fun ls hl => ?_)
            refine lv_goto (tgt := 14) hx hb dX2_make_74 (by decide) ?_
            exact ih14 (q + 1) (x32 + 1) (gw F2 (14 + k) q (nI (cPlate F V k q))) _ _ ls (by omega) (by omega) (by rw [e32, cMkN_ne (by omega) (by rw [← eF2]; exact c7)]) (by rw [eF2, cMkF_ne (by omega) (by rw [← eF2]; exact c7)]) hN (lv_sub hl [3, 4, 5, 1, 6, 0] rfl)
      exact L4 _ 0 x31 F1 _ _ ls (rfl) (by omega) (e31) (eF1) hN (lv_sub hl [1, 2, 3, 4, 5, 0] rfl)
  exact L1 _ 0 0 F _ _ ls (rfl) (by omega) (rfl) (rfl) hN (lv_sub hl [2, 3, 4, 1, 0] rfl)
