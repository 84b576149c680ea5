set_option maxHeartbeats 4000000 in
set_option maxRecDepth 100000 in
theorem c_X10_thrown (l : Launch) {D : va_G} {ad : Nat → Nat} {cs : Nat → ClassId} {zd : Nat → Nat} {F V : gF} {o : gO} {sz : Nat} : Met l yX10_thrown wsX10_thrown ({ frames := 0, cells := 0, slots := 0, locals := 0 } : Room) (gPc D ad cs zd F V o sz [.ref (ad 43)]) (gQI D ad cs (V 43 31) F V o sz) 0 0 (gX ad sz) := by
  refine g_met (Qc := fun z0 => gQI D ad cs (V 43 31) F V o z0) (cc := cX10_thrown) (maxL := 1) (ret := (some .int)) (own := RX10) (by decide +kernel) rfl rfl (Nat.le_of_ble_eq_true rfl) ?_
  intro p0 e0 s0 m0 b0 k0 c0 hx hb hr hts hown hlocks hml hG hN ls hl
  have hl : lv_has ls 1 [(0, .ref (ad 43))] := hl
  have hin_10 : ∀ w ∈ wsX100, w ∈ wsX10_thrown := by decide +kernel
  have hk_72 := hts (.fieldLink RX10 72 "GravureHouseModel" "thrown" "I") (by decide +kernel)
  refine lv_aload_n hx hb dX10_thrown_0 rfl (lv_at hl 0 rfl) ?_
  refine gf_43_31 hx hb hts hin_10 hown hG hN hk_72 dX10_thrown_1 ?_
  exact g_ri hx hb hr hlocks hN (⟨rfl, rfl⟩) dX10_thrown_4
set_option maxHeartbeats 4000000 in
set_option maxRecDepth 100000 in
theorem c_X10_can (l : Launch) {D : va_G} {ad : Nat → Nat} {cs : Nat → ClassId} {zd : Nat → Nat} {F V : gF} {o : gO} {sz : Nat} (f : Int32) : Met l yX10_can wsX10_can ({ frames := 0, cells := 0, slots := 0, locals := 0 } : Room) (gPc D ad cs zd F V o sz [.ref (ad 43), .int f]) (gQI D ad cs (if f = 0 then 1 else 0) F (gw V 43 31 f) o sz) 0 0 (gX ad sz) := by
  refine g_met (Qc := fun z0 => gQI D ad cs (if f = 0 then 1 else 0) F (gw V 43 31 f) o z0) (cc := cX10_can) (maxL := 2) (ret := (some .boolean)) (own := RX10) (by decide +kernel) rfl rfl (Nat.le_of_ble_eq_true rfl) ?_
  intro p0 e0 s0 m0 b0 k0 c0 hx hb hr hts hown hlocks hml hG hN ls hl
  have hl : lv_has ls 2 [(0, .ref (ad 43)), (1, .int f)] := hl
  have hin_10 : ∀ w ∈ wsX100, w ∈ wsX10_can := by decide +kernel
  have hk_72 := hts (.fieldLink RX10 72 "GravureHouseModel" "thrown" "I") (by decide +kernel)
  refine lv_aload_n hx hb dX10_can_0 rfl (lv_at hl 0 rfl) ?_
  refine lv_iload_n hx hb dX10_can_1 rfl (lv_at hl 1 rfl) ?_
  refine gp_43_31 hx hb hts hin_10 hown hG hN hk_72 dX10_can_2 (fun H locs hN => ?_)
  refine lv_iload_n hx hb dX10_can_5 rfl (lv_at hl 1 rfl) ?_
  refine lv_if_ne (tgt := 13) hx hb dX10_can_6 (by decide) (fun c1 => ?_) (fun c1 => ?_)
  · refine lv_iconst (v := 0) hx hb dX10_can_13 (by decide) ?_
    exact g_rz hx hb hr hlocks (by decide) hN (⟨by simp [c1], rfl⟩) dX10_can_14
  · refine lv_iconst (v := 1) hx hb dX10_can_9 (by decide) ?_
    refine lv_goto (tgt := 14) hx hb dX10_can_10 (by decide) ?_
    exact g_rz hx hb hr hlocks (by decide) hN (⟨by simp [c1], rfl⟩) dX10_can_14
set_option maxHeartbeats 4000000 in
set_option maxRecDepth 100000 in
theorem c_X10_isIn (l : Launch) {D : va_G} {ad : Nat → Nat} {cs : Nat → ClassId} {zd : Nat → Nat} {F V : gF} {o : gO} {sz : Nat} (x n h : Int32) : Met l yX10_isIn wsX10_isIn ({ frames := 0, cells := 0, slots := 0, locals := 0 } : Room) (gPc D ad cs zd F V o sz [.int x, .int n, .int h]) (gQI D ad cs (if gRng x n h = true then 1 else 0) F V o sz) 0 0 (gX ad sz) := by
  refine g_met (Qc := fun z0 => gQI D ad cs (if gRng x n h = true then 1 else 0) F V o z0) (cc := cX10_isIn) (maxL := 3) (ret := (some .boolean)) (own := RX10) (by decide +kernel) rfl rfl (Nat.le_of_ble_eq_true rfl) ?_
  intro p0 e0 s0 m0 b0 k0 c0 hx hb hr hts hown hlocks hml hG hN ls hl
  have hl : lv_has ls 3 [(0, .int x), (1, .int n), (2, .int h)] := hl
  refine lv_iload_n hx hb dX10_isIn_0 rfl (lv_at hl 0 rfl) ?_
  refine lv_iload_n hx hb dX10_isIn_1 rfl (lv_at hl 1 rfl) ?_
  refine lv_icmp_lt (tgt := 14) hx hb dX10_isIn_2 (by decide) (fun c1 => ?_) (fun c1 => ?_)
  · refine lv_iconst (v := 0) hx hb dX10_isIn_14 (by decide) ?_
    exact g_rz hx hb hr hlocks (by decide) hN (⟨by simp [gRng_f1 c1], rfl⟩) dX10_isIn_15
  · refine lv_iload_n hx hb dX10_isIn_5 rfl (lv_at hl 0 rfl) ?_
    refine lv_iload_n hx hb dX10_isIn_6 rfl (lv_at hl 2 rfl) ?_
    refine lv_icmp_gt (tgt := 14) hx hb dX10_isIn_7 (by decide) (fun c2 => ?_) (fun c2 => ?_)
    · refine lv_iconst (v := 0) hx hb dX10_isIn_14 (by decide) ?_
      exact g_rz hx hb hr hlocks (by decide) hN (⟨by simp [gRng_f2 (Int32.not_le.mpr c2)], rfl⟩) dX10_isIn_15
    · refine lv_iconst (v := 1) hx hb dX10_isIn_10 (by decide) ?_
      refine lv_goto (tgt := 15) hx hb dX10_isIn_11 (by decide) ?_
      exact g_rz hx hb hr hlocks (by decide) hN (⟨by simp [gRng_t (Int32.not_lt.mpr (Int32.not_lt.mp c1)) (Int32.not_lt.mp c2)], rfl⟩) dX10_isIn_15
set_option maxHeartbeats 4000000 in
set_option maxRecDepth 100000 in
theorem c_X10_isCell (l : Launch) {D : va_G} {ad : Nat → Nat} {cs : Nat → ClassId} {zd : Nat → Nat} {F V : gF} {o : gO} {sz : Nat} (c : Int32) : Met l yX10_isCell wsX10_isCell ({ frames := 1, cells := 0, slots := 0, locals := 22 } : Room) (gPc D ad cs zd F V o sz [.int c]) (gQI D ad cs (if gIdx c 64 = true then 1 else 0) F V o sz) 0 0 (gX ad sz) := by
  refine g_met (Qc := fun z0 => gQI D ad cs (if gIdx c 64 = true then 1 else 0) F V o z0) (cc := cX10_isCell) (maxL := 1) (ret := (some .boolean)) (own := RX10) (by decide +kernel) rfl rfl (Nat.le_of_ble_eq_true rfl) ?_
  intro p0 e0 s0 m0 b0 k0 c0 hx hb hr hts hown hlocks hml hG hN ls hl
  have hl : lv_has ls 1 [(0, .int c)] := hl
  refine lv_iload_n hx hb dX10_isCell_0 rfl (lv_at hl 0 rfl) ?_
  refine lv_iconst (v := 0) hx hb dX10_isCell_1 (by decide) ?_
  refine lv_bipush (v := 63) hx hb dX10_isCell_2 (by decide) ?_
  refine g_SI (As := [.int c, .int 0, .int 63]) (rest := []) ⟨hx, hb, hml, hown, hts⟩ hG hN (c_X10_isIn l c 0 63) (va_cwS 3 hts gX10_isCell_X10_isIn rfl rfl rfl (by decide +kernel) ⟨Nat.le_of_ble_eq_true rfl, Nat.le_of_ble_eq_true rfl⟩) rfl hl.1 rfl (Nat.le_of_ble_eq_true rfl) dX10_isCell_4 ⟨Nat.le_of_ble_eq_true rfl, Nat.le_of_ble_eq_true rfl⟩ (fun H locs hN => ?_)
  exact g_rz hx hb hr hlocks (g_nz _) hN (⟨by rw [gRng_cell], rfl⟩) dX10_isCell_7
set_option maxHeartbeats 4000000 in
set_option maxRecDepth 100000 in
theorem c_X10_isInk (l : Launch) {D : va_G} {ad : Nat → Nat} {cs : Nat → ClassId} {zd : Nat → Nat} {F V : gF} {o : gO} {sz : Nat} (u : Int32) : Met l yX10_isInk wsX10_isInk ({ frames := 1, cells := 0, slots := 0, locals := 22 } : Room) (gPc D ad cs zd F V o sz [.int u]) (gQI D ad cs (if gIdx u 4 = true then 1 else 0) F V o sz) 0 0 (gX ad sz) := by
  refine g_met (Qc := fun z0 => gQI D ad cs (if gIdx u 4 = true then 1 else 0) F V o z0) (cc := cX10_isInk) (maxL := 1) (ret := (some .boolean)) (own := RX10) (by decide +kernel) rfl rfl (Nat.le_of_ble_eq_true rfl) ?_
  intro p0 e0 s0 m0 b0 k0 c0 hx hb hr hts hown hlocks hml hG hN ls hl
  have hl : lv_has ls 1 [(0, .int u)] := hl
  refine lv_iload_n hx hb dX10_isInk_0 rfl (lv_at hl 0 rfl) ?_
  refine lv_iconst (v := 0) hx hb dX10_isInk_1 (by decide) ?_
  refine lv_iconst (v := 3) hx hb dX10_isInk_2 (by decide) ?_
  refine g_SI (As := [.int u, .int 0, .int 3]) (rest := []) ⟨hx, hb, hml, hown, hts⟩ hG hN (c_X10_isIn l u 0 3) (va_cwS 3 hts gX10_isInk_X10_isIn rfl rfl rfl (by decide +kernel) ⟨Nat.le_of_ble_eq_true rfl, Nat.le_of_ble_eq_true rfl⟩) rfl hl.1 rfl (Nat.le_of_ble_eq_true rfl) dX10_isInk_3 ⟨Nat.le_of_ble_eq_true rfl, Nat.le_of_ble_eq_true rfl⟩ (fun H locs hN => ?_)
  exact g_rz hx hb hr hlocks (g_nz _) hN (⟨by rw [gRng_ink], rfl⟩) dX10_isInk_6
set_option maxHeartbeats 4000000 in
set_option maxRecDepth 100000 in
theorem c_X10_lesser (l : Launch) {D : va_G} {ad : Nat → Nat} {cs : Nat → ClassId} {zd : Nat → Nat} {F V : gF} {o : gO} {sz : Nat} (a b : Int32) : Met l yX10_lesser wsX10_lesser ({ frames := 0, cells := 0, slots := 0, locals := 0 } : Room) (gPc D ad cs zd F V o sz [.int a, .int b]) (gQI D ad cs (gmin a b) F V o sz) 0 0 (gX ad sz) := by
  refine g_met (Qc := fun z0 => gQI D ad cs (gmin a b) F V o z0) (cc := cX10_lesser) (maxL := 2) (ret := (some .int)) (own := RX10) (by decide +kernel) rfl rfl (Nat.le_of_ble_eq_true rfl) ?_
  intro p0 e0 s0 m0 b0 k0 c0 hx hb hr hts hown hlocks hml hG hN ls hl
  have hl : lv_has ls 2 [(0, .int a), (1, .int b)] := hl
  refine lv_iload_n hx hb dX10_lesser_0 rfl (lv_at hl 0 rfl) ?_
  refine lv_iload_n hx hb dX10_lesser_1 rfl (lv_at hl 1 rfl) ?_
  refine lv_icmp_ge (tgt := 9) hx hb dX10_lesser_2 (by decide) (fun c1 => ?_) (fun c1 => ?_)
  · refine lv_iload_n hx hb dX10_lesser_9 rfl (lv_at hl 1 rfl) ?_
    exact g_ri hx hb hr hlocks hN (⟨(gmin_r c1).symm, rfl⟩) dX10_lesser_10
  · refine lv_iload_n hx hb dX10_lesser_5 rfl (lv_at hl 0 rfl) ?_
    refine lv_goto (tgt := 10) hx hb dX10_lesser_6 (by decide) ?_
    exact g_ri hx hb hr hlocks hN (⟨(gmin_l c1).symm, rfl⟩) dX10_lesser_10
set_option maxHeartbeats 4000000 in
set_option maxRecDepth 100000 in
theorem c_X10_size (l : Launch) {D : va_G} {ad : Nat → Nat} {cs : Nat → ClassId} {zd : Nat → Nat} {F V : gF} {o : gO} {sz : Nat} (x : Int32) : Met l yX10_size wsX10_size ({ frames := 0, cells := 0, slots := 0, locals := 0 } : Room) (gPc D ad cs zd F V o sz [.int x]) (gQI D ad cs (gabs x) F V o sz) 0 0 (gX ad sz) := by
  refine g_met (Qc := fun z0 => gQI D ad cs (gabs x) F V o z0) (cc := cX10_size) (maxL := 1) (ret := (some .int)) (own := RX10) (by decide +kernel) rfl rfl (Nat.le_of_ble_eq_true rfl) ?_
  intro p0 e0 s0 m0 b0 k0 c0 hx hb hr hts hown hlocks hml hG hN ls hl
  have hl : lv_has ls 1 [(0, .int x)] := hl
  refine lv_iload_n hx hb dX10_size_0 rfl (lv_at hl 0 rfl) ?_
  refine lv_if_ge (tgt := 9) hx hb dX10_size_1 (by decide) (fun c1 => ?_) (fun c1 => ?_)
  · refine lv_iload_n hx hb dX10_size_9 rfl (lv_at hl 0 rfl) ?_
    exact g_ri hx hb hr hlocks hN (⟨(gabs_p c1).symm, rfl⟩) dX10_size_10
  · refine lv_iload_n hx hb dX10_size_4 rfl (lv_at hl 0 rfl) ?_
    refine lv_ineg hx hb dX10_size_5 ?_
    refine lv_goto (tgt := 10) hx hb dX10_size_6 (by decide) ?_
    exact g_ri hx hb hr hlocks hN (⟨(gabs_n c1).symm, rfl⟩) dX10_size_10
set_option maxHeartbeats 4000000 in
set_option maxRecDepth 100000 in
theorem c_X10_colour (l : Launch) {D : va_G} {ad : Nat → Nat} {cs : Nat → ClassId} {zd : Nat → Nat} {F V : gF} {o : gO} {sz : Nat} (c x y z : Int32) : Met l yX10_colour wsX10_colour ({ frames := 2, cells := 0, slots := 0, locals := 42 } : Room) (gPc D ad cs zd F V o sz [.ref (ad 43), .int c, .int x, .int y, .int z]) (gQv D ad cs sz (fun u9 => mP F V o (fCol c x y z) 0 0 (gw (gw (gw (tF F) 9 c.toNatClampNeg x) 10 c.toNatClampNeg y) 11 c.toNatClampNeg z) (tV F V) u9)) 0 0 (gX ad sz) := by
  refine g_met (Qc := fun z0 => gQv D ad cs z0 (fun u9 => mP F V o (fCol c x y z) 0 0 (gw (gw (gw (tF F) 9 c.toNatClampNeg x) 10 c.toNatClampNeg y) 11 c.toNatClampNeg z) (tV F V) u9)) (cc := cX10_colour) (maxL := 6) (ret := none) (own := RX10) (by decide +kernel) rfl rfl (Nat.le_of_ble_eq_true rfl) ?_
  intro p0 e0 s0 m0 b0 k0 c0 hx hb hr hts hown hlocks hml hG hN ls hl
  have hl : lv_has ls 6 [(0, .ref (ad 43)), (1, .int c), (2, .int x), (3, .int y), (4, .int z)] := hl
  have hin_10 : ∀ w ∈ wsX100, w ∈ wsX10_colour := by decide +kernel
  have hk_7 := hts (.fieldLink RX10 7 "GravureHouseModel" "red" "[I") (by decide +kernel)
  have hk_13 := hts (.fieldLink RX10 13 "GravureHouseModel" "green" "[I") (by decide +kernel)
  have hk_16 := hts (.fieldLink RX10 16 "GravureHouseModel" "blue" "[I") (by decide +kernel)
  refine lv_iload_n hx hb dX10_colour_0 rfl (lv_at hl 2 rfl) ?_
  refine lv_iconst (v := 0) hx hb dX10_colour_1 (by decide) ?_
  refine lv_bipush (v := 100) hx hb dX10_colour_2 (by decide) ?_
  refine g_SI (As := [.int x, .int 0, .int 100]) (rest := []) ⟨hx, hb, hml, hown, hts⟩ hG hN (c_X10_isIn l x 0 100) (va_cwS 3 hts gX10_colour_X10_isIn rfl rfl rfl (by decide +kernel) ⟨Nat.le_of_ble_eq_true rfl, Nat.le_of_ble_eq_true rfl⟩) rfl hl.1 rfl (Nat.le_of_ble_eq_true rfl) dX10_colour_4 ⟨Nat.le_of_ble_eq_true rfl, Nat.le_of_ble_eq_true rfl⟩ (fun H locs hN => ?_)
  refine g_ifb_eq (gRng x 0 100 = true) (tgt := 35) hx hb dX10_colour_7 (by decide) rfl (fun c1 => ?_) (fun c1 => ?_)
  · refine lv_iconst (v := 0) hx hb dX10_colour_35 (by decide) ?_
    refine lv_istore (lv' := [(5, .int 0), (0, .ref (ad 43)), (1, .int c), (2, .int x), (3, .int y), (4, .int z)]) hx hb dX10_colour_36 hl (by decide) rfl (fun ls hl => ?_)
    refine lv_aload_n hx hb dX10_colour_38 rfl (lv_at hl 1 rfl) ?_
    refine lv_iload_n hx hb dX10_colour_39 rfl (lv_at hl 2 rfl) ?_
    refine g_SI (As := [.int c]) (rest := [.ref (ad 43)]) ⟨hx, hb, hml, hown, hts⟩ hG hN (c_X10_isCell l c) (va_cwS 1 hts gX10_colour_X10_isCell rfl rfl rfl (by decide +kernel) ⟨Nat.le_of_ble_eq_true rfl, Nat.le_of_ble_eq_true rfl⟩) rfl hl.1 rfl (Nat.le_of_ble_eq_true rfl) dX10_colour_40 ⟨Nat.le_of_ble_eq_true rfl, Nat.le_of_ble_eq_true rfl⟩ (fun H locs hN => ?_)
    refine g_ifb_ne (gIdx c 64 = true) (tgt := 50) hx hb dX10_colour_43 (by decide) rfl (fun c2 => ?_) (fun c2 => ?_)
    · refine lv_iload hx hb dX10_colour_50 (lv_at hl 0 rfl) ?_
      refine lv_if_eq (tgt := 59) hx hb dX10_colour_52 (by decide) (fun _ => ?_) (fun c3 => False.elim (by revert c3; decide))
      refine lv_iconst (v := 2) hx hb dX10_colour_59 (by decide) ?_
      refine g_VI (As := [.int 2]) (rest := []) ⟨hx, hb, hml, hown, hts⟩ hG hN (i := 43) (by decide) rfl rfl (c_X10_can l 2) (cwV 1 hts gX10_colour_X10_can rfl rfl rfl (by decide +kernel) ⟨Nat.le_of_ble_eq_true rfl, Nat.le_of_ble_eq_true rfl⟩) rfl hl.1 rfl (Nat.le_of_ble_eq_true rfl) dX10_colour_60 ⟨Nat.le_of_ble_eq_true rfl, Nat.le_of_ble_eq_true rfl⟩ (fun H locs hN => ?_)
      refine g_top (y := 0) (by decide) ?_
      refine lv_if_eq (tgt := 88) hx hb dX10_colour_63 (by decide) (fun _ => ?_) (fun c4 => False.elim (by revert c4; decide))
      exact g_rv hx hb hr hlocks hN (mP_no (n := 2) (by simp [fCol, c1, c2]) (by decide)) dX10_colour_88
    · refine lv_iconst (v := 1) hx hb dX10_colour_46 (by decide) ?_
      refine lv_goto (tgt := 60) hx hb dX10_colour_47 (by decide) ?_
      refine g_VI (As := [.int 1]) (rest := []) ⟨hx, hb, hml, hown, hts⟩ hG hN (i := 43) (by decide) rfl rfl (c_X10_can l 1) (cwV 1 hts gX10_colour_X10_can rfl rfl rfl (by decide +kernel) ⟨Nat.le_of_ble_eq_true rfl, Nat.le_of_ble_eq_true rfl⟩) rfl hl.1 rfl (Nat.le_of_ble_eq_true rfl) dX10_colour_60 ⟨Nat.le_of_ble_eq_true rfl, Nat.le_of_ble_eq_true rfl⟩ (fun H locs hN => ?_)
      refine g_top (y := 0) (by decide) ?_
      refine lv_if_eq (tgt := 88) hx hb dX10_colour_63 (by decide) (fun _ => ?_) (fun c5 => False.elim (by revert c5; decide))
      exact g_rv hx hb hr hlocks hN (mP_no (n := 1) (by simp [fCol, c1, c2]) (by decide)) dX10_colour_88
  · refine lv_iload_n hx hb dX10_colour_10 rfl (lv_at hl 3 rfl) ?_
    refine lv_iconst (v := 0) hx hb dX10_colour_11 (by decide) ?_
    refine lv_bipush (v := 100) hx hb dX10_colour_12 (by decide) ?_
    refine g_SI (As := [.int y, .int 0, .int 100]) (rest := []) ⟨hx, hb, hml, hown, hts⟩ hG hN (c_X10_isIn l y 0 100) (va_cwS 3 hts gX10_colour_X10_isIn rfl rfl rfl (by decide +kernel) ⟨Nat.le_of_ble_eq_true rfl, Nat.le_of_ble_eq_true rfl⟩) rfl hl.1 rfl (Nat.le_of_ble_eq_true rfl) dX10_colour_14 ⟨Nat.le_of_ble_eq_true rfl, Nat.le_of_ble_eq_true rfl⟩ (fun H locs hN => ?_)
    refine g_ifb_eq (gRng y 0 100 = true) (tgt := 35) hx hb dX10_colour_17 (by decide) rfl (fun c6 => ?_) (fun c6 => ?_)
    · refine lv_iconst (v := 0) hx hb dX10_colour_35 (by decide) ?_
      refine lv_istore (lv' := [(5, .int 0), (0, .ref (ad 43)), (1, .int c), (2, .int x), (3, .int y), (4, .int z)]) hx hb dX10_colour_36 hl (by decide) rfl (fun ls hl => ?_)
      refine lv_aload_n hx hb dX10_colour_38 rfl (lv_at hl 1 rfl) ?_
      refine lv_iload_n hx hb dX10_colour_39 rfl (lv_at hl 2 rfl) ?_
      refine g_SI (As := [.int c]) (rest := [.ref (ad 43)]) ⟨hx, hb, hml, hown, hts⟩ hG hN (c_X10_isCell l c) (va_cwS 1 hts gX10_colour_X10_isCell rfl rfl rfl (by decide +kernel) ⟨Nat.le_of_ble_eq_true rfl, Nat.le_of_ble_eq_true rfl⟩) rfl hl.1 rfl (Nat.le_of_ble_eq_true rfl) dX10_colour_40 ⟨Nat.le_of_ble_eq_true rfl, Nat.le_of_ble_eq_true rfl⟩ (fun H locs hN => ?_)
      refine g_ifb_ne (gIdx c 64 = true) (tgt := 50) hx hb dX10_colour_43 (by decide) rfl (fun c7 => ?_) (fun c7 => ?_)
      · refine lv_iload hx hb dX10_colour_50 (lv_at hl 0 rfl) ?_
        refine lv_if_eq (tgt := 59) hx hb dX10_colour_52 (by decide) (fun _ => ?_) (fun c8 => False.elim (by revert c8; decide))
        refine lv_iconst (v := 2) hx hb dX10_colour_59 (by decide) ?_
        refine g_VI (As := [.int 2]) (rest := []) ⟨hx, hb, hml, hown, hts⟩ hG hN (i := 43) (by decide) rfl rfl (c_X10_can l 2) (cwV 1 hts gX10_colour_X10_can rfl rfl rfl (by decide +kernel) ⟨Nat.le_of_ble_eq_true rfl, Nat.le_of_ble_eq_true rfl⟩) rfl hl.1 rfl (Nat.le_of_ble_eq_true rfl) dX10_colour_60 ⟨Nat.le_of_ble_eq_true rfl, Nat.le_of_ble_eq_true rfl⟩ (fun H locs hN => ?_)
        refine g_top (y := 0) (by decide) ?_
        refine lv_if_eq (tgt := 88) hx hb dX10_colour_63 (by decide) (fun _ => ?_) (fun c9 => False.elim (by revert c9; decide))
        exact g_rv hx hb hr hlocks hN (mP_no (n := 2) (by simp [fCol, c1, c6, c7]) (by decide)) dX10_colour_88
      · refine lv_iconst (v := 1) hx hb dX10_colour_46 (by decide) ?_
        refine lv_goto (tgt := 60) hx hb dX10_colour_47 (by decide) ?_
        refine g_VI (As := [.int 1]) (rest := []) ⟨hx, hb, hml, hown, hts⟩ hG hN (i := 43) (by decide) rfl rfl (c_X10_can l 1) (cwV 1 hts gX10_colour_X10_can rfl rfl rfl (by decide +kernel) ⟨Nat.le_of_ble_eq_true rfl, Nat.le_of_ble_eq_true rfl⟩) rfl hl.1 rfl (Nat.le_of_ble_eq_true rfl) dX10_colour_60 ⟨Nat.le_of_ble_eq_true rfl, Nat.le_of_ble_eq_true rfl⟩ (fun H locs hN => ?_)
        refine g_top (y := 0) (by decide) ?_
        refine lv_if_eq (tgt := 88) hx hb dX10_colour_63 (by decide) (fun _ => ?_) (fun c10 => False.elim (by revert c10; decide))
        exact g_rv hx hb hr hlocks hN (mP_no (n := 1) (by simp [fCol, c1, c6, c7]) (by decide)) dX10_colour_88
    · refine lv_iload hx hb dX10_colour_20 (lv_at hl 4 rfl) ?_
      refine lv_iconst (v := 0) hx hb dX10_colour_22 (by decide) ?_
      refine lv_bipush (v := 100) hx hb dX10_colour_23 (by decide) ?_
      refine g_SI (As := [.int z, .int 0, .int 100]) (rest := []) ⟨hx, hb, hml, hown, hts⟩ hG hN (c_X10_isIn l z 0 100) (va_cwS 3 hts gX10_colour_X10_isIn rfl rfl rfl (by decide +kernel) ⟨Nat.le_of_ble_eq_true rfl, Nat.le_of_ble_eq_true rfl⟩) rfl hl.1 rfl (Nat.le_of_ble_eq_true rfl) dX10_colour_25 ⟨Nat.le_of_ble_eq_true rfl, Nat.le_of_ble_eq_true rfl⟩ (fun H locs hN => ?_)
      refine g_ifb_eq (gRng z 0 100 = true) (tgt := 35) hx hb dX10_colour_28 (by decide) rfl (fun c11 => ?_) (fun c11 => ?_)
      · refine lv_iconst (v := 0) hx hb dX10_colour_35 (by decide) ?_
        refine lv_istore (lv' := [(5, .int 0), (0, .ref (ad 43)), (1, .int c), (2, .int x), (3, .int y), (4, .int z)]) hx hb dX10_colour_36 hl (by decide) rfl (fun ls hl => ?_)
        refine lv_aload_n hx hb dX10_colour_38 rfl (lv_at hl 1 rfl) ?_
        refine lv_iload_n hx hb dX10_colour_39 rfl (lv_at hl 2 rfl) ?_
        refine g_SI (As := [.int c]) (rest := [.ref (ad 43)]) ⟨hx, hb, hml, hown, hts⟩ hG hN (c_X10_isCell l c) (va_cwS 1 hts gX10_colour_X10_isCell rfl rfl rfl (by decide +kernel) ⟨Nat.le_of_ble_eq_true rfl, Nat.le_of_ble_eq_true rfl⟩) rfl hl.1 rfl (Nat.le_of_ble_eq_true rfl) dX10_colour_40 ⟨Nat.le_of_ble_eq_true rfl, Nat.le_of_ble_eq_true rfl⟩ (fun H locs hN => ?_)
        refine g_ifb_ne (gIdx c 64 = true) (tgt := 50) hx hb dX10_colour_43 (by decide) rfl (fun c12 => ?_) (fun c12 => ?_)
        · refine lv_iload hx hb dX10_colour_50 (lv_at hl 0 rfl) ?_
          refine lv_if_eq (tgt := 59) hx hb dX10_colour_52 (by decide) (fun _ => ?_) (fun c13 => False.elim (by revert c13; decide))
          refine lv_iconst (v := 2) hx hb dX10_colour_59 (by decide) ?_
          refine g_VI (As := [.int 2]) (rest := []) ⟨hx, hb, hml, hown, hts⟩ hG hN (i := 43) (by decide) rfl rfl (c_X10_can l 2) (cwV 1 hts gX10_colour_X10_can rfl rfl rfl (by decide +kernel) ⟨Nat.le_of_ble_eq_true rfl, Nat.le_of_ble_eq_true rfl⟩) rfl hl.1 rfl (Nat.le_of_ble_eq_true rfl) dX10_colour_60 ⟨Nat.le_of_ble_eq_true rfl, Nat.le_of_ble_eq_true rfl⟩ (fun H locs hN => ?_)
          refine g_top (y := 0) (by decide) ?_
          refine lv_if_eq (tgt := 88) hx hb dX10_colour_63 (by decide) (fun _ => ?_) (fun c14 => False.elim (by revert c14; decide))
          exact g_rv hx hb hr hlocks hN (mP_no (n := 2) (by simp [fCol, c1, c6, c11, c12]) (by decide)) dX10_colour_88
        · refine lv_iconst (v := 1) hx hb dX10_colour_46 (by decide) ?_
          refine lv_goto (tgt := 60) hx hb dX10_colour_47 (by decide) ?_
          refine g_VI (As := [.int 1]) (rest := []) ⟨hx, hb, hml, hown, hts⟩ hG hN (i := 43) (by decide) rfl rfl (c_X10_can l 1) (cwV 1 hts gX10_colour_X10_can rfl rfl rfl (by decide +kernel) ⟨Nat.le_of_ble_eq_true rfl, Nat.le_of_ble_eq_true rfl⟩) rfl hl.1 rfl (Nat.le_of_ble_eq_true rfl) dX10_colour_60 ⟨Nat.le_of_ble_eq_true rfl, Nat.le_of_ble_eq_true rfl⟩ (fun H locs hN => ?_)
          refine g_top (y := 0) (by decide) ?_
          refine lv_if_eq (tgt := 88) hx hb dX10_colour_63 (by decide) (fun _ => ?_) (fun c15 => False.elim (by revert c15; decide))
          exact g_rv hx hb hr hlocks hN (mP_no (n := 1) (by simp [fCol, c1, c6, c11, c12]) (by decide)) dX10_colour_88
      · refine lv_iconst (v := 1) hx hb dX10_colour_31 (by decide) ?_
        refine lv_goto (tgt := 36) hx hb dX10_colour_32 (by decide) ?_
        refine lv_istore (lv' := [(5, .int 1), (0, .ref (ad 43)), (1, .int c), (2, .int x), (3, .int y), (4, .int z)]) hx hb dX10_colour_36 hl (by decide) rfl (fun ls hl => ?_)
        refine lv_aload_n hx hb dX10_colour_38 rfl (lv_at hl 1 rfl) ?_
        refine lv_iload_n hx hb dX10_colour_39 rfl (lv_at hl 2 rfl) ?_
        refine g_SI (As := [.int c]) (rest := [.ref (ad 43)]) ⟨hx, hb, hml, hown, hts⟩ hG hN (c_X10_isCell l c) (va_cwS 1 hts gX10_colour_X10_isCell rfl rfl rfl (by decide +kernel) ⟨Nat.le_of_ble_eq_true rfl, Nat.le_of_ble_eq_true rfl⟩) rfl hl.1 rfl (Nat.le_of_ble_eq_true rfl) dX10_colour_40 ⟨Nat.le_of_ble_eq_true rfl, Nat.le_of_ble_eq_true rfl⟩ (fun H locs hN => ?_)
        refine g_ifb_ne (gIdx c 64 = true) (tgt := 50) hx hb dX10_colour_43 (by decide) rfl (fun c16 => ?_) (fun c16 => ?_)
        · refine lv_iload hx hb dX10_colour_50 (lv_at hl 0 rfl) ?_
          refine lv_if_eq (tgt := 59) hx hb dX10_colour_52 (by decide) (fun c17 => False.elim (by revert c17; decide)) (fun _ => ?_)
          refine lv_iconst (v := 0) hx hb dX10_colour_55 (by decide) ?_
          refine lv_goto (tgt := 60) hx hb dX10_colour_56 (by decide) ?_
          refine g_VI (As := [.int 0]) (rest := []) ⟨hx, hb, hml, hown, hts⟩ hG hN (i := 43) (by decide) rfl rfl (c_X10_can l 0) (cwV 1 hts gX10_colour_X10_can rfl rfl rfl (by decide +kernel) ⟨Nat.le_of_ble_eq_true rfl, Nat.le_of_ble_eq_true rfl⟩) rfl hl.1 rfl (Nat.le_of_ble_eq_true rfl) dX10_colour_60 ⟨Nat.le_of_ble_eq_true rfl, Nat.le_of_ble_eq_true rfl⟩ (fun H locs hN => ?_)
          refine g_top (y := 1) (by decide) ?_
          obtain ⟨j, hj, ej⟩ := gIdx_n 64 rfl (by decide) c16
          subst ej
          refine lv_if_eq (tgt := 88) hx hb dX10_colour_63 (by decide) (fun c18 => False.elim (by revert c18; decide)) (fun _ => ?_)
          refine lv_aload_n hx hb dX10_colour_66 rfl (lv_at hl 1 rfl) ?_
          refine gf_43_0 hx hb hts hin_10 hown hG hN hk_7 dX10_colour_67 ?_
          refine lv_iload_n hx hb dX10_colour_70 rfl (lv_at hl 2 rfl) ?_
          refine lv_iload_n hx hb dX10_colour_71 rfl (lv_at hl 3 rfl) ?_
          refine g_iast hx hb hG hN (i := 44) (n := 64) (j := j) (by decide) (fun _ => rfl) (by decide) (by omega) rfl dX10_colour_72 (fun H locs hN => ?_)
          refine lv_aload_n hx hb dX10_colour_73 rfl (lv_at hl 1 rfl) ?_
          refine gf_43_1 hx hb hts hin_10 hown hG hN hk_13 dX10_colour_74 ?_
          refine lv_iload_n hx hb dX10_colour_77 rfl (lv_at hl 2 rfl) ?_
          refine lv_iload_n hx hb dX10_colour_78 rfl (lv_at hl 4 rfl) ?_
          refine g_iast hx hb hG hN (i := 45) (n := 64) (j := j) (by decide) (fun _ => rfl) (by decide) (by omega) rfl dX10_colour_79 (fun H locs hN => ?_)
          refine lv_aload_n hx hb dX10_colour_80 rfl (lv_at hl 1 rfl) ?_
          refine gf_43_2 hx hb hts hin_10 hown hG hN hk_16 dX10_colour_81 ?_
          refine lv_iload_n hx hb dX10_colour_84 rfl (lv_at hl 2 rfl) ?_
          refine lv_iload hx hb dX10_colour_85 (lv_at hl 5 rfl) ?_
          refine g_iast hx hb hG hN (i := 46) (n := 64) (j := j) (by decide) (fun _ => rfl) (by decide) (by omega) rfl dX10_colour_87 (fun H locs hN => ?_)
          exact g_rv hx hb hr hlocks hN (by simp only [nI_clamp (show j < 2 ^ 31 by omega)]; exact mP_ok (by simp [fCol, c1, c6, c11, c16]) rfl (rfl) (sim.rf.v31.w44.w45.w46)) dX10_colour_88
        · refine lv_iconst (v := 1) hx hb dX10_colour_46 (by decide) ?_
          refine lv_goto (tgt := 60) hx hb dX10_colour_47 (by decide) ?_
          refine g_VI (As := [.int 1]) (rest := []) ⟨hx, hb, hml, hown, hts⟩ hG hN (i := 43) (by decide) rfl rfl (c_X10_can l 1) (cwV 1 hts gX10_colour_X10_can rfl rfl rfl (by decide +kernel) ⟨Nat.le_of_ble_eq_true rfl, Nat.le_of_ble_eq_true rfl⟩) rfl hl.1 rfl (Nat.le_of_ble_eq_true rfl) dX10_colour_60 ⟨Nat.le_of_ble_eq_true rfl, Nat.le_of_ble_eq_true rfl⟩ (fun H locs hN => ?_)
          refine g_top (y := 0) (by decide) ?_
          refine lv_if_eq (tgt := 88) hx hb dX10_colour_63 (by decide) (fun _ => ?_) (fun c19 => False.elim (by revert c19; decide))
          exact g_rv hx hb hr hlocks hN (mP_no (n := 1) (by simp [fCol, c1, c6, c11, c16]) (by decide)) dX10_colour_88
set_option maxHeartbeats 4000000 in
set_option maxRecDepth 100000 in
theorem c_X10_type (l : Launch) {D : va_G} {ad : Nat → Nat} {cs : Nat → ClassId} {zd : Nat → Nat} {F V : gF} {o : gO} {sz : Nat} (x : Int32) (n : Nat) (hn : V 43 6 = nI n) (hn2 : n ≤ 60) (hx9 : vp_nar .char x = x) : Met l yX10_type wsX10_type ({ frames := 1, cells := 0, slots := 0, locals := 22 } : Room) (gPc D ad cs zd F V o sz [.ref (ad 43), .int x]) (gQi D ad cs sz (fun r9 u9 => mP F V o (fTyp (tV F V) x) r9 (nI (n + 1)) (gw (tF F) 4 n x) (gw (tV F V) 3 3 (nI (n + 1))) u9)) 0 0 (gX ad sz) := by
  refine g_met (Qc := fun z0 => gQi D ad cs z0 (fun r9 u9 => mP F V o (fTyp (tV F V) x) r9 (nI (n + 1)) (gw (tF F) 4 n x) (gw (tV F V) 3 3 (nI (n + 1))) u9)) (cc := cX10_type) (maxL := 3) (ret := (some .int)) (own := RX10) (by decide +kernel) rfl rfl (Nat.le_of_ble_eq_true rfl) ?_
  intro p0 e0 s0 m0 b0 k0 c0 hx hb hr hts hown hlocks hml hG hN ls hl
  have hl : lv_has ls 3 [(0, .ref (ad 43)), (1, .int x)] := hl
  have hin_10 : ∀ w ∈ wsX100, w ∈ wsX10_type := by decide +kernel
  have hk_87 := hts (.fieldLink RX10 87 "GravureHouseModel" "signs" "I") (by decide +kernel)
  have hk_25 := hts (.fieldLink RX10 25 "GravureHouseModel" "sign" "[C") (by decide +kernel)
  refine lv_iload_n hx hb dX10_type_0 rfl (lv_at hl 1 rfl) ?_
  refine lv_bipush (v := 97) hx hb dX10_type_1 (by decide) ?_
  refine lv_bipush (v := 122) hx hb dX10_type_3 (by decide) ?_
  refine g_SI (As := [.int x, .int 97, .int 122]) (rest := []) ⟨hx, hb, hml, hown, hts⟩ hG hN (c_X10_isIn l x 97 122) (va_cwS 3 hts gX10_type_X10_isIn rfl rfl rfl (by decide +kernel) ⟨Nat.le_of_ble_eq_true rfl, Nat.le_of_ble_eq_true rfl⟩) rfl hl.1 rfl (Nat.le_of_ble_eq_true rfl) dX10_type_5 ⟨Nat.le_of_ble_eq_true rfl, Nat.le_of_ble_eq_true rfl⟩ (fun H locs hN => ?_)
  refine g_ifb_ne (gRng x 97 122 = true) (tgt := 28) hx hb dX10_type_8 (by decide) rfl (fun c1 => ?_) (fun c1 => ?_)
  · refine lv_iconst (v := 1) hx hb dX10_type_28 (by decide) ?_
    refine lv_goto (tgt := 33) hx hb dX10_type_29 (by decide) ?_
    refine lv_istore_n (lv' := [(2, .int 1), (0, .ref (ad 43)), (1, .int x)]) hx hb dX10_type_33 rfl hl (by decide) rfl (fun ls hl => ?_)
    refine lv_aload_n hx hb dX10_type_34 rfl (lv_at hl 1 rfl) ?_
    refine lv_iload_n hx hb dX10_type_35 rfl (lv_at hl 0 rfl) ?_
    refine lv_if_ne (tgt := 43) hx hb dX10_type_36 (by decide) (fun _ => ?_) (fun c2 => False.elim (by revert c2; decide))
    refine lv_aload_n hx hb dX10_type_43 rfl (lv_at hl 1 rfl) ?_
    refine gf_43_6 hx hb hts hin_10 hown hG hN hk_87 dX10_type_44 ?_
    refine g_top (y := nI n) hn ?_
    refine lv_bipush (v := 60) hx hb dX10_type_47 (by decide) ?_
    refine g_cN_ne (a := n) (b := 60) (tgt := 56) hx hb dX10_type_49 (by decide) rfl rfl (by omega) (by omega) (fun c3 => ?_) (fun c3 => ?_)
    · refine lv_iconst (v := 0) hx hb dX10_type_56 (by decide) ?_
      refine g_VI (As := [.int 0]) (rest := []) ⟨hx, hb, hml, hown, hts⟩ hG hN (i := 43) (by decide) rfl rfl (c_X10_can l 0) (cwV 1 hts gX10_type_X10_can rfl rfl rfl (by decide +kernel) ⟨Nat.le_of_ble_eq_true rfl, Nat.le_of_ble_eq_true rfl⟩) rfl hl.1 rfl (Nat.le_of_ble_eq_true rfl) dX10_type_57 ⟨Nat.le_of_ble_eq_true rfl, Nat.le_of_ble_eq_true rfl⟩ (fun H locs hN => ?_)
      refine g_top (y := 1) (by decide) ?_
      refine lv_if_ne (tgt := 65) hx hb dX10_type_60 (by decide) (fun _ => ?_) (fun c4 => False.elim (by revert c4; decide))
      refine lv_aload_n hx hb dX10_type_65 rfl (lv_at hl 1 rfl) ?_
      refine gf_43_5 hx hb hts hin_10 hown hG hN hk_25 dX10_type_66 ?_
      refine lv_aload_n hx hb dX10_type_69 rfl (lv_at hl 1 rfl) ?_
      refine gf_43_6 hx hb hts hin_10 hown hG hN hk_87 dX10_type_70 ?_
      refine g_top (y := (V 43 6)) rfl ?_
      refine g_top (y := nI n) hn ?_
      refine lv_iload_n hx hb dX10_type_73 rfl (lv_at hl 2 rfl) ?_
      refine g_cast hx hb hG hN (i := 49) (n := 60) (j := n) (by decide) (fun _ => rfl) (by decide) (by omega) rfl (hx9) dX10_type_74 (fun H locs hN => ?_)
      refine lv_aload_n hx hb dX10_type_75 rfl (lv_at hl 1 rfl) ?_
      refine lv_dup hx hb dX10_type_76 rfl ?_
      refine gf_43_6 hx hb hts hin_10 hown hG hN hk_87 dX10_type_77 ?_
      refine g_top (y := (V 43 6)) rfl ?_
      refine g_top (y := nI n) hn ?_
      refine lv_iconst (v := 1) hx hb dX10_type_80 (by decide) ?_
      refine g_addN (a := n) (b := 1) hx hb rfl rfl dX10_type_81 ?_
      refine gp_43_6 hx hb hts hin_10 hown hG hN hk_87 dX10_type_82 (fun H locs hN => ?_)
      refine lv_aload_n hx hb dX10_type_85 rfl (lv_at hl 1 rfl) ?_
      refine gf_43_6 hx hb hts hin_10 hown hG hN hk_87 dX10_type_86 ?_
      refine g_top (y := (nI (n + 1))) rfl ?_
      exact g_ri hx hb hr hlocks hN (mP_ok (by simp [fTyp, gTk, tV_3_3, hn, c1, c3, m60n c3 hn2]) rfl (rfl) (sim.rf.v31.w49.v6)) dX10_type_89
    · refine lv_iconst (v := 2) hx hb dX10_type_52 (by decide) ?_
      refine lv_goto (tgt := 57) hx hb dX10_type_53 (by decide) ?_
      refine g_VI (As := [.int 2]) (rest := []) ⟨hx, hb, hml, hown, hts⟩ hG hN (i := 43) (by decide) rfl rfl (c_X10_can l 2) (cwV 1 hts gX10_type_X10_can rfl rfl rfl (by decide +kernel) ⟨Nat.le_of_ble_eq_true rfl, Nat.le_of_ble_eq_true rfl⟩) rfl hl.1 rfl (Nat.le_of_ble_eq_true rfl) dX10_type_57 ⟨Nat.le_of_ble_eq_true rfl, Nat.le_of_ble_eq_true rfl⟩ (fun H locs hN => ?_)
      refine g_top (y := 0) (by decide) ?_
      refine lv_if_ne (tgt := 65) hx hb dX10_type_60 (by decide) (fun c5 => False.elim (by revert c5; decide)) (fun _ => ?_)
      refine lv_iconst (v := 0) hx hb dX10_type_63 (by decide) ?_
      exact g_ri hx hb hr hlocks hN (mP_no (n := 2) (by simp [fTyp, gTk, tV_3_3, hn, c1, m60 c3]) (by decide)) dX10_type_64
  · refine lv_iload_n hx hb dX10_type_11 rfl (lv_at hl 1 rfl) ?_
    refine lv_bipush (v := 48) hx hb dX10_type_12 (by decide) ?_
    refine lv_bipush (v := 57) hx hb dX10_type_14 (by decide) ?_
    refine g_SI (As := [.int x, .int 48, .int 57]) (rest := []) ⟨hx, hb, hml, hown, hts⟩ hG hN (c_X10_isIn l x 48 57) (va_cwS 3 hts gX10_type_X10_isIn rfl rfl rfl (by decide +kernel) ⟨Nat.le_of_ble_eq_true rfl, Nat.le_of_ble_eq_true rfl⟩) rfl hl.1 rfl (Nat.le_of_ble_eq_true rfl) dX10_type_16 ⟨Nat.le_of_ble_eq_true rfl, Nat.le_of_ble_eq_true rfl⟩ (fun H locs hN => ?_)
    refine g_ifb_ne (gRng x 48 57 = true) (tgt := 28) hx hb dX10_type_19 (by decide) rfl (fun c6 => ?_) (fun c6 => ?_)
    · refine lv_iconst (v := 1) hx hb dX10_type_28 (by decide) ?_
      refine lv_goto (tgt := 33) hx hb dX10_type_29 (by decide) ?_
      refine lv_istore_n (lv' := [(2, .int 1), (0, .ref (ad 43)), (1, .int x)]) hx hb dX10_type_33 rfl hl (by decide) rfl (fun ls hl => ?_)
      refine lv_aload_n hx hb dX10_type_34 rfl (lv_at hl 1 rfl) ?_
      refine lv_iload_n hx hb dX10_type_35 rfl (lv_at hl 0 rfl) ?_
      refine lv_if_ne (tgt := 43) hx hb dX10_type_36 (by decide) (fun _ => ?_) (fun c7 => False.elim (by revert c7; decide))
      refine lv_aload_n hx hb dX10_type_43 rfl (lv_at hl 1 rfl) ?_
      refine gf_43_6 hx hb hts hin_10 hown hG hN hk_87 dX10_type_44 ?_
      refine g_top (y := nI n) hn ?_
      refine lv_bipush (v := 60) hx hb dX10_type_47 (by decide) ?_
      refine g_cN_ne (a := n) (b := 60) (tgt := 56) hx hb dX10_type_49 (by decide) rfl rfl (by omega) (by omega) (fun c8 => ?_) (fun c8 => ?_)
      · refine lv_iconst (v := 0) hx hb dX10_type_56 (by decide) ?_
        refine g_VI (As := [.int 0]) (rest := []) ⟨hx, hb, hml, hown, hts⟩ hG hN (i := 43) (by decide) rfl rfl (c_X10_can l 0) (cwV 1 hts gX10_type_X10_can rfl rfl rfl (by decide +kernel) ⟨Nat.le_of_ble_eq_true rfl, Nat.le_of_ble_eq_true rfl⟩) rfl hl.1 rfl (Nat.le_of_ble_eq_true rfl) dX10_type_57 ⟨Nat.le_of_ble_eq_true rfl, Nat.le_of_ble_eq_true rfl⟩ (fun H locs hN => ?_)
        refine g_top (y := 1) (by decide) ?_
        refine lv_if_ne (tgt := 65) hx hb dX10_type_60 (by decide) (fun _ => ?_) (fun c9 => False.elim (by revert c9; decide))
        refine lv_aload_n hx hb dX10_type_65 rfl (lv_at hl 1 rfl) ?_
        refine gf_43_5 hx hb hts hin_10 hown hG hN hk_25 dX10_type_66 ?_
        refine lv_aload_n hx hb dX10_type_69 rfl (lv_at hl 1 rfl) ?_
        refine gf_43_6 hx hb hts hin_10 hown hG hN hk_87 dX10_type_70 ?_
        refine g_top (y := (V 43 6)) rfl ?_
        refine g_top (y := nI n) hn ?_
        refine lv_iload_n hx hb dX10_type_73 rfl (lv_at hl 2 rfl) ?_
        refine g_cast hx hb hG hN (i := 49) (n := 60) (j := n) (by decide) (fun _ => rfl) (by decide) (by omega) rfl (hx9) dX10_type_74 (fun H locs hN => ?_)
        refine lv_aload_n hx hb dX10_type_75 rfl (lv_at hl 1 rfl) ?_
        refine lv_dup hx hb dX10_type_76 rfl ?_
        refine gf_43_6 hx hb hts hin_10 hown hG hN hk_87 dX10_type_77 ?_
        refine g_top (y := (V 43 6)) rfl ?_
        refine g_top (y := nI n) hn ?_
        refine lv_iconst (v := 1) hx hb dX10_type_80 (by decide) ?_
        refine g_addN (a := n) (b := 1) hx hb rfl rfl dX10_type_81 ?_
        refine gp_43_6 hx hb hts hin_10 hown hG hN hk_87 dX10_type_82 (fun H locs hN => ?_)
        refine lv_aload_n hx hb dX10_type_85 rfl (lv_at hl 1 rfl) ?_
        refine gf_43_6 hx hb hts hin_10 hown hG hN hk_87 dX10_type_86 ?_
        refine g_top (y := (nI (n + 1))) rfl ?_
        exact g_ri hx hb hr hlocks hN (mP_ok (by simp [fTyp, gTk, tV_3_3, hn, c1, c6, c8, m60n c8 hn2]) rfl (rfl) (sim.rf.v31.w49.v6)) dX10_type_89
      · refine lv_iconst (v := 2) hx hb dX10_type_52 (by decide) ?_
        refine lv_goto (tgt := 57) hx hb dX10_type_53 (by decide) ?_
        refine g_VI (As := [.int 2]) (rest := []) ⟨hx, hb, hml, hown, hts⟩ hG hN (i := 43) (by decide) rfl rfl (c_X10_can l 2) (cwV 1 hts gX10_type_X10_can rfl rfl rfl (by decide +kernel) ⟨Nat.le_of_ble_eq_true rfl, Nat.le_of_ble_eq_true rfl⟩) rfl hl.1 rfl (Nat.le_of_ble_eq_true rfl) dX10_type_57 ⟨Nat.le_of_ble_eq_true rfl, Nat.le_of_ble_eq_true rfl⟩ (fun H locs hN => ?_)
        refine g_top (y := 0) (by decide) ?_
        refine lv_if_ne (tgt := 65) hx hb dX10_type_60 (by decide) (fun c10 => False.elim (by revert c10; decide)) (fun _ => ?_)
        refine lv_iconst (v := 0) hx hb dX10_type_63 (by decide) ?_
        exact g_ri hx hb hr hlocks hN (mP_no (n := 2) (by simp [fTyp, gTk, tV_3_3, hn, c1, c6, m60 c8]) (by decide)) dX10_type_64
    · refine lv_iload_n hx hb dX10_type_22 rfl (lv_at hl 1 rfl) ?_
      refine lv_bipush (v := 32) hx hb dX10_type_23 (by decide) ?_
      refine lv_icmp_ne (tgt := 32) hx hb dX10_type_25 (by decide) (fun c11 => ?_) (fun c11 => ?_)
      · refine lv_iconst (v := 0) hx hb dX10_type_32 (by decide) ?_
        refine lv_istore_n (lv' := [(2, .int 0), (0, .ref (ad 43)), (1, .int x)]) hx hb dX10_type_33 rfl hl (by decide) rfl (fun ls hl => ?_)
        refine lv_aload_n hx hb dX10_type_34 rfl (lv_at hl 1 rfl) ?_
        refine lv_iload_n hx hb dX10_type_35 rfl (lv_at hl 0 rfl) ?_
        refine lv_if_ne (tgt := 43) hx hb dX10_type_36 (by decide) (fun c12 => False.elim (by revert c12; decide)) (fun _ => ?_)
        refine lv_iconst (v := 1) hx hb dX10_type_39 (by decide) ?_
        refine lv_goto (tgt := 57) hx hb dX10_type_40 (by decide) ?_
        refine g_VI (As := [.int 1]) (rest := []) ⟨hx, hb, hml, hown, hts⟩ hG hN (i := 43) (by decide) rfl rfl (c_X10_can l 1) (cwV 1 hts gX10_type_X10_can rfl rfl rfl (by decide +kernel) ⟨Nat.le_of_ble_eq_true rfl, Nat.le_of_ble_eq_true rfl⟩) rfl hl.1 rfl (Nat.le_of_ble_eq_true rfl) dX10_type_57 ⟨Nat.le_of_ble_eq_true rfl, Nat.le_of_ble_eq_true rfl⟩ (fun H locs hN => ?_)
        refine g_top (y := 0) (by decide) ?_
        refine lv_if_ne (tgt := 65) hx hb dX10_type_60 (by decide) (fun c13 => False.elim (by revert c13; decide)) (fun _ => ?_)
        refine lv_iconst (v := 0) hx hb dX10_type_63 (by decide) ?_
        exact g_ri hx hb hr hlocks hN (mP_no (n := 1) (by simp [fTyp, gTk, tV_3_3, hn, c1, c6, c11]) (by decide)) dX10_type_64
      · refine lv_iconst (v := 1) hx hb dX10_type_28 (by decide) ?_
        refine lv_goto (tgt := 33) hx hb dX10_type_29 (by decide) ?_
        refine lv_istore_n (lv' := [(2, .int 1), (0, .ref (ad 43)), (1, .int x)]) hx hb dX10_type_33 rfl hl (by decide) rfl (fun ls hl => ?_)
        refine lv_aload_n hx hb dX10_type_34 rfl (lv_at hl 1 rfl) ?_
        refine lv_iload_n hx hb dX10_type_35 rfl (lv_at hl 0 rfl) ?_
        refine lv_if_ne (tgt := 43) hx hb dX10_type_36 (by decide) (fun _ => ?_) (fun c14 => False.elim (by revert c14; decide))
        refine lv_aload_n hx hb dX10_type_43 rfl (lv_at hl 1 rfl) ?_
        refine gf_43_6 hx hb hts hin_10 hown hG hN hk_87 dX10_type_44 ?_
        refine g_top (y := nI n) hn ?_
        refine lv_bipush (v := 60) hx hb dX10_type_47 (by decide) ?_
        refine g_cN_ne (a := n) (b := 60) (tgt := 56) hx hb dX10_type_49 (by decide) rfl rfl (by omega) (by omega) (fun c15 => ?_) (fun c15 => ?_)
        · refine lv_iconst (v := 0) hx hb dX10_type_56 (by decide) ?_
          refine g_VI (As := [.int 0]) (rest := []) ⟨hx, hb, hml, hown, hts⟩ hG hN (i := 43) (by decide) rfl rfl (c_X10_can l 0) (cwV 1 hts gX10_type_X10_can rfl rfl rfl (by decide +kernel) ⟨Nat.le_of_ble_eq_true rfl, Nat.le_of_ble_eq_true rfl⟩) rfl hl.1 rfl (Nat.le_of_ble_eq_true rfl) dX10_type_57 ⟨Nat.le_of_ble_eq_true rfl, Nat.le_of_ble_eq_true rfl⟩ (fun H locs hN => ?_)
          refine g_top (y := 1) (by decide) ?_
          refine lv_if_ne (tgt := 65) hx hb dX10_type_60 (by decide) (fun _ => ?_) (fun c16 => False.elim (by revert c16; decide))
          refine lv_aload_n hx hb dX10_type_65 rfl (lv_at hl 1 rfl) ?_
          refine gf_43_5 hx hb hts hin_10 hown hG hN hk_25 dX10_type_66 ?_
          refine lv_aload_n hx hb dX10_type_69 rfl (lv_at hl 1 rfl) ?_
          refine gf_43_6 hx hb hts hin_10 hown hG hN hk_87 dX10_type_70 ?_
          refine g_top (y := (V 43 6)) rfl ?_
          refine g_top (y := nI n) hn ?_
          refine lv_iload_n hx hb dX10_type_73 rfl (lv_at hl 2 rfl) ?_
          refine g_cast hx hb hG hN (i := 49) (n := 60) (j := n) (by decide) (fun _ => rfl) (by decide) (by omega) rfl (hx9) dX10_type_74 (fun H locs hN => ?_)
          refine lv_aload_n hx hb dX10_type_75 rfl (lv_at hl 1 rfl) ?_
          refine lv_dup hx hb dX10_type_76 rfl ?_
          refine gf_43_6 hx hb hts hin_10 hown hG hN hk_87 dX10_type_77 ?_
          refine g_top (y := (V 43 6)) rfl ?_
          refine g_top (y := nI n) hn ?_
          refine lv_iconst (v := 1) hx hb dX10_type_80 (by decide) ?_
          refine g_addN (a := n) (b := 1) hx hb rfl rfl dX10_type_81 ?_
          refine gp_43_6 hx hb hts hin_10 hown hG hN hk_87 dX10_type_82 (fun H locs hN => ?_)
          refine lv_aload_n hx hb dX10_type_85 rfl (lv_at hl 1 rfl) ?_
          refine gf_43_6 hx hb hts hin_10 hown hG hN hk_87 dX10_type_86 ?_
          refine g_top (y := (nI (n + 1))) rfl ?_
          exact g_ri hx hb hr hlocks hN (mP_ok (by simp [fTyp, gTk, tV_3_3, hn, c1, c6, c11, c15, m60n c15 hn2]) rfl (rfl) (sim.rf.v31.w49.v6)) dX10_type_89
        · refine lv_iconst (v := 2) hx hb dX10_type_52 (by decide) ?_
          refine lv_goto (tgt := 57) hx hb dX10_type_53 (by decide) ?_
          refine g_VI (As := [.int 2]) (rest := []) ⟨hx, hb, hml, hown, hts⟩ hG hN (i := 43) (by decide) rfl rfl (c_X10_can l 2) (cwV 1 hts gX10_type_X10_can rfl rfl rfl (by decide +kernel) ⟨Nat.le_of_ble_eq_true rfl, Nat.le_of_ble_eq_true rfl⟩) rfl hl.1 rfl (Nat.le_of_ble_eq_true rfl) dX10_type_57 ⟨Nat.le_of_ble_eq_true rfl, Nat.le_of_ble_eq_true rfl⟩ (fun H locs hN => ?_)
          refine g_top (y := 0) (by decide) ?_
          refine lv_if_ne (tgt := 65) hx hb dX10_type_60 (by decide) (fun c17 => False.elim (by revert c17; decide)) (fun _ => ?_)
          refine lv_iconst (v := 0) hx hb dX10_type_63 (by decide) ?_
          exact g_ri hx hb hr hlocks hN (mP_no (n := 2) (by simp [fTyp, gTk, tV_3_3, hn, c1, c6, c11, m60 c15]) (by decide)) dX10_type_64
set_option maxHeartbeats 4000000 in
set_option maxRecDepth 100000 in
theorem c_X10_drift (l : Launch) {D : va_G} {ad : Nat → Nat} {cs : Nat → ClassId} {zd : Nat → Nat} {F V : gF} {o : gO} {sz : Nat} (u x y : Int32) : Met l yX10_drift wsX10_drift ({ frames := 2, cells := 0, slots := 0, locals := 42 } : Room) (gPc D ad cs zd F V o sz [.ref (ad 43), .int u, .int x, .int y]) (gQv D ad cs sz (fun u9 => mP F V o (fDri u x y) 0 0 (gw (gw (tF F) 21 u.toNatClampNeg x) 22 u.toNatClampNeg y) (tV F V) u9)) 0 0 (gX ad sz) := by
  refine g_met (Qc := fun z0 => gQv D ad cs z0 (fun u9 => mP F V o (fDri u x y) 0 0 (gw (gw (tF F) 21 u.toNatClampNeg x) 22 u.toNatClampNeg y) (tV F V) u9)) (cc := cX10_drift) (maxL := 4) (ret := none) (own := RX10) (by decide +kernel) rfl rfl (Nat.le_of_ble_eq_true rfl) ?_
  intro p0 e0 s0 m0 b0 k0 c0 hx hb hr hts hown hlocks hml hG hN ls hl
  have hl : lv_has ls 4 [(0, .ref (ad 43)), (1, .int u), (2, .int x), (3, .int y)] := hl
  have hin_10 : ∀ w ∈ wsX100, w ∈ wsX10_drift := by decide +kernel
  have hk_38 := hts (.fieldLink RX10 38 "GravureHouseModel" "driftX" "[I") (by decide +kernel)
  have hk_41 := hts (.fieldLink RX10 41 "GravureHouseModel" "driftY" "[I") (by decide +kernel)
  refine lv_aload_n hx hb dX10_drift_0 rfl (lv_at hl 0 rfl) ?_
  refine lv_iload_n hx hb dX10_drift_1 rfl (lv_at hl 1 rfl) ?_
  refine g_SI (As := [.int u]) (rest := [.ref (ad 43)]) ⟨hx, hb, hml, hown, hts⟩ hG hN (c_X10_isInk l u) (va_cwS 1 hts gX10_drift_X10_isInk rfl rfl rfl (by decide +kernel) ⟨Nat.le_of_ble_eq_true rfl, Nat.le_of_ble_eq_true rfl⟩) rfl hl.1 rfl (Nat.le_of_ble_eq_true rfl) dX10_drift_2 ⟨Nat.le_of_ble_eq_true rfl, Nat.le_of_ble_eq_true rfl⟩ (fun H locs hN => ?_)
  refine g_ifb_ne (gIdx u 4 = true) (tgt := 12) hx hb dX10_drift_5 (by decide) rfl (fun c1 => ?_) (fun c1 => ?_)
  · refine lv_iload_n hx hb dX10_drift_12 rfl (lv_at hl 2 rfl) ?_
    refine lv_bipush (v := (-5)) hx hb dX10_drift_13 (by decide) ?_
    refine lv_iconst (v := 5) hx hb dX10_drift_15 (by decide) ?_
    refine g_SI (As := [.int x, .int (-5), .int 5]) (rest := [.ref (ad 43)]) ⟨hx, hb, hml, hown, hts⟩ hG hN (c_X10_isIn l x (-5) 5) (va_cwS 3 hts gX10_drift_X10_isIn rfl rfl rfl (by decide +kernel) ⟨Nat.le_of_ble_eq_true rfl, Nat.le_of_ble_eq_true rfl⟩) rfl hl.1 rfl (Nat.le_of_ble_eq_true rfl) dX10_drift_16 ⟨Nat.le_of_ble_eq_true rfl, Nat.le_of_ble_eq_true rfl⟩ (fun H locs hN => ?_)
    refine g_ifb_eq (gRng x (-5) 5 = true) (tgt := 36) hx hb dX10_drift_19 (by decide) rfl (fun c2 => ?_) (fun c2 => ?_)
    · refine lv_iconst (v := 2) hx hb dX10_drift_36 (by decide) ?_
      refine g_VI (As := [.int 2]) (rest := []) ⟨hx, hb, hml, hown, hts⟩ hG hN (i := 43) (by decide) rfl rfl (c_X10_can l 2) (cwV 1 hts gX10_drift_X10_can rfl rfl rfl (by decide +kernel) ⟨Nat.le_of_ble_eq_true rfl, Nat.le_of_ble_eq_true rfl⟩) rfl hl.1 rfl (Nat.le_of_ble_eq_true rfl) dX10_drift_37 ⟨Nat.le_of_ble_eq_true rfl, Nat.le_of_ble_eq_true rfl⟩ (fun H locs hN => ?_)
      refine g_top (y := 0) (by decide) ?_
      refine lv_if_eq (tgt := 57) hx hb dX10_drift_40 (by decide) (fun _ => ?_) (fun c3 => False.elim (by revert c3; decide))
      exact g_rv hx hb hr hlocks hN (mP_no (n := 2) (by simp [fDri, c1, c2]) (by decide)) dX10_drift_57
    · refine lv_iload_n hx hb dX10_drift_22 rfl (lv_at hl 3 rfl) ?_
      refine lv_bipush (v := (-5)) hx hb dX10_drift_23 (by decide) ?_
      refine lv_iconst (v := 5) hx hb dX10_drift_25 (by decide) ?_
      refine g_SI (As := [.int y, .int (-5), .int 5]) (rest := [.ref (ad 43)]) ⟨hx, hb, hml, hown, hts⟩ hG hN (c_X10_isIn l y (-5) 5) (va_cwS 3 hts gX10_drift_X10_isIn rfl rfl rfl (by decide +kernel) ⟨Nat.le_of_ble_eq_true rfl, Nat.le_of_ble_eq_true rfl⟩) rfl hl.1 rfl (Nat.le_of_ble_eq_true rfl) dX10_drift_26 ⟨Nat.le_of_ble_eq_true rfl, Nat.le_of_ble_eq_true rfl⟩ (fun H locs hN => ?_)
      refine g_ifb_eq (gRng y (-5) 5 = true) (tgt := 36) hx hb dX10_drift_29 (by decide) rfl (fun c4 => ?_) (fun c4 => ?_)
      · refine lv_iconst (v := 2) hx hb dX10_drift_36 (by decide) ?_
        refine g_VI (As := [.int 2]) (rest := []) ⟨hx, hb, hml, hown, hts⟩ hG hN (i := 43) (by decide) rfl rfl (c_X10_can l 2) (cwV 1 hts gX10_drift_X10_can rfl rfl rfl (by decide +kernel) ⟨Nat.le_of_ble_eq_true rfl, Nat.le_of_ble_eq_true rfl⟩) rfl hl.1 rfl (Nat.le_of_ble_eq_true rfl) dX10_drift_37 ⟨Nat.le_of_ble_eq_true rfl, Nat.le_of_ble_eq_true rfl⟩ (fun H locs hN => ?_)
        refine g_top (y := 0) (by decide) ?_
        refine lv_if_eq (tgt := 57) hx hb dX10_drift_40 (by decide) (fun _ => ?_) (fun c5 => False.elim (by revert c5; decide))
        exact g_rv hx hb hr hlocks hN (mP_no (n := 2) (by simp [fDri, c1, c2, c4]) (by decide)) dX10_drift_57
      · refine lv_iconst (v := 0) hx hb dX10_drift_32 (by decide) ?_
        refine lv_goto (tgt := 37) hx hb dX10_drift_33 (by decide) ?_
        refine g_VI (As := [.int 0]) (rest := []) ⟨hx, hb, hml, hown, hts⟩ hG hN (i := 43) (by decide) rfl rfl (c_X10_can l 0) (cwV 1 hts gX10_drift_X10_can rfl rfl rfl (by decide +kernel) ⟨Nat.le_of_ble_eq_true rfl, Nat.le_of_ble_eq_true rfl⟩) rfl hl.1 rfl (Nat.le_of_ble_eq_true rfl) dX10_drift_37 ⟨Nat.le_of_ble_eq_true rfl, Nat.le_of_ble_eq_true rfl⟩ (fun H locs hN => ?_)
        refine g_top (y := 1) (by decide) ?_
        obtain ⟨j, hj, ej⟩ := gIdx_n 4 rfl (by decide) c1
        subst ej
        refine lv_if_eq (tgt := 57) hx hb dX10_drift_40 (by decide) (fun c6 => False.elim (by revert c6; decide)) (fun _ => ?_)
        refine lv_aload_n hx hb dX10_drift_43 rfl (lv_at hl 0 rfl) ?_
        refine gf_43_10 hx hb hts hin_10 hown hG hN hk_38 dX10_drift_44 ?_
        refine lv_iload_n hx hb dX10_drift_47 rfl (lv_at hl 1 rfl) ?_
        refine lv_iload_n hx hb dX10_drift_48 rfl (lv_at hl 2 rfl) ?_
        refine g_iast hx hb hG hN (i := 53) (n := 4) (j := j) (by decide) (fun _ => rfl) (by decide) (by omega) rfl dX10_drift_49 (fun H locs hN => ?_)
        refine lv_aload_n hx hb dX10_drift_50 rfl (lv_at hl 0 rfl) ?_
        refine gf_43_11 hx hb hts hin_10 hown hG hN hk_41 dX10_drift_51 ?_
        refine lv_iload_n hx hb dX10_drift_54 rfl (lv_at hl 1 rfl) ?_
        refine lv_iload_n hx hb dX10_drift_55 rfl (lv_at hl 3 rfl) ?_
        refine g_iast hx hb hG hN (i := 54) (n := 4) (j := j) (by decide) (fun _ => rfl) (by decide) (by omega) rfl dX10_drift_56 (fun H locs hN => ?_)
        exact g_rv hx hb hr hlocks hN (by simp only [nI_clamp (show j < 2 ^ 31 by omega)]; exact mP_ok (by simp [fDri, c1, c2, c4]) rfl (rfl) (sim.rf.v31.w53.w54)) dX10_drift_57
  · refine lv_iconst (v := 1) hx hb dX10_drift_8 (by decide) ?_
    refine lv_goto (tgt := 37) hx hb dX10_drift_9 (by decide) ?_
    refine g_VI (As := [.int 1]) (rest := []) ⟨hx, hb, hml, hown, hts⟩ hG hN (i := 43) (by decide) rfl rfl (c_X10_can l 1) (cwV 1 hts gX10_drift_X10_can rfl rfl rfl (by decide +kernel) ⟨Nat.le_of_ble_eq_true rfl, Nat.le_of_ble_eq_true rfl⟩) rfl hl.1 rfl (Nat.le_of_ble_eq_true rfl) dX10_drift_37 ⟨Nat.le_of_ble_eq_true rfl, Nat.le_of_ble_eq_true rfl⟩ (fun H locs hN => ?_)
    refine g_top (y := 0) (by decide) ?_
    refine lv_if_eq (tgt := 57) hx hb dX10_drift_40 (by decide) (fun _ => ?_) (fun c7 => False.elim (by revert c7; decide))
    exact g_rv hx hb hr hlocks hN (mP_no (n := 1) (by simp [fDri, c1]) (by decide)) dX10_drift_57
set_option maxHeartbeats 4000000 in
set_option maxRecDepth 100000 in
theorem c_X10_correct (l : Launch) {D : va_G} {ad : Nat → Nat} {cs : Nat → ClassId} {zd : Nat → Nat} {F V : gF} {o : gO} {sz : Nat} (u x y : Int32) (t : Nat) (ht : V 43 13 = nI t) (ht2 : t ≤ 20) : Met l yX10_correct wsX10_correct ({ frames := 2, cells := 0, slots := 0, locals := 42 } : Room) (gPc D ad cs zd F V o sz [.ref (ad 43), .int u, .int x, .int y]) (gQi D ad cs sz (fun r9 u9 => mP F V o (fCor (tV F V) u x y) r9 (if tV F V 1 4 = 0 then 0 else nI (t + 1)) (if tV F V 1 4 = 0 then cMove (tF F) u.toNatClampNeg x y else cKeep (tF F) t u x y (tV F V 27 2 + tV F V 1 4)) (if tV F V 1 4 = 0 then tV F V else gw (tV F V) 18 8 (nI (t + 1))) u9)) 0 0 (gX ad sz) := by
  refine g_met (Qc := fun z0 => gQi D ad cs z0 (fun r9 u9 => mP F V o (fCor (tV F V) u x y) r9 (if tV F V 1 4 = 0 then 0 else nI (t + 1)) (if tV F V 1 4 = 0 then cMove (tF F) u.toNatClampNeg x y else cKeep (tF F) t u x y (tV F V 27 2 + tV F V 1 4)) (if tV F V 1 4 = 0 then tV F V else gw (tV F V) 18 8 (nI (t + 1))) u9)) (cc := cX10_correct) (maxL := 5) (ret := (some .int)) (own := RX10) (by decide +kernel) rfl rfl (Nat.le_of_ble_eq_true rfl) ?_
  intro p0 e0 s0 m0 b0 k0 c0 hx hb hr hts hown hlocks hml hG hN ls hl
  have hl : lv_has ls 5 [(0, .ref (ad 43)), (1, .int u), (2, .int x), (3, .int y)] := hl
  have hin_10 : ∀ w ∈ wsX100, w ∈ wsX10_correct := by decide +kernel
  have hk_151 := hts (.fieldLink RX10 151 "GravureHouseModel" "coming" "I") (by decide +kernel)
  have hk_19 := hts (.fieldLink RX10 19 "GravureHouseModel" "rule" "[I") (by decide +kernel)
  have hk_47 := hts (.fieldLink RX10 47 "GravureHouseModel" "ofUnit" "[I") (by decide +kernel)
  have hk_50 := hts (.fieldLink RX10 50 "GravureHouseModel" "byX" "[I") (by decide +kernel)
  have hk_53 := hts (.fieldLink RX10 53 "GravureHouseModel" "byY" "[I") (by decide +kernel)
  have hk_56 := hts (.fieldLink RX10 56 "GravureHouseModel" "when" "[I") (by decide +kernel)
  have hk_154 := hts (.fieldLink RX10 154 "GravureHouseModel" "printed" "I") (by decide +kernel)
  have hk_32 := hts (.fieldLink RX10 32 "GravureHouseModel" "x" "[I") (by decide +kernel)
  have hk_35 := hts (.fieldLink RX10 35 "GravureHouseModel" "y" "[I") (by decide +kernel)
  refine lv_iload_n hx hb dX10_correct_0 rfl (lv_at hl 2 rfl) ?_
  refine lv_bipush (v := (-50)) hx hb dX10_correct_1 (by decide) ?_
  refine lv_bipush (v := 50) hx hb dX10_correct_3 (by decide) ?_
  refine g_SI (As := [.int x, .int (-50), .int 50]) (rest := []) ⟨hx, hb, hml, hown, hts⟩ hG hN (c_X10_isIn l x (-50) 50) (va_cwS 3 hts gX10_correct_X10_isIn rfl rfl rfl (by decide +kernel) ⟨Nat.le_of_ble_eq_true rfl, Nat.le_of_ble_eq_true rfl⟩) rfl hl.1 rfl (Nat.le_of_ble_eq_true rfl) dX10_correct_5 ⟨Nat.le_of_ble_eq_true rfl, Nat.le_of_ble_eq_true rfl⟩ (fun H locs hN => ?_)
  refine g_ifb_eq (gRng x (-50) 50 = true) (tgt := 26) hx hb dX10_correct_8 (by decide) rfl (fun c1 => ?_) (fun c1 => ?_)
  · refine lv_iconst (v := 0) hx hb dX10_correct_26 (by decide) ?_
    refine lv_istore (lv' := [(4, .int 0), (0, .ref (ad 43)), (1, .int u), (2, .int x), (3, .int y)]) hx hb dX10_correct_27 hl (by decide) rfl (fun ls hl => ?_)
    refine lv_aload_n hx hb dX10_correct_29 rfl (lv_at hl 1 rfl) ?_
    refine lv_iload_n hx hb dX10_correct_30 rfl (lv_at hl 2 rfl) ?_
    refine g_SI (As := [.int u]) (rest := [.ref (ad 43)]) ⟨hx, hb, hml, hown, hts⟩ hG hN (c_X10_isInk l u) (va_cwS 1 hts gX10_correct_X10_isInk rfl rfl rfl (by decide +kernel) ⟨Nat.le_of_ble_eq_true rfl, Nat.le_of_ble_eq_true rfl⟩) rfl hl.1 rfl (Nat.le_of_ble_eq_true rfl) dX10_correct_31 ⟨Nat.le_of_ble_eq_true rfl, Nat.le_of_ble_eq_true rfl⟩ (fun H locs hN => ?_)
    refine g_ifb_ne (gIdx u 4 = true) (tgt := 41) hx hb dX10_correct_34 (by decide) rfl (fun c2 => ?_) (fun c2 => ?_)
    · refine lv_iload hx hb dX10_correct_41 (lv_at hl 0 rfl) ?_
      refine lv_if_ne (tgt := 50) hx hb dX10_correct_43 (by decide) (fun c3 => False.elim (by revert c3; decide)) (fun _ => ?_)
      refine lv_iconst (v := 2) hx hb dX10_correct_46 (by decide) ?_
      refine lv_goto (tgt := 64) hx hb dX10_correct_47 (by decide) ?_
      refine g_VI (As := [.int 2]) (rest := []) ⟨hx, hb, hml, hown, hts⟩ hG hN (i := 43) (by decide) rfl rfl (c_X10_can l 2) (cwV 1 hts gX10_correct_X10_can rfl rfl rfl (by decide +kernel) ⟨Nat.le_of_ble_eq_true rfl, Nat.le_of_ble_eq_true rfl⟩) rfl hl.1 rfl (Nat.le_of_ble_eq_true rfl) dX10_correct_64 ⟨Nat.le_of_ble_eq_true rfl, Nat.le_of_ble_eq_true rfl⟩ (fun H locs hN => ?_)
      refine g_top (y := 0) (by decide) ?_
      refine lv_if_ne (tgt := 72) hx hb dX10_correct_67 (by decide) (fun c4 => False.elim (by revert c4; decide)) (fun _ => ?_)
      refine lv_iconst (v := 0) hx hb dX10_correct_70 (by decide) ?_
      exact g_ri hx hb hr hlocks hN (mP_no (n := 2) (by simp [fCor, tV_18_8, ht, c1, c2]) (by decide)) dX10_correct_71
    · refine lv_iconst (v := 1) hx hb dX10_correct_37 (by decide) ?_
      refine lv_goto (tgt := 64) hx hb dX10_correct_38 (by decide) ?_
      refine g_VI (As := [.int 1]) (rest := []) ⟨hx, hb, hml, hown, hts⟩ hG hN (i := 43) (by decide) rfl rfl (c_X10_can l 1) (cwV 1 hts gX10_correct_X10_can rfl rfl rfl (by decide +kernel) ⟨Nat.le_of_ble_eq_true rfl, Nat.le_of_ble_eq_true rfl⟩) rfl hl.1 rfl (Nat.le_of_ble_eq_true rfl) dX10_correct_64 ⟨Nat.le_of_ble_eq_true rfl, Nat.le_of_ble_eq_true rfl⟩ (fun H locs hN => ?_)
      refine g_top (y := 0) (by decide) ?_
      refine lv_if_ne (tgt := 72) hx hb dX10_correct_67 (by decide) (fun c5 => False.elim (by revert c5; decide)) (fun _ => ?_)
      refine lv_iconst (v := 0) hx hb dX10_correct_70 (by decide) ?_
      exact g_ri hx hb hr hlocks hN (mP_no (n := 1) (by simp [fCor, tV_18_8, ht, c1, c2]) (by decide)) dX10_correct_71
  · refine lv_iload_n hx hb dX10_correct_11 rfl (lv_at hl 3 rfl) ?_
    refine lv_bipush (v := (-50)) hx hb dX10_correct_12 (by decide) ?_
    refine lv_bipush (v := 50) hx hb dX10_correct_14 (by decide) ?_
    refine g_SI (As := [.int y, .int (-50), .int 50]) (rest := []) ⟨hx, hb, hml, hown, hts⟩ hG hN (c_X10_isIn l y (-50) 50) (va_cwS 3 hts gX10_correct_X10_isIn rfl rfl rfl (by decide +kernel) ⟨Nat.le_of_ble_eq_true rfl, Nat.le_of_ble_eq_true rfl⟩) rfl hl.1 rfl (Nat.le_of_ble_eq_true rfl) dX10_correct_16 ⟨Nat.le_of_ble_eq_true rfl, Nat.le_of_ble_eq_true rfl⟩ (fun H locs hN => ?_)
    refine g_ifb_eq (gRng y (-50) 50 = true) (tgt := 26) hx hb dX10_correct_19 (by decide) rfl (fun c6 => ?_) (fun c6 => ?_)
    · refine lv_iconst (v := 0) hx hb dX10_correct_26 (by decide) ?_
      refine lv_istore (lv' := [(4, .int 0), (0, .ref (ad 43)), (1, .int u), (2, .int x), (3, .int y)]) hx hb dX10_correct_27 hl (by decide) rfl (fun ls hl => ?_)
      refine lv_aload_n hx hb dX10_correct_29 rfl (lv_at hl 1 rfl) ?_
      refine lv_iload_n hx hb dX10_correct_30 rfl (lv_at hl 2 rfl) ?_
      refine g_SI (As := [.int u]) (rest := [.ref (ad 43)]) ⟨hx, hb, hml, hown, hts⟩ hG hN (c_X10_isInk l u) (va_cwS 1 hts gX10_correct_X10_isInk rfl rfl rfl (by decide +kernel) ⟨Nat.le_of_ble_eq_true rfl, Nat.le_of_ble_eq_true rfl⟩) rfl hl.1 rfl (Nat.le_of_ble_eq_true rfl) dX10_correct_31 ⟨Nat.le_of_ble_eq_true rfl, Nat.le_of_ble_eq_true rfl⟩ (fun H locs hN => ?_)
      refine g_ifb_ne (gIdx u 4 = true) (tgt := 41) hx hb dX10_correct_34 (by decide) rfl (fun c7 => ?_) (fun c7 => ?_)
      · refine lv_iload hx hb dX10_correct_41 (lv_at hl 0 rfl) ?_
        refine lv_if_ne (tgt := 50) hx hb dX10_correct_43 (by decide) (fun c8 => False.elim (by revert c8; decide)) (fun _ => ?_)
        refine lv_iconst (v := 2) hx hb dX10_correct_46 (by decide) ?_
        refine lv_goto (tgt := 64) hx hb dX10_correct_47 (by decide) ?_
        refine g_VI (As := [.int 2]) (rest := []) ⟨hx, hb, hml, hown, hts⟩ hG hN (i := 43) (by decide) rfl rfl (c_X10_can l 2) (cwV 1 hts gX10_correct_X10_can rfl rfl rfl (by decide +kernel) ⟨Nat.le_of_ble_eq_true rfl, Nat.le_of_ble_eq_true rfl⟩) rfl hl.1 rfl (Nat.le_of_ble_eq_true rfl) dX10_correct_64 ⟨Nat.le_of_ble_eq_true rfl, Nat.le_of_ble_eq_true rfl⟩ (fun H locs hN => ?_)
        refine g_top (y := 0) (by decide) ?_
        refine lv_if_ne (tgt := 72) hx hb dX10_correct_67 (by decide) (fun c9 => False.elim (by revert c9; decide)) (fun _ => ?_)
        refine lv_iconst (v := 0) hx hb dX10_correct_70 (by decide) ?_
        exact g_ri hx hb hr hlocks hN (mP_no (n := 2) (by simp [fCor, tV_18_8, ht, c1, c6, c7]) (by decide)) dX10_correct_71
      · refine lv_iconst (v := 1) hx hb dX10_correct_37 (by decide) ?_
        refine lv_goto (tgt := 64) hx hb dX10_correct_38 (by decide) ?_
        refine g_VI (As := [.int 1]) (rest := []) ⟨hx, hb, hml, hown, hts⟩ hG hN (i := 43) (by decide) rfl rfl (c_X10_can l 1) (cwV 1 hts gX10_correct_X10_can rfl rfl rfl (by decide +kernel) ⟨Nat.le_of_ble_eq_true rfl, Nat.le_of_ble_eq_true rfl⟩) rfl hl.1 rfl (Nat.le_of_ble_eq_true rfl) dX10_correct_64 ⟨Nat.le_of_ble_eq_true rfl, Nat.le_of_ble_eq_true rfl⟩ (fun H locs hN => ?_)
        refine g_top (y := 0) (by decide) ?_
        refine lv_if_ne (tgt := 72) hx hb dX10_correct_67 (by decide) (fun c10 => False.elim (by revert c10; decide)) (fun _ => ?_)
        refine lv_iconst (v := 0) hx hb dX10_correct_70 (by decide) ?_
        exact g_ri hx hb hr hlocks hN (mP_no (n := 1) (by simp [fCor, tV_18_8, ht, c1, c6, c7]) (by decide)) dX10_correct_71
    · refine lv_iconst (v := 1) hx hb dX10_correct_22 (by decide) ?_
      refine lv_goto (tgt := 27) hx hb dX10_correct_23 (by decide) ?_
      refine lv_istore (lv' := [(4, .int 1), (0, .ref (ad 43)), (1, .int u), (2, .int x), (3, .int y)]) hx hb dX10_correct_27 hl (by decide) rfl (fun ls hl => ?_)
      refine lv_aload_n hx hb dX10_correct_29 rfl (lv_at hl 1 rfl) ?_
      refine lv_iload_n hx hb dX10_correct_30 rfl (lv_at hl 2 rfl) ?_
      refine g_SI (As := [.int u]) (rest := [.ref (ad 43)]) ⟨hx, hb, hml, hown, hts⟩ hG hN (c_X10_isInk l u) (va_cwS 1 hts gX10_correct_X10_isInk rfl rfl rfl (by decide +kernel) ⟨Nat.le_of_ble_eq_true rfl, Nat.le_of_ble_eq_true rfl⟩) rfl hl.1 rfl (Nat.le_of_ble_eq_true rfl) dX10_correct_31 ⟨Nat.le_of_ble_eq_true rfl, Nat.le_of_ble_eq_true rfl⟩ (fun H locs hN => ?_)
      refine g_ifb_ne (gIdx u 4 = true) (tgt := 41) hx hb dX10_correct_34 (by decide) rfl (fun c11 => ?_) (fun c11 => ?_)
      · refine lv_iload hx hb dX10_correct_41 (lv_at hl 0 rfl) ?_
        refine lv_if_ne (tgt := 50) hx hb dX10_correct_43 (by decide) (fun _ => ?_) (fun c12 => False.elim (by revert c12; decide))
        refine lv_aload_n hx hb dX10_correct_50 rfl (lv_at hl 1 rfl) ?_
        refine gf_43_13 hx hb hts hin_10 hown hG hN hk_151 dX10_correct_51 ?_
        refine g_top (y := nI t) ht ?_
        refine lv_bipush (v := 20) hx hb dX10_correct_54 (by decide) ?_
        refine g_cN_ne (a := t) (b := 20) (tgt := 63) hx hb dX10_correct_56 (by decide) rfl rfl (by omega) (by omega) (fun c13 => ?_) (fun c13 => ?_)
        · have ht3 : t < 20 := by omega
          refine lv_iconst (v := 0) hx hb dX10_correct_63 (by decide) ?_
          refine g_VI (As := [.int 0]) (rest := []) ⟨hx, hb, hml, hown, hts⟩ hG hN (i := 43) (by decide) rfl rfl (c_X10_can l 0) (cwV 1 hts gX10_correct_X10_can rfl rfl rfl (by decide +kernel) ⟨Nat.le_of_ble_eq_true rfl, Nat.le_of_ble_eq_true rfl⟩) rfl hl.1 rfl (Nat.le_of_ble_eq_true rfl) dX10_correct_64 ⟨Nat.le_of_ble_eq_true rfl, Nat.le_of_ble_eq_true rfl⟩ (fun H locs hN => ?_)
          refine g_top (y := 1) (by decide) ?_
          obtain ⟨j, hj, ej⟩ := gIdx_n 4 rfl (by decide) c11
          subst ej
          refine lv_if_ne (tgt := 72) hx hb dX10_correct_67 (by decide) (fun _ => ?_) (fun c14 => False.elim (by revert c14; decide))
          refine lv_aload_n hx hb dX10_correct_72 rfl (lv_at hl 1 rfl) ?_
          refine gf_43_3 hx hb hts hin_10 hown hG hN hk_19 dX10_correct_73 ?_
          refine lv_bipush (v := 8) hx hb dX10_correct_76 (by decide) ?_
          refine g_iald hx hb hG hN (i := 47) (n := 9) (j := 8) (by decide) rfl (by decide) (by omega) rfl dX10_correct_78 ?_
          refine g_top (y := tV F V 1 4) (rfl) ?_
          refine lv_if_ne (tgt := 104) hx hb dX10_correct_79 (by decide) (fun c15 => ?_) (fun c15 => ?_)
          · refine lv_aload_n hx hb dX10_correct_104 rfl (lv_at hl 1 rfl) ?_
            refine gf_43_14 hx hb hts hin_10 hown hG hN hk_47 dX10_correct_105 ?_
            refine lv_aload_n hx hb dX10_correct_108 rfl (lv_at hl 1 rfl) ?_
            refine gf_43_13 hx hb hts hin_10 hown hG hN hk_151 dX10_correct_109 ?_
            refine g_top (y := (V 43 13)) rfl ?_
            refine g_top (y := nI t) ht ?_
            refine lv_iload_n hx hb dX10_correct_112 rfl (lv_at hl 2 rfl) ?_
            refine g_iast hx hb hG hN (i := 56) (n := 20) (j := t) (by decide) (fun _ => rfl) (by decide) (by omega) rfl dX10_correct_113 (fun H locs hN => ?_)
            refine lv_aload_n hx hb dX10_correct_114 rfl (lv_at hl 1 rfl) ?_
            refine gf_43_15 hx hb hts hin_10 hown hG hN hk_50 dX10_correct_115 ?_
            refine lv_aload_n hx hb dX10_correct_118 rfl (lv_at hl 1 rfl) ?_
            refine gf_43_13 hx hb hts hin_10 hown hG hN hk_151 dX10_correct_119 ?_
            refine g_top (y := (V 43 13)) rfl ?_
            refine g_top (y := nI t) ht ?_
            refine lv_iload_n hx hb dX10_correct_122 rfl (lv_at hl 3 rfl) ?_
            refine g_iast hx hb hG hN (i := 57) (n := 20) (j := t) (by decide) (fun _ => rfl) (by decide) (by omega) rfl dX10_correct_123 (fun H locs hN => ?_)
            refine lv_aload_n hx hb dX10_correct_124 rfl (lv_at hl 1 rfl) ?_
            refine gf_43_16 hx hb hts hin_10 hown hG hN hk_53 dX10_correct_125 ?_
            refine lv_aload_n hx hb dX10_correct_128 rfl (lv_at hl 1 rfl) ?_
            refine gf_43_13 hx hb hts hin_10 hown hG hN hk_151 dX10_correct_129 ?_
            refine g_top (y := (V 43 13)) rfl ?_
            refine g_top (y := nI t) ht ?_
            refine lv_iload_n hx hb dX10_correct_132 rfl (lv_at hl 4 rfl) ?_
            refine g_iast hx hb hG hN (i := 58) (n := 20) (j := t) (by decide) (fun _ => rfl) (by decide) (by omega) rfl dX10_correct_133 (fun H locs hN => ?_)
            refine lv_aload_n hx hb dX10_correct_134 rfl (lv_at hl 1 rfl) ?_
            refine gf_43_17 hx hb hts hin_10 hown hG hN hk_56 dX10_correct_135 ?_
            refine lv_aload_n hx hb dX10_correct_138 rfl (lv_at hl 1 rfl) ?_
            refine gf_43_13 hx hb hts hin_10 hown hG hN hk_151 dX10_correct_139 ?_
            refine g_top (y := (V 43 13)) rfl ?_
            refine g_top (y := nI t) ht ?_
            refine lv_aload_n hx hb dX10_correct_142 rfl (lv_at hl 1 rfl) ?_
            refine gf_43_25 hx hb hts hin_10 hown hG hN hk_154 dX10_correct_143 ?_
            refine g_top (y := (V 43 25)) rfl ?_
            refine lv_aload_n hx hb dX10_correct_146 rfl (lv_at hl 1 rfl) ?_
            refine gf_43_3 hx hb hts hin_10 hown hG hN hk_19 dX10_correct_147 ?_
            refine lv_bipush (v := 8) hx hb dX10_correct_150 (by decide) ?_
            refine g_iald hx hb hG hN (i := 47) (n := 9) (j := 8) (by decide) rfl (by decide) (by omega) rfl dX10_correct_152 ?_
            refine g_top (y := (F 47 8)) (rfl) ?_
            refine lv_iadd hx hb dX10_correct_153 ?_
            refine g_iast hx hb hG hN (i := 59) (n := 20) (j := t) (by decide) (fun _ => rfl) (by decide) (by omega) rfl dX10_correct_154 (fun H locs hN => ?_)
            refine lv_aload_n hx hb dX10_correct_155 rfl (lv_at hl 1 rfl) ?_
            refine lv_dup hx hb dX10_correct_156 rfl ?_
            refine gf_43_13 hx hb hts hin_10 hown hG hN hk_151 dX10_correct_157 ?_
            refine g_top (y := (V 43 13)) rfl ?_
            refine g_top (y := nI t) ht ?_
            refine lv_iconst (v := 1) hx hb dX10_correct_160 (by decide) ?_
            refine g_addN (a := t) (b := 1) hx hb rfl rfl dX10_correct_161 ?_
            refine gp_43_13 hx hb hts hin_10 hown hG hN hk_151 dX10_correct_162 (fun H locs hN => ?_)
            refine lv_aload_n hx hb dX10_correct_165 rfl (lv_at hl 1 rfl) ?_
            refine gf_43_13 hx hb hts hin_10 hown hG hN hk_151 dX10_correct_166 ?_
            refine g_top (y := (nI (t + 1))) rfl ?_
            exact g_ri hx hb hr hlocks hN (by simp only [nI_clamp (show j < 2 ^ 31 by omega)]; exact mP_ok (by simp [fCor, tV_18_8, ht, c1, c6, c11, c13, c15, m20n (by assumption) ht2]) rfl ((if_neg c15).symm) (by rw [if_neg c15, if_neg c15, ← mKeep]; exact sim.rf.v31.w56.w57.w58.w59.v13)) dX10_correct_169
          · refine lv_aload_n hx hb dX10_correct_82 rfl (lv_at hl 1 rfl) ?_
            refine gf_43_8 hx hb hts hin_10 hown hG hN hk_32 dX10_correct_83 ?_
            refine lv_iload_n hx hb dX10_correct_86 rfl (lv_at hl 2 rfl) ?_
            refine lv_dup2_11 hx hb dX10_correct_87 rfl rfl ?_
            refine g_iald hx hb hG hN (i := 51) (n := 4) (j := j) (by decide) rfl (by decide) (by omega) rfl dX10_correct_88 ?_
            refine lv_iload_n hx hb dX10_correct_89 rfl (lv_at hl 3 rfl) ?_
            refine lv_iadd hx hb dX10_correct_90 ?_
            refine g_iast hx hb hG hN (i := 51) (n := 4) (j := j) (by decide) (fun _ => rfl) (by decide) (by omega) rfl dX10_correct_91 (fun H locs hN => ?_)
            refine lv_aload_n hx hb dX10_correct_92 rfl (lv_at hl 1 rfl) ?_
            refine gf_43_9 hx hb hts hin_10 hown hG hN hk_35 dX10_correct_93 ?_
            refine lv_iload_n hx hb dX10_correct_96 rfl (lv_at hl 2 rfl) ?_
            refine lv_dup2_11 hx hb dX10_correct_97 rfl rfl ?_
            refine g_iald hx hb hG hN (i := 52) (n := 4) (j := j) (by decide) rfl (by decide) (by omega) rfl dX10_correct_98 ?_
            refine g_top (y := (F 52 j)) (rfl) ?_
            refine lv_iload_n hx hb dX10_correct_99 rfl (lv_at hl 4 rfl) ?_
            refine lv_iadd hx hb dX10_correct_100 ?_
            refine g_iast hx hb hG hN (i := 52) (n := 4) (j := j) (by decide) (fun _ => rfl) (by decide) (by omega) rfl dX10_correct_101 (fun H locs hN => ?_)
            refine lv_iconst (v := 0) hx hb dX10_correct_102 (by decide) ?_
            exact g_ri hx hb hr hlocks hN (by simp only [nI_clamp (show j < 2 ^ 31 by omega)]; exact mP_ok (by simp [fCor, tV_18_8, ht, c1, c6, c11, c13, c15, m20n (by assumption) ht2]) rfl ((if_pos c15).symm) (by rw [if_pos c15, if_pos c15]; exact sim.rf.v31.w51.w52)) dX10_correct_103
        · refine lv_iconst (v := 3) hx hb dX10_correct_59 (by decide) ?_
          refine lv_goto (tgt := 64) hx hb dX10_correct_60 (by decide) ?_
          refine g_VI (As := [.int 3]) (rest := []) ⟨hx, hb, hml, hown, hts⟩ hG hN (i := 43) (by decide) rfl rfl (c_X10_can l 3) (cwV 1 hts gX10_correct_X10_can rfl rfl rfl (by decide +kernel) ⟨Nat.le_of_ble_eq_true rfl, Nat.le_of_ble_eq_true rfl⟩) rfl hl.1 rfl (Nat.le_of_ble_eq_true rfl) dX10_correct_64 ⟨Nat.le_of_ble_eq_true rfl, Nat.le_of_ble_eq_true rfl⟩ (fun H locs hN => ?_)
          refine g_top (y := 0) (by decide) ?_
          refine lv_if_ne (tgt := 72) hx hb dX10_correct_67 (by decide) (fun c16 => False.elim (by revert c16; decide)) (fun _ => ?_)
          refine lv_iconst (v := 0) hx hb dX10_correct_70 (by decide) ?_
          exact g_ri hx hb hr hlocks hN (mP_no (n := 3) (by simp [fCor, tV_18_8, ht, c1, c6, c11, m20 (by assumption)]) (by decide)) dX10_correct_71
      · refine lv_iconst (v := 1) hx hb dX10_correct_37 (by decide) ?_
        refine lv_goto (tgt := 64) hx hb dX10_correct_38 (by decide) ?_
        refine g_VI (As := [.int 1]) (rest := []) ⟨hx, hb, hml, hown, hts⟩ hG hN (i := 43) (by decide) rfl rfl (c_X10_can l 1) (cwV 1 hts gX10_correct_X10_can rfl rfl rfl (by decide +kernel) ⟨Nat.le_of_ble_eq_true rfl, Nat.le_of_ble_eq_true rfl⟩) rfl hl.1 rfl (Nat.le_of_ble_eq_true rfl) dX10_correct_64 ⟨Nat.le_of_ble_eq_true rfl, Nat.le_of_ble_eq_true rfl⟩ (fun H locs hN => ?_)
        refine g_top (y := 0) (by decide) ?_
        refine lv_if_ne (tgt := 72) hx hb dX10_correct_67 (by decide) (fun c17 => False.elim (by revert c17; decide)) (fun _ => ?_)
        refine lv_iconst (v := 0) hx hb dX10_correct_70 (by decide) ?_
        exact g_ri hx hb hr hlocks hN (mP_no (n := 1) (by simp [fCor, tV_18_8, ht, c1, c6, c11]) (by decide)) dX10_correct_71
set_option maxHeartbeats 4000000 in
set_option maxRecDepth 100000 in
theorem c_X10_key (l : Launch) {D : va_G} {ad : Nat → Nat} {cs : Nat → ClassId} {zd : Nat → Nat} {F V : gF} {o : gO} {sz : Nat} (u q x : Int32) : Met l yX10_key wsX10_key ({ frames := 2, cells := 0, slots := 0, locals := 42 } : Room) (gPc D ad cs zd F V o sz [.ref (ad 43), .int u, .int q, .int x]) (gQi D ad cs sz (fun r9 u9 => mP F V o (fKey u q x) r9 (tF F (29 + u.toNatClampNeg) (q.toNatClampNeg)) (gw (tF F) (29 + u.toNatClampNeg) (q.toNatClampNeg) x) (tV F V) u9)) 0 0 (gX ad sz) := by
  refine g_met (Qc := fun z0 => gQi D ad cs z0 (fun r9 u9 => mP F V o (fKey u q x) r9 (tF F (29 + u.toNatClampNeg) (q.toNatClampNeg)) (gw (tF F) (29 + u.toNatClampNeg) (q.toNatClampNeg) x) (tV F V) u9)) (cc := cX10_key) (maxL := 6) (ret := (some .int)) (own := RX10) (by decide +kernel) rfl rfl (Nat.le_of_ble_eq_true rfl) ?_
  intro p0 e0 s0 m0 b0 k0 c0 hx hb hr hts hown hlocks hml hG hN ls hl
  have hl : lv_has ls 6 [(0, .ref (ad 43)), (1, .int u), (2, .int q), (3, .int x)] := hl
  have hin_10 : ∀ w ∈ wsX100, w ∈ wsX10_key := by decide +kernel
  have hk_44 := hts (.fieldLink RX10 44 "GravureHouseModel" "key" "[I") (by decide +kernel)
  refine lv_iload_n hx hb dX10_key_0 rfl (lv_at hl 1 rfl) ?_
  refine g_SI (As := [.int u]) (rest := []) ⟨hx, hb, hml, hown, hts⟩ hG hN (c_X10_isInk l u) (va_cwS 1 hts gX10_key_X10_isInk rfl rfl rfl (by decide +kernel) ⟨Nat.le_of_ble_eq_true rfl, Nat.le_of_ble_eq_true rfl⟩) rfl hl.1 rfl (Nat.le_of_ble_eq_true rfl) dX10_key_1 ⟨Nat.le_of_ble_eq_true rfl, Nat.le_of_ble_eq_true rfl⟩ (fun H locs hN => ?_)
  refine g_ifb_eq (gIdx u 4 = true) (tgt := 21) hx hb dX10_key_4 (by decide) rfl (fun c1 => ?_) (fun c1 => ?_)
  · refine lv_iconst (v := 0) hx hb dX10_key_21 (by decide) ?_
    refine lv_istore (lv' := [(4, .int 0), (0, .ref (ad 43)), (1, .int u), (2, .int q), (3, .int x)]) hx hb dX10_key_22 hl (by decide) rfl (fun ls hl => ?_)
    refine lv_aload_n hx hb dX10_key_24 rfl (lv_at hl 1 rfl) ?_
    refine lv_iload hx hb dX10_key_25 (lv_at hl 0 rfl) ?_
    refine lv_if_ne (tgt := 34) hx hb dX10_key_27 (by decide) (fun c2 => False.elim (by revert c2; decide)) (fun _ => ?_)
    refine lv_iconst (v := 1) hx hb dX10_key_30 (by decide) ?_
    refine lv_goto (tgt := 49) hx hb dX10_key_31 (by decide) ?_
    refine g_VI (As := [.int 1]) (rest := []) ⟨hx, hb, hml, hown, hts⟩ hG hN (i := 43) (by decide) rfl rfl (c_X10_can l 1) (cwV 1 hts gX10_key_X10_can rfl rfl rfl (by decide +kernel) ⟨Nat.le_of_ble_eq_true rfl, Nat.le_of_ble_eq_true rfl⟩) rfl hl.1 rfl (Nat.le_of_ble_eq_true rfl) dX10_key_49 ⟨Nat.le_of_ble_eq_true rfl, Nat.le_of_ble_eq_true rfl⟩ (fun H locs hN => ?_)
    refine g_top (y := 0) (by decide) ?_
    refine lv_if_ne (tgt := 57) hx hb dX10_key_52 (by decide) (fun c3 => False.elim (by revert c3; decide)) (fun _ => ?_)
    refine lv_iconst (v := 0) hx hb dX10_key_55 (by decide) ?_
    exact g_ri hx hb hr hlocks hN (mP_no (n := 1) (by simp [fKey, ← gRng_side, c1]) (by decide)) dX10_key_56
  · refine lv_iload_n hx hb dX10_key_7 rfl (lv_at hl 2 rfl) ?_
    refine lv_iconst (v := 0) hx hb dX10_key_8 (by decide) ?_
    refine lv_bipush (v := 7) hx hb dX10_key_9 (by decide) ?_
    refine g_SI (As := [.int q, .int 0, .int 7]) (rest := []) ⟨hx, hb, hml, hown, hts⟩ hG hN (c_X10_isIn l q 0 7) (va_cwS 3 hts gX10_key_X10_isIn rfl rfl rfl (by decide +kernel) ⟨Nat.le_of_ble_eq_true rfl, Nat.le_of_ble_eq_true rfl⟩) rfl hl.1 rfl (Nat.le_of_ble_eq_true rfl) dX10_key_11 ⟨Nat.le_of_ble_eq_true rfl, Nat.le_of_ble_eq_true rfl⟩ (fun H locs hN => ?_)
    refine g_ifb_eq (gRng q 0 7 = true) (tgt := 21) hx hb dX10_key_14 (by decide) rfl (fun c4 => ?_) (fun c4 => ?_)
    · refine lv_iconst (v := 0) hx hb dX10_key_21 (by decide) ?_
      refine lv_istore (lv' := [(4, .int 0), (0, .ref (ad 43)), (1, .int u), (2, .int q), (3, .int x)]) hx hb dX10_key_22 hl (by decide) rfl (fun ls hl => ?_)
      refine lv_aload_n hx hb dX10_key_24 rfl (lv_at hl 1 rfl) ?_
      refine lv_iload hx hb dX10_key_25 (lv_at hl 0 rfl) ?_
      refine lv_if_ne (tgt := 34) hx hb dX10_key_27 (by decide) (fun c5 => False.elim (by revert c5; decide)) (fun _ => ?_)
      refine lv_iconst (v := 1) hx hb dX10_key_30 (by decide) ?_
      refine lv_goto (tgt := 49) hx hb dX10_key_31 (by decide) ?_
      refine g_VI (As := [.int 1]) (rest := []) ⟨hx, hb, hml, hown, hts⟩ hG hN (i := 43) (by decide) rfl rfl (c_X10_can l 1) (cwV 1 hts gX10_key_X10_can rfl rfl rfl (by decide +kernel) ⟨Nat.le_of_ble_eq_true rfl, Nat.le_of_ble_eq_true rfl⟩) rfl hl.1 rfl (Nat.le_of_ble_eq_true rfl) dX10_key_49 ⟨Nat.le_of_ble_eq_true rfl, Nat.le_of_ble_eq_true rfl⟩ (fun H locs hN => ?_)
      refine g_top (y := 0) (by decide) ?_
      refine lv_if_ne (tgt := 57) hx hb dX10_key_52 (by decide) (fun c6 => False.elim (by revert c6; decide)) (fun _ => ?_)
      refine lv_iconst (v := 0) hx hb dX10_key_55 (by decide) ?_
      exact g_ri hx hb hr hlocks hN (mP_no (n := 1) (by simp [fKey, ← gRng_side, c1, c4]) (by decide)) dX10_key_56
    · refine lv_iconst (v := 1) hx hb dX10_key_17 (by decide) ?_
      refine lv_goto (tgt := 22) hx hb dX10_key_18 (by decide) ?_
      refine lv_istore (lv' := [(4, .int 1), (0, .ref (ad 43)), (1, .int u), (2, .int q), (3, .int x)]) hx hb dX10_key_22 hl (by decide) rfl (fun ls hl => ?_)
      refine lv_aload_n hx hb dX10_key_24 rfl (lv_at hl 1 rfl) ?_
      refine lv_iload hx hb dX10_key_25 (lv_at hl 0 rfl) ?_
      refine lv_if_ne (tgt := 34) hx hb dX10_key_27 (by decide) (fun _ => ?_) (fun c7 => False.elim (by revert c7; decide))
      refine lv_iload_n hx hb dX10_key_34 rfl (lv_at hl 4 rfl) ?_
      refine lv_iconst (v := 0) hx hb dX10_key_35 (by decide) ?_
      refine lv_bipush (v := 100) hx hb dX10_key_36 (by decide) ?_
      refine g_SI (As := [.int x, .int 0, .int 100]) (rest := [.ref (ad 43)]) ⟨hx, hb, hml, hown, hts⟩ hG hN (c_X10_isIn l x 0 100) (va_cwS 3 hts gX10_key_X10_isIn rfl rfl rfl (by decide +kernel) ⟨Nat.le_of_ble_eq_true rfl, Nat.le_of_ble_eq_true rfl⟩) rfl hl.1 rfl (Nat.le_of_ble_eq_true rfl) dX10_key_38 ⟨Nat.le_of_ble_eq_true rfl, Nat.le_of_ble_eq_true rfl⟩ (fun H locs hN => ?_)
      refine g_ifb_eq (gRng x 0 100 = true) (tgt := 48) hx hb dX10_key_41 (by decide) rfl (fun c8 => ?_) (fun c8 => ?_)
      · refine lv_iconst (v := 2) hx hb dX10_key_48 (by decide) ?_
        refine g_VI (As := [.int 2]) (rest := []) ⟨hx, hb, hml, hown, hts⟩ hG hN (i := 43) (by decide) rfl rfl (c_X10_can l 2) (cwV 1 hts gX10_key_X10_can rfl rfl rfl (by decide +kernel) ⟨Nat.le_of_ble_eq_true rfl, Nat.le_of_ble_eq_true rfl⟩) rfl hl.1 rfl (Nat.le_of_ble_eq_true rfl) dX10_key_49 ⟨Nat.le_of_ble_eq_true rfl, Nat.le_of_ble_eq_true rfl⟩ (fun H locs hN => ?_)
        refine g_top (y := 0) (by decide) ?_
        refine lv_if_ne (tgt := 57) hx hb dX10_key_52 (by decide) (fun c9 => False.elim (by revert c9; decide)) (fun _ => ?_)
        refine lv_iconst (v := 0) hx hb dX10_key_55 (by decide) ?_
        exact g_ri hx hb hr hlocks hN (mP_no (n := 2) (by simp [fKey, ← gRng_side, c1, c4, c8]) (by decide)) dX10_key_56
      · refine lv_iconst (v := 0) hx hb dX10_key_44 (by decide) ?_
        refine lv_goto (tgt := 49) hx hb dX10_key_45 (by decide) ?_
        refine g_VI (As := [.int 0]) (rest := []) ⟨hx, hb, hml, hown, hts⟩ hG hN (i := 43) (by decide) rfl rfl (c_X10_can l 0) (cwV 1 hts gX10_key_X10_can rfl rfl rfl (by decide +kernel) ⟨Nat.le_of_ble_eq_true rfl, Nat.le_of_ble_eq_true rfl⟩) rfl hl.1 rfl (Nat.le_of_ble_eq_true rfl) dX10_key_49 ⟨Nat.le_of_ble_eq_true rfl, Nat.le_of_ble_eq_true rfl⟩ (fun H locs hN => ?_)
        refine g_top (y := 1) (by decide) ?_
        obtain ⟨j, hj, ej⟩ := gIdx_n 4 rfl (by decide) c1
        subst ej
        obtain ⟨i, hi, ei⟩ := gIdx_n 8 rfl (by decide) ((gRng_side _).symm.trans c4)
        subst ei
        refine lv_if_ne (tgt := 57) hx hb dX10_key_52 (by decide) (fun _ => ?_) (fun c10 => False.elim (by revert c10; decide))
        refine lv_aload_n hx hb dX10_key_57 rfl (lv_at hl 1 rfl) ?_
        refine gf_43_12 hx hb hts hin_10 hown hG hN hk_44 dX10_key_58 ?_
        refine lv_bipush (v := 8) hx hb dX10_key_61 (by decide) ?_
        refine lv_iload_n hx hb dX10_key_63 rfl (lv_at hl 2 rfl) ?_
        refine g_mulN (a := 8) (b := j) hx hb rfl rfl dX10_key_64 ?_
        refine lv_iload_n hx hb dX10_key_65 rfl (lv_at hl 3 rfl) ?_
        refine g_addN (a := 8 * j) (b := i) hx hb rfl rfl dX10_key_66 ?_
        refine g_iald hx hb hG hN (i := 55) (n := 32) (j := (8 * j) + i) (by decide) rfl (by decide) (by omega) rfl dX10_key_67 ?_
        refine lv_istore (lv' := [(5, .int (F 55 ((8 * j) + i))), (4, .int 1), (0, .ref (ad 43)), (1, .int (nI j)), (2, .int (nI i)), (3, .int x)]) hx hb dX10_key_68 hl (by decide) rfl (fun ls hl => ?_)
        refine lv_aload_n hx hb dX10_key_70 rfl (lv_at hl 2 rfl) ?_
        refine gf_43_12 hx hb hts hin_10 hown hG hN hk_44 dX10_key_71 ?_
        refine lv_bipush (v := 8) hx hb dX10_key_74 (by decide) ?_
        refine lv_iload_n hx hb dX10_key_76 rfl (lv_at hl 3 rfl) ?_
        refine g_mulN (a := 8) (b := j) hx hb rfl rfl dX10_key_77 ?_
        refine lv_iload_n hx hb dX10_key_78 rfl (lv_at hl 4 rfl) ?_
        refine g_addN (a := 8 * j) (b := i) hx hb rfl rfl dX10_key_79 ?_
        refine lv_iload_n hx hb dX10_key_80 rfl (lv_at hl 5 rfl) ?_
        refine g_iast hx hb hG hN (i := 55) (n := 32) (j := (8 * j) + i) (by decide) (fun _ => rfl) (by decide) (by omega) rfl dX10_key_81 (fun H locs hN => ?_)
        refine lv_iload hx hb dX10_key_82 (lv_at hl 0 rfl) ?_
        exact g_ri hx hb hr hlocks hN (by simp only [nI_clamp (show j < 2 ^ 31 by omega), nI_clamp (show i < 2 ^ 31 by omega)]; exact mP_ok (by simp [fKey, ← gRng_side, c1, c4, c8]) rfl ((tF_29 (by omega) (by omega)).symm) (sim.rf.v31.w55 (by omega) (by omega))) dX10_key_84
set_option maxHeartbeats 4000000 in
set_option maxRecDepth 100000 in
theorem c_X10_tear (l : Launch) {D : va_G} {ad : Nat → Nat} {cs : Nat → ClassId} {zd : Nat → Nat} {F V : gF} {o : gO} {sz : Nat} : Met l yX10_tear wsX10_tear ({ frames := 0, cells := 0, slots := 0, locals := 0 } : Room) (gPc D ad cs zd F V o sz [.ref (ad 43)]) (gQi D ad cs sz (fun r9 u9 => mP F V o 0 r9 20 (tF F) (gw (tV F V) 27 1 20) u9)) 0 0 (gX ad sz) := by
  refine g_met (Qc := fun z0 => gQi D ad cs z0 (fun r9 u9 => mP F V o 0 r9 20 (tF F) (gw (tV F V) 27 1 20) u9)) (cc := cX10_tear) (maxL := 1) (ret := (some .int)) (own := RX10) (by decide +kernel) rfl rfl (Nat.le_of_ble_eq_true rfl) ?_
  intro p0 e0 s0 m0 b0 k0 c0 hx hb hr hts hown hlocks hml hG hN ls hl
  have hl : lv_has ls 1 [(0, .ref (ad 43))] := hl
  have hin_10 : ∀ w ∈ wsX100, w ∈ wsX10_tear := by decide +kernel
  have hk_72 := hts (.fieldLink RX10 72 "GravureHouseModel" "thrown" "I") (by decide +kernel)
  have hk_157 := hts (.fieldLink RX10 157 "GravureHouseModel" "leadIn" "I") (by decide +kernel)
  refine lv_aload_n hx hb dX10_tear_0 rfl (lv_at hl 0 rfl) ?_
  refine lv_iconst (v := 0) hx hb dX10_tear_1 (by decide) ?_
  refine gp_43_31 hx hb hts hin_10 hown hG hN hk_72 dX10_tear_2 (fun H locs hN => ?_)
  refine lv_aload_n hx hb dX10_tear_5 rfl (lv_at hl 0 rfl) ?_
  refine lv_bipush (v := 20) hx hb dX10_tear_6 (by decide) ?_
  refine gp_43_18 hx hb hts hin_10 hown hG hN hk_157 dX10_tear_8 (fun H locs hN => ?_)
  refine lv_bipush (v := 20) hx hb dX10_tear_11 (by decide) ?_
  exact g_ri hx hb hr hlocks hN (mP_ok rfl rfl rfl sim.rf.v31.v18) dX10_tear_13
set_option maxHeartbeats 4000000 in
set_option maxRecDepth 100000 in
theorem c_X10_job (l : Launch) {D : va_G} {ad : Nat → Nat} {cs : Nat → ClassId} {zd : Nat → Nat} {F V : gF} {o : gO} {sz : Nat} (n : Int32) : Met l yX10_job wsX10_job ({ frames := 1, cells := 0, slots := 0, locals := 22 } : Room) (gPc D ad cs zd F V o sz [.ref (ad 43), .int n]) (gQv D ad cs sz (fun u9 => mP F V o (fJob (tV F V) n) 0 0 (cBeg (tF F) n.toNatClampNeg) (gw (gw (gw (tV F V) 33 3 n) 33 4 0) 33 5 n) u9)) 0 0 (gX ad sz) := by
  refine g_met (Qc := fun z0 => gQv D ad cs z0 (fun u9 => mP F V o (fJob (tV F V) n) 0 0 (cBeg (tF F) n.toNatClampNeg) (gw (gw (gw (tV F V) 33 3 n) 33 4 0) 33 5 n) u9)) (cc := cX10_job) (maxL := 3) (ret := none) (own := RX10) (by decide +kernel) rfl rfl (Nat.le_of_ble_eq_true rfl) ?_
  intro p0 e0 s0 m0 b0 k0 c0 hx hb hr hts hown hlocks hml hG hN ls hl
  have hl : lv_has ls 3 [(0, .ref (ad 43)), (1, .int n)] := hl
  have hin_10 : ∀ w ∈ wsX100, w ∈ wsX10_job := by decide +kernel
  have hk_160 := hts (.fieldLink RX10 160 "GravureHouseModel" "left" "I") (by decide +kernel)
  have hk_163 := hts (.fieldLink RX10 163 "GravureHouseModel" "copies" "I") (by decide +kernel)
  have hk_166 := hts (.fieldLink RX10 166 "GravureHouseModel" "begin" "I") (by decide +kernel)
  have hk_59 := hts (.fieldLink RX10 59 "GravureHouseModel" "isGood" "[Z") (by decide +kernel)
  have hk_63 := hts (.fieldLink RX10 63 "GravureHouseModel" "times" "[I") (by decide +kernel)
  have hk_66 := hts (.fieldLink RX10 66 "GravureHouseModel" "ring" "[I") (by decide +kernel)
  refine lv_aload_n hx hb dX10_job_0 rfl (lv_at hl 0 rfl) ?_
  refine lv_iload_n hx hb dX10_job_1 rfl (lv_at hl 1 rfl) ?_
  refine lv_iconst (v := 1) hx hb dX10_job_2 (by decide) ?_
  refine lv_sipush (v := 200) hx hb dX10_job_3 (by decide) ?_
  refine g_SI (As := [.int n, .int 1, .int 200]) (rest := [.ref (ad 43)]) ⟨hx, hb, hml, hown, hts⟩ hG hN (c_X10_isIn l n 1 200) (va_cwS 3 hts gX10_job_X10_isIn rfl rfl rfl (by decide +kernel) ⟨Nat.le_of_ble_eq_true rfl, Nat.le_of_ble_eq_true rfl⟩) rfl hl.1 rfl (Nat.le_of_ble_eq_true rfl) dX10_job_6 ⟨Nat.le_of_ble_eq_true rfl, Nat.le_of_ble_eq_true rfl⟩ (fun H locs hN => ?_)
  refine g_ifb_ne (gRng n 1 200 = true) (tgt := 16) hx hb dX10_job_9 (by decide) rfl (fun c1 => ?_) (fun c1 => ?_)
  · refine lv_aload_n hx hb dX10_job_16 rfl (lv_at hl 0 rfl) ?_
    refine gf_43_24 hx hb hts hin_10 hown hG hN hk_160 dX10_job_17 ?_
    refine lv_if_le (tgt := 27) hx hb dX10_job_20 (by decide) (fun c2 => ?_) (fun c2 => ?_)
    · refine lv_iconst (v := 0) hx hb dX10_job_27 (by decide) ?_
      refine g_VI (As := [.int 0]) (rest := []) ⟨hx, hb, hml, hown, hts⟩ hG hN (i := 43) (by decide) rfl rfl (c_X10_can l 0) (cwV 1 hts gX10_job_X10_can rfl rfl rfl (by decide +kernel) ⟨Nat.le_of_ble_eq_true rfl, Nat.le_of_ble_eq_true rfl⟩) rfl hl.1 rfl (Nat.le_of_ble_eq_true rfl) dX10_job_28 ⟨Nat.le_of_ble_eq_true rfl, Nat.le_of_ble_eq_true rfl⟩ (fun H locs hN => ?_)
      refine g_top (y := 1) (by decide) ?_
      obtain ⟨j, hj, ej⟩ := gRng_n1 200 rfl (by decide) c1
      subst ej
      refine lv_if_eq (tgt := 83) hx hb dX10_job_31 (by decide) (fun c3 => False.elim (by revert c3; decide)) (fun _ => ?_)
      refine lv_aload_n hx hb dX10_job_34 rfl (lv_at hl 0 rfl) ?_
      refine lv_iload_n hx hb dX10_job_35 rfl (lv_at hl 1 rfl) ?_
      refine gp_43_19 hx hb hts hin_10 hown hG hN hk_163 dX10_job_36 (fun H locs hN => ?_)
      refine lv_aload_n hx hb dX10_job_39 rfl (lv_at hl 0 rfl) ?_
      refine lv_iconst (v := 0) hx hb dX10_job_40 (by decide) ?_
      refine gp_43_23 hx hb hts hin_10 hown hG hN hk_166 dX10_job_41 (fun H locs hN => ?_)
      refine lv_aload_n hx hb dX10_job_44 rfl (lv_at hl 0 rfl) ?_
      refine lv_iload_n hx hb dX10_job_45 rfl (lv_at hl 1 rfl) ?_
      refine gp_43_24 hx hb hts hin_10 hown hG hN hk_160 dX10_job_46 (fun H locs hN => ?_)
      refine lv_iconst (v := 0) hx hb dX10_job_49 (by decide) ?_
      refine lv_istore_n (lv' := [(2, .int 0), (0, .ref (ad 43)), (1, .int (nI j))]) hx hb dX10_job_50 rfl hl (by decide) rfl (fun ls hl => ?_)
      have L4 : ∀ (d9_51 : Nat) (q : Nat) (F1 : gF) (H : Heap) (locs : List Loc) (ls : Array Slot), j - q = d9_51 → (q ≤ j) → (sim F V F1 (gw (gw (gw (gw V 43 31 0) 43 19 (nI j)) 43 23 0) 43 24 (nI j)) (cBeg (tF F) q) (gw (gw (gw (tV F V) 33 3 (nI j)) 33 4 0) 33 5 (nI j))) → gN D ad cs s0 F1 (gw (gw (gw (gw V 43 31 0) 43 19 (nI j)) 43 23 0) 43 24 (nI j)) o H locs → lv_has ls 3 [(0, .ref (ad 43)), (1, .int (nI j)), (2, .int (nI q))] → W p0 l e0 ({ frames := 1, cells := 0, slots := 0, locals := 22 } : Room) s0 m0 ([.ref (ad 43), .int (nI j)] : List Value).toArray b0 k0 c0 H locs 0 0 (MQ b0 (gQv D ad cs s0.heap.size (fun u9 => mP F V o (fJob (tV F V) (nI j)) 0 0 (cBeg (tF F) (nI j).toNatClampNeg) (gw (gw (gw (tV F V) 33 3 (nI j)) 33 4 0) 33 5 (nI j)) u9)) ([.ref (ad 43), .int (nI j)] : List Value).toArray s0 0 0 (gX ad s0.heap.size)) (F0 m0 51 ls []) := by
        intro d9_51
        induction d9_51 with
        | zero =>
          intro q F1 H locs ls hd_51 hq hs hN hl
          refine lv_iload_n hx hb dX10_job_51 rfl (lv_at hl 2 rfl) ?_
          refine lv_iload_n hx hb dX10_job_52 rfl (lv_at hl 1 rfl) ?_
          refine g_cN_ge (a := q) (b := j) (tgt := 83) hx hb dX10_job_53 (by decide) rfl rfl (by omega) (by omega) (fun c5 => ?_) (fun c5 => absurd c5 (by omega))
          exact g_rv hx hb hr hlocks hN (by simp only [nI_clamp (show j < 2 ^ 31 by omega)]; exact mP_ok (by simp [fJob, tV_33_5, c1, c2, Int32.not_lt.mpr c2, c5, Nat.not_lt.mpr c5]) rfl (rfl) (by (obtain rfl : q = j := (by omega)); exact hs)) dX10_job_83
        | succ d9_51 ih51 =>
          intro q F1 H locs ls hd_51 hq hs hN hl
          refine lv_iload_n hx hb dX10_job_51 rfl (lv_at hl 2 rfl) ?_
          refine lv_iload_n hx hb dX10_job_52 rfl (lv_at hl 1 rfl) ?_
          refine g_cN_ge (a := q) (b := j) (tgt := 83) hx hb dX10_job_53 (by decide) rfl rfl (by omega) (by omega) (fun c6 => absurd c6 (by omega)) (fun c6 => ?_)
          refine lv_aload_n hx hb dX10_job_56 rfl (lv_at hl 0 rfl) ?_
          refine gf_43_20 hx hb hts hin_10 hown hG hN hk_59 dX10_job_57 ?_
          refine lv_iload_n hx hb dX10_job_60 rfl (lv_at hl 2 rfl) ?_
          refine lv_iconst (v := 0) hx hb dX10_job_61 (by decide) ?_
          refine g_zast hx hb hG hN (i := 60) (n := 200) (j := q) (by decide) (fun _ => rfl) (by decide) (by omega) rfl (by decide) dX10_job_62 (fun H locs hN => ?_)
          refine lv_aload_n hx hb dX10_job_63 rfl (lv_at hl 0 rfl) ?_
          refine gf_43_21 hx hb hts hin_10 hown hG hN hk_63 dX10_job_64 ?_
          refine lv_iload_n hx hb dX10_job_67 rfl (lv_at hl 2 rfl) ?_
          refine lv_iconst (v := 0) hx hb dX10_job_68 (by decide) ?_
          refine g_iast hx hb hG hN (i := 61) (n := 200) (j := q) (by decide) (fun _ => rfl) (by decide) (by omega) rfl dX10_job_69 (fun H locs hN => ?_)
          refine lv_aload_n hx hb dX10_job_70 rfl (lv_at hl 0 rfl) ?_
          refine gf_43_22 hx hb hts hin_10 hown hG hN hk_66 dX10_job_71 ?_
          refine lv_iload_n hx hb dX10_job_74 rfl (lv_at hl 2 rfl) ?_
          refine lv_iload_n hx hb dX10_job_75 rfl (lv_at hl 2 rfl) ?_
          refine g_iast hx hb hG hN (i := 62) (n := 200) (j := q) (by decide) (fun _ => rfl) (by decide) (by omega) rfl dX10_job_76 (fun H locs hN => ?_)
          refine lv_iinc (v := (nI (q + 1))) (lv' := [(2, .int (nI (q + 1))), (0, .ref (ad 43)), (1, .int (nI j))]) hx hb dX10_job_77 hl (k := 2) rfl (nI_1 _) (by decide) rfl (fun ls hl => ?_)
          refine lv_goto (tgt := 51) hx hb dX10_job_80 (by decide) ?_
          exact ih51 (q + 1) (gw (gw (gw F1 60 q 0) 61 q 0) 62 q (nI q)) _ _ ls (by omega) (by omega) (by rw [cBeg, gw_comm (i := 34) (j := 35) (by decide)]; exact hs.w60.w61.w62) hN (lv_sub hl [1, 2, 0] rfl)
      exact L4 _ 0 F _ _ ls (rfl) (by omega) (sim.rf.v31.v19.v23.v24) hN (lv_sub hl [1, 2, 0] rfl)
    · refine lv_iconst (v := 2) hx hb dX10_job_23 (by decide) ?_
      refine lv_goto (tgt := 28) hx hb dX10_job_24 (by decide) ?_
      refine g_VI (As := [.int 2]) (rest := []) ⟨hx, hb, hml, hown, hts⟩ hG hN (i := 43) (by decide) rfl rfl (c_X10_can l 2) (cwV 1 hts gX10_job_X10_can rfl rfl rfl (by decide +kernel) ⟨Nat.le_of_ble_eq_true rfl, Nat.le_of_ble_eq_true rfl⟩) rfl hl.1 rfl (Nat.le_of_ble_eq_true rfl) dX10_job_28 ⟨Nat.le_of_ble_eq_true rfl, Nat.le_of_ble_eq_true rfl⟩ (fun H locs hN => ?_)
      refine g_top (y := 0) (by decide) ?_
      refine lv_if_eq (tgt := 83) hx hb dX10_job_31 (by decide) (fun _ => ?_) (fun c7 => False.elim (by revert c7; decide))
      exact g_rv hx hb hr hlocks hN (mP_no (n := 2) (by simp [fJob, tV_33_5, c1, c2, Int32.not_le.mp c2]) (by decide)) dX10_job_83
  · refine lv_iconst (v := 1) hx hb dX10_job_12 (by decide) ?_
    refine lv_goto (tgt := 28) hx hb dX10_job_13 (by decide) ?_
    refine g_VI (As := [.int 1]) (rest := []) ⟨hx, hb, hml, hown, hts⟩ hG hN (i := 43) (by decide) rfl rfl (c_X10_can l 1) (cwV 1 hts gX10_job_X10_can rfl rfl rfl (by decide +kernel) ⟨Nat.le_of_ble_eq_true rfl, Nat.le_of_ble_eq_true rfl⟩) rfl hl.1 rfl (Nat.le_of_ble_eq_true rfl) dX10_job_28 ⟨Nat.le_of_ble_eq_true rfl, Nat.le_of_ble_eq_true rfl⟩ (fun H locs hN => ?_)
    refine g_top (y := 0) (by decide) ?_
    refine lv_if_eq (tgt := 83) hx hb dX10_job_31 (by decide) (fun _ => ?_) (fun c8 => False.elim (by revert c8; decide))
    exact g_rv hx hb hr hlocks hN (mP_no (n := 1) (by simp [fJob, tV_33_5, c1]) (by decide)) dX10_job_83
set_option maxHeartbeats 4000000 in
set_option maxRecDepth 100000 in
theorem c_X10_light (l : Launch) {D : va_G} {ad : Nat → Nat} {cs : Nat → ClassId} {zd : Nat → Nat} {F V : gF} {o : gO} {sz : Nat} (c : Nat) (hc : c < 64) : Met l yX10_light wsX10_light ({ frames := 0, cells := 0, slots := 0, locals := 0 } : Room) (gPc D ad cs zd F V o sz [.ref (ad 43), .int (nI c)]) (gQI D ad cs (cLight (tF F) c) F V o sz) 0 0 (gX ad sz) := by
  refine g_met (Qc := fun z0 => gQI D ad cs (cLight (tF F) c) F V o z0) (cc := cX10_light) (maxL := 2) (ret := (some .int)) (own := RX10) (by decide +kernel) rfl rfl (Nat.le_of_ble_eq_true rfl) ?_
  intro p0 e0 s0 m0 b0 k0 c0 hx hb hr hts hown hlocks hml hG hN ls hl
  have hl : lv_has ls 2 [(0, .ref (ad 43)), (1, .int (nI c))] := hl
  have hin_10 : ∀ w ∈ wsX100, w ∈ wsX10_light := by decide +kernel
  have hk_7 := hts (.fieldLink RX10 7 "GravureHouseModel" "red" "[I") (by decide +kernel)
  have hk_13 := hts (.fieldLink RX10 13 "GravureHouseModel" "green" "[I") (by decide +kernel)
  have hk_16 := hts (.fieldLink RX10 16 "GravureHouseModel" "blue" "[I") (by decide +kernel)
  refine lv_aload_n hx hb dX10_light_0 rfl (lv_at hl 0 rfl) ?_
  refine gf_43_0 hx hb hts hin_10 hown hG hN hk_7 dX10_light_1 ?_
  refine lv_iload_n hx hb dX10_light_4 rfl (lv_at hl 1 rfl) ?_
  refine g_iald hx hb hG hN (i := 44) (n := 64) (j := c) (by decide) rfl (by decide) (by omega) rfl dX10_light_5 ?_
  refine lv_aload_n hx hb dX10_light_6 rfl (lv_at hl 0 rfl) ?_
  refine gf_43_1 hx hb hts hin_10 hown hG hN hk_13 dX10_light_7 ?_
  refine lv_iload_n hx hb dX10_light_10 rfl (lv_at hl 1 rfl) ?_
  refine g_iald hx hb hG hN (i := 45) (n := 64) (j := c) (by decide) rfl (by decide) (by omega) rfl dX10_light_11 ?_
  refine lv_iadd hx hb dX10_light_12 ?_
  refine lv_aload_n hx hb dX10_light_13 rfl (lv_at hl 0 rfl) ?_
  refine gf_43_2 hx hb hts hin_10 hown hG hN hk_16 dX10_light_14 ?_
  refine lv_iload_n hx hb dX10_light_17 rfl (lv_at hl 1 rfl) ?_
  refine g_iald hx hb hG hN (i := 46) (n := 64) (j := c) (by decide) rfl (by decide) (by omega) rfl dX10_light_18 ?_
  refine lv_iadd hx hb dX10_light_19 ?_
  exact g_ri hx hb hr hlocks hN (⟨rfl, rfl⟩) dX10_light_20
set_option maxHeartbeats 4000000 in
set_option maxRecDepth 100000 in
theorem c_X10_blackOf (l : Launch) {D : va_G} {ad : Nat → Nat} {cs : Nat → ClassId} {zd : Nat → Nat} {F V : gF} {o : gO} {sz : Nat} (c : Nat) (hc : c < 64) : Met l yX10_blackOf wsX10_blackOf ({ frames := 1, cells := 0, slots := 0, locals := 21 } : Room) (gPc D ad cs zd F V o sz [.ref (ad 43), .int (nI c)]) (gQI D ad cs (cBlk (tF F) (tV F V) c) F V o sz) 0 0 (gX ad sz) := by
  refine g_met (Qc := fun z0 => gQI D ad cs (cBlk (tF F) (tV F V) c) F V o z0) (cc := cX10_blackOf) (maxL := 2) (ret := (some .int)) (own := RX10) (by decide +kernel) rfl rfl (Nat.le_of_ble_eq_true rfl) ?_
  intro p0 e0 s0 m0 b0 k0 c0 hx hb hr hts hown hlocks hml hG hN ls hl
  have hl : lv_has ls 2 [(0, .ref (ad 43)), (1, .int (nI c))] := hl
  have hin_10 : ∀ w ∈ wsX100, w ∈ wsX10_blackOf := by decide +kernel
  have hk_7 := hts (.fieldLink RX10 7 "GravureHouseModel" "red" "[I") (by decide +kernel)
  have hk_13 := hts (.fieldLink RX10 13 "GravureHouseModel" "green" "[I") (by decide +kernel)
  have hk_16 := hts (.fieldLink RX10 16 "GravureHouseModel" "blue" "[I") (by decide +kernel)
  have hk_19 := hts (.fieldLink RX10 19 "GravureHouseModel" "rule" "[I") (by decide +kernel)
  refine lv_bipush (v := 100) hx hb dX10_blackOf_0 (by decide) ?_
  refine lv_aload_n hx hb dX10_blackOf_2 rfl (lv_at hl 0 rfl) ?_
  refine gf_43_0 hx hb hts hin_10 hown hG hN hk_7 dX10_blackOf_3 ?_
  refine lv_iload_n hx hb dX10_blackOf_6 rfl (lv_at hl 1 rfl) ?_
  refine g_iald hx hb hG hN (i := 44) (n := 64) (j := c) (by decide) rfl (by decide) (by omega) rfl dX10_blackOf_7 ?_
  refine lv_isub hx hb dX10_blackOf_8 ?_
  refine lv_bipush (v := 100) hx hb dX10_blackOf_9 (by decide) ?_
  refine lv_aload_n hx hb dX10_blackOf_11 rfl (lv_at hl 0 rfl) ?_
  refine gf_43_1 hx hb hts hin_10 hown hG hN hk_13 dX10_blackOf_12 ?_
  refine lv_iload_n hx hb dX10_blackOf_15 rfl (lv_at hl 1 rfl) ?_
  refine g_iald hx hb hG hN (i := 45) (n := 64) (j := c) (by decide) rfl (by decide) (by omega) rfl dX10_blackOf_16 ?_
  refine lv_isub hx hb dX10_blackOf_17 ?_
  refine lv_bipush (v := 100) hx hb dX10_blackOf_18 (by decide) ?_
  refine lv_aload_n hx hb dX10_blackOf_20 rfl (lv_at hl 0 rfl) ?_
  refine gf_43_2 hx hb hts hin_10 hown hG hN hk_16 dX10_blackOf_21 ?_
  refine lv_iload_n hx hb dX10_blackOf_24 rfl (lv_at hl 1 rfl) ?_
  refine g_iald hx hb hG hN (i := 46) (n := 64) (j := c) (by decide) rfl (by decide) (by omega) rfl dX10_blackOf_25 ?_
  refine lv_isub hx hb dX10_blackOf_26 ?_
  refine g_SI (As := [.int (100 - (F 45 c)), .int (100 - (F 46 c))]) (rest := [.int (100 - (F 44 c))]) ⟨hx, hb, hml, hown, hts⟩ hG hN (c_X10_lesser l (100 - (F 45 c)) (100 - (F 46 c))) (va_cwS 2 hts gX10_blackOf_X10_lesser rfl rfl rfl (by decide +kernel) ⟨Nat.le_of_ble_eq_true rfl, Nat.le_of_ble_eq_true rfl⟩) rfl hl.1 rfl (Nat.le_of_ble_eq_true rfl) dX10_blackOf_27 ⟨Nat.le_of_ble_eq_true rfl, Nat.le_of_ble_eq_true rfl⟩ (fun H locs hN => ?_)
  refine g_SI (As := [.int (100 - (F 44 c)), .int (gmin (100 - (F 45 c)) (100 - (F 46 c)))]) (rest := []) ⟨hx, hb, hml, hown, hts⟩ hG hN (c_X10_lesser l (100 - (F 44 c)) (gmin (100 - (F 45 c)) (100 - (F 46 c)))) (va_cwS 2 hts gX10_blackOf_X10_lesser rfl rfl rfl (by decide +kernel) ⟨Nat.le_of_ble_eq_true rfl, Nat.le_of_ble_eq_true rfl⟩) rfl hl.1 rfl (Nat.le_of_ble_eq_true rfl) dX10_blackOf_30 ⟨Nat.le_of_ble_eq_true rfl, Nat.le_of_ble_eq_true rfl⟩ (fun H locs hN => ?_)
  refine lv_aload_n hx hb dX10_blackOf_33 rfl (lv_at hl 0 rfl) ?_
  refine gf_43_3 hx hb hts hin_10 hown hG hN hk_19 dX10_blackOf_34 ?_
  refine lv_iconst (v := 0) hx hb dX10_blackOf_37 (by decide) ?_
  refine g_iald hx hb hG hN (i := 47) (n := 9) (j := 0) (by decide) rfl (by decide) (by omega) rfl dX10_blackOf_38 ?_
  refine lv_imul hx hb dX10_blackOf_39 ?_
  refine lv_bipush (v := 100) hx hb dX10_blackOf_40 (by decide) ?_
  refine lv_idiv hx hb dX10_blackOf_42 (by decide) ?_
  exact g_ri hx hb hr hlocks hN (⟨rfl, rfl⟩) dX10_blackOf_43
set_option maxHeartbeats 4000000 in
set_option maxRecDepth 100000 in
theorem c_X10_plain (l : Launch) {D : va_G} {ad : Nat → Nat} {cs : Nat → ClassId} {zd : Nat → Nat} {F V : gF} {o : gO} {sz : Nat} (c k : Nat) (hnz : mNz F V) (hc : c < 64) (hk : k < 4) : Met l yX10_plain wsX10_plain ({ frames := 2, cells := 0, slots := 0, locals := 42 } : Room) (gPc D ad cs zd F V o sz [.ref (ad 43), .int (nI c), .int (nI k)]) (gQI D ad cs (cAhead (tF F) (tV F V) c k) F V o sz) 0 0 (gX ad sz) := by
  refine g_met (Qc := fun z0 => gQI D ad cs (cAhead (tF F) (tV F V) c k) F V o z0) (cc := cX10_plain) (maxL := 6) (ret := (some .int)) (own := RX10) (by decide +kernel) rfl rfl (Nat.le_of_ble_eq_true rfl) ?_
  intro p0 e0 s0 m0 b0 k0 c0 hx hb hr hts hown hlocks hml hG hN ls hl
  have hl : lv_has ls 6 [(0, .ref (ad 43)), (1, .int (nI c)), (2, .int (nI k))] := hl
  have hin_10 : ∀ w ∈ wsX100, w ∈ wsX10_plain := by decide +kernel
  have hk_19 := hts (.fieldLink RX10 19 "GravureHouseModel" "rule" "[I") (by decide +kernel)
  have hk_16 := hts (.fieldLink RX10 16 "GravureHouseModel" "blue" "[I") (by decide +kernel)
  have hk_13 := hts (.fieldLink RX10 13 "GravureHouseModel" "green" "[I") (by decide +kernel)
  have hk_7 := hts (.fieldLink RX10 7 "GravureHouseModel" "red" "[I") (by decide +kernel)
  refine lv_aload_n hx hb dX10_plain_0 rfl (lv_at hl 0 rfl) ?_
  refine lv_iload_n hx hb dX10_plain_1 rfl (lv_at hl 1 rfl) ?_
  refine g_VI (As := [.int (nI c)]) (rest := []) ⟨hx, hb, hml, hown, hts⟩ hG hN (i := 43) (by decide) rfl rfl (c_X10_blackOf l c (by omega)) (cwV 1 hts gX10_plain_X10_blackOf rfl rfl rfl (by decide +kernel) ⟨Nat.le_of_ble_eq_true rfl, Nat.le_of_ble_eq_true rfl⟩) rfl hl.1 rfl (Nat.le_of_ble_eq_true rfl) dX10_plain_2 ⟨Nat.le_of_ble_eq_true rfl, Nat.le_of_ble_eq_true rfl⟩ (fun H locs hN => ?_)
  refine lv_istore_n (lv' := [(3, .int (cBlk (tF F) (tV F V) c)), (0, .ref (ad 43)), (1, .int (nI c)), (2, .int (nI k))]) hx hb dX10_plain_5 rfl hl (by decide) rfl (fun ls hl => ?_)
  refine lv_sipush (v := 300) hx hb dX10_plain_6 (by decide) ?_
  refine lv_aload_n hx hb dX10_plain_9 rfl (lv_at hl 1 rfl) ?_
  refine lv_iload_n hx hb dX10_plain_10 rfl (lv_at hl 2 rfl) ?_
  refine g_VI (As := [.int (nI c)]) (rest := [.int 300]) ⟨hx, hb, hml, hown, hts⟩ hG hN (i := 43) (by decide) rfl rfl (c_X10_light l c (by omega)) (cwV 1 hts gX10_plain_X10_light rfl rfl rfl (by decide +kernel) ⟨Nat.le_of_ble_eq_true rfl, Nat.le_of_ble_eq_true rfl⟩) rfl hl.1 rfl (Nat.le_of_ble_eq_true rfl) dX10_plain_11 ⟨Nat.le_of_ble_eq_true rfl, Nat.le_of_ble_eq_true rfl⟩ (fun H locs hN => ?_)
  refine lv_isub hx hb dX10_plain_14 ?_
  refine lv_iconst (v := 3) hx hb dX10_plain_15 (by decide) ?_
  refine lv_iload_n hx hb dX10_plain_16 rfl (lv_at hl 0 rfl) ?_
  refine lv_imul hx hb dX10_plain_17 ?_
  refine lv_isub hx hb dX10_plain_18 ?_
  refine g_top (y := cThr (tF F) (tV F V) c) (mThr) ?_
  refine lv_istore (lv' := [(4, .int (cThr (tF F) (tV F V) c)), (3, .int (cBlk (tF F) (tV F V) c)), (0, .ref (ad 43)), (1, .int (nI c)), (2, .int (nI k))]) hx hb dX10_plain_19 hl (by decide) rfl (fun ls hl => ?_)
  have J1 : ∀ (x5 : Int32) (H : Heap) (locs : List Loc) (ls : Array Slot), (k ≠ 3 → x5 = cOwn (tF F) (tV F V) c k) → gN D ad cs s0 F V o H locs → lv_has ls 6 [(0, .ref (ad 43)), (1, .int (nI c)), (2, .int (nI k)), (3, .int (cBlk (tF F) (tV F V) c)), (4, .int (cThr (tF F) (tV F V) c))] → W p0 l e0 ({ frames := 2, cells := 0, slots := 0, locals := 42 } : Room) s0 m0 ([.ref (ad 43), .int (nI c), .int (nI k)] : List Value).toArray b0 k0 c0 H locs 0 0 (MQ b0 (gQI D ad cs (cAhead (tF F) (tV F V) c k) F V o s0.heap.size) ([.ref (ad 43), .int (nI c), .int (nI k)] : List Value).toArray s0 0 0 (gX ad s0.heap.size)) (F0 m0 69 ls [.int x5]) := by
    intro x5 H locs ls e5 hN hl
    refine lv_istore (lv' := [(5, .int x5), (0, .ref (ad 43)), (1, .int (nI c)), (2, .int (nI k)), (3, .int (cBlk (tF F) (tV F V) c)), (4, .int (cThr (tF F) (tV F V) c))]) hx hb dX10_plain_69 hl (by decide) rfl (fun ls hl => ?_)
    refine lv_iload_n hx hb dX10_plain_71 rfl (lv_at hl 3 rfl) ?_
    refine lv_iconst (v := 3) hx hb dX10_plain_72 (by decide) ?_
    refine g_cN_ne (a := k) (b := 3) (tgt := 78) hx hb dX10_plain_73 (by decide) rfl rfl (by omega) (by omega) (fun c2 => ?_) (fun c2 => ?_)
    · refine lv_iload hx hb dX10_plain_78 (lv_at hl 5 rfl) ?_
      refine lv_iload_n hx hb dX10_plain_80 rfl (lv_at hl 4 rfl) ?_
      refine lv_iadd hx hb dX10_plain_81 ?_
      refine lv_aload_n hx hb dX10_plain_82 rfl (lv_at hl 1 rfl) ?_
      refine gf_43_3 hx hb hts hin_10 hown hG hN hk_19 dX10_plain_83 ?_
      refine lv_iconst (v := 1) hx hb dX10_plain_86 (by decide) ?_
      refine g_iald hx hb hG hN (i := 47) (n := 9) (j := 1) (by decide) rfl (by decide) (by omega) rfl dX10_plain_87 ?_
      refine g_top (y := tV F V 1 1) (rfl) ?_
      refine lv_icmp_le (tgt := 108) hx hb dX10_plain_88 (by decide) (fun c3 => ?_) (fun c3 => ?_)
      · refine lv_iload hx hb dX10_plain_108 (lv_at hl 0 rfl) ?_
        exact g_ri hx hb hr hlocks hN (⟨by simp [cAhead, e5, c2, c3, Int32.not_lt.mpr c3], rfl⟩) dX10_plain_110
      · have hp9 := hnz c hc c3
        refine lv_iload hx hb dX10_plain_91 (lv_at hl 0 rfl) ?_
        refine lv_aload_n hx hb dX10_plain_93 rfl (lv_at hl 1 rfl) ?_
        refine gf_43_3 hx hb hts hin_10 hown hG hN hk_19 dX10_plain_94 ?_
        refine lv_iconst (v := 1) hx hb dX10_plain_97 (by decide) ?_
        refine g_iald hx hb hG hN (i := 47) (n := 9) (j := 1) (by decide) rfl (by decide) (by omega) rfl dX10_plain_98 ?_
        refine g_top (y := tV F V 1 1) (rfl) ?_
        refine lv_iload_n hx hb dX10_plain_99 rfl (lv_at hl 4 rfl) ?_
        refine lv_isub hx hb dX10_plain_100 ?_
        refine lv_imul hx hb dX10_plain_101 ?_
        refine lv_iload hx hb dX10_plain_102 (lv_at hl 5 rfl) ?_
        refine lv_idiv hx hb dX10_plain_104 (g_pos0 (by assumption)) ?_
        refine lv_goto (tgt := 110) hx hb dX10_plain_105 (by decide) ?_
        exact g_ri hx hb hr hlocks hN (⟨by simp [cAhead, e5, c2, c3, Int32.not_le.mp c3, hp9], rfl⟩) dX10_plain_110
    · refine lv_iload_n hx hb dX10_plain_76 rfl (lv_at hl 4 rfl) ?_
      exact g_ri hx hb hr hlocks hN (⟨by simp [cAhead, e5, c2], rfl⟩) dX10_plain_77
  refine lv_iload_n hx hb dX10_plain_21 rfl (lv_at hl 4 rfl) ?_
  refine g_ifN_ne (a := k) (tgt := 39) hx hb dX10_plain_22 (by decide) rfl (by omega) (fun c4 => ?_) (fun c4 => ?_)
  · refine lv_iload_n hx hb dX10_plain_39 rfl (lv_at hl 4 rfl) ?_
    refine lv_iconst (v := 1) hx hb dX10_plain_40 (by decide) ?_
    refine g_cN_ne (a := k) (b := 1) (tgt := 58) hx hb dX10_plain_41 (by decide) rfl rfl (by omega) (by omega) (fun c5 => ?_) (fun c5 => ?_)
    · refine lv_bipush (v := 100) hx hb dX10_plain_58 (by decide) ?_
      refine lv_aload_n hx hb dX10_plain_60 rfl (lv_at hl 2 rfl) ?_
      refine gf_43_2 hx hb hts hin_10 hown hG hN hk_16 dX10_plain_61 ?_
      refine lv_iload_n hx hb dX10_plain_64 rfl (lv_at hl 3 rfl) ?_
      refine g_iald hx hb hG hN (i := 46) (n := 64) (j := c) (by decide) rfl (by decide) (by omega) rfl dX10_plain_65 ?_
      refine lv_isub hx hb dX10_plain_66 ?_
      refine lv_iload_n hx hb dX10_plain_67 rfl (lv_at hl 1 rfl) ?_
      refine lv_isub hx hb dX10_plain_68 ?_
      exact J1 ((100 - (F 46 c)) - (cBlk (tF F) (tV F V) c)) _ _ ls (fun h9 => by first | (subst k; rfl) | ((obtain rfl : k = 2 := (by omega)); rfl)) hN (lv_sub hl [2, 3, 4, 1, 0] rfl)
    · refine lv_bipush (v := 100) hx hb dX10_plain_44 (by decide) ?_
      refine lv_aload_n hx hb dX10_plain_46 rfl (lv_at hl 2 rfl) ?_
      refine gf_43_1 hx hb hts hin_10 hown hG hN hk_13 dX10_plain_47 ?_
      refine lv_iload_n hx hb dX10_plain_50 rfl (lv_at hl 3 rfl) ?_
      refine g_iald hx hb hG hN (i := 45) (n := 64) (j := c) (by decide) rfl (by decide) (by omega) rfl dX10_plain_51 ?_
      refine lv_isub hx hb dX10_plain_52 ?_
      refine lv_iload_n hx hb dX10_plain_53 rfl (lv_at hl 1 rfl) ?_
      refine lv_isub hx hb dX10_plain_54 ?_
      refine lv_goto (tgt := 69) hx hb dX10_plain_55 (by decide) ?_
      exact J1 ((100 - (F 45 c)) - (cBlk (tF F) (tV F V) c)) _ _ ls (fun h9 => by first | (subst k; rfl) | ((obtain rfl : k = 2 := (by omega)); rfl)) hN (lv_sub hl [2, 3, 4, 1, 0] rfl)
  · refine lv_bipush (v := 100) hx hb dX10_plain_25 (by decide) ?_
    refine lv_aload_n hx hb dX10_plain_27 rfl (lv_at hl 2 rfl) ?_
    refine gf_43_0 hx hb hts hin_10 hown hG hN hk_7 dX10_plain_28 ?_
    refine lv_iload_n hx hb dX10_plain_31 rfl (lv_at hl 3 rfl) ?_
    refine g_iald hx hb hG hN (i := 44) (n := 64) (j := c) (by decide) rfl (by decide) (by omega) rfl dX10_plain_32 ?_
    refine lv_isub hx hb dX10_plain_33 ?_
    refine lv_iload_n hx hb dX10_plain_34 rfl (lv_at hl 1 rfl) ?_
    refine lv_isub hx hb dX10_plain_35 ?_
    refine lv_goto (tgt := 69) hx hb dX10_plain_36 (by decide) ?_
    exact J1 ((100 - (F 44 c)) - (cBlk (tF F) (tV F V) c)) _ _ ls (fun h9 => by first | (subst k; rfl) | ((obtain rfl : k = 2 := (by omega)); rfl)) hN (lv_sub hl [2, 3, 4, 1, 0] rfl)
set_option maxHeartbeats 4000000 in
set_option maxRecDepth 100000 in
theorem c_X10_greater (l : Launch) {D : va_G} {ad : Nat → Nat} {cs : Nat → ClassId} {zd : Nat → Nat} {F V : gF} {o : gO} {sz : Nat} (c q k : Nat) (x : Int32) (hnz : mNz F V) (hc : c < 64) (hq : q < 64) (hk : k < 4) : Met l yX10_greater wsX10_greater ({ frames := 3, cells := 0, slots := 0, locals := 67 } : Room) (gPc D ad cs zd F V o sz [.ref (ad 43), .int (nI c), .int (nI q), .int (nI k), .int x]) (gQI D ad cs (gmax x (cSide (tF F) (tV F V) c q k)) F V o sz) 0 0 (gX ad sz) := by
  refine g_met (Qc := fun z0 => gQI D ad cs (gmax x (cSide (tF F) (tV F V) c q k)) F V o z0) (cc := cX10_greater) (maxL := 6) (ret := (some .int)) (own := RX10) (by decide +kernel) rfl rfl (Nat.le_of_ble_eq_true rfl) ?_
  intro p0 e0 s0 m0 b0 k0 c0 hx hb hr hts hown hlocks hml hG hN ls hl
  have hl : lv_has ls 6 [(0, .ref (ad 43)), (1, .int (nI c)), (2, .int (nI q)), (3, .int (nI k)), (4, .int x)] := hl
  refine lv_aload_n hx hb dX10_greater_0 rfl (lv_at hl 0 rfl) ?_
  refine lv_iload_n hx hb dX10_greater_1 rfl (lv_at hl 2 rfl) ?_
  refine g_VI (As := [.int (nI q)]) (rest := []) ⟨hx, hb, hml, hown, hts⟩ hG hN (i := 43) (by decide) rfl rfl (c_X10_light l q (by omega)) (cwV 1 hts gX10_greater_X10_light rfl rfl rfl (by decide +kernel) ⟨Nat.le_of_ble_eq_true rfl, Nat.le_of_ble_eq_true rfl⟩) rfl hl.1 rfl (Nat.le_of_ble_eq_true rfl) dX10_greater_2 ⟨Nat.le_of_ble_eq_true rfl, Nat.le_of_ble_eq_true rfl⟩ (fun H locs hN => ?_)
  refine lv_aload_n hx hb dX10_greater_5 rfl (lv_at hl 0 rfl) ?_
  refine lv_iload_n hx hb dX10_greater_6 rfl (lv_at hl 1 rfl) ?_
  refine g_VI (As := [.int (nI c)]) (rest := [.int (cLight (tF F) q)]) ⟨hx, hb, hml, hown, hts⟩ hG hN (i := 43) (by decide) rfl rfl (c_X10_light l c (by omega)) (cwV 1 hts gX10_greater_X10_light rfl rfl rfl (by decide +kernel) ⟨Nat.le_of_ble_eq_true rfl, Nat.le_of_ble_eq_true rfl⟩) rfl hl.1 rfl (Nat.le_of_ble_eq_true rfl) dX10_greater_7 ⟨Nat.le_of_ble_eq_true rfl, Nat.le_of_ble_eq_true rfl⟩ (fun H locs hN => ?_)
  have J1 : ∀ (x5 : Int32) (H : Heap) (locs : List Loc) (ls : Array Slot), (x5 = cSide (tF F) (tV F V) c q k) → gN D ad cs s0 F V o H locs → lv_has ls 6 [(0, .ref (ad 43)), (1, .int (nI c)), (2, .int (nI q)), (3, .int (nI k)), (4, .int x), (5, .int x5)] → W p0 l e0 ({ frames := 3, cells := 0, slots := 0, locals := 67 } : Room) s0 m0 ([.ref (ad 43), .int (nI c), .int (nI q), .int (nI k), .int x] : List Value).toArray b0 k0 c0 H locs 0 0 (MQ b0 (gQI D ad cs (gmax x (cSide (tF F) (tV F V) c q k)) F V o s0.heap.size) ([.ref (ad 43), .int (nI c), .int (nI q), .int (nI k), .int x] : List Value).toArray s0 0 0 (gX ad s0.heap.size)) (F0 m0 25 ls []) := by
    intro x5 H locs ls e5 hN hl
    refine lv_iload hx hb dX10_greater_25 (lv_at hl 5 rfl) ?_
    refine lv_iload hx hb dX10_greater_27 (lv_at hl 4 rfl) ?_
    refine lv_icmp_le (tgt := 37) hx hb dX10_greater_29 (by decide) (fun c2 => ?_) (fun c2 => ?_)
    · refine lv_iload hx hb dX10_greater_37 (lv_at hl 4 rfl) ?_
      exact g_ri hx hb hr hlocks hN (⟨by rw [← e5]; simp [gmax, c2, Int32.not_lt.mpr c2], rfl⟩) dX10_greater_39
    · refine lv_iload hx hb dX10_greater_32 (lv_at hl 5 rfl) ?_
      refine lv_goto (tgt := 39) hx hb dX10_greater_34 (by decide) ?_
      exact g_ri hx hb hr hlocks hN (⟨by rw [← e5]; simp [gmax, c2, Int32.not_le.mp c2], rfl⟩) dX10_greater_39
  refine lv_icmp_le (tgt := 22) hx hb dX10_greater_10 (by decide) (fun c3 => ?_) (fun c3 => ?_)
  · refine lv_iconst (v := 0) hx hb dX10_greater_22 (by decide) ?_
    refine lv_istore (lv' := [(5, .int 0), (0, .ref (ad 43)), (1, .int (nI c)), (2, .int (nI q)), (3, .int (nI k)), (4, .int x)]) hx hb dX10_greater_23 hl (by decide) rfl (fun ls hl => ?_)
    exact J1 0 _ _ ls (by simp [cSide, c3, Int32.not_lt.mpr c3]) hN (lv_sub hl [1, 2, 3, 4, 5, 0] rfl)
  · refine lv_aload_n hx hb dX10_greater_13 rfl (lv_at hl 0 rfl) ?_
    refine lv_iload_n hx hb dX10_greater_14 rfl (lv_at hl 2 rfl) ?_
    refine lv_iload_n hx hb dX10_greater_15 rfl (lv_at hl 3 rfl) ?_
    refine g_VI (As := [.int (nI q), .int (nI k)]) (rest := []) ⟨hx, hb, hml, hown, hts⟩ hG hN (i := 43) (by decide) rfl rfl (c_X10_plain l q k hnz (by omega) (by omega)) (cwV 2 hts gX10_greater_X10_plain rfl rfl rfl (by decide +kernel) ⟨Nat.le_of_ble_eq_true rfl, Nat.le_of_ble_eq_true rfl⟩) rfl hl.1 rfl (Nat.le_of_ble_eq_true rfl) dX10_greater_16 ⟨Nat.le_of_ble_eq_true rfl, Nat.le_of_ble_eq_true rfl⟩ (fun H locs hN => ?_)
    refine lv_goto (tgt := 23) hx hb dX10_greater_19 (by decide) ?_
    refine lv_istore (lv' := [(5, .int (cAhead (tF F) (tV F V) q k)), (0, .ref (ad 43)), (1, .int (nI c)), (2, .int (nI q)), (3, .int (nI k)), (4, .int x)]) hx hb dX10_greater_23 hl (by decide) rfl (fun ls hl => ?_)
    exact J1 (cAhead (tF F) (tV F V) q k) _ _ ls (by simp [cSide, c3, Int32.not_le.mp c3]) hN (lv_sub hl [1, 2, 3, 4, 5, 0] rfl)
set_option maxHeartbeats 4000000 in
set_option maxRecDepth 100000 in
theorem c_X10_wanted (l : Launch) {D : va_G} {ad : Nat → Nat} {cs : Nat → ClassId} {zd : Nat → Nat} {F V : gF} {o : gO} {sz : Nat} (c k : Nat) (hnz : mNz F V) (hc : c < 64) (hk : k < 4) : Met l yX10_wanted wsX10_wanted ({ frames := 4, cells := 0, slots := 0, locals := 92 } : Room) (gPc D ad cs zd F V o sz [.ref (ad 43), .int (nI c), .int (nI k)]) (gQI D ad cs (cWant (tF F) (tV F V) c k) F V o sz) 0 0 (gX ad sz) := by
  refine g_met (Qc := fun z0 => gQI D ad cs (cWant (tF F) (tV F V) c k) F V o z0) (cc := cX10_wanted) (maxL := 4) (ret := (some .int)) (own := RX10) (by decide +kernel) rfl rfl (Nat.le_of_ble_eq_true rfl) ?_
  intro p0 e0 s0 m0 b0 k0 c0 hx hb hr hts hown hlocks hml hG hN ls hl
  have hl : lv_has ls 4 [(0, .ref (ad 43)), (1, .int (nI c)), (2, .int (nI k))] := hl
  have hin_10 : ∀ w ∈ wsX100, w ∈ wsX10_wanted := by decide +kernel
  have hk_19 := hts (.fieldLink RX10 19 "GravureHouseModel" "rule" "[I") (by decide +kernel)
  refine lv_aload_n hx hb dX10_wanted_0 rfl (lv_at hl 0 rfl) ?_
  refine lv_iload_n hx hb dX10_wanted_1 rfl (lv_at hl 1 rfl) ?_
  refine lv_iload_n hx hb dX10_wanted_2 rfl (lv_at hl 2 rfl) ?_
  refine g_VI (As := [.int (nI c), .int (nI k)]) (rest := []) ⟨hx, hb, hml, hown, hts⟩ hG hN (i := 43) (by decide) rfl rfl (c_X10_plain l c k hnz (by omega) (by omega)) (cwV 2 hts gX10_wanted_X10_plain rfl rfl rfl (by decide +kernel) ⟨Nat.le_of_ble_eq_true rfl, Nat.le_of_ble_eq_true rfl⟩) rfl hl.1 rfl (Nat.le_of_ble_eq_true rfl) dX10_wanted_3 ⟨Nat.le_of_ble_eq_true rfl, Nat.le_of_ble_eq_true rfl⟩ (fun H locs hN => ?_)
  refine lv_istore_n (lv' := [(3, .int (cAhead (tF F) (tV F V) c k)), (0, .ref (ad 43)), (1, .int (nI c)), (2, .int (nI k))]) hx hb dX10_wanted_6 rfl hl (by decide) rfl (fun ls hl => ?_)
  refine lv_aload_n hx hb dX10_wanted_7 rfl (lv_at hl 1 rfl) ?_
  refine gf_43_3 hx hb hts hin_10 hown hG hN hk_19 dX10_wanted_8 ?_
  refine lv_iconst (v := 2) hx hb dX10_wanted_11 (by decide) ?_
  refine g_iald hx hb hG hN (i := 47) (n := 9) (j := 2) (by decide) rfl (by decide) (by omega) rfl dX10_wanted_12 ?_
  refine g_top (y := tV F V 1 2) (rfl) ?_
  refine lv_if_eq (tgt := 21) hx hb dX10_wanted_13 (by decide) (fun c1 => ?_) (fun c1 => ?_)
  · refine lv_iload_n hx hb dX10_wanted_21 rfl (lv_at hl 0 rfl) ?_
    exact g_ri hx hb hr hlocks hN (⟨by simp [cWant, c1], rfl⟩) dX10_wanted_22
  · refine lv_iload_n hx hb dX10_wanted_16 rfl (lv_at hl 3 rfl) ?_
    refine lv_iconst (v := 3) hx hb dX10_wanted_17 (by decide) ?_
    refine g_cN_ne (a := k) (b := 3) (tgt := 23) hx hb dX10_wanted_18 (by decide) rfl rfl (by omega) (by omega) (fun c2 => ?_) (fun c2 => ?_)
    · have J3 : ∀ (x45 : Int32) (H : Heap) (locs : List Loc) (ls : Array Slot), (x45 = mW1 (tF F) (tV F V) c k) → gN D ad cs s0 F V o H locs → lv_has ls 4 [(0, .ref (ad 43)), (1, .int (nI c)), (2, .int (nI k)), (3, .int x45)] → W p0 l e0 ({ frames := 4, cells := 0, slots := 0, locals := 92 } : Room) s0 m0 ([.ref (ad 43), .int (nI c), .int (nI k)] : List Value).toArray b0 k0 c0 H locs 0 0 (MQ b0 (gQI D ad cs (cWant (tF F) (tV F V) c k) F V o s0.heap.size) ([.ref (ad 43), .int (nI c), .int (nI k)] : List Value).toArray s0 0 0 (gX ad s0.heap.size)) (F0 m0 45 ls []) := by
        intro x45 H locs ls e45 hN hl
        have J4 : ∀ (x69 : Int32) (H : Heap) (locs : List Loc) (ls : Array Slot), (x69 = mW2 (tF F) (tV F V) c k) → gN D ad cs s0 F V o H locs → lv_has ls 4 [(0, .ref (ad 43)), (1, .int (nI c)), (2, .int (nI k)), (3, .int x69)] → W p0 l e0 ({ frames := 4, cells := 0, slots := 0, locals := 92 } : Room) s0 m0 ([.ref (ad 43), .int (nI c), .int (nI k)] : List Value).toArray b0 k0 c0 H locs 0 0 (MQ b0 (gQI D ad cs (cWant (tF F) (tV F V) c k) F V o s0.heap.size) ([.ref (ad 43), .int (nI c), .int (nI k)] : List Value).toArray s0 0 0 (gX ad s0.heap.size)) (F0 m0 69 ls []) := by
          intro x69 H locs ls e69 hN hl
          have J5 : ∀ (x91 : Int32) (H : Heap) (locs : List Loc) (ls : Array Slot), (x91 = mW3 (tF F) (tV F V) c k) → gN D ad cs s0 F V o H locs → lv_has ls 4 [(0, .ref (ad 43)), (1, .int (nI c)), (2, .int (nI k)), (3, .int x91)] → W p0 l e0 ({ frames := 4, cells := 0, slots := 0, locals := 92 } : Room) s0 m0 ([.ref (ad 43), .int (nI c), .int (nI k)] : List Value).toArray b0 k0 c0 H locs 0 0 (MQ b0 (gQI D ad cs (cWant (tF F) (tV F V) c k) F V o s0.heap.size) ([.ref (ad 43), .int (nI c), .int (nI k)] : List Value).toArray s0 0 0 (gX ad s0.heap.size)) (F0 m0 91 ls []) := by
            intro x91 H locs ls e91 hN hl
            refine lv_iload_n hx hb dX10_wanted_91 rfl (lv_at hl 1 rfl) ?_
            refine lv_bipush (v := 56) hx hb dX10_wanted_92 (by decide) ?_
            refine g_cN_ge (a := c) (b := 56) (tgt := 111) hx hb dX10_wanted_94 (by decide) rfl rfl (by omega) (by omega) (fun c6 => ?_) (fun c6 => ?_)
            · refine lv_iload_n hx hb dX10_wanted_111 rfl (lv_at hl 3 rfl) ?_
              exact g_ri hx hb hr hlocks hN (⟨by rw [cWant, if_neg c2, if_neg c1, ← mW4_eq]; simp [mW4, e91, c6, Nat.not_lt.mpr c6], rfl⟩) dX10_wanted_112
            · refine lv_aload_n hx hb dX10_wanted_97 rfl (lv_at hl 0 rfl) ?_
              refine lv_iload_n hx hb dX10_wanted_98 rfl (lv_at hl 1 rfl) ?_
              refine lv_iload_n hx hb dX10_wanted_99 rfl (lv_at hl 1 rfl) ?_
              refine lv_bipush (v := 8) hx hb dX10_wanted_100 (by decide) ?_
              refine g_addN (a := c) (b := 8) hx hb rfl rfl dX10_wanted_102 ?_
              refine lv_iload_n hx hb dX10_wanted_103 rfl (lv_at hl 2 rfl) ?_
              refine lv_iload_n hx hb dX10_wanted_104 rfl (lv_at hl 3 rfl) ?_
              refine g_VI (As := [.int (nI c), .int (nI (c + 8)), .int (nI k), .int x91]) (rest := []) ⟨hx, hb, hml, hown, hts⟩ hG hN (i := 43) (by decide) rfl rfl (c_X10_greater l c (c + 8) k x91 hnz (by omega) (by omega) (by omega)) (cwV 4 hts gX10_wanted_X10_greater rfl rfl rfl (by decide +kernel) ⟨Nat.le_of_ble_eq_true rfl, Nat.le_of_ble_eq_true rfl⟩) rfl hl.1 rfl (Nat.le_of_ble_eq_true rfl) dX10_wanted_105 ⟨Nat.le_of_ble_eq_true rfl, Nat.le_of_ble_eq_true rfl⟩ (fun H locs hN => ?_)
              refine lv_goto (tgt := 112) hx hb dX10_wanted_108 (by decide) ?_
              exact g_ri hx hb hr hlocks hN (⟨by rw [cWant, if_neg c2, if_neg c1, ← mW4_eq]; simp [mW4, e91, c6, Nat.not_le.mpr c6], rfl⟩) dX10_wanted_112
          refine lv_iload_n hx hb dX10_wanted_69 rfl (lv_at hl 1 rfl) ?_
          refine lv_bipush (v := 8) hx hb dX10_wanted_70 (by decide) ?_
          refine g_cN_lt (a := c) (b := 8) (tgt := 89) hx hb dX10_wanted_72 (by decide) rfl rfl (by omega) (by omega) (fun c7 => ?_) (fun c7 => ?_)
          · refine lv_iload_n hx hb dX10_wanted_89 rfl (lv_at hl 3 rfl) ?_
            refine lv_istore_n (lv' := [(3, .int x69), (0, .ref (ad 43)), (1, .int (nI c)), (2, .int (nI k))]) hx hb dX10_wanted_90 rfl hl (by decide) rfl (fun ls hl => ?_)
            exact J5 x69 _ _ ls (by simp [mW3, c1, c2, e45, e69, c7, Nat.not_le.mpr c7]) hN (lv_sub hl [1, 2, 3, 0] rfl)
          · refine lv_aload_n hx hb dX10_wanted_75 rfl (lv_at hl 0 rfl) ?_
            refine lv_iload_n hx hb dX10_wanted_76 rfl (lv_at hl 1 rfl) ?_
            refine lv_iload_n hx hb dX10_wanted_77 rfl (lv_at hl 1 rfl) ?_
            refine lv_bipush (v := 8) hx hb dX10_wanted_78 (by decide) ?_
            refine g_subN (a := c) (b := 8) hx hb rfl rfl (by omega) dX10_wanted_80 ?_
            refine lv_iload_n hx hb dX10_wanted_81 rfl (lv_at hl 2 rfl) ?_
            refine lv_iload_n hx hb dX10_wanted_82 rfl (lv_at hl 3 rfl) ?_
            refine g_VI (As := [.int (nI c), .int (nI (c - 8)), .int (nI k), .int x69]) (rest := []) ⟨hx, hb, hml, hown, hts⟩ hG hN (i := 43) (by decide) rfl rfl (c_X10_greater l c (c - 8) k x69 hnz (by omega) (by omega) (by omega)) (cwV 4 hts gX10_wanted_X10_greater rfl rfl rfl (by decide +kernel) ⟨Nat.le_of_ble_eq_true rfl, Nat.le_of_ble_eq_true rfl⟩) rfl hl.1 rfl (Nat.le_of_ble_eq_true rfl) dX10_wanted_83 ⟨Nat.le_of_ble_eq_true rfl, Nat.le_of_ble_eq_true rfl⟩ (fun H locs hN => ?_)
            refine lv_goto (tgt := 90) hx hb dX10_wanted_86 (by decide) ?_
            refine lv_istore_n (lv' := [(3, .int (gmax x69 (cSide (tF F) (tV F V) c (c - 8) k))), (0, .ref (ad 43)), (1, .int (nI c)), (2, .int (nI k))]) hx hb dX10_wanted_90 rfl hl (by decide) rfl (fun ls hl => ?_)
            exact J5 (gmax x69 (cSide (tF F) (tV F V) c (c - 8) k)) _ _ ls (by simp [mW3, c1, c2, e45, e69, c7, Nat.not_lt.mpr c7]) hN (lv_sub hl [1, 2, 3, 0] rfl)
        refine lv_iload_n hx hb dX10_wanted_45 rfl (lv_at hl 1 rfl) ?_
        refine lv_bipush (v := 8) hx hb dX10_wanted_46 (by decide) ?_
        refine g_remN (a := c) (b := 8) hx hb rfl rfl (by omega) (by omega) (by omega) dX10_wanted_48 ?_
        refine lv_bipush (v := 7) hx hb dX10_wanted_49 (by decide) ?_
        refine g_cN_ge (a := c % 8) (b := 7) (tgt := 67) hx hb dX10_wanted_51 (by decide) rfl rfl (by omega) (by omega) (fun c8 => ?_) (fun c8 => ?_)
        · refine lv_iload_n hx hb dX10_wanted_67 rfl (lv_at hl 3 rfl) ?_
          refine lv_istore_n (lv' := [(3, .int x45), (0, .ref (ad 43)), (1, .int (nI c)), (2, .int (nI k))]) hx hb dX10_wanted_68 rfl hl (by decide) rfl (fun ls hl => ?_)
          exact J4 x45 _ _ ls (by simp [mW2, c1, c2, e45, c8, Nat.not_lt.mpr c8]) hN (lv_sub hl [1, 2, 3, 0] rfl)
        · refine lv_aload_n hx hb dX10_wanted_54 rfl (lv_at hl 0 rfl) ?_
          refine lv_iload_n hx hb dX10_wanted_55 rfl (lv_at hl 1 rfl) ?_
          refine lv_iload_n hx hb dX10_wanted_56 rfl (lv_at hl 1 rfl) ?_
          refine lv_iconst (v := 1) hx hb dX10_wanted_57 (by decide) ?_
          refine g_addN (a := c) (b := 1) hx hb rfl rfl dX10_wanted_58 ?_
          refine lv_iload_n hx hb dX10_wanted_59 rfl (lv_at hl 2 rfl) ?_
          refine lv_iload_n hx hb dX10_wanted_60 rfl (lv_at hl 3 rfl) ?_
          refine g_VI (As := [.int (nI c), .int (nI (c + 1)), .int (nI k), .int x45]) (rest := []) ⟨hx, hb, hml, hown, hts⟩ hG hN (i := 43) (by decide) rfl rfl (c_X10_greater l c (c + 1) k x45 hnz (by omega) (by omega) (by omega)) (cwV 4 hts gX10_wanted_X10_greater rfl rfl rfl (by decide +kernel) ⟨Nat.le_of_ble_eq_true rfl, Nat.le_of_ble_eq_true rfl⟩) rfl hl.1 rfl (Nat.le_of_ble_eq_true rfl) dX10_wanted_61 ⟨Nat.le_of_ble_eq_true rfl, Nat.le_of_ble_eq_true rfl⟩ (fun H locs hN => ?_)
          refine lv_goto (tgt := 68) hx hb dX10_wanted_64 (by decide) ?_
          refine lv_istore_n (lv' := [(3, .int (gmax x45 (cSide (tF F) (tV F V) c (c + 1) k))), (0, .ref (ad 43)), (1, .int (nI c)), (2, .int (nI k))]) hx hb dX10_wanted_68 rfl hl (by decide) rfl (fun ls hl => ?_)
          exact J4 (gmax x45 (cSide (tF F) (tV F V) c (c + 1) k)) _ _ ls (by simp [mW2, c1, c2, e45, c8, Nat.not_le.mpr c8]) hN (lv_sub hl [1, 2, 3, 0] rfl)
      refine lv_iload_n hx hb dX10_wanted_23 rfl (lv_at hl 2 rfl) ?_
      refine lv_bipush (v := 8) hx hb dX10_wanted_24 (by decide) ?_
      refine g_remN (a := c) (b := 8) hx hb rfl rfl (by omega) (by omega) (by omega) dX10_wanted_26 ?_
      refine g_ifN_le (a := c % 8) (tgt := 43) hx hb dX10_wanted_27 (by decide) rfl (by omega) (fun c9 => ?_) (fun c9 => ?_)
      · refine lv_iload_n hx hb dX10_wanted_43 rfl (lv_at hl 0 rfl) ?_
        refine lv_istore_n (lv' := [(3, .int (cAhead (tF F) (tV F V) c k)), (0, .ref (ad 43)), (1, .int (nI c)), (2, .int (nI k))]) hx hb dX10_wanted_44 rfl hl (by decide) rfl (fun ls hl => ?_)
        exact J3 (cAhead (tF F) (tV F V) c k) _ _ ls (by simp [mW1, c1, c2, c9]) hN (lv_sub hl [1, 2, 3, 0] rfl)
      · refine lv_aload_n hx hb dX10_wanted_30 rfl (lv_at hl 1 rfl) ?_
        refine lv_iload_n hx hb dX10_wanted_31 rfl (lv_at hl 2 rfl) ?_
        refine lv_iload_n hx hb dX10_wanted_32 rfl (lv_at hl 2 rfl) ?_
        refine lv_iconst (v := 1) hx hb dX10_wanted_33 (by decide) ?_
        refine g_subN (a := c) (b := 1) hx hb rfl rfl (by omega) dX10_wanted_34 ?_
        refine lv_iload_n hx hb dX10_wanted_35 rfl (lv_at hl 3 rfl) ?_
        refine lv_iload_n hx hb dX10_wanted_36 rfl (lv_at hl 0 rfl) ?_
        refine g_VI (As := [.int (nI c), .int (nI (c - 1)), .int (nI k), .int (cAhead (tF F) (tV F V) c k)]) (rest := []) ⟨hx, hb, hml, hown, hts⟩ hG hN (i := 43) (by decide) rfl rfl (c_X10_greater l c (c - 1) k (cAhead (tF F) (tV F V) c k) hnz (by omega) (by omega) (by omega)) (cwV 4 hts gX10_wanted_X10_greater rfl rfl rfl (by decide +kernel) ⟨Nat.le_of_ble_eq_true rfl, Nat.le_of_ble_eq_true rfl⟩) rfl hl.1 rfl (Nat.le_of_ble_eq_true rfl) dX10_wanted_37 ⟨Nat.le_of_ble_eq_true rfl, Nat.le_of_ble_eq_true rfl⟩ (fun H locs hN => ?_)
        refine lv_goto (tgt := 44) hx hb dX10_wanted_40 (by decide) ?_
        refine lv_istore_n (lv' := [(3, .int (gmax (cAhead (tF F) (tV F V) c k) (cSide (tF F) (tV F V) c (c - 1) k))), (0, .ref (ad 43)), (1, .int (nI c)), (2, .int (nI k))]) hx hb dX10_wanted_44 rfl hl (by decide) rfl (fun ls hl => ?_)
        exact J3 (gmax (cAhead (tF F) (tV F V) c k) (cSide (tF F) (tV F V) c (c - 1) k)) _ _ ls (by simp [mW1, c1, c2, c9, Nat.ne_of_gt c9]) hN (lv_sub hl [1, 2, 3, 0] rfl)
    · refine lv_iload_n hx hb dX10_wanted_21 rfl (lv_at hl 0 rfl) ?_
      exact g_ri hx hb hr hlocks hN (⟨by simp [cWant, c1, c2], rfl⟩) dX10_wanted_22
set_option maxHeartbeats 4000000 in
set_option maxRecDepth 100000 in
theorem c_X10_prints (l : Launch) {D : va_G} {ad : Nat → Nat} {cs : Nat → ClassId} {zd : Nat → Nat} {F V : gF} {o : gO} {sz : Nat} (k : Nat) (t : Int32) (hk : k < 4) : Met l yX10_prints wsX10_prints ({ frames := 0, cells := 0, slots := 0, locals := 0 } : Room) (gPc D ad cs zd F V o sz [.ref (ad 43), .int (nI k), .int t]) (gQI D ad cs (cCurve t (tF F 2 k)) F V o sz) 0 0 (gX ad sz) := by
  refine g_met (Qc := fun z0 => gQI D ad cs (cCurve t (tF F 2 k)) F V o z0) (cc := cX10_prints) (maxL := 3) (ret := (some .int)) (own := RX10) (by decide +kernel) rfl rfl (Nat.le_of_ble_eq_true rfl) ?_
  intro p0 e0 s0 m0 b0 k0 c0 hx hb hr hts hown hlocks hml hG hN ls hl
  have hl : lv_has ls 3 [(0, .ref (ad 43)), (1, .int (nI k)), (2, .int t)] := hl
  have hin_10 : ∀ w ∈ wsX100, w ∈ wsX10_prints := by decide +kernel
  have hk_19 := hts (.fieldLink RX10 19 "GravureHouseModel" "rule" "[I") (by decide +kernel)
  refine lv_iload_n hx hb dX10_prints_0 rfl (lv_at hl 2 rfl) ?_
  refine lv_aload_n hx hb dX10_prints_1 rfl (lv_at hl 0 rfl) ?_
  refine gf_43_3 hx hb hts hin_10 hown hG hN hk_19 dX10_prints_2 ?_
  refine lv_iconst (v := 3) hx hb dX10_prints_5 (by decide) ?_
  refine lv_iload_n hx hb dX10_prints_6 rfl (lv_at hl 1 rfl) ?_
  refine g_addN (a := 3) (b := k) hx hb rfl rfl dX10_prints_7 ?_
  refine g_iald hx hb hG hN (i := 47) (n := 9) (j := 3 + k) (by decide) rfl (by decide) (by omega) rfl dX10_prints_8 ?_
  refine g_top (y := tF F 2 k) ((tF_2 hk).symm) ?_
  refine lv_iload_n hx hb dX10_prints_9 rfl (lv_at hl 2 rfl) ?_
  refine lv_imul hx hb dX10_prints_10 ?_
  refine lv_bipush (v := 100) hx hb dX10_prints_11 (by decide) ?_
  refine lv_iload_n hx hb dX10_prints_13 rfl (lv_at hl 2 rfl) ?_
  refine lv_isub hx hb dX10_prints_14 ?_
  refine lv_imul hx hb dX10_prints_15 ?_
  refine lv_sipush (v := 2500) hx hb dX10_prints_16 (by decide) ?_
  refine lv_idiv hx hb dX10_prints_19 (by decide) ?_
  refine lv_iadd hx hb dX10_prints_20 ?_
  exact g_ri hx hb hr hlocks hN (⟨rfl, rfl⟩) dX10_prints_21
set_option maxHeartbeats 4000000 in
set_option maxRecDepth 100000 in
theorem c_X10_tint (l : Launch) {D : va_G} {ad : Nat → Nat} {cs : Nat → ClassId} {zd : Nat → Nat} {F V : gF} {o : gO} {sz : Nat} (k : Nat) (w : Int32) (hk : k < 4) (hw : w ≤ 100) : Met l yX10_tint wsX10_tint ({ frames := 1, cells := 0, slots := 0, locals := 22 } : Room) (gPc D ad cs zd F V o sz [.ref (ad 43), .int (nI k), .int w]) (gQI D ad cs (nI (cTint w (tF F 2 k))) F V o sz) 0 0 (gX ad sz) := by
  refine g_met (Qc := fun z0 => gQI D ad cs (nI (cTint w (tF F 2 k))) F V o z0) (cc := cX10_tint) (maxL := 4) (ret := (some .int)) (own := RX10) (by decide +kernel) rfl rfl (Nat.le_of_ble_eq_true rfl) ?_
  intro p0 e0 s0 m0 b0 k0 c0 hx hb hr hts hown hlocks hml hG hN ls hl
  have hl : lv_has ls 4 [(0, .ref (ad 43)), (1, .int (nI k)), (2, .int w)] := hl
  refine lv_iconst (v := 0) hx hb dX10_tint_0 (by decide) ?_
  refine lv_istore_n (lv' := [(3, .int 0), (0, .ref (ad 43)), (1, .int (nI k)), (2, .int w)]) hx hb dX10_tint_1 rfl hl (by decide) rfl (fun ls hl => ?_)
  have L1 : ∀ (d9_2 : Nat) (t : Nat) (H : Heap) (locs : List Loc) (ls : Array Slot), 100 - t = d9_2 → (t ≤ 100) → (cLeast w (tF F 2 k) (100 - t) t = cTint w (tF F 2 k)) → gN D ad cs s0 F V o H locs → lv_has ls 4 [(0, .ref (ad 43)), (1, .int (nI k)), (2, .int w), (3, .int (nI t))] → W p0 l e0 ({ frames := 1, cells := 0, slots := 0, locals := 22 } : Room) s0 m0 ([.ref (ad 43), .int (nI k), .int w] : List Value).toArray b0 k0 c0 H locs 0 0 (MQ b0 (gQI D ad cs (nI (cTint w (tF F 2 k))) F V o s0.heap.size) ([.ref (ad 43), .int (nI k), .int w] : List Value).toArray s0 0 0 (gX ad s0.heap.size)) (F0 m0 2 ls []) := by
    intro d9_2
    induction d9_2 with
    | zero =>
      intro t H locs ls hd_2 ht he hN hl
      refine lv_aload_n hx hb dX10_tint_2 rfl (lv_at hl 0 rfl) ?_
      refine lv_iload_n hx hb dX10_tint_3 rfl (lv_at hl 1 rfl) ?_
      refine lv_iload_n hx hb dX10_tint_4 rfl (lv_at hl 3 rfl) ?_
      refine g_VI (As := [.int (nI k), .int (nI t)]) (rest := []) ⟨hx, hb, hml, hown, hts⟩ hG hN (i := 43) (by decide) rfl rfl (c_X10_prints l k (nI t) (by omega)) (cwV 2 hts gX10_tint_X10_prints rfl rfl rfl (by decide +kernel) ⟨Nat.le_of_ble_eq_true rfl, Nat.le_of_ble_eq_true rfl⟩) rfl hl.1 rfl (Nat.le_of_ble_eq_true rfl) dX10_tint_5 ⟨Nat.le_of_ble_eq_true rfl, Nat.le_of_ble_eq_true rfl⟩ (fun H locs hN => ?_)
      refine lv_iload_n hx hb dX10_tint_8 rfl (lv_at hl 2 rfl) ?_
      refine lv_icmp_ge (tgt := 18) hx hb dX10_tint_9 (by decide) (fun c2 => ?_) (fun c2 => absurd c2 (by rw [show t = 100 by omega, mCurve]; exact fun z => z hw))
      refine lv_iload_n hx hb dX10_tint_18 rfl (lv_at hl 3 rfl) ?_
      exact g_ri hx hb hr hlocks hN (⟨by rw [← he, hd_2]; rfl, rfl⟩) dX10_tint_19
    | succ d9_2 ih2 =>
      intro t H locs ls hd_2 ht he hN hl
      refine lv_aload_n hx hb dX10_tint_2 rfl (lv_at hl 0 rfl) ?_
      refine lv_iload_n hx hb dX10_tint_3 rfl (lv_at hl 1 rfl) ?_
      refine lv_iload_n hx hb dX10_tint_4 rfl (lv_at hl 3 rfl) ?_
      refine g_VI (As := [.int (nI k), .int (nI t)]) (rest := []) ⟨hx, hb, hml, hown, hts⟩ hG hN (i := 43) (by decide) rfl rfl (c_X10_prints l k (nI t) (by omega)) (cwV 2 hts gX10_tint_X10_prints rfl rfl rfl (by decide +kernel) ⟨Nat.le_of_ble_eq_true rfl, Nat.le_of_ble_eq_true rfl⟩) rfl hl.1 rfl (Nat.le_of_ble_eq_true rfl) dX10_tint_5 ⟨Nat.le_of_ble_eq_true rfl, Nat.le_of_ble_eq_true rfl⟩ (fun H locs hN => ?_)
      refine lv_iload_n hx hb dX10_tint_8 rfl (lv_at hl 2 rfl) ?_
      refine lv_icmp_ge (tgt := 18) hx hb dX10_tint_9 (by decide) (fun c3 => ?_) (fun c3 => ?_)
      · refine lv_iload_n hx hb dX10_tint_18 rfl (lv_at hl 3 rfl) ?_
        exact g_ri hx hb hr hlocks hN (⟨by rw [← he, hd_2]; simp [cLeast, c3, Int32.not_lt.mpr c3], rfl⟩) dX10_tint_19
      · refine lv_iinc (v := (nI (t + 1))) (lv' := [(3, .int (nI (t + 1))), (0, .ref (ad 43)), (1, .int (nI k)), (2, .int w)]) hx hb dX10_tint_12 hl (k := 3) rfl (nI_1 _) (by decide) rfl (fun ls hl => ?_)
        refine lv_goto (tgt := 2) hx hb dX10_tint_15 (by decide) ?_
        exact ih2 (t + 1) _ _ ls (by omega) (by omega) (by rw [← he, hd_2]; simp [cLeast, c3, Int32.not_le.mp c3]; congr 1; omega) hN (lv_sub hl [1, 2, 3, 0] rfl)
  exact L1 _ 0 _ _ ls (rfl) (by omega) (rfl) hN (lv_sub hl [1, 2, 3, 0] rfl)
