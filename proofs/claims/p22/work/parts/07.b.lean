set_option maxHeartbeats 4000000 in
set_option maxRecDepth 100000 in
theorem c_X5_x (l : Launch) {D : va_G} {ad : Nat → Nat} {cs : Nat → ClassId} {zd : Nat → Nat} {F V : gF} {o : gO} {sz : Nat} (u : Nat) (hu : u < 4) : Met l yX5_x wsX5_x ({ frames := 0, cells := 0, slots := 0, locals := 0 } : Room) (gPc D ad cs zd F V o sz [.ref (ad 18), .int (nI u)]) (gQI D ad cs (F 19 u) F V o sz) 0 0 (gX ad sz) := by
  refine g_met (Qc := fun z0 => gQI D ad cs (F 19 u) F V o z0) (cc := cX5_x) (maxL := 2) (ret := (some .int)) (own := RX5) (by decide +kernel) rfl rfl (Nat.le_of_ble_eq_true rfl) ?_
  intro p0 e0 s0 m0 b0 k0 c0 hx hb hr hts hown hlocks hml hG hN ls hl
  have hl : lv_has ls 2 [(0, .ref (ad 18)), (1, .int (nI u))] := hl
  have hin_5 : ∀ w ∈ wsX50, w ∈ wsX5_x := by decide +kernel
  have hk_9 := hts (.fieldLink RX5 9 "GravureHouse$Registers" "xs" "[I") (by decide +kernel)
  refine lv_aload_n hx hb dX5_x_0 rfl (lv_at hl 0 rfl) ?_
  refine gf_18_0 hx hb hts hin_5 hown hG hN hk_9 dX5_x_1 ?_
  refine lv_iload_n hx hb dX5_x_4 rfl (lv_at hl 1 rfl) ?_
  refine g_iald hx hb hG hN (i := 19) (n := 4) (j := u) (by decide) rfl (by decide) (by omega) rfl dX5_x_5 ?_
  exact g_ri hx hb hr hlocks hN (⟨rfl, rfl⟩) dX5_x_6
set_option maxHeartbeats 4000000 in
set_option maxRecDepth 100000 in
theorem c_X5_y (l : Launch) {D : va_G} {ad : Nat → Nat} {cs : Nat → ClassId} {zd : Nat → Nat} {F V : gF} {o : gO} {sz : Nat} (u : Nat) (hu : u < 4) : Met l yX5_y wsX5_y ({ frames := 0, cells := 0, slots := 0, locals := 0 } : Room) (gPc D ad cs zd F V o sz [.ref (ad 18), .int (nI u)]) (gQI D ad cs (F 20 u) F V o sz) 0 0 (gX ad sz) := by
  refine g_met (Qc := fun z0 => gQI D ad cs (F 20 u) F V o z0) (cc := cX5_y) (maxL := 2) (ret := (some .int)) (own := RX5) (by decide +kernel) rfl rfl (Nat.le_of_ble_eq_true rfl) ?_
  intro p0 e0 s0 m0 b0 k0 c0 hx hb hr hts hown hlocks hml hG hN ls hl
  have hl : lv_has ls 2 [(0, .ref (ad 18)), (1, .int (nI u))] := hl
  have hin_5 : ∀ w ∈ wsX50, w ∈ wsX5_y := by decide +kernel
  have hk_15 := hts (.fieldLink RX5 15 "GravureHouse$Registers" "ys" "[I") (by decide +kernel)
  refine lv_aload_n hx hb dX5_y_0 rfl (lv_at hl 0 rfl) ?_
  refine gf_18_1 hx hb hts hin_5 hown hG hN hk_15 dX5_y_1 ?_
  refine lv_iload_n hx hb dX5_y_4 rfl (lv_at hl 1 rfl) ?_
  refine g_iald hx hb hG hN (i := 20) (n := 4) (j := u) (by decide) rfl (by decide) (by omega) rfl dX5_y_5 ?_
  exact g_ri hx hb hr hlocks hN (⟨rfl, rfl⟩) dX5_y_6
set_option maxHeartbeats 4000000 in
set_option maxRecDepth 100000 in
theorem c_X5_toCome (l : Launch) {D : va_G} {ad : Nat → Nat} {cs : Nat → ClassId} {zd : Nat → Nat} {F V : gF} {o : gO} {sz : Nat} : Met l yX5_toCome wsX5_toCome ({ frames := 0, cells := 0, slots := 0, locals := 0 } : Room) (gPc D ad cs zd F V o sz [.ref (ad 18)]) (gQI D ad cs (V 18 8) F V o sz) 0 0 (gX ad sz) := by
  refine g_met (Qc := fun z0 => gQI D ad cs (V 18 8) F V o z0) (cc := cX5_toCome) (maxL := 1) (ret := (some .int)) (own := RX5) (by decide +kernel) rfl rfl (Nat.le_of_ble_eq_true rfl) ?_
  intro p0 e0 s0 m0 b0 k0 c0 hx hb hr hts hown hlocks hml hG hN ls hl
  have hl : lv_has ls 1 [(0, .ref (ad 18))] := hl
  have hin_5 : ∀ w ∈ wsX50, w ∈ wsX5_toCome := by decide +kernel
  have hk_36 := hts (.fieldLink RX5 36 "GravureHouse$Registers" "toCome" "I") (by decide +kernel)
  refine lv_aload_n hx hb dX5_toCome_0 rfl (lv_at hl 0 rfl) ?_
  refine gf_18_8 hx hb hts hin_5 hown hG hN hk_36 dX5_toCome_1 ?_
  exact g_ri hx hb hr hlocks hN (⟨rfl, rfl⟩) dX5_toCome_4
set_option maxHeartbeats 4000000 in
set_option maxRecDepth 100000 in
theorem c_X5_setDrift (l : Launch) {D : va_G} {ad : Nat → Nat} {cs : Nat → ClassId} {zd : Nat → Nat} {F V : gF} {o : gO} {sz : Nat} (u : Nat) (x y : Int32) (hu : u < 4) : Met l yX5_setDrift wsX5_setDrift ({ frames := 0, cells := 0, slots := 0, locals := 0 } : Room) (gPc D ad cs zd F V o sz [.ref (ad 18), .int (nI u), .int x, .int y]) (gQV D ad cs (gw (gw F 21 u x) 22 u y) V o sz) 0 0 (gX ad sz) := by
  refine g_met (Qc := fun z0 => gQV D ad cs (gw (gw F 21 u x) 22 u y) V o z0) (cc := cX5_setDrift) (maxL := 4) (ret := none) (own := RX5) (by decide +kernel) rfl rfl (Nat.le_of_ble_eq_true rfl) ?_
  intro p0 e0 s0 m0 b0 k0 c0 hx hb hr hts hown hlocks hml hG hN ls hl
  have hl : lv_has ls 4 [(0, .ref (ad 18)), (1, .int (nI u)), (2, .int x), (3, .int y)] := hl
  have hin_5 : ∀ w ∈ wsX50, w ∈ wsX5_setDrift := by decide +kernel
  have hk_18 := hts (.fieldLink RX5 18 "GravureHouse$Registers" "driftXs" "[I") (by decide +kernel)
  have hk_21 := hts (.fieldLink RX5 21 "GravureHouse$Registers" "driftYs" "[I") (by decide +kernel)
  refine lv_aload_n hx hb dX5_setDrift_0 rfl (lv_at hl 0 rfl) ?_
  refine gf_18_2 hx hb hts hin_5 hown hG hN hk_18 dX5_setDrift_1 ?_
  refine lv_iload_n hx hb dX5_setDrift_4 rfl (lv_at hl 1 rfl) ?_
  refine lv_iload_n hx hb dX5_setDrift_5 rfl (lv_at hl 2 rfl) ?_
  refine g_iast hx hb hG hN (i := 21) (n := 4) (j := u) (by decide) (fun _ => rfl) (by decide) (by omega) rfl dX5_setDrift_6 (fun H locs hN => ?_)
  refine lv_aload_n hx hb dX5_setDrift_7 rfl (lv_at hl 0 rfl) ?_
  refine gf_18_3 hx hb hts hin_5 hown hG hN hk_21 dX5_setDrift_8 ?_
  refine lv_iload_n hx hb dX5_setDrift_11 rfl (lv_at hl 1 rfl) ?_
  refine lv_iload_n hx hb dX5_setDrift_12 rfl (lv_at hl 3 rfl) ?_
  refine g_iast hx hb hG hN (i := 22) (n := 4) (j := u) (by decide) (fun _ => rfl) (by decide) (by omega) rfl dX5_setDrift_13 (fun H locs hN => ?_)
  exact g_rv hx hb hr hlocks hN (rfl) dX5_setDrift_14
set_option maxHeartbeats 4000000 in
set_option maxRecDepth 100000 in
theorem c_X5_move (l : Launch) {D : va_G} {ad : Nat → Nat} {cs : Nat → ClassId} {zd : Nat → Nat} {F V : gF} {o : gO} {sz : Nat} (u : Nat) (x y : Int32) (hu : u < 4) : Met l yX5_move wsX5_move ({ frames := 0, cells := 0, slots := 0, locals := 0 } : Room) (gPc D ad cs zd F V o sz [.ref (ad 18), .int (nI u), .int x, .int y]) (gQV D ad cs (cMove F u x y) V o sz) 0 0 (gX ad sz) := by
  refine g_met (Qc := fun z0 => gQV D ad cs (cMove F u x y) V o z0) (cc := cX5_move) (maxL := 4) (ret := none) (own := RX5) (by decide +kernel) rfl rfl (Nat.le_of_ble_eq_true rfl) ?_
  intro p0 e0 s0 m0 b0 k0 c0 hx hb hr hts hown hlocks hml hG hN ls hl
  have hl : lv_has ls 4 [(0, .ref (ad 18)), (1, .int (nI u)), (2, .int x), (3, .int y)] := hl
  have hin_5 : ∀ w ∈ wsX50, w ∈ wsX5_move := by decide +kernel
  have hk_9 := hts (.fieldLink RX5 9 "GravureHouse$Registers" "xs" "[I") (by decide +kernel)
  have hk_15 := hts (.fieldLink RX5 15 "GravureHouse$Registers" "ys" "[I") (by decide +kernel)
  refine lv_aload_n hx hb dX5_move_0 rfl (lv_at hl 0 rfl) ?_
  refine gf_18_0 hx hb hts hin_5 hown hG hN hk_9 dX5_move_1 ?_
  refine lv_iload_n hx hb dX5_move_4 rfl (lv_at hl 1 rfl) ?_
  refine lv_dup2_11 hx hb dX5_move_5 rfl rfl ?_
  refine g_iald hx hb hG hN (i := 19) (n := 4) (j := u) (by decide) rfl (by decide) (by omega) rfl dX5_move_6 ?_
  refine lv_iload_n hx hb dX5_move_7 rfl (lv_at hl 2 rfl) ?_
  refine lv_iadd hx hb dX5_move_8 ?_
  refine g_iast hx hb hG hN (i := 19) (n := 4) (j := u) (by decide) (fun _ => rfl) (by decide) (by omega) rfl dX5_move_9 (fun H locs hN => ?_)
  refine lv_aload_n hx hb dX5_move_10 rfl (lv_at hl 0 rfl) ?_
  refine gf_18_1 hx hb hts hin_5 hown hG hN hk_15 dX5_move_11 ?_
  refine lv_iload_n hx hb dX5_move_14 rfl (lv_at hl 1 rfl) ?_
  refine lv_dup2_11 hx hb dX5_move_15 rfl rfl ?_
  refine g_iald hx hb hG hN (i := 20) (n := 4) (j := u) (by decide) rfl (by decide) (by omega) rfl dX5_move_16 ?_
  refine g_top (y := (F 20 u)) (rfl) ?_
  refine lv_iload_n hx hb dX5_move_17 rfl (lv_at hl 3 rfl) ?_
  refine lv_iadd hx hb dX5_move_18 ?_
  refine g_iast hx hb hG hN (i := 20) (n := 4) (j := u) (by decide) (fun _ => rfl) (by decide) (by omega) rfl dX5_move_19 (fun H locs hN => ?_)
  exact g_rv hx hb hr hlocks hN (rfl) dX5_move_20
set_option maxHeartbeats 4000000 in
set_option maxRecDepth 100000 in
theorem c_X5_keepAt (l : Launch) {D : va_G} {ad : Nat → Nat} {cs : Nat → ClassId} {zd : Nat → Nat} {F V : gF} {o : gO} {sz : Nat} (k : Nat) (u x y d : Int32) (hk : k < 20) : Met l yX5_keepAt wsX5_keepAt ({ frames := 0, cells := 0, slots := 0, locals := 0 } : Room) (gPc D ad cs zd F V o sz [.ref (ad 18), .int (nI k), .int u, .int x, .int y, .int d]) (gQV D ad cs (cKeep F k u x y d) V o sz) 0 0 (gX ad sz) := by
  refine g_met (Qc := fun z0 => gQV D ad cs (cKeep F k u x y d) V o z0) (cc := cX5_keepAt) (maxL := 6) (ret := none) (own := RX5) (by decide +kernel) rfl rfl (Nat.le_of_ble_eq_true rfl) ?_
  intro p0 e0 s0 m0 b0 k0 c0 hx hb hr hts hown hlocks hml hG hN ls hl
  have hl : lv_has ls 6 [(0, .ref (ad 18)), (1, .int (nI k)), (2, .int u), (3, .int x), (4, .int y), (5, .int d)] := hl
  have hin_5 : ∀ w ∈ wsX50, w ∈ wsX5_keepAt := by decide +kernel
  have hk_24 := hts (.fieldLink RX5 24 "GravureHouse$Registers" "dues" "[I") (by decide +kernel)
  have hk_27 := hts (.fieldLink RX5 27 "GravureHouse$Registers" "dueUnits" "[I") (by decide +kernel)
  have hk_30 := hts (.fieldLink RX5 30 "GravureHouse$Registers" "dueXs" "[I") (by decide +kernel)
  have hk_33 := hts (.fieldLink RX5 33 "GravureHouse$Registers" "dueYs" "[I") (by decide +kernel)
  refine lv_aload_n hx hb dX5_keepAt_0 rfl (lv_at hl 0 rfl) ?_
  refine gf_18_4 hx hb hts hin_5 hown hG hN hk_24 dX5_keepAt_1 ?_
  refine lv_iload_n hx hb dX5_keepAt_4 rfl (lv_at hl 1 rfl) ?_
  refine lv_iload hx hb dX5_keepAt_5 (lv_at hl 5 rfl) ?_
  refine g_iast hx hb hG hN (i := 23) (n := 20) (j := k) (by decide) (fun _ => rfl) (by decide) (by omega) rfl dX5_keepAt_7 (fun H locs hN => ?_)
  refine lv_aload_n hx hb dX5_keepAt_8 rfl (lv_at hl 0 rfl) ?_
  refine gf_18_5 hx hb hts hin_5 hown hG hN hk_27 dX5_keepAt_9 ?_
  refine lv_iload_n hx hb dX5_keepAt_12 rfl (lv_at hl 1 rfl) ?_
  refine lv_iload_n hx hb dX5_keepAt_13 rfl (lv_at hl 2 rfl) ?_
  refine g_iast hx hb hG hN (i := 24) (n := 20) (j := k) (by decide) (fun _ => rfl) (by decide) (by omega) rfl dX5_keepAt_14 (fun H locs hN => ?_)
  refine lv_aload_n hx hb dX5_keepAt_15 rfl (lv_at hl 0 rfl) ?_
  refine gf_18_6 hx hb hts hin_5 hown hG hN hk_30 dX5_keepAt_16 ?_
  refine lv_iload_n hx hb dX5_keepAt_19 rfl (lv_at hl 1 rfl) ?_
  refine lv_iload_n hx hb dX5_keepAt_20 rfl (lv_at hl 3 rfl) ?_
  refine g_iast hx hb hG hN (i := 25) (n := 20) (j := k) (by decide) (fun _ => rfl) (by decide) (by omega) rfl dX5_keepAt_21 (fun H locs hN => ?_)
  refine lv_aload_n hx hb dX5_keepAt_22 rfl (lv_at hl 0 rfl) ?_
  refine gf_18_7 hx hb hts hin_5 hown hG hN hk_33 dX5_keepAt_23 ?_
  refine lv_iload_n hx hb dX5_keepAt_26 rfl (lv_at hl 1 rfl) ?_
  refine lv_iload hx hb dX5_keepAt_27 (lv_at hl 4 rfl) ?_
  refine g_iast hx hb hG hN (i := 26) (n := 20) (j := k) (by decide) (fun _ => rfl) (by decide) (by omega) rfl dX5_keepAt_29 (fun H locs hN => ?_)
  exact g_rv hx hb hr hlocks hN (rfl) dX5_keepAt_30
set_option maxHeartbeats 4000000 in
set_option maxRecDepth 100000 in
theorem c_X5_putOff (l : Launch) {D : va_G} {ad : Nat → Nat} {cs : Nat → ClassId} {zd : Nat → Nat} {F V : gF} {o : gO} {sz : Nat} (t : Nat) (u x y d : Int32) (ht : V 18 8 = nI t) (ht2 : t < 20) : Met l yX5_putOff wsX5_putOff ({ frames := 1, cells := 0, slots := 0, locals := 25 } : Room) (gPc D ad cs zd F V o sz [.ref (ad 18), .int u, .int x, .int y, .int d]) (gQI D ad cs (nI (t + 1)) (cKeep F t u x y d) (gw V 18 8 (nI (t + 1))) o sz) 0 0 (gX ad sz) := by
  refine g_met (Qc := fun z0 => gQI D ad cs (nI (t + 1)) (cKeep F t u x y d) (gw V 18 8 (nI (t + 1))) o z0) (cc := cX5_putOff) (maxL := 5) (ret := (some .int)) (own := RX5) (by decide +kernel) rfl rfl (Nat.le_of_ble_eq_true rfl) ?_
  intro p0 e0 s0 m0 b0 k0 c0 hx hb hr hts hown hlocks hml hG hN ls hl
  have hl : lv_has ls 5 [(0, .ref (ad 18)), (1, .int u), (2, .int x), (3, .int y), (4, .int d)] := hl
  have hin_5 : ∀ w ∈ wsX50, w ∈ wsX5_putOff := by decide +kernel
  have hk_36 := hts (.fieldLink RX5 36 "GravureHouse$Registers" "toCome" "I") (by decide +kernel)
  refine lv_aload_n hx hb dX5_putOff_0 rfl (lv_at hl 0 rfl) ?_
  refine gf_18_8 hx hb hts hin_5 hown hG hN hk_36 dX5_putOff_1 ?_
  refine g_top (y := nI t) ht ?_
  refine lv_bipush (v := 20) hx hb dX5_putOff_4 (by decide) ?_
  refine g_cN_ge (a := t) (b := 20) (tgt := 32) hx hb dX5_putOff_6 (by decide) rfl rfl (by omega) (by omega) (fun c1 => absurd c1 (by omega)) (fun c1 => ?_)
  refine lv_aload_n hx hb dX5_putOff_9 rfl (lv_at hl 0 rfl) ?_
  refine lv_aload_n hx hb dX5_putOff_10 rfl (lv_at hl 0 rfl) ?_
  refine gf_18_8 hx hb hts hin_5 hown hG hN hk_36 dX5_putOff_11 ?_
  refine g_top (y := nI t) ht ?_
  refine lv_iload_n hx hb dX5_putOff_14 rfl (lv_at hl 1 rfl) ?_
  refine lv_iload_n hx hb dX5_putOff_15 rfl (lv_at hl 2 rfl) ?_
  refine lv_iload_n hx hb dX5_putOff_16 rfl (lv_at hl 3 rfl) ?_
  refine lv_iload hx hb dX5_putOff_17 (lv_at hl 4 rfl) ?_
  refine g_VV (As := [.int (nI t), .int u, .int x, .int y, .int d]) (rest := []) ⟨hx, hb, hml, hown, hts⟩ hG hN (i := 18) (by decide) rfl rfl (c_X5_keepAt l t u x y d (by omega)) (cwV 5 hts gX5_putOff_X5_keepAt rfl rfl rfl (by decide +kernel) ⟨Nat.le_of_ble_eq_true rfl, Nat.le_of_ble_eq_true rfl⟩) rfl hl.1 rfl (Nat.le_of_ble_eq_true rfl) dX5_putOff_19 ⟨Nat.le_of_ble_eq_true rfl, Nat.le_of_ble_eq_true rfl⟩ (fun H locs hN => ?_)
  refine lv_aload_n hx hb dX5_putOff_22 rfl (lv_at hl 0 rfl) ?_
  refine lv_dup hx hb dX5_putOff_23 rfl ?_
  refine gf_18_8 hx hb hts hin_5 hown hG hN hk_36 dX5_putOff_24 ?_
  refine g_top (y := nI t) ht ?_
  refine lv_iconst (v := 1) hx hb dX5_putOff_27 (by decide) ?_
  refine g_addN (a := t) (b := 1) hx hb rfl rfl dX5_putOff_28 ?_
  refine gp_18_8 hx hb hts hin_5 hown hG hN hk_36 dX5_putOff_29 (fun H locs hN => ?_)
  refine lv_aload_n hx hb dX5_putOff_32 rfl (lv_at hl 0 rfl) ?_
  refine gf_18_8 hx hb hts hin_5 hown hG hN hk_36 dX5_putOff_33 ?_
  refine g_top (y := (nI (t + 1))) rfl ?_
  exact g_ri hx hb hr hlocks hN (⟨rfl, rfl⟩) dX5_putOff_36
set_option maxHeartbeats 4000000 in
set_option maxRecDepth 100000 in
theorem c_X5_areRight (l : Launch) {D : va_G} {ad : Nat → Nat} {cs : Nat → ClassId} {zd : Nat → Nat} {F V : gF} {o : gO} {sz : Nat} (tol : Int32) : Met l yX5_areRight wsX5_areRight ({ frames := 1, cells := 0, slots := 0, locals := 21 } : Room) (gPc D ad cs zd F V o sz [.ref (ad 18), .int tol]) (gQI D ad cs (if cRight F tol then 1 else 0) F V o sz) 0 0 (gX ad sz) := by
  refine g_met (Qc := fun z0 => gQI D ad cs (if cRight F tol then 1 else 0) F V o z0) (cc := cX5_areRight) (maxL := 3) (ret := (some .boolean)) (own := RX5) (by decide +kernel) rfl rfl (Nat.le_of_ble_eq_true rfl) ?_
  intro p0 e0 s0 m0 b0 k0 c0 hx hb hr hts hown hlocks hml hG hN ls hl
  have hl : lv_has ls 3 [(0, .ref (ad 18)), (1, .int tol)] := hl
  have hin_5 : ∀ w ∈ wsX50, w ∈ wsX5_areRight := by decide +kernel
  have hk_9 := hts (.fieldLink RX5 9 "GravureHouse$Registers" "xs" "[I") (by decide +kernel)
  have hm1abs := hts (.methodLink RX5 44 Lib.Math.abs.name) (by decide +kernel)
  have hm2abs := hts (.static Lib.Math.abs.name) (by decide +kernel)
  have hm4abs := hts (.code Lib.Math.abs.name Lib.Math.abs.code 1 (some .int)) (by decide +kernel)
  have hm3 := hts (.initialized "java/lang/Math") (by decide +kernel)
  have hk_15 := hts (.fieldLink RX5 15 "GravureHouse$Registers" "ys" "[I") (by decide +kernel)
  refine lv_iconst (v := 0) hx hb dX5_areRight_0 (by decide) ?_
  refine lv_istore_n (lv' := [(2, .int 0), (0, .ref (ad 18)), (1, .int tol)]) hx hb dX5_areRight_1 rfl hl (by decide) rfl (fun ls hl => ?_)
  have L1 : ∀ (d9_2 : Nat) (u : Nat) (H : Heap) (locs : List Loc) (ls : Array Slot), 4 - u = d9_2 → (u ≤ 4) → (∀ v, v < u → ¬ cOff F tol v) → gN D ad cs s0 F V o H locs → lv_has ls 3 [(0, .ref (ad 18)), (1, .int tol), (2, .int (nI u))] → W p0 l e0 ({ frames := 1, cells := 0, slots := 0, locals := 21 } : Room) s0 m0 ([.ref (ad 18), .int tol] : List Value).toArray b0 k0 c0 H locs 0 0 (MQ b0 (gQI D ad cs (if cRight F tol then 1 else 0) F V o s0.heap.size) ([.ref (ad 18), .int tol] : List Value).toArray s0 0 0 (gX ad s0.heap.size)) (F0 m0 2 ls []) := by
    intro d9_2
    induction d9_2 with
    | zero =>
      intro u H locs ls hd_2 hu ha hN hl
      refine lv_iload_n hx hb dX5_areRight_2 rfl (lv_at hl 2 rfl) ?_
      refine lv_iconst (v := 4) hx hb dX5_areRight_3 (by decide) ?_
      refine g_cN_ge (a := u) (b := 4) (tgt := 55) hx hb dX5_areRight_4 (by decide) rfl rfl (by omega) (by omega) (fun c2 => ?_) (fun c2 => absurd c2 (by omega))
      refine lv_iconst (v := 1) hx hb dX5_areRight_55 (by decide) ?_
      exact g_rz hx hb hr hlocks (by decide) hN (⟨(if_pos (fun v z => ha v (by omega))).symm, rfl⟩) dX5_areRight_56
    | succ d9_2 ih2 =>
      intro u H locs ls hd_2 hu ha hN hl
      refine lv_iload_n hx hb dX5_areRight_2 rfl (lv_at hl 2 rfl) ?_
      refine lv_iconst (v := 4) hx hb dX5_areRight_3 (by decide) ?_
      refine g_cN_ge (a := u) (b := 4) (tgt := 55) hx hb dX5_areRight_4 (by decide) rfl rfl (by omega) (by omega) (fun c3 => absurd c3 (by omega)) (fun c3 => ?_)
      refine lv_aload_n hx hb dX5_areRight_7 rfl (lv_at hl 0 rfl) ?_
      refine gf_18_0 hx hb hts hin_5 hown hG hN hk_9 dX5_areRight_8 ?_
      refine lv_iload_n hx hb dX5_areRight_11 rfl (lv_at hl 2 rfl) ?_
      refine g_iald hx hb hG hN (i := 19) (n := 4) (j := u) (by decide) rfl (by decide) (by omega) rfl dX5_areRight_12 ?_
      refine lv_aload_n hx hb dX5_areRight_13 rfl (lv_at hl 0 rfl) ?_
      refine gf_18_0 hx hb hts hin_5 hown hG hN hk_9 dX5_areRight_14 ?_
      refine lv_iconst (v := 3) hx hb dX5_areRight_17 (by decide) ?_
      refine g_iald hx hb hG hN (i := 19) (n := 4) (j := 3) (by decide) rfl (by decide) (by omega) rfl dX5_areRight_18 ?_
      refine lv_isub hx hb dX5_areRight_19 ?_
      refine va_mabs hx hb (hml.trans hl.1.symm) hown hm1abs hm2abs hm3 hm4abs (Nat.le_of_ble_eq_true rfl) (Nat.le_of_ble_eq_true rfl) (Nat.le_of_ble_eq_true rfl) (Nat.le_of_ble_eq_true rfl) dX5_areRight_20 ?_
      refine lv_iload_n hx hb dX5_areRight_23 rfl (lv_at hl 1 rfl) ?_
      refine lv_icmp_gt (tgt := 47) hx hb dX5_areRight_24 (by decide) (fun c4 => ?_) (fun c4 => ?_)
      · refine lv_iconst (v := 0) hx hb dX5_areRight_47 (by decide) ?_
        exact g_rz hx hb hr hlocks (by decide) hN (⟨(if_neg (fun z => z u (by omega) (Or.inl c4))).symm, rfl⟩) dX5_areRight_48
      · refine lv_aload_n hx hb dX5_areRight_27 rfl (lv_at hl 0 rfl) ?_
        refine gf_18_1 hx hb hts hin_5 hown hG hN hk_15 dX5_areRight_28 ?_
        refine lv_iload_n hx hb dX5_areRight_31 rfl (lv_at hl 2 rfl) ?_
        refine g_iald hx hb hG hN (i := 20) (n := 4) (j := u) (by decide) rfl (by decide) (by omega) rfl dX5_areRight_32 ?_
        refine lv_aload_n hx hb dX5_areRight_33 rfl (lv_at hl 0 rfl) ?_
        refine gf_18_1 hx hb hts hin_5 hown hG hN hk_15 dX5_areRight_34 ?_
        refine lv_iconst (v := 3) hx hb dX5_areRight_37 (by decide) ?_
        refine g_iald hx hb hG hN (i := 20) (n := 4) (j := 3) (by decide) rfl (by decide) (by omega) rfl dX5_areRight_38 ?_
        refine lv_isub hx hb dX5_areRight_39 ?_
        refine va_mabs hx hb (hml.trans hl.1.symm) hown hm1abs hm2abs hm3 hm4abs (Nat.le_of_ble_eq_true rfl) (Nat.le_of_ble_eq_true rfl) (Nat.le_of_ble_eq_true rfl) (Nat.le_of_ble_eq_true rfl) dX5_areRight_40 ?_
        refine lv_iload_n hx hb dX5_areRight_43 rfl (lv_at hl 1 rfl) ?_
        refine lv_icmp_le (tgt := 49) hx hb dX5_areRight_44 (by decide) (fun c5 => ?_) (fun c5 => ?_)
        · refine lv_iinc (v := (nI (u + 1))) (lv' := [(2, .int (nI (u + 1))), (0, .ref (ad 18)), (1, .int tol)]) hx hb dX5_areRight_49 hl (k := 2) rfl (nI_1 _) (by decide) rfl (fun ls hl => ?_)
          refine lv_goto (tgt := 2) hx hb dX5_areRight_52 (by decide) ?_
          exact ih2 (u + 1) _ _ ls (by omega) (by omega) (lt_s ha (fun q => q.elim c4 (Int32.not_lt.mpr c5))) hN (lv_sub hl [1, 2, 0] rfl)
        · refine lv_iconst (v := 0) hx hb dX5_areRight_47 (by decide) ?_
          exact g_rz hx hb hr hlocks (by decide) hN (⟨(if_neg (fun z => z u (by omega) (Or.inr (Int32.not_le.mp c5)))).symm, rfl⟩) dX5_areRight_48
  exact L1 _ 0 _ _ ls (rfl) (by omega) (lt_0) hN (lv_sub hl [1, 2, 0] rfl)
set_option maxHeartbeats 4000000 in
set_option maxRecDepth 100000 in
theorem c_X5_follow (l : Launch) {D : va_G} {ad : Nat → Nat} {cs : Nat → ClassId} {zd : Nat → Nat} {F V : gF} {o : gO} {sz : Nat} (pr t : Nat) (hp : pr < 2 ^ 31) (ht : V 18 8 = nI t) (ht2 : t ≤ 20) (hu : ∀ j, j < t → ∃ q, q < 4 ∧ F 24 j = nI q) : Met l yX5_follow wsX5_follow ({ frames := 1, cells := 0, slots := 0, locals := 25 } : Room) (gPc D ad cs zd F V o sz [.ref (ad 18), .int (nI pr)]) (gQV D ad cs ((cFol pr (cDrift F pr) t).1) (gw V 18 8 (nI (cFol pr (cDrift F pr) t).2)) o sz) 0 0 (gX ad sz) := by
  refine g_met (Qc := fun z0 => gQV D ad cs ((cFol pr (cDrift F pr) t).1) (gw V 18 8 (nI (cFol pr (cDrift F pr) t).2)) o z0) (cc := cX5_follow) (maxL := 4) (ret := none) (own := RX5) (by decide +kernel) rfl rfl (Nat.le_of_ble_eq_true rfl) ?_
  intro p0 e0 s0 m0 b0 k0 c0 hx hb hr hts hown hlocks hml hG hN ls hl
  have hl : lv_has ls 4 [(0, .ref (ad 18)), (1, .int (nI pr))] := hl
  have hin_5 : ∀ w ∈ wsX50, w ∈ wsX5_follow := by decide +kernel
  have hk_36 := hts (.fieldLink RX5 36 "GravureHouse$Registers" "toCome" "I") (by decide +kernel)
  have hk_24 := hts (.fieldLink RX5 24 "GravureHouse$Registers" "dues" "[I") (by decide +kernel)
  have hk_27 := hts (.fieldLink RX5 27 "GravureHouse$Registers" "dueUnits" "[I") (by decide +kernel)
  have hk_30 := hts (.fieldLink RX5 30 "GravureHouse$Registers" "dueXs" "[I") (by decide +kernel)
  have hk_33 := hts (.fieldLink RX5 33 "GravureHouse$Registers" "dueYs" "[I") (by decide +kernel)
  have hk_18 := hts (.fieldLink RX5 18 "GravureHouse$Registers" "driftXs" "[I") (by decide +kernel)
  have hk_21 := hts (.fieldLink RX5 21 "GravureHouse$Registers" "driftYs" "[I") (by decide +kernel)
  have J1 : ∀ (F1 : gF) (H : Heap) (locs : List Loc) (ls : Array Slot), (F1 = cDrift F pr) → gN D ad cs s0 F1 V o H locs → lv_has ls 4 [(0, .ref (ad 18)), (1, .int (nI pr))] → W p0 l e0 ({ frames := 1, cells := 0, slots := 0, locals := 25 } : Room) s0 m0 ([.ref (ad 18), .int (nI pr)] : List Value).toArray b0 k0 c0 H locs 0 0 (MQ b0 (gQV D ad cs ((cFol pr (cDrift F pr) t).1) (gw V 18 8 (nI (cFol pr (cDrift F pr) t).2)) o s0.heap.size) ([.ref (ad 18), .int (nI pr)] : List Value).toArray s0 0 0 (gX ad s0.heap.size)) (F0 m0 37 ls []) := by
    intro F1 H locs ls eF1 hN hl
    refine lv_iconst (v := 0) hx hb dX5_follow_37 (by decide) ?_
    refine lv_istore_n (lv' := [(2, .int 0), (0, .ref (ad 18)), (1, .int (nI pr))]) hx hb dX5_follow_38 rfl hl (by decide) rfl (fun ls hl => ?_)
    refine lv_iconst (v := 0) hx hb dX5_follow_39 (by decide) ?_
    refine lv_istore_n (lv' := [(3, .int 0), (2, .int 0), (0, .ref (ad 18)), (1, .int (nI pr))]) hx hb dX5_follow_40 rfl hl (by decide) rfl (fun ls hl => ?_)
    have L2 : ∀ (d9_41 : Nat) (n : Nat) (kp : Nat) (F2 : gF) (H : Heap) (locs : List Loc) (ls : Array Slot), t - n = d9_41 → (n ≤ t) → (kp = (cFol pr F1 n).2) → (kp ≤ n) → (F2 = (cFol pr F1 n).1) → gN D ad cs s0 F2 V o H locs → lv_has ls 4 [(0, .ref (ad 18)), (1, .int (nI pr)), (2, .int (nI kp)), (3, .int (nI n))] → W p0 l e0 ({ frames := 1, cells := 0, slots := 0, locals := 25 } : Room) s0 m0 ([.ref (ad 18), .int (nI pr)] : List Value).toArray b0 k0 c0 H locs 0 0 (MQ b0 (gQV D ad cs ((cFol pr (cDrift F pr) t).1) (gw V 18 8 (nI (cFol pr (cDrift F pr) t).2)) o s0.heap.size) ([.ref (ad 18), .int (nI pr)] : List Value).toArray s0 0 0 (gX ad s0.heap.size)) (F0 m0 41 ls []) := by
      intro d9_41
      induction d9_41 with
      | zero =>
        intro n kp F2 H locs ls hd_41 hn ek hk eF2 hN hl
        refine lv_iload_n hx hb dX5_follow_41 rfl (lv_at hl 3 rfl) ?_
        refine lv_aload_n hx hb dX5_follow_42 rfl (lv_at hl 0 rfl) ?_
        refine gf_18_8 hx hb hts hin_5 hown hG hN hk_36 dX5_follow_43 ?_
        refine g_top (y := nI t) ht ?_
        refine g_cN_ge (a := n) (b := t) (tgt := 122) hx hb dX5_follow_46 (by decide) rfl rfl (by omega) (by omega) (fun c3 => ?_) (fun c3 => absurd c3 (by omega))
        refine lv_aload_n hx hb dX5_follow_122 rfl (lv_at hl 0 rfl) ?_
        refine lv_iload_n hx hb dX5_follow_123 rfl (lv_at hl 2 rfl) ?_
        refine gp_18_8 hx hb hts hin_5 hown hG hN hk_36 dX5_follow_124 (fun H locs hN => ?_)
        exact g_rv hx hb hr hlocks hN (by rw [eF2, ek, eF1, show n = t by omega]) dX5_follow_127
      | succ d9_41 ih41 =>
        intro n kp F2 H locs ls hd_41 hn ek hk eF2 hN hl
        refine lv_iload_n hx hb dX5_follow_41 rfl (lv_at hl 3 rfl) ?_
        refine lv_aload_n hx hb dX5_follow_42 rfl (lv_at hl 0 rfl) ?_
        refine gf_18_8 hx hb hts hin_5 hown hG hN hk_36 dX5_follow_43 ?_
        refine g_top (y := nI t) ht ?_
        refine g_cN_ge (a := n) (b := t) (tgt := 122) hx hb dX5_follow_46 (by decide) rfl rfl (by omega) (by omega) (fun c4 => absurd c4 (by omega)) (fun c4 => ?_)
        refine lv_aload_n hx hb dX5_follow_49 rfl (lv_at hl 0 rfl) ?_
        refine gf_18_4 hx hb hts hin_5 hown hG hN hk_24 dX5_follow_50 ?_
        refine lv_iload_n hx hb dX5_follow_53 rfl (lv_at hl 3 rfl) ?_
        refine g_iald hx hb hG hN (i := 23) (n := 20) (j := n) (by decide) rfl (by decide) (by omega) rfl dX5_follow_54 ?_
        refine lv_iload_n hx hb dX5_follow_55 rfl (lv_at hl 1 rfl) ?_
        refine lv_icmp_gt (tgt := 84) hx hb dX5_follow_56 (by decide) (fun c5 => ?_) (fun c5 => ?_)
        · refine lv_aload_n hx hb dX5_follow_84 rfl (lv_at hl 0 rfl) ?_
          refine lv_iload_n hx hb dX5_follow_85 rfl (lv_at hl 2 rfl) ?_
          refine lv_aload_n hx hb dX5_follow_86 rfl (lv_at hl 0 rfl) ?_
          refine gf_18_5 hx hb hts hin_5 hown hG hN hk_27 dX5_follow_87 ?_
          refine lv_iload_n hx hb dX5_follow_90 rfl (lv_at hl 3 rfl) ?_
          refine g_iald hx hb hG hN (i := 24) (n := 20) (j := n) (by decide) rfl (by decide) (by omega) rfl dX5_follow_91 ?_
          refine lv_aload_n hx hb dX5_follow_92 rfl (lv_at hl 0 rfl) ?_
          refine gf_18_6 hx hb hts hin_5 hown hG hN hk_30 dX5_follow_93 ?_
          refine lv_iload_n hx hb dX5_follow_96 rfl (lv_at hl 3 rfl) ?_
          refine g_iald hx hb hG hN (i := 25) (n := 20) (j := n) (by decide) rfl (by decide) (by omega) rfl dX5_follow_97 ?_
          refine lv_aload_n hx hb dX5_follow_98 rfl (lv_at hl 0 rfl) ?_
          refine gf_18_7 hx hb hts hin_5 hown hG hN hk_33 dX5_follow_99 ?_
          refine lv_iload_n hx hb dX5_follow_102 rfl (lv_at hl 3 rfl) ?_
          refine g_iald hx hb hG hN (i := 26) (n := 20) (j := n) (by decide) rfl (by decide) (by omega) rfl dX5_follow_103 ?_
          refine lv_aload_n hx hb dX5_follow_104 rfl (lv_at hl 0 rfl) ?_
          refine gf_18_4 hx hb hts hin_5 hown hG hN hk_24 dX5_follow_105 ?_
          refine lv_iload_n hx hb dX5_follow_108 rfl (lv_at hl 3 rfl) ?_
          refine g_iald hx hb hG hN (i := 23) (n := 20) (j := n) (by decide) rfl (by decide) (by omega) rfl dX5_follow_109 ?_
          refine g_VV (As := [.int (nI kp), .int (F2 24 n), .int (F2 25 n), .int (F2 26 n), .int (F2 23 n)]) (rest := []) ⟨hx, hb, hml, hown, hts⟩ hG hN (i := 18) (by decide) rfl rfl (c_X5_keepAt l kp (F2 24 n) (F2 25 n) (F2 26 n) (F2 23 n) (by omega)) (cwV 5 hts gX5_follow_X5_keepAt rfl rfl rfl (by decide +kernel) ⟨Nat.le_of_ble_eq_true rfl, Nat.le_of_ble_eq_true rfl⟩) rfl hl.1 rfl (Nat.le_of_ble_eq_true rfl) dX5_follow_110 ⟨Nat.le_of_ble_eq_true rfl, Nat.le_of_ble_eq_true rfl⟩ (fun H locs hN => ?_)
          refine lv_iinc (v := (nI (kp + 1))) (lv' := [(2, .int (nI (kp + 1))), (0, .ref (ad 18)), (1, .int (nI pr)), (3, .int (nI n))]) hx hb dX5_follow_113 hl (k := 2) rfl (nI_1 _) (by decide) rfl (fun ls hl => ?_)
          refine lv_iinc (v := (nI (n + 1))) (lv' := [(3, .int (nI (n + 1))), (2, .int (nI (kp + 1))), (0, .ref (ad 18)), (1, .int (nI pr))]) hx hb dX5_follow_116 hl (k := 3) rfl (nI_1 _) (by decide) rfl (fun ls hl => ?_)
          refine lv_goto (tgt := 41) hx hb dX5_follow_119 (by decide) ?_
          exact ih41 (n + 1) (kp + 1) (cKeep F2 kp (F2 24 n) (F2 25 n) (F2 26 n) (F2 23 n)) _ _ ls (by omega) (by omega) (by simp only [cFol]; rw [if_neg (by rw [← eF2]; exact Int32.not_le.mpr c5)]; simp only [← ek]) (by omega) (by simp only [cFol]; rw [if_neg (by rw [← eF2]; exact Int32.not_le.mpr c5)]; simp only [← eF2, ← ek]) hN (lv_sub hl [2, 3, 1, 0] rfl)
        · obtain ⟨hc1, hc2⟩ := g_ix (n := 4) (by decide) (show ∃ q, q < 4 ∧ F2 24 n = nI q by rw [eF2, cFol_hi (by decide) (by decide) n (Nat.le_refl n), eF1, cDrift_hi (by decide) (by decide)]; exact hu n (by omega))
          refine lv_aload_n hx hb dX5_follow_59 rfl (lv_at hl 0 rfl) ?_
          refine lv_aload_n hx hb dX5_follow_60 rfl (lv_at hl 0 rfl) ?_
          refine gf_18_5 hx hb hts hin_5 hown hG hN hk_27 dX5_follow_61 ?_
          refine lv_iload_n hx hb dX5_follow_64 rfl (lv_at hl 3 rfl) ?_
          refine g_iald hx hb hG hN (i := 24) (n := 20) (j := n) (by decide) rfl (by decide) (by omega) rfl dX5_follow_65 ?_
          refine g_top (y := nI ((F2 24 n).toNatClampNeg)) (hc1) ?_
          refine lv_aload_n hx hb dX5_follow_66 rfl (lv_at hl 0 rfl) ?_
          refine gf_18_6 hx hb hts hin_5 hown hG hN hk_30 dX5_follow_67 ?_
          refine lv_iload_n hx hb dX5_follow_70 rfl (lv_at hl 3 rfl) ?_
          refine g_iald hx hb hG hN (i := 25) (n := 20) (j := n) (by decide) rfl (by decide) (by omega) rfl dX5_follow_71 ?_
          refine lv_aload_n hx hb dX5_follow_72 rfl (lv_at hl 0 rfl) ?_
          refine gf_18_7 hx hb hts hin_5 hown hG hN hk_33 dX5_follow_73 ?_
          refine lv_iload_n hx hb dX5_follow_76 rfl (lv_at hl 3 rfl) ?_
          refine g_iald hx hb hG hN (i := 26) (n := 20) (j := n) (by decide) rfl (by decide) (by omega) rfl dX5_follow_77 ?_
          refine g_VV (As := [.int (nI ((F2 24 n).toNatClampNeg)), .int (F2 25 n), .int (F2 26 n)]) (rest := []) ⟨hx, hb, hml, hown, hts⟩ hG hN (i := 18) (by decide) rfl rfl (c_X5_move l ((F2 24 n).toNatClampNeg) (F2 25 n) (F2 26 n) (by omega)) (cwV 3 hts gX5_follow_X5_move rfl rfl rfl (by decide +kernel) ⟨Nat.le_of_ble_eq_true rfl, Nat.le_of_ble_eq_true rfl⟩) rfl hl.1 rfl (Nat.le_of_ble_eq_true rfl) dX5_follow_78 ⟨Nat.le_of_ble_eq_true rfl, Nat.le_of_ble_eq_true rfl⟩ (fun H locs hN => ?_)
          refine lv_goto (tgt := 116) hx hb dX5_follow_81 (by decide) ?_
          refine lv_iinc (v := (nI (n + 1))) (lv' := [(3, .int (nI (n + 1))), (0, .ref (ad 18)), (1, .int (nI pr)), (2, .int (nI kp))]) hx hb dX5_follow_116 hl (k := 3) rfl (nI_1 _) (by decide) rfl (fun ls hl => ?_)
          refine lv_goto (tgt := 41) hx hb dX5_follow_119 (by decide) ?_
          exact ih41 (n + 1) kp (cMove F2 ((F2 24 n).toNatClampNeg) (F2 25 n) (F2 26 n)) _ _ ls (by omega) (by omega) (by simp only [cFol]; rw [if_pos (by rw [← eF2]; exact Int32.not_lt.mp c5)]; simp only [← ek]) (by omega) (by simp only [cFol]; rw [if_pos (by rw [← eF2]; exact Int32.not_lt.mp c5)]; simp only [← eF2, ← ek]) hN (lv_sub hl [1, 2, 3, 0] rfl)
    exact L2 _ 0 0 F1 _ _ ls (rfl) (by omega) (rfl) (by omega) (rfl) hN (lv_sub hl [2, 3, 1, 0] rfl)
  refine lv_iload_n hx hb dX5_follow_0 rfl (lv_at hl 1 rfl) ?_
  refine lv_bipush (v := 10) hx hb dX5_follow_1 (by decide) ?_
  refine g_remN (a := pr) (b := 10) hx hb rfl rfl (by omega) (by omega) (by omega) dX5_follow_3 ?_
  refine g_ifN_ne (a := pr % 10) (tgt := 37) hx hb dX5_follow_4 (by decide) rfl (by omega) (fun c6 => ?_) (fun c6 => ?_)
  · exact J1 F _ _ ls (by unfold cDrift; rw [if_neg (by omega)]) hN (lv_sub hl [0, 1] rfl)
  · refine lv_iconst (v := 0) hx hb dX5_follow_7 (by decide) ?_
    refine lv_istore_n (lv' := [(2, .int 0), (0, .ref (ad 18)), (1, .int (nI pr))]) hx hb dX5_follow_8 rfl hl (by decide) rfl (fun ls hl => ?_)
    have L7 : ∀ (d9_9 : Nat) (n : Nat) (Fa : gF) (H : Heap) (locs : List Loc) (ls : Array Slot), 4 - n = d9_9 → (n ≤ 4) → (Fa = cDr F n) → gN D ad cs s0 Fa V o H locs → lv_has ls 4 [(0, .ref (ad 18)), (1, .int (nI pr)), (2, .int (nI n))] → W p0 l e0 ({ frames := 1, cells := 0, slots := 0, locals := 25 } : Room) s0 m0 ([.ref (ad 18), .int (nI pr)] : List Value).toArray b0 k0 c0 H locs 0 0 (MQ b0 (gQV D ad cs ((cFol pr (cDrift F pr) t).1) (gw V 18 8 (nI (cFol pr (cDrift F pr) t).2)) o s0.heap.size) ([.ref (ad 18), .int (nI pr)] : List Value).toArray s0 0 0 (gX ad s0.heap.size)) (F0 m0 9 ls []) := by
      intro d9_9
      induction d9_9 with
      | zero =>
        intro n Fa H locs ls hd_9 hn eF0 hN hl
        refine lv_iload_n hx hb dX5_follow_9 rfl (lv_at hl 2 rfl) ?_
        refine lv_iconst (v := 4) hx hb dX5_follow_10 (by decide) ?_
        refine g_cN_ge (a := n) (b := 4) (tgt := 37) hx hb dX5_follow_11 (by decide) rfl rfl (by omega) (by omega) (fun c8 => ?_) (fun c8 => absurd c8 (by omega))
        exact J1 Fa _ _ ls (by unfold cDrift; rw [if_pos c6, eF0, show n = 4 by omega]) hN (lv_sub hl [0, 1] rfl)
      | succ d9_9 ih9 =>
        intro n Fa H locs ls hd_9 hn eF0 hN hl
        refine lv_iload_n hx hb dX5_follow_9 rfl (lv_at hl 2 rfl) ?_
        refine lv_iconst (v := 4) hx hb dX5_follow_10 (by decide) ?_
        refine g_cN_ge (a := n) (b := 4) (tgt := 37) hx hb dX5_follow_11 (by decide) rfl rfl (by omega) (by omega) (fun c9 => absurd c9 (by omega)) (fun c9 => ?_)
        refine lv_aload_n hx hb dX5_follow_14 rfl (lv_at hl 0 rfl) ?_
        refine lv_iload_n hx hb dX5_follow_15 rfl (lv_at hl 2 rfl) ?_
        refine lv_aload_n hx hb dX5_follow_16 rfl (lv_at hl 0 rfl) ?_
        refine gf_18_2 hx hb hts hin_5 hown hG hN hk_18 dX5_follow_17 ?_
        refine lv_iload_n hx hb dX5_follow_20 rfl (lv_at hl 2 rfl) ?_
        refine g_iald hx hb hG hN (i := 21) (n := 4) (j := n) (by decide) rfl (by decide) (by omega) rfl dX5_follow_21 ?_
        refine lv_aload_n hx hb dX5_follow_22 rfl (lv_at hl 0 rfl) ?_
        refine gf_18_3 hx hb hts hin_5 hown hG hN hk_21 dX5_follow_23 ?_
        refine lv_iload_n hx hb dX5_follow_26 rfl (lv_at hl 2 rfl) ?_
        refine g_iald hx hb hG hN (i := 22) (n := 4) (j := n) (by decide) rfl (by decide) (by omega) rfl dX5_follow_27 ?_
        refine g_VV (As := [.int (nI n), .int (Fa 21 n), .int (Fa 22 n)]) (rest := []) ⟨hx, hb, hml, hown, hts⟩ hG hN (i := 18) (by decide) rfl rfl (c_X5_move l n (Fa 21 n) (Fa 22 n) (by omega)) (cwV 3 hts gX5_follow_X5_move rfl rfl rfl (by decide +kernel) ⟨Nat.le_of_ble_eq_true rfl, Nat.le_of_ble_eq_true rfl⟩) rfl hl.1 rfl (Nat.le_of_ble_eq_true rfl) dX5_follow_28 ⟨Nat.le_of_ble_eq_true rfl, Nat.le_of_ble_eq_true rfl⟩ (fun H locs hN => ?_)
        refine lv_iinc (v := (nI (n + 1))) (lv' := [(2, .int (nI (n + 1))), (0, .ref (ad 18)), (1, .int (nI pr))]) hx hb dX5_follow_31 hl (k := 2) rfl (nI_1 _) (by decide) rfl (fun ls hl => ?_)
        refine lv_goto (tgt := 9) hx hb dX5_follow_34 (by decide) ?_
        exact ih9 (n + 1) (cMove Fa n (Fa 21 n) (Fa 22 n)) _ _ ls (by omega) (by omega) (by rw [eF0]; rfl) hN (lv_sub hl [1, 2, 0] rfl)
    exact L7 _ 0 F _ _ ls (rfl) (by omega) (rfl) hN (lv_sub hl [1, 2, 0] rfl)
set_option maxHeartbeats 4000000 in
set_option maxRecDepth 100000 in
theorem c_X3_printed (l : Launch) {D : va_G} {ad : Nat → Nat} {cs : Nat → ClassId} {zd : Nat → Nat} {F V : gF} {o : gO} {sz : Nat} : Met l yX3_printed wsX3_printed ({ frames := 0, cells := 0, slots := 0, locals := 0 } : Room) (gPc D ad cs zd F V o sz [.ref (ad 27)]) (gQI D ad cs (V 27 2) F V o sz) 0 0 (gX ad sz) := by
  refine g_met (Qc := fun z0 => gQI D ad cs (V 27 2) F V o z0) (cc := cX3_printed) (maxL := 1) (ret := (some .int)) (own := RX3) (by decide +kernel) rfl rfl (Nat.le_of_ble_eq_true rfl) ?_
  intro p0 e0 s0 m0 b0 k0 c0 hx hb hr hts hown hlocks hml hG hN ls hl
  have hl : lv_has ls 1 [(0, .ref (ad 27))] := hl
  have hin_3 : ∀ w ∈ wsX30, w ∈ wsX3_printed := by decide +kernel
  have hk_20 := hts (.fieldLink RX3 20 "GravureHouse$Press" "printed" "I") (by decide +kernel)
  refine lv_aload_n hx hb dX3_printed_0 rfl (lv_at hl 0 rfl) ?_
  refine gf_27_2 hx hb hts hin_3 hown hG hN hk_20 dX3_printed_1 ?_
  exact g_ri hx hb hr hlocks hN (⟨rfl, rfl⟩) dX3_printed_4
set_option maxHeartbeats 4000000 in
set_option maxRecDepth 100000 in
theorem c_X3_good (l : Launch) {D : va_G} {ad : Nat → Nat} {cs : Nat → ClassId} {zd : Nat → Nat} {F V : gF} {o : gO} {sz : Nat} : Met l yX3_good wsX3_good ({ frames := 0, cells := 0, slots := 0, locals := 0 } : Room) (gPc D ad cs zd F V o sz [.ref (ad 27)]) (gQI D ad cs (V 27 3) F V o sz) 0 0 (gX ad sz) := by
  refine g_met (Qc := fun z0 => gQI D ad cs (V 27 3) F V o z0) (cc := cX3_good) (maxL := 1) (ret := (some .int)) (own := RX3) (by decide +kernel) rfl rfl (Nat.le_of_ble_eq_true rfl) ?_
  intro p0 e0 s0 m0 b0 k0 c0 hx hb hr hts hown hlocks hml hG hN ls hl
  have hl : lv_has ls 1 [(0, .ref (ad 27))] := hl
  have hin_3 : ∀ w ∈ wsX30, w ∈ wsX3_good := by decide +kernel
  have hk_23 := hts (.fieldLink RX3 23 "GravureHouse$Press" "good" "I") (by decide +kernel)
  refine lv_aload_n hx hb dX3_good_0 rfl (lv_at hl 0 rfl) ?_
  refine gf_27_3 hx hb hts hin_3 hown hG hN hk_23 dX3_good_1 ?_
  exact g_ri hx hb hr hlocks hN (⟨rfl, rfl⟩) dX3_good_4
set_option maxHeartbeats 4000000 in
set_option maxRecDepth 100000 in
theorem c_X3_wasteByRegister (l : Launch) {D : va_G} {ad : Nat → Nat} {cs : Nat → ClassId} {zd : Nat → Nat} {F V : gF} {o : gO} {sz : Nat} : Met l yX3_wasteByRegister wsX3_wasteByRegister ({ frames := 0, cells := 0, slots := 0, locals := 0 } : Room) (gPc D ad cs zd F V o sz [.ref (ad 27)]) (gQI D ad cs (V 27 4) F V o sz) 0 0 (gX ad sz) := by
  refine g_met (Qc := fun z0 => gQI D ad cs (V 27 4) F V o z0) (cc := cX3_wasteByRegister) (maxL := 1) (ret := (some .int)) (own := RX3) (by decide +kernel) rfl rfl (Nat.le_of_ble_eq_true rfl) ?_
  intro p0 e0 s0 m0 b0 k0 c0 hx hb hr hts hown hlocks hml hG hN ls hl
  have hl : lv_has ls 1 [(0, .ref (ad 27))] := hl
  have hin_3 : ∀ w ∈ wsX30, w ∈ wsX3_wasteByRegister := by decide +kernel
  have hk_26 := hts (.fieldLink RX3 26 "GravureHouse$Press" "wasteByRegister" "I") (by decide +kernel)
  refine lv_aload_n hx hb dX3_wasteByRegister_0 rfl (lv_at hl 0 rfl) ?_
  refine gf_27_4 hx hb hts hin_3 hown hG hN hk_26 dX3_wasteByRegister_1 ?_
  exact g_ri hx hb hr hlocks hN (⟨rfl, rfl⟩) dX3_wasteByRegister_4
set_option maxHeartbeats 4000000 in
set_option maxRecDepth 100000 in
theorem c_X3_wasteByDensity (l : Launch) {D : va_G} {ad : Nat → Nat} {cs : Nat → ClassId} {zd : Nat → Nat} {F V : gF} {o : gO} {sz : Nat} : Met l yX3_wasteByDensity wsX3_wasteByDensity ({ frames := 0, cells := 0, slots := 0, locals := 0 } : Room) (gPc D ad cs zd F V o sz [.ref (ad 27)]) (gQI D ad cs (V 27 5) F V o sz) 0 0 (gX ad sz) := by
  refine g_met (Qc := fun z0 => gQI D ad cs (V 27 5) F V o z0) (cc := cX3_wasteByDensity) (maxL := 1) (ret := (some .int)) (own := RX3) (by decide +kernel) rfl rfl (Nat.le_of_ble_eq_true rfl) ?_
  intro p0 e0 s0 m0 b0 k0 c0 hx hb hr hts hown hlocks hml hG hN ls hl
  have hl : lv_has ls 1 [(0, .ref (ad 27))] := hl
  have hin_3 : ∀ w ∈ wsX30, w ∈ wsX3_wasteByDensity := by decide +kernel
  have hk_29 := hts (.fieldLink RX3 29 "GravureHouse$Press" "wasteByDensity" "I") (by decide +kernel)
  refine lv_aload_n hx hb dX3_wasteByDensity_0 rfl (lv_at hl 0 rfl) ?_
  refine gf_27_5 hx hb hts hin_3 hown hG hN hk_29 dX3_wasteByDensity_1 ?_
  exact g_ri hx hb hr hlocks hN (⟨rfl, rfl⟩) dX3_wasteByDensity_4
set_option maxHeartbeats 4000000 in
set_option maxRecDepth 100000 in
theorem c_X3_turnKey (l : Launch) {D : va_G} {ad : Nat → Nat} {cs : Nat → ClassId} {zd : Nat → Nat} {F V : gF} {o : gO} {sz : Nat} (u q : Nat) (x : Int32) (hu : u < 4) (hq : q < 8) : Met l yX3_turnKey wsX3_turnKey ({ frames := 0, cells := 0, slots := 0, locals := 0 } : Room) (gPc D ad cs zd F V o sz [.ref (ad 27), .int (nI u), .int (nI q), .int x]) (gQI D ad cs (F (29 + u) q) (gw F (29 + u) q x) V o sz) 0 0 (gX ad sz) := by
  refine g_met (Qc := fun z0 => gQI D ad cs (F (29 + u) q) (gw F (29 + u) q x) V o z0) (cc := cX3_turnKey) (maxL := 5) (ret := (some .int)) (own := RX3) (by decide +kernel) rfl rfl (Nat.le_of_ble_eq_true rfl) ?_
  intro p0 e0 s0 m0 b0 k0 c0 hx hb hr hts hown hlocks hml hG hN ls hl
  have hl : lv_has ls 5 [(0, .ref (ad 27)), (1, .int (nI u)), (2, .int (nI q)), (3, .int x)] := hl
  have hin_3 : ∀ w ∈ wsX30, w ∈ wsX3_turnKey := by decide +kernel
  have hk_11 := hts (.fieldLink RX3 11 "GravureHouse$Press" "keys" "[[I") (by decide +kernel)
  refine lv_aload_n hx hb dX3_turnKey_0 rfl (lv_at hl 0 rfl) ?_
  refine gf_27_0 hx hb hts hin_3 hown hG hN hk_11 dX3_turnKey_1 ?_
  refine lv_iload_n hx hb dX3_turnKey_4 rfl (lv_at hl 1 rfl) ?_
  refine g_aald hx hb hG hN (i := 28) (n := 4) (j := u) (b := 29) (by decide) rfl (by decide) (by omega) rfl dX3_turnKey_5 ?_
  refine lv_iload_n hx hb dX3_turnKey_6 rfl (lv_at hl 2 rfl) ?_
  refine g_iald hx hb hG hN (i := (29 + u)) (n := 8) (j := q) (by omega) (gC_r29 (by omega) _) (by decide) (by omega) rfl dX3_turnKey_7 ?_
  refine lv_istore (lv' := [(4, .int (F (29 + u) q)), (0, .ref (ad 27)), (1, .int (nI u)), (2, .int (nI q)), (3, .int x)]) hx hb dX3_turnKey_8 hl (by decide) rfl (fun ls hl => ?_)
  refine lv_aload_n hx hb dX3_turnKey_10 rfl (lv_at hl 1 rfl) ?_
  refine gf_27_0 hx hb hts hin_3 hown hG hN hk_11 dX3_turnKey_11 ?_
  refine lv_iload_n hx hb dX3_turnKey_14 rfl (lv_at hl 2 rfl) ?_
  refine g_aald hx hb hG hN (i := 28) (n := 4) (j := u) (b := 29) (by decide) rfl (by decide) (by omega) rfl dX3_turnKey_15 ?_
  refine lv_iload_n hx hb dX3_turnKey_16 rfl (lv_at hl 3 rfl) ?_
  refine lv_iload_n hx hb dX3_turnKey_17 rfl (lv_at hl 4 rfl) ?_
  refine g_iast hx hb hG hN (i := (29 + u)) (n := 8) (j := q) (by omega) (gC_r29 (by omega)) (by decide) (by omega) rfl dX3_turnKey_18 (fun H locs hN => ?_)
  refine lv_iload hx hb dX3_turnKey_19 (lv_at hl 0 rfl) ?_
  exact g_ri hx hb hr hlocks hN (⟨rfl, rfl⟩) dX3_turnKey_21
set_option maxHeartbeats 4000000 in
set_option maxRecDepth 100000 in
theorem c_X3_breakWeb (l : Launch) {D : va_G} {ad : Nat → Nat} {cs : Nat → ClassId} {zd : Nat → Nat} {F V : gF} {o : gO} {sz : Nat} : Met l yX3_breakWeb wsX3_breakWeb ({ frames := 0, cells := 0, slots := 0, locals := 0 } : Room) (gPc D ad cs zd F V o sz [.ref (ad 27)]) (gQI D ad cs 20 F (gw V 27 1 20) o sz) 0 0 (gX ad sz) := by
  refine g_met (Qc := fun z0 => gQI D ad cs 20 F (gw V 27 1 20) o z0) (cc := cX3_breakWeb) (maxL := 1) (ret := (some .int)) (own := RX3) (by decide +kernel) rfl rfl (Nat.le_of_ble_eq_true rfl) ?_
  intro p0 e0 s0 m0 b0 k0 c0 hx hb hr hts hown hlocks hml hG hN ls hl
  have hl : lv_has ls 1 [(0, .ref (ad 27))] := hl
  have hin_3 : ∀ w ∈ wsX30, w ∈ wsX3_breakWeb := by decide +kernel
  have hk_16 := hts (.fieldLink RX3 16 "GravureHouse$Press" "toLeadIn" "I") (by decide +kernel)
  refine lv_aload_n hx hb dX3_breakWeb_0 rfl (lv_at hl 0 rfl) ?_
  refine lv_bipush (v := 20) hx hb dX3_breakWeb_1 (by decide) ?_
  refine gp_27_1 hx hb hts hin_3 hown hG hN hk_16 dX3_breakWeb_3 (fun H locs hN => ?_)
  refine lv_aload_n hx hb dX3_breakWeb_6 rfl (lv_at hl 0 rfl) ?_
  refine gf_27_1 hx hb hts hin_3 hown hG hN hk_16 dX3_breakWeb_7 ?_
  refine g_top (y := 20) rfl ?_
  exact g_ri hx hb hr hlocks hN (⟨rfl, rfl⟩) dX3_breakWeb_10
set_option maxHeartbeats 4000000 in
set_option maxRecDepth 100000 in
theorem c_X3_density (l : Launch) {D : va_G} {ad : Nat → Nat} {cs : Nat → ClassId} {zd : Nat → Nat} {F V : gF} {o : gO} {sz : Nat} (u q : Nat) (hu : u < 4) (hq : q < 8) : Met l yX3_density wsX3_density ({ frames := 1, cells := 0, slots := 0, locals := 24 } : Room) (gPc D ad cs zd F V o sz [.ref (ad 27), .int (nI u), .int (nI q), .ref (ad 12)]) (gQI D ad cs (cDens F u q) F V o sz) 0 0 (gX ad sz) := by
  refine g_met (Qc := fun z0 => gQI D ad cs (cDens F u q) F V o z0) (cc := cX3_density) (maxL := 5) (ret := (some .int)) (own := RX3) (by decide +kernel) rfl rfl (Nat.le_of_ble_eq_true rfl) ?_
  intro p0 e0 s0 m0 b0 k0 c0 hx hb hr hts hown hlocks hml hG hN ls hl
  have hl : lv_has ls 5 [(0, .ref (ad 27)), (1, .int (nI u)), (2, .int (nI q)), (3, .ref (ad 12))] := hl
  have hin_3 : ∀ w ∈ wsX30, w ∈ wsX3_density := by decide +kernel
  have hk_11 := hts (.fieldLink RX3 11 "GravureHouse$Press" "keys" "[[I") (by decide +kernel)
  refine lv_aload_n hx hb dX3_density_0 rfl (lv_at hl 3 rfl) ?_
  refine lv_iload_n hx hb dX3_density_1 rfl (lv_at hl 1 rfl) ?_
  refine lv_iload_n hx hb dX3_density_2 rfl (lv_at hl 2 rfl) ?_
  refine g_VI (As := [.int (nI u), .int (nI q)]) (rest := []) ⟨hx, hb, hml, hown, hts⟩ hG hN (i := 12) (by decide) rfl rfl (c_X2_columnSum l u q hu hq) (cwV 2 hts gX3_density_X2_columnSum rfl rfl rfl (by decide +kernel) ⟨Nat.le_of_ble_eq_true rfl, Nat.le_of_ble_eq_true rfl⟩) rfl hl.1 rfl (Nat.le_of_ble_eq_true rfl) dX3_density_3 ⟨Nat.le_of_ble_eq_true rfl, Nat.le_of_ble_eq_true rfl⟩ (fun H locs hN => ?_)
  refine lv_sipush (v := 400) hx hb dX3_density_6 (by decide) ?_
  refine lv_isub hx hb dX3_density_9 ?_
  refine lv_bipush (v := 8) hx hb dX3_density_10 (by decide) ?_
  refine lv_idiv hx hb dX3_density_12 (by decide) ?_
  refine lv_istore (lv' := [(4, .int (((cSum F u q 8) - 400) / 8)), (0, .ref (ad 27)), (1, .int (nI u)), (2, .int (nI q)), (3, .ref (ad 12))]) hx hb dX3_density_13 hl (by decide) rfl (fun ls hl => ?_)
  refine lv_bipush (v := 100) hx hb dX3_density_15 (by decide) ?_
  refine lv_aload_n hx hb dX3_density_17 rfl (lv_at hl 1 rfl) ?_
  refine gf_27_0 hx hb hts hin_3 hown hG hN hk_11 dX3_density_18 ?_
  refine lv_iload_n hx hb dX3_density_21 rfl (lv_at hl 2 rfl) ?_
  refine g_aald hx hb hG hN (i := 28) (n := 4) (j := u) (b := 29) (by decide) rfl (by decide) (by omega) rfl dX3_density_22 ?_
  refine lv_iload_n hx hb dX3_density_23 rfl (lv_at hl 3 rfl) ?_
  refine g_iald hx hb hG hN (i := (29 + u)) (n := 8) (j := q) (by omega) (gC_r29 (by omega) _) (by decide) (by omega) rfl dX3_density_24 ?_
  refine lv_iadd hx hb dX3_density_25 ?_
  refine lv_bipush (v := 50) hx hb dX3_density_26 (by decide) ?_
  refine lv_isub hx hb dX3_density_28 ?_
  refine lv_iload hx hb dX3_density_29 (lv_at hl 0 rfl) ?_
  refine lv_bipush (v := 10) hx hb dX3_density_31 (by decide) ?_
  refine lv_idiv hx hb dX3_density_33 (by decide) ?_
  refine lv_isub hx hb dX3_density_34 ?_
  exact g_ri hx hb hr hlocks hN (⟨rfl, rfl⟩) dX3_density_35
set_option maxHeartbeats 4000000 in
set_option maxRecDepth 100000 in
theorem c_X3_densitiesRight (l : Launch) {D : va_G} {ad : Nat → Nat} {cs : Nat → ClassId} {zd : Nat → Nat} {F V : gF} {o : gO} {sz : Nat} : Met l yX3_densitiesRight wsX3_densitiesRight ({ frames := 2, cells := 0, slots := 0, locals := 48 } : Room) (gPc D ad cs zd F V o sz [.ref (ad 27), .ref (ad 12)]) (gQI D ad cs (if cEven F then 1 else 0) F V o sz) 0 0 (gX ad sz) := by
  refine g_met (Qc := fun z0 => gQI D ad cs (if cEven F then 1 else 0) F V o z0) (cc := cX3_densitiesRight) (maxL := 5) (ret := (some .boolean)) (own := RX3) (by decide +kernel) rfl rfl (Nat.le_of_ble_eq_true rfl) ?_
  intro p0 e0 s0 m0 b0 k0 c0 hx hb hr hts hown hlocks hml hG hN ls hl
  have hl : lv_has ls 5 [(0, .ref (ad 27)), (1, .ref (ad 12))] := hl
  refine lv_iconst (v := 0) hx hb dX3_densitiesRight_0 (by decide) ?_
  refine lv_istore_n (lv' := [(2, .int 0), (0, .ref (ad 27)), (1, .ref (ad 12))]) hx hb dX3_densitiesRight_1 rfl hl (by decide) rfl (fun ls hl => ?_)
  have L1 : ∀ (d9_2 : Nat) (u : Nat) (H : Heap) (locs : List Loc) (ls : Array Slot), 4 - u = d9_2 → (u ≤ 4) → (∀ v, v < u → ∀ q, q < 8 → ¬ cBad F v q) → gN D ad cs s0 F V o H locs → lv_has ls 5 [(0, .ref (ad 27)), (1, .ref (ad 12)), (2, .int (nI u))] → W p0 l e0 ({ frames := 2, cells := 0, slots := 0, locals := 48 } : Room) s0 m0 ([.ref (ad 27), .ref (ad 12)] : List Value).toArray b0 k0 c0 H locs 0 0 (MQ b0 (gQI D ad cs (if cEven F then 1 else 0) F V o s0.heap.size) ([.ref (ad 27), .ref (ad 12)] : List Value).toArray s0 0 0 (gX ad s0.heap.size)) (F0 m0 2 ls []) := by
    intro d9_2
    induction d9_2 with
    | zero =>
      intro u H locs ls hd_2 hu ha hN hl
      refine lv_iload_n hx hb dX3_densitiesRight_2 rfl (lv_at hl 2 rfl) ?_
      refine lv_iconst (v := 4) hx hb dX3_densitiesRight_3 (by decide) ?_
      refine g_cN_ge (a := u) (b := 4) (tgt := 52) hx hb dX3_densitiesRight_4 (by decide) rfl rfl (by omega) (by omega) (fun c2 => ?_) (fun c2 => absurd c2 (by omega))
      refine lv_iconst (v := 1) hx hb dX3_densitiesRight_52 (by decide) ?_
      exact g_rz hx hb hr hlocks (by decide) hN (⟨(if_pos (fun v z => ha v (by omega))).symm, rfl⟩) dX3_densitiesRight_53
    | succ d9_2 ih2 =>
      intro u H locs ls hd_2 hu ha hN hl
      refine lv_iload_n hx hb dX3_densitiesRight_2 rfl (lv_at hl 2 rfl) ?_
      refine lv_iconst (v := 4) hx hb dX3_densitiesRight_3 (by decide) ?_
      refine g_cN_ge (a := u) (b := 4) (tgt := 52) hx hb dX3_densitiesRight_4 (by decide) rfl rfl (by omega) (by omega) (fun c3 => absurd c3 (by omega)) (fun c3 => ?_)
      refine lv_iconst (v := 0) hx hb dX3_densitiesRight_7 (by decide) ?_
      refine lv_istore_n (lv' := [(3, .int 0), (0, .ref (ad 27)), (1, .ref (ad 12)), (2, .int (nI u))]) hx hb dX3_densitiesRight_8 rfl hl (by decide) rfl (fun ls hl => ?_)
      have L4 : ∀ (d9_9 : Nat) (q : Nat) (H : Heap) (locs : List Loc) (ls : Array Slot), 8 - q = d9_9 → (q ≤ 8) → (∀ z, z < q → ¬ cBad F u z) → gN D ad cs s0 F V o H locs → lv_has ls 5 [(0, .ref (ad 27)), (1, .ref (ad 12)), (2, .int (nI u)), (3, .int (nI q))] → W p0 l e0 ({ frames := 2, cells := 0, slots := 0, locals := 48 } : Room) s0 m0 ([.ref (ad 27), .ref (ad 12)] : List Value).toArray b0 k0 c0 H locs 0 0 (MQ b0 (gQI D ad cs (if cEven F then 1 else 0) F V o s0.heap.size) ([.ref (ad 27), .ref (ad 12)] : List Value).toArray s0 0 0 (gX ad s0.heap.size)) (F0 m0 9 ls []) := by
        intro d9_9
        induction d9_9 with
        | zero =>
          intro q H locs ls hd_9 hq hb9 hN hl
          refine lv_iload_n hx hb dX3_densitiesRight_9 rfl (lv_at hl 3 rfl) ?_
          refine lv_bipush (v := 8) hx hb dX3_densitiesRight_10 (by decide) ?_
          refine g_cN_ge (a := q) (b := 8) (tgt := 46) hx hb dX3_densitiesRight_12 (by decide) rfl rfl (by omega) (by omega) (fun c5 => ?_) (fun c5 => absurd c5 (by omega))
          refine lv_iinc (v := (nI (u + 1))) (lv' := [(2, .int (nI (u + 1))), (0, .ref (ad 27)), (1, .ref (ad 12)), (3, .int (nI q))]) hx hb dX3_densitiesRight_46 hl (k := 2) rfl (nI_1 _) (by decide) rfl (fun ls hl => ?_)
          refine lv_goto (tgt := 2) hx hb dX3_densitiesRight_49 (by decide) ?_
          exact ih2 (u + 1) _ _ ls (by omega) (by omega) (lt_s ha (fun z hz => hb9 z (by omega))) hN (lv_sub hl [1, 2, 0] rfl)
        | succ d9_9 ih9 =>
          intro q H locs ls hd_9 hq hb9 hN hl
          refine lv_iload_n hx hb dX3_densitiesRight_9 rfl (lv_at hl 3 rfl) ?_
          refine lv_bipush (v := 8) hx hb dX3_densitiesRight_10 (by decide) ?_
          refine g_cN_ge (a := q) (b := 8) (tgt := 46) hx hb dX3_densitiesRight_12 (by decide) rfl rfl (by omega) (by omega) (fun c6 => absurd c6 (by omega)) (fun c6 => ?_)
          refine lv_aload_n hx hb dX3_densitiesRight_15 rfl (lv_at hl 0 rfl) ?_
          refine lv_iload_n hx hb dX3_densitiesRight_16 rfl (lv_at hl 2 rfl) ?_
          refine lv_iload_n hx hb dX3_densitiesRight_17 rfl (lv_at hl 3 rfl) ?_
          refine lv_aload_n hx hb dX3_densitiesRight_18 rfl (lv_at hl 1 rfl) ?_
          refine g_VI (As := [.int (nI u), .int (nI q), .ref (ad 12)]) (rest := []) ⟨hx, hb, hml, hown, hts⟩ hG hN (i := 27) (by decide) rfl rfl (c_X3_density l u q (by omega) (by omega)) (cwV 3 hts gX3_densitiesRight_X3_density rfl rfl rfl (by decide +kernel) ⟨Nat.le_of_ble_eq_true rfl, Nat.le_of_ble_eq_true rfl⟩) rfl hl.1 rfl (Nat.le_of_ble_eq_true rfl) dX3_densitiesRight_19 ⟨Nat.le_of_ble_eq_true rfl, Nat.le_of_ble_eq_true rfl⟩ (fun H locs hN => ?_)
          refine lv_istore (lv' := [(4, .int (cDens F u q)), (0, .ref (ad 27)), (1, .ref (ad 12)), (2, .int (nI u)), (3, .int (nI q))]) hx hb dX3_densitiesRight_22 hl (by decide) rfl (fun ls hl => ?_)
          refine lv_iload hx hb dX3_densitiesRight_24 (lv_at hl 0 rfl) ?_
          refine lv_bipush (v := 90) hx hb dX3_densitiesRight_26 (by decide) ?_
          refine lv_icmp_lt (tgt := 38) hx hb dX3_densitiesRight_28 (by decide) (fun c7 => ?_) (fun c7 => ?_)
          · refine lv_iconst (v := 0) hx hb dX3_densitiesRight_38 (by decide) ?_
            exact g_rz hx hb hr hlocks (by decide) hN (⟨(if_neg (fun z => z u (by omega) q (by omega) (Or.inl c7))).symm, rfl⟩) dX3_densitiesRight_39
          · refine lv_iload hx hb dX3_densitiesRight_31 (lv_at hl 0 rfl) ?_
            refine lv_bipush (v := 110) hx hb dX3_densitiesRight_33 (by decide) ?_
            refine lv_icmp_le (tgt := 40) hx hb dX3_densitiesRight_35 (by decide) (fun c8 => ?_) (fun c8 => ?_)
            · refine lv_iinc (v := (nI (q + 1))) (lv' := [(3, .int (nI (q + 1))), (4, .int (cDens F u q)), (0, .ref (ad 27)), (1, .ref (ad 12)), (2, .int (nI u))]) hx hb dX3_densitiesRight_40 hl (k := 4) rfl (nI_1 _) (by decide) rfl (fun ls hl => ?_)
              refine lv_goto (tgt := 9) hx hb dX3_densitiesRight_43 (by decide) ?_
              exact ih9 (q + 1) _ _ ls (by omega) (by omega) (lt_s hb9 (fun z => z.elim (c7) (Int32.not_lt.mpr c8))) hN (lv_sub hl [2, 3, 4, 0] rfl)
            · refine lv_iconst (v := 0) hx hb dX3_densitiesRight_38 (by decide) ?_
              exact g_rz hx hb hr hlocks (by decide) hN (⟨(if_neg (fun z => z u (by omega) q (by omega) (Or.inr (Int32.not_le.mp c8)))).symm, rfl⟩) dX3_densitiesRight_39
      exact L4 _ 0 _ _ ls (rfl) (by omega) (lt_0) hN (lv_sub hl [1, 2, 3, 0] rfl)
  exact L1 _ 0 _ _ ls (rfl) (by omega) (lt_0) hN (lv_sub hl [1, 2, 0] rfl)
set_option maxHeartbeats 4000000 in
set_option maxRecDepth 100000 in
theorem c_X3_judge (l : Launch) {D : va_G} {ad : Nat → Nat} {cs : Nat → ClassId} {zd : Nat → Nat} {F V : gF} {o : gO} {sz : Nat} (P K : Prop) [Decidable P] [Decidable K] : Met l yX3_judge wsX3_judge ({ frames := 0, cells := 0, slots := 0, locals := 0 } : Room) (gPc D ad cs zd F V o sz [.ref (ad 27), .int (if P then 1 else 0), .int (if K then 1 else 0)]) (gQI D ad cs (if cJudge V P K then 1 else 0) F (cJudgeV V P K) o sz) 0 0 (gX ad sz) := by
  refine g_met (Qc := fun z0 => gQI D ad cs (if cJudge V P K then 1 else 0) F (cJudgeV V P K) o z0) (cc := cX3_judge) (maxL := 3) (ret := (some .boolean)) (own := RX3) (by decide +kernel) rfl rfl (Nat.le_of_ble_eq_true rfl) ?_
  intro p0 e0 s0 m0 b0 k0 c0 hx hb hr hts hown hlocks hml hG hN ls hl
  have hl : lv_has ls 3 [(0, .ref (ad 27)), (1, .int (if P then 1 else 0)), (2, .int (if K then 1 else 0))] := hl
  have hin_3 : ∀ w ∈ wsX30, w ∈ wsX3_judge := by decide +kernel
  have hk_16 := hts (.fieldLink RX3 16 "GravureHouse$Press" "toLeadIn" "I") (by decide +kernel)
  have hk_23 := hts (.fieldLink RX3 23 "GravureHouse$Press" "good" "I") (by decide +kernel)
  have hk_29 := hts (.fieldLink RX3 29 "GravureHouse$Press" "wasteByDensity" "I") (by decide +kernel)
  have hk_26 := hts (.fieldLink RX3 26 "GravureHouse$Press" "wasteByRegister" "I") (by decide +kernel)
  refine lv_aload_n hx hb dX3_judge_0 rfl (lv_at hl 0 rfl) ?_
  refine gf_27_1 hx hb hts hin_3 hown hG hN hk_16 dX3_judge_1 ?_
  refine lv_if_le (tgt := 19) hx hb dX3_judge_4 (by decide) (fun c1 => ?_) (fun c1 => ?_)
  · refine lv_iload_n hx hb dX3_judge_19 rfl (lv_at hl 1 rfl) ?_
    refine g_ifb_ne (P) (tgt := 35) hx hb dX3_judge_20 (by decide) rfl (fun c2 => ?_) (fun c2 => ?_)
    · refine lv_iload_n hx hb dX3_judge_35 rfl (lv_at hl 2 rfl) ?_
      refine g_ifb_ne (K) (tgt := 51) hx hb dX3_judge_36 (by decide) rfl (fun c3 => ?_) (fun c3 => ?_)
      · refine lv_aload_n hx hb dX3_judge_51 rfl (lv_at hl 0 rfl) ?_
        refine lv_dup hx hb dX3_judge_52 rfl ?_
        refine gf_27_3 hx hb hts hin_3 hown hG hN hk_23 dX3_judge_53 ?_
        refine lv_iconst (v := 1) hx hb dX3_judge_56 (by decide) ?_
        refine lv_iadd hx hb dX3_judge_57 ?_
        refine gp_27_3 hx hb hts hin_3 hown hG hN hk_23 dX3_judge_58 (fun H locs hN => ?_)
        refine lv_iconst (v := 1) hx hb dX3_judge_61 (by decide) ?_
        exact g_rz hx hb hr hlocks (by decide) hN (⟨by simp [cJudge, c1, Int32.not_lt.mpr c1, c2, c3], by simp [cJudgeV, c1, Int32.not_lt.mpr c1, c2, c3]⟩) dX3_judge_62
      · refine lv_aload_n hx hb dX3_judge_39 rfl (lv_at hl 0 rfl) ?_
        refine lv_dup hx hb dX3_judge_40 rfl ?_
        refine gf_27_5 hx hb hts hin_3 hown hG hN hk_29 dX3_judge_41 ?_
        refine lv_iconst (v := 1) hx hb dX3_judge_44 (by decide) ?_
        refine lv_iadd hx hb dX3_judge_45 ?_
        refine gp_27_5 hx hb hts hin_3 hown hG hN hk_29 dX3_judge_46 (fun H locs hN => ?_)
        refine lv_iconst (v := 0) hx hb dX3_judge_49 (by decide) ?_
        exact g_rz hx hb hr hlocks (by decide) hN (⟨by simp [cJudge, c1, Int32.not_lt.mpr c1, c2, c3], by simp [cJudgeV, c1, Int32.not_lt.mpr c1, c2, c3]⟩) dX3_judge_50
    · refine lv_aload_n hx hb dX3_judge_23 rfl (lv_at hl 0 rfl) ?_
      refine lv_dup hx hb dX3_judge_24 rfl ?_
      refine gf_27_4 hx hb hts hin_3 hown hG hN hk_26 dX3_judge_25 ?_
      refine lv_iconst (v := 1) hx hb dX3_judge_28 (by decide) ?_
      refine lv_iadd hx hb dX3_judge_29 ?_
      refine gp_27_4 hx hb hts hin_3 hown hG hN hk_26 dX3_judge_30 (fun H locs hN => ?_)
      refine lv_iconst (v := 0) hx hb dX3_judge_33 (by decide) ?_
      exact g_rz hx hb hr hlocks (by decide) hN (⟨by simp [cJudge, c1, Int32.not_lt.mpr c1, c2], by simp [cJudgeV, c1, Int32.not_lt.mpr c1, c2]⟩) dX3_judge_34
  · refine lv_aload_n hx hb dX3_judge_7 rfl (lv_at hl 0 rfl) ?_
    refine lv_dup hx hb dX3_judge_8 rfl ?_
    refine gf_27_1 hx hb hts hin_3 hown hG hN hk_16 dX3_judge_9 ?_
    refine lv_iconst (v := 1) hx hb dX3_judge_12 (by decide) ?_
    refine lv_isub hx hb dX3_judge_13 ?_
    refine gp_27_1 hx hb hts hin_3 hown hG hN hk_16 dX3_judge_14 (fun H locs hN => ?_)
    refine lv_iconst (v := 0) hx hb dX3_judge_17 (by decide) ?_
    exact g_rz hx hb hr hlocks (by decide) hN (⟨by simp [cJudge, c1, Int32.not_le.mp c1], by simp [cJudgeV, c1, Int32.not_le.mp c1]⟩) dX3_judge_18
set_option maxHeartbeats 4000000 in
set_option maxRecDepth 100000 in
theorem c_X3_run (l : Launch) {D : va_G} {ad : Nat → Nat} {cs : Nat → ClassId} {zd : Nat → Nat} {F V : gF} {o : gO} {sz : Nat} (tol : Int32) (K : Prop) [Decidable K] (pr t : Nat) (hp : pr + 1 < 2 ^ 31) (hpr : V 27 2 = nI pr) (ht : V 18 8 = nI t) (ht2 : t ≤ 20) (hu : ∀ j, j < t → ∃ q, q < 4 ∧ F 24 j = nI q) : Met l yX3_run wsX3_run ({ frames := 2, cells := 0, slots := 0, locals := 48 } : Room) (gPc D ad cs zd F V o sz [.ref (ad 27), .ref (ad 18), .int tol, .int (if K then 1 else 0)]) (gQI D ad cs (if cJudge V (cRight F tol) K then 1 else 0) (cRunF F pr t) (cRunV F V tol K pr t) o sz) 0 0 (gX ad sz) := by
  refine g_met (Qc := fun z0 => gQI D ad cs (if cJudge V (cRight F tol) K then 1 else 0) (cRunF F pr t) (cRunV F V tol K pr t) o z0) (cc := cX3_run) (maxL := 5) (ret := (some .boolean)) (own := RX3) (by decide +kernel) rfl rfl (Nat.le_of_ble_eq_true rfl) ?_
  intro p0 e0 s0 m0 b0 k0 c0 hx hb hr hts hown hlocks hml hG hN ls hl
  have hl : lv_has ls 5 [(0, .ref (ad 27)), (1, .ref (ad 18)), (2, .int tol), (3, .int (if K then 1 else 0))] := hl
  have hin_3 : ∀ w ∈ wsX30, w ∈ wsX3_run := by decide +kernel
  have hk_20 := hts (.fieldLink RX3 20 "GravureHouse$Press" "printed" "I") (by decide +kernel)
  refine lv_aload_n hx hb dX3_run_0 rfl (lv_at hl 0 rfl) ?_
  refine lv_aload_n hx hb dX3_run_1 rfl (lv_at hl 1 rfl) ?_
  refine lv_iload_n hx hb dX3_run_2 rfl (lv_at hl 2 rfl) ?_
  refine g_VI (As := [.int tol]) (rest := [.ref (ad 27)]) ⟨hx, hb, hml, hown, hts⟩ hG hN (i := 18) (by decide) rfl rfl (c_X5_areRight l tol) (cwV 1 hts gX3_run_X5_areRight rfl rfl rfl (by decide +kernel) ⟨Nat.le_of_ble_eq_true rfl, Nat.le_of_ble_eq_true rfl⟩) rfl hl.1 rfl (Nat.le_of_ble_eq_true rfl) dX3_run_3 ⟨Nat.le_of_ble_eq_true rfl, Nat.le_of_ble_eq_true rfl⟩ (fun H locs hN => ?_)
  refine lv_iload_n hx hb dX3_run_6 rfl (lv_at hl 3 rfl) ?_
  refine g_VI (As := [.int (if cRight F tol then 1 else 0), .int (if K then 1 else 0)]) (rest := []) ⟨hx, hb, hml, hown, hts⟩ hG hN (i := 27) (by decide) rfl rfl (c_X3_judge l (cRight F tol) K) (cwV 2 hts gX3_run_X3_judge rfl rfl rfl (by decide +kernel) ⟨Nat.le_of_ble_eq_true rfl, Nat.le_of_ble_eq_true rfl⟩) rfl hl.1 rfl (Nat.le_of_ble_eq_true rfl) dX3_run_7 ⟨Nat.le_of_ble_eq_true rfl, Nat.le_of_ble_eq_true rfl⟩ (fun H locs hN => ?_)
  refine lv_istore (lv' := [(4, .int (if cJudge V (cRight F tol) K then 1 else 0)), (0, .ref (ad 27)), (1, .ref (ad 18)), (2, .int tol), (3, .int (if K then 1 else 0))]) hx hb dX3_run_10 hl (by decide) rfl (fun ls hl => ?_)
  refine lv_aload_n hx hb dX3_run_12 rfl (lv_at hl 1 rfl) ?_
  refine lv_dup hx hb dX3_run_13 rfl ?_
  refine gf_27_2 hx hb hts hin_3 hown hG hN hk_20 dX3_run_14 ?_
  refine g_top (y := nI pr) (by rw [cJudgeV_o (Or.inr rfl)]; exact hpr) ?_
  refine lv_iconst (v := 1) hx hb dX3_run_17 (by decide) ?_
  refine g_addN (a := pr) (b := 1) hx hb rfl rfl dX3_run_18 ?_
  refine gp_27_2 hx hb hts hin_3 hown hG hN hk_20 dX3_run_19 (fun H locs hN => ?_)
  refine lv_aload_n hx hb dX3_run_22 rfl (lv_at hl 2 rfl) ?_
  refine lv_aload_n hx hb dX3_run_23 rfl (lv_at hl 1 rfl) ?_
  refine gf_27_2 hx hb hts hin_3 hown hG hN hk_20 dX3_run_24 ?_
  refine g_top (y := (nI (pr + 1))) rfl ?_
  refine g_VV (As := [.int (nI (pr + 1))]) (rest := []) ⟨hx, hb, hml, hown, hts⟩ hG hN (i := 18) (by decide) rfl rfl (c_X5_follow l (pr + 1) t (by omega) (by show cJudgeV V (cRight F tol) K 18 8 = nI t; rw [cJudgeV_o (Or.inl (by decide))]; exact ht) ht2 hu) (cwV 1 hts gX3_run_X5_follow rfl rfl rfl (by decide +kernel) ⟨Nat.le_of_ble_eq_true rfl, Nat.le_of_ble_eq_true rfl⟩) rfl hl.1 rfl (Nat.le_of_ble_eq_true rfl) dX3_run_27 ⟨Nat.le_of_ble_eq_true rfl, Nat.le_of_ble_eq_true rfl⟩ (fun H locs hN => ?_)
  refine lv_iload hx hb dX3_run_30 (lv_at hl 0 rfl) ?_
  exact g_rz hx hb hr hlocks (g_nz _) hN (⟨rfl, rfl⟩) dX3_run_32
set_option maxHeartbeats 4000000 in
set_option maxRecDepth 100000 in
theorem c_X0_copies (l : Launch) {D : va_G} {ad : Nat → Nat} {cs : Nat → ClassId} {zd : Nat → Nat} {F V : gF} {o : gO} {sz : Nat} : Met l yX0_copies wsX0_copies ({ frames := 0, cells := 0, slots := 0, locals := 0 } : Room) (gPc D ad cs zd F V o sz [.ref (ad 33)]) (gQI D ad cs (V 33 3) F V o sz) 0 0 (gX ad sz) := by
  refine g_met (Qc := fun z0 => gQI D ad cs (V 33 3) F V o z0) (cc := cX0_copies) (maxL := 1) (ret := (some .int)) (own := RX0) (by decide +kernel) rfl rfl (Nat.le_of_ble_eq_true rfl) ?_
  intro p0 e0 s0 m0 b0 k0 c0 hx hb hr hts hown hlocks hml hG hN ls hl
  have hl : lv_has ls 1 [(0, .ref (ad 33))] := hl
  have hin_0 : ∀ w ∈ wsX00, w ∈ wsX0_copies := by decide +kernel
  have hk_22 := hts (.fieldLink RX0 22 "GravureHouse$Job" "copies" "I") (by decide +kernel)
  refine lv_aload_n hx hb dX0_copies_0 rfl (lv_at hl 0 rfl) ?_
  refine gf_33_3 hx hb hts hin_0 hown hG hN hk_22 dX0_copies_1 ?_
  exact g_ri hx hb hr hlocks hN (⟨rfl, rfl⟩) dX0_copies_4
set_option maxHeartbeats 4000000 in
set_option maxRecDepth 100000 in
theorem c_X0_toPrint (l : Launch) {D : va_G} {ad : Nat → Nat} {cs : Nat → ClassId} {zd : Nat → Nat} {F V : gF} {o : gO} {sz : Nat} : Met l yX0_toPrint wsX0_toPrint ({ frames := 0, cells := 0, slots := 0, locals := 0 } : Room) (gPc D ad cs zd F V o sz [.ref (ad 33)]) (gQI D ad cs (V 33 5) F V o sz) 0 0 (gX ad sz) := by
  refine g_met (Qc := fun z0 => gQI D ad cs (V 33 5) F V o z0) (cc := cX0_toPrint) (maxL := 1) (ret := (some .int)) (own := RX0) (by decide +kernel) rfl rfl (Nat.le_of_ble_eq_true rfl) ?_
  intro p0 e0 s0 m0 b0 k0 c0 hx hb hr hts hown hlocks hml hG hN ls hl
  have hl : lv_has ls 1 [(0, .ref (ad 33))] := hl
  have hin_0 : ∀ w ∈ wsX00, w ∈ wsX0_toPrint := by decide +kernel
  have hk_29 := hts (.fieldLink RX0 29 "GravureHouse$Job" "waiting" "I") (by decide +kernel)
  refine lv_aload_n hx hb dX0_toPrint_0 rfl (lv_at hl 0 rfl) ?_
  refine gf_33_5 hx hb hts hin_0 hown hG hN hk_29 dX0_toPrint_1 ?_
  exact g_ri hx hb hr hlocks hN (⟨rfl, rfl⟩) dX0_toPrint_4
set_option maxHeartbeats 4000000 in
set_option maxRecDepth 100000 in
theorem c_X0_isGood (l : Launch) {D : va_G} {ad : Nat → Nat} {cs : Nat → ClassId} {zd : Nat → Nat} {F V : gF} {o : gO} {sz : Nat} (j : Nat) (hj : j < 200) (hz : narrow .boolean (.int (F 35 j)) = .int (F 35 j)) : Met l yX0_isGood wsX0_isGood ({ frames := 0, cells := 0, slots := 0, locals := 0 } : Room) (gPc D ad cs zd F V o sz [.ref (ad 33), .int (nI j)]) (gQI D ad cs (F 35 j) F V o sz) 0 0 (gX ad sz) := by
  refine g_met (Qc := fun z0 => gQI D ad cs (F 35 j) F V o z0) (cc := cX0_isGood) (maxL := 2) (ret := (some .boolean)) (own := RX0) (by decide +kernel) rfl rfl (Nat.le_of_ble_eq_true rfl) ?_
  intro p0 e0 s0 m0 b0 k0 c0 hx hb hr hts hown hlocks hml hG hN ls hl
  have hl : lv_has ls 2 [(0, .ref (ad 33)), (1, .int (nI j))] := hl
  have hin_0 : ∀ w ∈ wsX00, w ∈ wsX0_isGood := by decide +kernel
  have hk_15 := hts (.fieldLink RX0 15 "GravureHouse$Job" "goods" "[Z") (by decide +kernel)
  refine lv_aload_n hx hb dX0_isGood_0 rfl (lv_at hl 0 rfl) ?_
  refine gf_33_1 hx hb hts hin_0 hown hG hN hk_15 dX0_isGood_1 ?_
  refine lv_iload_n hx hb dX0_isGood_4 rfl (lv_at hl 1 rfl) ?_
  refine g_zald hx hb hG hN (i := 35) (n := 200) (j := j) (by decide) rfl (by decide) (by omega) rfl dX0_isGood_5 ?_
  exact g_rz hx hb hr hlocks (hz) hN (⟨rfl, rfl⟩) dX0_isGood_6
set_option maxHeartbeats 4000000 in
set_option maxRecDepth 100000 in
theorem c_X0_timesPrinted (l : Launch) {D : va_G} {ad : Nat → Nat} {cs : Nat → ClassId} {zd : Nat → Nat} {F V : gF} {o : gO} {sz : Nat} (j : Nat) (hj : j < 200) : Met l yX0_timesPrinted wsX0_timesPrinted ({ frames := 0, cells := 0, slots := 0, locals := 0 } : Room) (gPc D ad cs zd F V o sz [.ref (ad 33), .int (nI j)]) (gQI D ad cs (F 34 j) F V o sz) 0 0 (gX ad sz) := by
  refine g_met (Qc := fun z0 => gQI D ad cs (F 34 j) F V o z0) (cc := cX0_timesPrinted) (maxL := 2) (ret := (some .int)) (own := RX0) (by decide +kernel) rfl rfl (Nat.le_of_ble_eq_true rfl) ?_
  intro p0 e0 s0 m0 b0 k0 c0 hx hb hr hts hown hlocks hml hG hN ls hl
  have hl : lv_has ls 2 [(0, .ref (ad 33)), (1, .int (nI j))] := hl
  have hin_0 : ∀ w ∈ wsX00, w ∈ wsX0_timesPrinted := by decide +kernel
  have hk_9 := hts (.fieldLink RX0 9 "GravureHouse$Job" "times" "[I") (by decide +kernel)
  refine lv_aload_n hx hb dX0_timesPrinted_0 rfl (lv_at hl 0 rfl) ?_
  refine gf_33_0 hx hb hts hin_0 hown hG hN hk_9 dX0_timesPrinted_1 ?_
  refine lv_iload_n hx hb dX0_timesPrinted_4 rfl (lv_at hl 1 rfl) ?_
  refine g_iald hx hb hG hN (i := 34) (n := 200) (j := j) (by decide) rfl (by decide) (by omega) rfl dX0_timesPrinted_5 ?_
  exact g_ri hx hb hr hlocks hN (⟨rfl, rfl⟩) dX0_timesPrinted_6
set_option maxHeartbeats 4000000 in
set_option maxRecDepth 100000 in
theorem c_X0_first (l : Launch) {D : va_G} {ad : Nat → Nat} {cs : Nat → ClassId} {zd : Nat → Nat} {F V : gF} {o : gO} {sz : Nat} (h w : Nat) (hh : V 33 4 = nI h) (hh2 : h < 200) (hw : V 33 5 = nI w) (hw2 : w ≤ 200) : Met l yX0_first wsX0_first ({ frames := 0, cells := 0, slots := 0, locals := 0 } : Room) (gPc D ad cs zd F V o sz [.ref (ad 33)]) (gQI D ad cs (if w = 0 then -1 else F 36 h) F V o sz) 0 0 (gX ad sz) := by
  refine g_met (Qc := fun z0 => gQI D ad cs (if w = 0 then -1 else F 36 h) F V o z0) (cc := cX0_first) (maxL := 1) (ret := (some .int)) (own := RX0) (by decide +kernel) rfl rfl (Nat.le_of_ble_eq_true rfl) ?_
  intro p0 e0 s0 m0 b0 k0 c0 hx hb hr hts hown hlocks hml hG hN ls hl
  have hl : lv_has ls 1 [(0, .ref (ad 33))] := hl
  have hin_0 : ∀ w ∈ wsX00, w ∈ wsX0_first := by decide +kernel
  have hk_29 := hts (.fieldLink RX0 29 "GravureHouse$Job" "waiting" "I") (by decide +kernel)
  have hk_19 := hts (.fieldLink RX0 19 "GravureHouse$Job" "line" "[I") (by decide +kernel)
  have hk_26 := hts (.fieldLink RX0 26 "GravureHouse$Job" "head" "I") (by decide +kernel)
  refine lv_aload_n hx hb dX0_first_0 rfl (lv_at hl 0 rfl) ?_
  refine gf_33_5 hx hb hts hin_0 hown hG hN hk_29 dX0_first_1 ?_
  refine g_top (y := nI w) hw ?_
  refine g_ifN_le (a := w) (tgt := 19) hx hb dX0_first_4 (by decide) rfl (by omega) (fun c1 => ?_) (fun c1 => ?_)
  · refine lv_iconst (v := (-1)) hx hb dX0_first_19 (by decide) ?_
    exact g_ri hx hb hr hlocks hN (⟨(if_pos c1).symm, rfl⟩) dX0_first_20
  · refine lv_aload_n hx hb dX0_first_7 rfl (lv_at hl 0 rfl) ?_
    refine gf_33_2 hx hb hts hin_0 hown hG hN hk_19 dX0_first_8 ?_
    refine lv_aload_n hx hb dX0_first_11 rfl (lv_at hl 0 rfl) ?_
    refine gf_33_4 hx hb hts hin_0 hown hG hN hk_26 dX0_first_12 ?_
    refine g_top (y := nI h) hh ?_
    refine g_iald hx hb hG hN (i := 36) (n := 200) (j := h) (by decide) rfl (by decide) (by omega) rfl dX0_first_15 ?_
    refine lv_goto (tgt := 20) hx hb dX0_first_16 (by decide) ?_
    exact g_ri hx hb hr hlocks hN (⟨(if_neg (by omega)).symm, rfl⟩) dX0_first_20
set_option maxHeartbeats 4000000 in
set_option maxRecDepth 100000 in
theorem c_X0_begin (l : Launch) {D : va_G} {ad : Nat → Nat} {cs : Nat → ClassId} {zd : Nat → Nat} {F V : gF} {o : gO} {sz : Nat} (n : Nat) (hn : n ≤ 200) : Met l yX0_begin wsX0_begin ({ frames := 0, cells := 0, slots := 0, locals := 0 } : Room) (gPc D ad cs zd F V o sz [.ref (ad 33), .int (nI n)]) (gQV D ad cs (cBeg F n) (gw (gw (gw V 33 3 (nI n)) 33 4 0) 33 5 (nI n)) o sz) 0 0 (gX ad sz) := by
  refine g_met (Qc := fun z0 => gQV D ad cs (cBeg F n) (gw (gw (gw V 33 3 (nI n)) 33 4 0) 33 5 (nI n)) o z0) (cc := cX0_begin) (maxL := 3) (ret := none) (own := RX0) (by decide +kernel) rfl rfl (Nat.le_of_ble_eq_true rfl) ?_
  intro p0 e0 s0 m0 b0 k0 c0 hx hb hr hts hown hlocks hml hG hN ls hl
  have hl : lv_has ls 3 [(0, .ref (ad 33)), (1, .int (nI n))] := hl
  have hin_0 : ∀ w ∈ wsX00, w ∈ wsX0_begin := by decide +kernel
  have hk_22 := hts (.fieldLink RX0 22 "GravureHouse$Job" "copies" "I") (by decide +kernel)
  have hk_26 := hts (.fieldLink RX0 26 "GravureHouse$Job" "head" "I") (by decide +kernel)
  have hk_29 := hts (.fieldLink RX0 29 "GravureHouse$Job" "waiting" "I") (by decide +kernel)
  have hk_9 := hts (.fieldLink RX0 9 "GravureHouse$Job" "times" "[I") (by decide +kernel)
  have hk_15 := hts (.fieldLink RX0 15 "GravureHouse$Job" "goods" "[Z") (by decide +kernel)
  have hk_19 := hts (.fieldLink RX0 19 "GravureHouse$Job" "line" "[I") (by decide +kernel)
  refine lv_iconst (v := 0) hx hb dX0_begin_0 (by decide) ?_
  refine lv_istore_n (lv' := [(2, .int 0), (0, .ref (ad 33)), (1, .int (nI n))]) hx hb dX0_begin_1 rfl hl (by decide) rfl (fun ls hl => ?_)
  have L1 : ∀ (d9_2 : Nat) (q : Nat) (F1 : gF) (H : Heap) (locs : List Loc) (ls : Array Slot), n - q = d9_2 → (q ≤ n) → (F1 = cBeg F q) → gN D ad cs s0 F1 V o H locs → lv_has ls 3 [(0, .ref (ad 33)), (1, .int (nI n)), (2, .int (nI q))] → W p0 l e0 ({ frames := 0, cells := 0, slots := 0, locals := 0 } : Room) s0 m0 ([.ref (ad 33), .int (nI n)] : List Value).toArray b0 k0 c0 H locs 0 0 (MQ b0 (gQV D ad cs (cBeg F n) (gw (gw (gw V 33 3 (nI n)) 33 4 0) 33 5 (nI n)) o s0.heap.size) ([.ref (ad 33), .int (nI n)] : List Value).toArray s0 0 0 (gX ad s0.heap.size)) (F0 m0 2 ls []) := by
    intro d9_2
    induction d9_2 with
    | zero =>
      intro q F1 H locs ls hd_2 hq eF1 hN hl
      refine lv_iload_n hx hb dX0_begin_2 rfl (lv_at hl 2 rfl) ?_
      refine lv_iload_n hx hb dX0_begin_3 rfl (lv_at hl 1 rfl) ?_
      refine g_cN_ge (a := q) (b := n) (tgt := 41) hx hb dX0_begin_4 (by decide) rfl rfl (by omega) (by omega) (fun c2 => ?_) (fun c2 => absurd c2 (by omega))
      refine lv_aload_n hx hb dX0_begin_41 rfl (lv_at hl 0 rfl) ?_
      refine lv_iload_n hx hb dX0_begin_42 rfl (lv_at hl 1 rfl) ?_
      refine gp_33_3 hx hb hts hin_0 hown hG hN hk_22 dX0_begin_43 (fun H locs hN => ?_)
      refine lv_aload_n hx hb dX0_begin_46 rfl (lv_at hl 0 rfl) ?_
      refine lv_iconst (v := 0) hx hb dX0_begin_47 (by decide) ?_
      refine gp_33_4 hx hb hts hin_0 hown hG hN hk_26 dX0_begin_48 (fun H locs hN => ?_)
      refine lv_aload_n hx hb dX0_begin_51 rfl (lv_at hl 0 rfl) ?_
      refine lv_iload_n hx hb dX0_begin_52 rfl (lv_at hl 1 rfl) ?_
      refine gp_33_5 hx hb hts hin_0 hown hG hN hk_29 dX0_begin_53 (fun H locs hN => ?_)
      exact g_rv hx hb hr hlocks hN (by rw [eF1, show q = n by omega]) dX0_begin_56
    | succ d9_2 ih2 =>
      intro q F1 H locs ls hd_2 hq eF1 hN hl
      refine lv_iload_n hx hb dX0_begin_2 rfl (lv_at hl 2 rfl) ?_
      refine lv_iload_n hx hb dX0_begin_3 rfl (lv_at hl 1 rfl) ?_
      refine g_cN_ge (a := q) (b := n) (tgt := 41) hx hb dX0_begin_4 (by decide) rfl rfl (by omega) (by omega) (fun c3 => absurd c3 (by omega)) (fun c3 => ?_)
      refine lv_iload_n hx hb dX0_begin_7 rfl (lv_at hl 2 rfl) ?_
      refine lv_sipush (v := 200) hx hb dX0_begin_8 (by decide) ?_
      refine g_cN_ge (a := q) (b := 200) (tgt := 41) hx hb dX0_begin_11 (by decide) rfl rfl (by omega) (by omega) (fun c4 => absurd c4 (by omega)) (fun c4 => ?_)
      refine lv_aload_n hx hb dX0_begin_14 rfl (lv_at hl 0 rfl) ?_
      refine gf_33_0 hx hb hts hin_0 hown hG hN hk_9 dX0_begin_15 ?_
      refine lv_iload_n hx hb dX0_begin_18 rfl (lv_at hl 2 rfl) ?_
      refine lv_iconst (v := 0) hx hb dX0_begin_19 (by decide) ?_
      refine g_iast hx hb hG hN (i := 34) (n := 200) (j := q) (by decide) (fun _ => rfl) (by decide) (by omega) rfl dX0_begin_20 (fun H locs hN => ?_)
      refine lv_aload_n hx hb dX0_begin_21 rfl (lv_at hl 0 rfl) ?_
      refine gf_33_1 hx hb hts hin_0 hown hG hN hk_15 dX0_begin_22 ?_
      refine lv_iload_n hx hb dX0_begin_25 rfl (lv_at hl 2 rfl) ?_
      refine lv_iconst (v := 0) hx hb dX0_begin_26 (by decide) ?_
      refine g_zast hx hb hG hN (i := 35) (n := 200) (j := q) (by decide) (fun _ => rfl) (by decide) (by omega) rfl (by decide) dX0_begin_27 (fun H locs hN => ?_)
      refine lv_aload_n hx hb dX0_begin_28 rfl (lv_at hl 0 rfl) ?_
      refine gf_33_2 hx hb hts hin_0 hown hG hN hk_19 dX0_begin_29 ?_
      refine lv_iload_n hx hb dX0_begin_32 rfl (lv_at hl 2 rfl) ?_
      refine lv_iload_n hx hb dX0_begin_33 rfl (lv_at hl 2 rfl) ?_
      refine g_iast hx hb hG hN (i := 36) (n := 200) (j := q) (by decide) (fun _ => rfl) (by decide) (by omega) rfl dX0_begin_34 (fun H locs hN => ?_)
      refine lv_iinc (v := (nI (q + 1))) (lv' := [(2, .int (nI (q + 1))), (0, .ref (ad 33)), (1, .int (nI n))]) hx hb dX0_begin_35 hl (k := 2) rfl (nI_1 _) (by decide) rfl (fun ls hl => ?_)
      refine lv_goto (tgt := 2) hx hb dX0_begin_38 (by decide) ?_
      exact ih2 (q + 1) (gw (gw (gw F1 34 q 0) 35 q 0) 36 q (nI q)) _ _ ls (by omega) (by omega) (by rw [eF1]; rfl) hN (lv_sub hl [1, 2, 0] rfl)
  exact L1 _ 0 F _ _ ls (rfl) (by omega) (rfl) hN (lv_sub hl [1, 2, 0] rfl)
set_option maxHeartbeats 4000000 in
set_option maxRecDepth 100000 in
theorem c_X0_take (l : Launch) {D : va_G} {ad : Nat → Nat} {cs : Nat → ClassId} {zd : Nat → Nat} {F V : gF} {o : gO} {sz : Nat} (G : Prop) [Decidable G] (h w : Nat) (hh : V 33 4 = nI h) (hh2 : h < 200) (hw : V 33 5 = nI w) (hw2 : w ≤ 200) (hcp : w ≠ 0 → ∃ q, q < 200 ∧ F 36 h = nI q) : Met l yX0_take wsX0_take ({ frames := 0, cells := 0, slots := 0, locals := 0 } : Room) (gPc D ad cs zd F V o sz [.ref (ad 33), .int (if G then 1 else 0)]) (gQV D ad cs (cTakF F G h w) (cTakV V G h w) o sz) 0 0 (gX ad sz) := by
  refine g_met (Qc := fun z0 => gQV D ad cs (cTakF F G h w) (cTakV V G h w) o z0) (cc := cX0_take) (maxL := 3) (ret := none) (own := RX0) (by decide +kernel) rfl rfl (Nat.le_of_ble_eq_true rfl) ?_
  intro p0 e0 s0 m0 b0 k0 c0 hx hb hr hts hown hlocks hml hG hN ls hl
  have hl : lv_has ls 3 [(0, .ref (ad 33)), (1, .int (if G then 1 else 0))] := hl
  have hin_0 : ∀ w ∈ wsX00, w ∈ wsX0_take := by decide +kernel
  have hk_29 := hts (.fieldLink RX0 29 "GravureHouse$Job" "waiting" "I") (by decide +kernel)
  have hk_19 := hts (.fieldLink RX0 19 "GravureHouse$Job" "line" "[I") (by decide +kernel)
  have hk_26 := hts (.fieldLink RX0 26 "GravureHouse$Job" "head" "I") (by decide +kernel)
  have hk_9 := hts (.fieldLink RX0 9 "GravureHouse$Job" "times" "[I") (by decide +kernel)
  have hk_15 := hts (.fieldLink RX0 15 "GravureHouse$Job" "goods" "[Z") (by decide +kernel)
  refine lv_aload_n hx hb dX0_take_0 rfl (lv_at hl 0 rfl) ?_
  refine gf_33_5 hx hb hts hin_0 hown hG hN hk_29 dX0_take_1 ?_
  refine g_top (y := nI w) hw ?_
  refine g_ifN_ne (a := w) (tgt := 8) hx hb dX0_take_4 (by decide) rfl (by omega) (fun c1 => ?_) (fun c1 => ?_)
  · obtain ⟨hc1, hc2⟩ := g_ix (n := 200) (by decide) (hcp (by omega))
    refine lv_aload_n hx hb dX0_take_8 rfl (lv_at hl 0 rfl) ?_
    refine gf_33_2 hx hb hts hin_0 hown hG hN hk_19 dX0_take_9 ?_
    refine lv_aload_n hx hb dX0_take_12 rfl (lv_at hl 0 rfl) ?_
    refine gf_33_4 hx hb hts hin_0 hown hG hN hk_26 dX0_take_13 ?_
    refine g_top (y := nI h) hh ?_
    refine g_iald hx hb hG hN (i := 36) (n := 200) (j := h) (by decide) rfl (by decide) (by omega) rfl dX0_take_16 ?_
    refine g_top (y := nI ((F 36 h).toNatClampNeg)) (hc1) ?_
    refine lv_istore_n (lv' := [(2, .int (nI ((F 36 h).toNatClampNeg))), (0, .ref (ad 33)), (1, .int (if G then 1 else 0))]) hx hb dX0_take_17 rfl hl (by decide) rfl (fun ls hl => ?_)
    refine lv_aload_n hx hb dX0_take_18 rfl (lv_at hl 1 rfl) ?_
    refine gf_33_0 hx hb hts hin_0 hown hG hN hk_9 dX0_take_19 ?_
    refine lv_iload_n hx hb dX0_take_22 rfl (lv_at hl 0 rfl) ?_
    refine lv_dup2_11 hx hb dX0_take_23 rfl rfl ?_
    refine g_iald hx hb hG hN (i := 34) (n := 200) (j := (F 36 h).toNatClampNeg) (by decide) rfl (by decide) (by omega) rfl dX0_take_24 ?_
    refine lv_iconst (v := 1) hx hb dX0_take_25 (by decide) ?_
    refine lv_iadd hx hb dX0_take_26 ?_
    refine g_iast hx hb hG hN (i := 34) (n := 200) (j := (F 36 h).toNatClampNeg) (by decide) (fun _ => rfl) (by decide) (by omega) rfl dX0_take_27 (fun H locs hN => ?_)
    refine lv_iload_n hx hb dX0_take_28 rfl (lv_at hl 2 rfl) ?_
    refine g_ifb_eq (G) (tgt := 52) hx hb dX0_take_29 (by decide) rfl (fun c2 => ?_) (fun c2 => ?_)
    · refine lv_aload_n hx hb dX0_take_52 rfl (lv_at hl 1 rfl) ?_
      refine gf_33_2 hx hb hts hin_0 hown hG hN hk_19 dX0_take_53 ?_
      refine lv_aload_n hx hb dX0_take_56 rfl (lv_at hl 1 rfl) ?_
      refine gf_33_4 hx hb hts hin_0 hown hG hN hk_26 dX0_take_57 ?_
      refine g_top (y := nI h) hh ?_
      refine lv_aload_n hx hb dX0_take_60 rfl (lv_at hl 1 rfl) ?_
      refine gf_33_5 hx hb hts hin_0 hown hG hN hk_29 dX0_take_61 ?_
      refine g_top (y := nI w) hw ?_
      refine g_addN (a := h) (b := w) hx hb rfl rfl dX0_take_64 ?_
      refine lv_sipush (v := 200) hx hb dX0_take_65 (by decide) ?_
      refine g_remN (a := h + w) (b := 200) hx hb rfl rfl (by omega) (by omega) (by omega) dX0_take_68 ?_
      refine lv_iload_n hx hb dX0_take_69 rfl (lv_at hl 0 rfl) ?_
      refine g_iast hx hb hG hN (i := 36) (n := 200) (j := (h + w) % 200) (by decide) (fun _ => rfl) (by decide) (by omega) rfl dX0_take_70 (fun H locs hN => ?_)
      refine lv_aload_n hx hb dX0_take_71 rfl (lv_at hl 1 rfl) ?_
      refine lv_aload_n hx hb dX0_take_72 rfl (lv_at hl 1 rfl) ?_
      refine gf_33_4 hx hb hts hin_0 hown hG hN hk_26 dX0_take_73 ?_
      refine g_top (y := nI h) hh ?_
      refine lv_iconst (v := 1) hx hb dX0_take_76 (by decide) ?_
      refine g_addN (a := h) (b := 1) hx hb rfl rfl dX0_take_77 ?_
      refine lv_sipush (v := 200) hx hb dX0_take_78 (by decide) ?_
      refine g_remN (a := h + 1) (b := 200) hx hb rfl rfl (by omega) (by omega) (by omega) dX0_take_81 ?_
      refine gp_33_4 hx hb hts hin_0 hown hG hN hk_26 dX0_take_82 (fun H locs hN => ?_)
      exact g_rv hx hb hr hlocks hN (by simp [cTakF, cTakV, c1, Nat.ne_of_gt c1, c2]) dX0_take_85
    · refine lv_aload_n hx hb dX0_take_32 rfl (lv_at hl 1 rfl) ?_
      refine gf_33_1 hx hb hts hin_0 hown hG hN hk_15 dX0_take_33 ?_
      refine lv_iload_n hx hb dX0_take_36 rfl (lv_at hl 0 rfl) ?_
      refine lv_iconst (v := 1) hx hb dX0_take_37 (by decide) ?_
      refine g_zast hx hb hG hN (i := 35) (n := 200) (j := (F 36 h).toNatClampNeg) (by decide) (fun _ => rfl) (by decide) (by omega) rfl (by decide) dX0_take_38 (fun H locs hN => ?_)
      refine lv_aload_n hx hb dX0_take_39 rfl (lv_at hl 1 rfl) ?_
      refine lv_dup hx hb dX0_take_40 rfl ?_
      refine gf_33_5 hx hb hts hin_0 hown hG hN hk_29 dX0_take_41 ?_
      refine g_top (y := nI w) hw ?_
      refine lv_iconst (v := 1) hx hb dX0_take_44 (by decide) ?_
      refine g_subN (a := w) (b := 1) hx hb rfl rfl (by omega) dX0_take_45 ?_
      refine gp_33_5 hx hb hts hin_0 hown hG hN hk_29 dX0_take_46 (fun H locs hN => ?_)
      refine lv_goto (tgt := 71) hx hb dX0_take_49 (by decide) ?_
      refine lv_aload_n hx hb dX0_take_71 rfl (lv_at hl 1 rfl) ?_
      refine lv_aload_n hx hb dX0_take_72 rfl (lv_at hl 1 rfl) ?_
      refine gf_33_4 hx hb hts hin_0 hown hG hN hk_26 dX0_take_73 ?_
      refine g_top (y := (V 33 4)) rfl ?_
      refine g_top (y := nI h) hh ?_
      refine lv_iconst (v := 1) hx hb dX0_take_76 (by decide) ?_
      refine g_addN (a := h) (b := 1) hx hb rfl rfl dX0_take_77 ?_
      refine lv_sipush (v := 200) hx hb dX0_take_78 (by decide) ?_
      refine g_remN (a := h + 1) (b := 200) hx hb rfl rfl (by omega) (by omega) (by omega) dX0_take_81 ?_
      refine gp_33_4 hx hb hts hin_0 hown hG hN hk_26 dX0_take_82 (fun H locs hN => ?_)
      exact g_rv hx hb hr hlocks hN (by simp [cTakF, cTakV, c1, Nat.ne_of_gt c1, c2]) dX0_take_85
  · exact g_rv hx hb hr hlocks hN (by simp [cTakF, cTakV, c1]) dX0_take_7
set_option maxHeartbeats 4000000 in
set_option maxRecDepth 100000 in
theorem c_X4_isSigned (l : Launch) {D : va_G} {ad : Nat → Nat} {cs : Nat → ClassId} {zd : Nat → Nat} {F V : gF} {o : gO} {sz : Nat}  (hz : narrow .boolean (.int (V 37 1)) = .int (V 37 1)) : Met l yX4_isSigned wsX4_isSigned ({ frames := 0, cells := 0, slots := 0, locals := 0 } : Room) (gPc D ad cs zd F V o sz [.ref (ad 37)]) (gQI D ad cs (V 37 1) F V o sz) 0 0 (gX ad sz) := by
  refine g_met (Qc := fun z0 => gQI D ad cs (V 37 1) F V o z0) (cc := cX4_isSigned) (maxL := 1) (ret := (some .boolean)) (own := RX4) (by decide +kernel) rfl rfl (Nat.le_of_ble_eq_true rfl) ?_
  intro p0 e0 s0 m0 b0 k0 c0 hx hb hr hts hown hlocks hml hG hN ls hl
  have hl : lv_has ls 1 [(0, .ref (ad 37))] := hl
  have hin_4 : ∀ w ∈ wsX40, w ∈ wsX4_isSigned := by decide +kernel
  have hk_16 := hts (.fieldLink RX4 16 "GravureHouse$Proof" "signed" "Z") (by decide +kernel)
  refine lv_aload_n hx hb dX4_isSigned_0 rfl (lv_at hl 0 rfl) ?_
  refine gf_37_1 hx hb hts hin_4 hown hG hN hk_16 dX4_isSigned_1 ?_
  exact g_rz hx hb hr hlocks (hz) hN (⟨rfl, rfl⟩) dX4_isSigned_4
set_option maxHeartbeats 4000000 in
set_option maxRecDepth 100000 in
theorem c_X4_take (l : Launch) {D : va_G} {ad : Nat → Nat} {cs : Nat → ClassId} {zd : Nat → Nat} {F V : gF} {o : gO} {sz : Nat} : Met l yX4_take wsX4_take ({ frames := 2, cells := 0, slots := 0, locals := 44 } : Room) (gPc D ad cs zd F V o sz [.ref (ad 37), .ref (ad 12), .ref (ad 1)]) (gQI D ad cs (cTkN F 256) (cTkF F 256) (gw V 37 1 1) o sz) 0 0 (gX ad sz) := by
  refine g_met (Qc := fun z0 => gQI D ad cs (cTkN F 256) (cTkF F 256) (gw V 37 1 1) o z0) (cc := cX4_take) (maxL := 6) (ret := (some .int)) (own := RX4) (by decide +kernel) rfl rfl (Nat.le_of_ble_eq_true rfl) ?_
  intro p0 e0 s0 m0 b0 k0 c0 hx hb hr hts hown hlocks hml hG hN ls hl
  have hl : lv_has ls 6 [(0, .ref (ad 37)), (1, .ref (ad 12)), (2, .ref (ad 1))] := hl
  have hin_4 : ∀ w ∈ wsX40, w ∈ wsX4_take := by decide +kernel
  have hk_16 := hts (.fieldLink RX4 16 "GravureHouse$Proof" "signed" "Z") (by decide +kernel)
  have hk_11 := hts (.fieldLink RX4 11 "GravureHouse$Proof" "told" "[[I") (by decide +kernel)
  refine lv_iconst (v := 0) hx hb dX4_take_0 (by decide) ?_
  refine lv_istore_n (lv' := [(3, .int 0), (0, .ref (ad 37)), (1, .ref (ad 12)), (2, .ref (ad 1))]) hx hb dX4_take_1 rfl hl (by decide) rfl (fun ls hl => ?_)
  refine lv_iconst (v := 0) hx hb dX4_take_2 (by decide) ?_
  refine lv_istore (lv' := [(4, .int 0), (3, .int 0), (0, .ref (ad 37)), (1, .ref (ad 12)), (2, .ref (ad 1))]) hx hb dX4_take_3 hl (by decide) rfl (fun ls hl => ?_)
  have L1 : ∀ (d9_5 : Nat) (k : Nat) (x31 : Int32) (F1 : gF) (H : Heap) (locs : List Loc) (ls : Array Slot), 4 - k = d9_5 → (k ≤ 4) → (x31 = cTkN F (k * 64)) → (F1 = cTkF F (k * 64)) → gN D ad cs s0 F1 V o H locs → lv_has ls 6 [(0, .ref (ad 37)), (1, .ref (ad 12)), (2, .ref (ad 1)), (3, .int x31), (4, .int (nI k))] → W p0 l e0 ({ frames := 2, cells := 0, slots := 0, locals := 44 } : Room) s0 m0 ([.ref (ad 37), .ref (ad 12), .ref (ad 1)] : List Value).toArray b0 k0 c0 H locs 0 0 (MQ b0 (gQI D ad cs (cTkN F 256) (cTkF F 256) (gw V 37 1 1) o s0.heap.size) ([.ref (ad 37), .ref (ad 12), .ref (ad 1)] : List Value).toArray s0 0 0 (gX ad s0.heap.size)) (F0 m0 5 ls []) := by
    intro d9_5
    induction d9_5 with
    | zero =>
      intro k x31 F1 H locs ls hd_5 hk e31 eF1 hN hl
      refine lv_iload hx hb dX4_take_5 (lv_at hl 4 rfl) ?_
      refine lv_iconst (v := 4) hx hb dX4_take_7 (by decide) ?_
      refine g_cN_ge (a := k) (b := 4) (tgt := 65) hx hb dX4_take_8 (by decide) rfl rfl (by omega) (by omega) (fun c2 => ?_) (fun c2 => absurd c2 (by omega))
      refine lv_aload_n hx hb dX4_take_65 rfl (lv_at hl 0 rfl) ?_
      refine lv_iconst (v := 1) hx hb dX4_take_66 (by decide) ?_
      refine gp_37_1 hx hb hts hin_4 hown hG hN hk_16 (by decide) (by decide) dX4_take_67 (fun H locs hN => ?_)
      refine lv_iload_n hx hb dX4_take_70 rfl (lv_at hl 3 rfl) ?_
      exact g_ri hx hb hr hlocks hN (⟨by rw [e31, show k * 64 = 256 by omega], by rw [eF1, show k * 64 = 256 by omega]⟩) dX4_take_71
    | succ d9_5 ih5 =>
      intro k x31 F1 H locs ls hd_5 hk e31 eF1 hN hl
      refine lv_iload hx hb dX4_take_5 (lv_at hl 4 rfl) ?_
      refine lv_iconst (v := 4) hx hb dX4_take_7 (by decide) ?_
      refine g_cN_ge (a := k) (b := 4) (tgt := 65) hx hb dX4_take_8 (by decide) rfl rfl (by omega) (by omega) (fun c3 => absurd c3 (by omega)) (fun c3 => ?_)
      refine lv_iconst (v := 0) hx hb dX4_take_11 (by decide) ?_
      refine lv_istore (lv' := [(5, .int 0), (0, .ref (ad 37)), (1, .ref (ad 12)), (2, .ref (ad 1)), (3, .int x31), (4, .int (nI k))]) hx hb dX4_take_12 hl (by decide) rfl (fun ls hl => ?_)
      have L4 : ∀ (d9_14 : Nat) (q : Nat) (x32 : Int32) (F2 : gF) (H : Heap) (locs : List Loc) (ls : Array Slot), 64 - q = d9_14 → (q ≤ 64) → (x32 = cTkN F (k * 64 + q)) → (F2 = cTkF F (k * 64 + q)) → gN D ad cs s0 F2 V o H locs → lv_has ls 6 [(0, .ref (ad 37)), (1, .ref (ad 12)), (2, .ref (ad 1)), (3, .int x32), (4, .int (nI k)), (5, .int (nI q))] → W p0 l e0 ({ frames := 2, cells := 0, slots := 0, locals := 44 } : Room) s0 m0 ([.ref (ad 37), .ref (ad 12), .ref (ad 1)] : List Value).toArray b0 k0 c0 H locs 0 0 (MQ b0 (gQI D ad cs (cTkN F 256) (cTkF F 256) (gw V 37 1 1) o s0.heap.size) ([.ref (ad 37), .ref (ad 12), .ref (ad 1)] : List Value).toArray s0 0 0 (gX ad s0.heap.size)) (F0 m0 14 ls []) := by
        intro d9_14
        induction d9_14 with
        | zero =>
          intro q x32 F2 H locs ls hd_14 hq e32 eF2 hN hl
          refine lv_iload hx hb dX4_take_14 (lv_at hl 5 rfl) ?_
          refine lv_bipush (v := 64) hx hb dX4_take_16 (by decide) ?_
          refine g_cN_ge (a := q) (b := 64) (tgt := 59) hx hb dX4_take_18 (by decide) rfl rfl (by omega) (by omega) (fun c5 => ?_) (fun c5 => absurd c5 (by omega))
          refine lv_iinc (v := (nI (k + 1))) (lv' := [(4, .int (nI (k + 1))), (0, .ref (ad 37)), (1, .ref (ad 12)), (2, .ref (ad 1)), (3, .int x32), (5, .int (nI q))]) hx hb dX4_take_59 hl (k := 4) rfl (nI_1 _) (by decide) rfl (fun ls hl => ?_)
          refine lv_goto (tgt := 5) hx hb dX4_take_62 (by decide) ?_
          exact ih5 (k + 1) x32 F2 _ _ ls (by omega) (by omega) (by rw [e32, show k * 64 + q = (k + 1) * 64 by omega]) (by rw [eF2, show k * 64 + q = (k + 1) * 64 by omega]) hN (lv_sub hl [1, 2, 3, 4, 0] rfl)
        | succ d9_14 ih14 =>
          intro q x32 F2 H locs ls hd_14 hq e32 eF2 hN hl
          refine lv_iload hx hb dX4_take_14 (lv_at hl 5 rfl) ?_
          refine lv_bipush (v := 64) hx hb dX4_take_16 (by decide) ?_
          refine g_cN_ge (a := q) (b := 64) (tgt := 59) hx hb dX4_take_18 (by decide) rfl rfl (by omega) (by omega) (fun c6 => absurd c6 (by omega)) (fun c6 => ?_)
          refine lv_aload_n hx hb dX4_take_21 rfl (lv_at hl 0 rfl) ?_
          refine gf_37_0 hx hb hts hin_4 hown hG hN hk_11 dX4_take_22 ?_
          refine lv_iload hx hb dX4_take_25 (lv_at hl 4 rfl) ?_
          refine g_aald hx hb hG hN (i := 38) (n := 4) (j := k) (b := 39) (by decide) rfl (by decide) (by omega) rfl dX4_take_27 ?_
          refine lv_iload hx hb dX4_take_28 (lv_at hl 5 rfl) ?_
          refine lv_aload_n hx hb dX4_take_30 rfl (lv_at hl 1 rfl) ?_
          refine lv_iload hx hb dX4_take_31 (lv_at hl 5 rfl) ?_
          refine lv_iload hx hb dX4_take_33 (lv_at hl 4 rfl) ?_
          refine lv_aload_n hx hb dX4_take_35 rfl (lv_at hl 2 rfl) ?_
          refine g_VI (As := [.int (nI q), .int (nI k), .ref (ad 1)]) (rest := [.int (nI q), .ref (ad (39 + k))]) ⟨hx, hb, hml, hown, hts⟩ hG hN (i := 12) (by decide) rfl rfl (c_X2_printed l q k (by omega) (by omega)) (cwV 3 hts gX4_take_X2_printed rfl rfl rfl (by decide +kernel) ⟨Nat.le_of_ble_eq_true rfl, Nat.le_of_ble_eq_true rfl⟩) rfl hl.1 rfl (Nat.le_of_ble_eq_true rfl) dX4_take_36 ⟨Nat.le_of_ble_eq_true rfl, Nat.le_of_ble_eq_true rfl⟩ (fun H locs hN => ?_)
          refine g_top (y := cPrn F q k) (by rw [eF2]; exact cTkF_prn (by omega)) ?_
          refine g_iast hx hb hG hN (i := (39 + k)) (n := 64) (j := q) (by omega) (gC_r39 (by omega)) (by decide) (by omega) rfl dX4_take_39 (fun H locs hN => ?_)
          refine lv_iload_n hx hb dX4_take_40 rfl (lv_at hl 3 rfl) ?_
          refine lv_aload_n hx hb dX4_take_41 rfl (lv_at hl 0 rfl) ?_
          refine gf_37_0 hx hb hts hin_4 hown hG hN hk_11 dX4_take_42 ?_
          refine lv_iload hx hb dX4_take_45 (lv_at hl 4 rfl) ?_
          refine g_aald hx hb hG hN (i := 38) (n := 4) (j := k) (b := 39) (by decide) rfl (by decide) (by omega) rfl dX4_take_47 ?_
          refine lv_iload hx hb dX4_take_48 (lv_at hl 5 rfl) ?_
          refine g_iald hx hb hG hN (i := (39 + k)) (n := 64) (j := q) (by omega) (gC_r39 (by omega) _) (by decide) (by omega) rfl dX4_take_50 ?_
          refine g_top (y := (cPrn F q k)) (by simp [gw]) ?_
          refine lv_iadd hx hb dX4_take_51 ?_
          refine lv_istore_n (lv' := [(3, .int (x32 + (cPrn F q k))), (0, .ref (ad 37)), (1, .ref (ad 12)), (2, .ref (ad 1)), (4, .int (nI k)), (5, .int (nI q))]) hx hb dX4_take_52 rfl hl (by decide) rfl (fun ls hl => ?_)
          refine lv_iinc (v := (nI (q + 1))) (lv' := [(5, .int (nI (q + 1))), (3, .int (x32 + (cPrn F q k))), (0, .ref (ad 37)), (1, .ref (ad 12)), (2, .ref (ad 1)), (4, .int (nI k))]) hx hb dX4_take_53 hl (k := 5) rfl (nI_1 _) (by decide) rfl (fun ls hl => ?_)
          refine lv_goto (tgt := 14) hx hb dX4_take_56 (by decide) ?_
          exact ih14 (q + 1) (x32 + (cPrn F q k)) (gw F2 (39 + k) q (cPrn F q k)) _ _ ls (by omega) (by omega) (by rw [cTkN_s (by omega), e32]) (by rw [eF2, cTkF_s (by omega)]) hN (lv_sub hl [2, 3, 4, 1, 5, 0] rfl)
      exact L4 _ 0 x31 F1 _ _ ls (rfl) (by omega) (e31) (eF1) hN (lv_sub hl [1, 2, 3, 4, 5, 0] rfl)
  exact L1 _ 0 0 F _ _ ls (rfl) (by omega) (rfl) (rfl) hN (lv_sub hl [2, 3, 4, 1, 0] rfl)
set_option maxHeartbeats 4000000 in
set_option maxRecDepth 100000 in
theorem c_X4_difference (l : Launch) {D : va_G} {ad : Nat → Nat} {cs : Nat → ClassId} {zd : Nat → Nat} {F V : gF} {o : gO} {sz : Nat} (c : Nat) (hc : c < 64) : Met l yX4_difference wsX4_difference ({ frames := 2, cells := 0, slots := 0, locals := 44 } : Room) (gPc D ad cs zd F V o sz [.ref (ad 37), .int (nI c), .ref (ad 12), .ref (ad 1)]) (gQI D ad cs (cDif F c 4) F V o sz) 0 0 (gX ad sz) := by
  refine g_met (Qc := fun z0 => gQI D ad cs (cDif F c 4) F V o z0) (cc := cX4_difference) (maxL := 6) (ret := (some .int)) (own := RX4) (by decide +kernel) rfl rfl (Nat.le_of_ble_eq_true rfl) ?_
  intro p0 e0 s0 m0 b0 k0 c0 hx hb hr hts hown hlocks hml hG hN ls hl
  have hl : lv_has ls 6 [(0, .ref (ad 37)), (1, .int (nI c)), (2, .ref (ad 12)), (3, .ref (ad 1))] := hl
  have hin_4 : ∀ w ∈ wsX40, w ∈ wsX4_difference := by decide +kernel
  have hk_11 := hts (.fieldLink RX4 11 "GravureHouse$Proof" "told" "[[I") (by decide +kernel)
  have hm1abs := hts (.methodLink RX4 26 Lib.Math.abs.name) (by decide +kernel)
  have hm2abs := hts (.static Lib.Math.abs.name) (by decide +kernel)
  have hm4abs := hts (.code Lib.Math.abs.name Lib.Math.abs.code 1 (some .int)) (by decide +kernel)
  have hm3 := hts (.initialized "java/lang/Math") (by decide +kernel)
  refine lv_iconst (v := 0) hx hb dX4_difference_0 (by decide) ?_
  refine lv_istore (lv' := [(4, .int 0), (0, .ref (ad 37)), (1, .int (nI c)), (2, .ref (ad 12)), (3, .ref (ad 1))]) hx hb dX4_difference_1 hl (by decide) rfl (fun ls hl => ?_)
  refine lv_iconst (v := 0) hx hb dX4_difference_3 (by decide) ?_
  refine lv_istore (lv' := [(5, .int 0), (4, .int 0), (0, .ref (ad 37)), (1, .int (nI c)), (2, .ref (ad 12)), (3, .ref (ad 1))]) hx hb dX4_difference_4 hl (by decide) rfl (fun ls hl => ?_)
  have L1 : ∀ (d9_6 : Nat) (n : Nat) (x4 : Int32) (H : Heap) (locs : List Loc) (ls : Array Slot), 4 - n = d9_6 → (n ≤ 4) → (x4 = cDif F c n) → gN D ad cs s0 F V o H locs → lv_has ls 6 [(0, .ref (ad 37)), (1, .int (nI c)), (2, .ref (ad 12)), (3, .ref (ad 1)), (4, .int x4), (5, .int (nI n))] → W p0 l e0 ({ frames := 2, cells := 0, slots := 0, locals := 44 } : Room) s0 m0 ([.ref (ad 37), .int (nI c), .ref (ad 12), .ref (ad 1)] : List Value).toArray b0 k0 c0 H locs 0 0 (MQ b0 (gQI D ad cs (cDif F c 4) F V o s0.heap.size) ([.ref (ad 37), .int (nI c), .ref (ad 12), .ref (ad 1)] : List Value).toArray s0 0 0 (gX ad s0.heap.size)) (F0 m0 6 ls []) := by
    intro d9_6
    induction d9_6 with
    | zero =>
      intro n x4 H locs ls hd_6 hn e4 hN hl
      refine lv_iload hx hb dX4_difference_6 (lv_at hl 5 rfl) ?_
      refine lv_iconst (v := 4) hx hb dX4_difference_8 (by decide) ?_
      refine g_cN_ge (a := n) (b := 4) (tgt := 44) hx hb dX4_difference_9 (by decide) rfl rfl (by omega) (by omega) (fun c2 => ?_) (fun c2 => absurd c2 (by omega))
      refine lv_iload hx hb dX4_difference_44 (lv_at hl 4 rfl) ?_
      exact g_ri hx hb hr hlocks hN (⟨by rw [e4, show n = 4 by omega], rfl⟩) dX4_difference_46
    | succ d9_6 ih6 =>
      intro n x4 H locs ls hd_6 hn e4 hN hl
      refine lv_iload hx hb dX4_difference_6 (lv_at hl 5 rfl) ?_
      refine lv_iconst (v := 4) hx hb dX4_difference_8 (by decide) ?_
      refine g_cN_ge (a := n) (b := 4) (tgt := 44) hx hb dX4_difference_9 (by decide) rfl rfl (by omega) (by omega) (fun c3 => absurd c3 (by omega)) (fun c3 => ?_)
      refine lv_iload hx hb dX4_difference_12 (lv_at hl 4 rfl) ?_
      refine lv_aload_n hx hb dX4_difference_14 rfl (lv_at hl 2 rfl) ?_
      refine lv_iload_n hx hb dX4_difference_15 rfl (lv_at hl 1 rfl) ?_
      refine lv_iload hx hb dX4_difference_16 (lv_at hl 5 rfl) ?_
      refine lv_aload_n hx hb dX4_difference_18 rfl (lv_at hl 3 rfl) ?_
      refine g_VI (As := [.int (nI c), .int (nI n), .ref (ad 1)]) (rest := [.int x4]) ⟨hx, hb, hml, hown, hts⟩ hG hN (i := 12) (by decide) rfl rfl (c_X2_printed l c n (by omega) (by omega)) (cwV 3 hts gX4_difference_X2_printed rfl rfl rfl (by decide +kernel) ⟨Nat.le_of_ble_eq_true rfl, Nat.le_of_ble_eq_true rfl⟩) rfl hl.1 rfl (Nat.le_of_ble_eq_true rfl) dX4_difference_19 ⟨Nat.le_of_ble_eq_true rfl, Nat.le_of_ble_eq_true rfl⟩ (fun H locs hN => ?_)
      refine lv_aload_n hx hb dX4_difference_22 rfl (lv_at hl 0 rfl) ?_
      refine gf_37_0 hx hb hts hin_4 hown hG hN hk_11 dX4_difference_23 ?_
      refine lv_iload hx hb dX4_difference_26 (lv_at hl 5 rfl) ?_
      refine g_aald hx hb hG hN (i := 38) (n := 4) (j := n) (b := 39) (by decide) rfl (by decide) (by omega) rfl dX4_difference_28 ?_
      refine lv_iload_n hx hb dX4_difference_29 rfl (lv_at hl 1 rfl) ?_
      refine g_iald hx hb hG hN (i := (39 + n)) (n := 64) (j := c) (by omega) (gC_r39 (by omega) _) (by decide) (by omega) rfl dX4_difference_30 ?_
      refine lv_isub hx hb dX4_difference_31 ?_
      refine va_mabs hx hb (hml.trans hl.1.symm) hown hm1abs hm2abs hm3 hm4abs (Nat.le_of_ble_eq_true rfl) (Nat.le_of_ble_eq_true rfl) (Nat.le_of_ble_eq_true rfl) (Nat.le_of_ble_eq_true rfl) dX4_difference_32 ?_
      refine lv_iadd hx hb dX4_difference_35 ?_
      refine lv_istore (lv' := [(4, .int (x4 + (if 0 ≤ ((cCurve (F (14 + n) c) (F 2 n)) - (F (39 + n) c)) then ((cCurve (F (14 + n) c) (F 2 n)) - (F (39 + n) c)) else 0 - ((cCurve (F (14 + n) c) (F 2 n)) - (F (39 + n) c))))), (0, .ref (ad 37)), (1, .int (nI c)), (2, .ref (ad 12)), (3, .ref (ad 1)), (5, .int (nI n))]) hx hb dX4_difference_36 hl (by decide) rfl (fun ls hl => ?_)
      refine lv_iinc (v := (nI (n + 1))) (lv' := [(5, .int (nI (n + 1))), (4, .int (x4 + (if 0 ≤ ((cCurve (F (14 + n) c) (F 2 n)) - (F (39 + n) c)) then ((cCurve (F (14 + n) c) (F 2 n)) - (F (39 + n) c)) else 0 - ((cCurve (F (14 + n) c) (F 2 n)) - (F (39 + n) c))))), (0, .ref (ad 37)), (1, .int (nI c)), (2, .ref (ad 12)), (3, .ref (ad 1))]) hx hb dX4_difference_38 hl (k := 5) rfl (nI_1 _) (by decide) rfl (fun ls hl => ?_)
      refine lv_goto (tgt := 6) hx hb dX4_difference_41 (by decide) ?_
      exact ih6 (n + 1) (x4 + (if 0 ≤ ((cCurve (F (14 + n) c) (F 2 n)) - (F (39 + n) c)) then ((cCurve (F (14 + n) c) (F 2 n)) - (F (39 + n) c)) else 0 - ((cCurve (F (14 + n) c) (F 2 n)) - (F (39 + n) c)))) _ _ ls (by omega) (by omega) (by rw [e4]; rfl) hN (lv_sub hl [2, 3, 4, 5, 1, 0] rfl)
  exact L1 _ 0 0 _ _ ls (rfl) (by omega) (rfl) hN (lv_sub hl [2, 3, 4, 5, 1, 0] rfl)
