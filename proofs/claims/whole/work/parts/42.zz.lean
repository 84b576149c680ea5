set_option maxHeartbeats 4000000 in
set_option maxRecDepth 100000 in
theorem c_X8_carryOut (l : Launch) {D : va_G} {ad : Nat → Nat} {cs : Nat → ClassId} {zd : Nat → Nat} {F V : gF} {o : gO} {sz : Nat}  (n : Nat) (hn : V 3 3 = nI n) (hn2 : n ≤ 60) : Met l yX8_carryOut wsX8_carryOut ({ frames := 7, cells := 0, slots := 0, locals := 159 } : Room) (gPc D ad cs zd F V o sz [.ref (ad 3), .ref (ad 1)]) (gQi D ad cs sz (fun r9 u9 => qApp F V o n r9 u9)) 0 0 (gX ad sz) := by
  refine g_met (Qc := fun z0 => gQi D ad cs z0 (fun r9 u9 => qApp F V o n r9 u9)) (cc := cX8_carryOut) (maxL := 3) (ret := (some .int)) (own := RX8) (by decide +kernel) rfl rfl (Nat.le_of_ble_eq_true rfl) ?_
  intro p0 e0 s0 m0 b0 k0 c0 hx hb hr hts hown hlocks hml hG hN ls hl
  have hl : lv_has ls 3 [(0, .ref (ad 3)), (1, .ref (ad 1))] := hl
  have hin_8 : ∀ w ∈ wsX80, w ∈ wsX8_carryOut := by decide +kernel
  have hk_22 := hts (.fieldLink RX8 22 "GravureHouse$Script" "length" "I") (by decide +kernel)
  refine lv_aload_n hx hb dX8_carryOut_0 rfl (lv_at hl 0 rfl) ?_
  refine g_Vv (As := []) (rest := []) ⟨hx, hb, hml, hown, hts⟩ hG hN (i := 3) (by decide) rfl rfl (c_X8_split l n hn hn2) (cwV 0 hts gX8_carryOut_X8_split rfl rfl rfl (by decide +kernel) ⟨Nat.le_of_ble_eq_true rfl, Nat.le_of_ble_eq_true rfl⟩) rfl hl.1 rfl (Nat.le_of_ble_eq_true rfl) dX8_carryOut_1 ⟨Nat.le_of_ble_eq_true rfl, Nat.le_of_ble_eq_true rfl⟩ (fun Fq2 Vq3 oq4 H locs hq5 hN => ?_)
  have ho9 : o = oq4 := hq5.1.symm
  subst ho9
  obtain ⟨N, hNn, hV9, hP9, hE9⟩ := hq5.2.2
  have hF9 := hq5.2.1
  dsimp only at hV9 hP9 hF9
  subst hV9
  have e4 : Fq2 4 = F 4 := hF9 4 (by decide) (by decide)
  have hP4 : qPar Fq2 (Fq2 4) n N := by rw [e4]; exact hP9
  have hE4 : ¬ qHas (Fq2 4) n N := by rw [e4]; exact hE9
  refine lv_aload_n hx hb dX8_carryOut_4 rfl (lv_at hl 0 rfl) ?_
  refine g_VI (As := []) (rest := []) ⟨hx, hb, hml, hown, hts⟩ hG hN (i := 3) (by decide) rfl rfl (c_X8_checkParts l n N hn2 rfl hP4 hE4 hNn) (cwV 0 hts gX8_carryOut_X8_checkParts rfl rfl rfl (by decide +kernel) ⟨Nat.le_of_ble_eq_true rfl, Nat.le_of_ble_eq_true rfl⟩) rfl hl.1 rfl (Nat.le_of_ble_eq_true rfl) dX8_carryOut_5 ⟨Nat.le_of_ble_eq_true rfl, Nat.le_of_ble_eq_true rfl⟩ (fun H locs hN => ?_)
  refine g_top (y := (qRun (F 4) n 64 0 0)) (by rw [e4]) ?_
  refine lv_istore_n (lv' := [(2, .int (qRun (F 4) n 64 0 0)), (0, .ref (ad 3)), (1, .ref (ad 1))]) hx hb dX8_carryOut_8 rfl hl (by decide) rfl (fun ls hl => ?_)
  refine lv_iload_n hx hb dX8_carryOut_9 rfl (lv_at hl 0 rfl) ?_
  refine lv_if_le (tgt := 18) hx hb dX8_carryOut_10 (by decide) (fun c6 => ?_) (fun c6 => ?_)
  · refine lv_aload_n hx hb dX8_carryOut_18 rfl (lv_at hl 1 rfl) ?_
    refine lv_iconst (v := 0) hx hb dX8_carryOut_19 (by decide) ?_
    refine gp_3_3 hx hb hts hin_8 hown hG hN hk_22 dX8_carryOut_20 (fun H locs hN => ?_)
    refine lv_iload_n hx hb dX8_carryOut_23 rfl (lv_at hl 0 rfl) ?_
    exact g_ri hx hb hr hlocks hN (⟨rfl, rfl, Fq2, N, hF9, hNn, fun z => ⟨by rw [qRun_le0 z c6], by rw [qRun_le0 z c6]⟩, fun _ => ⟨rfl, rfl⟩⟩) dX8_carryOut_24
  · have hfin9 := qRun_gt0 hn2 c6
    refine lv_aload_n hx hb dX8_carryOut_13 rfl (lv_at hl 1 rfl) ?_
    refine lv_aload_n hx hb dX8_carryOut_14 rfl (lv_at hl 2 rfl) ?_
    refine g_VV (As := [.ref (ad 1)]) (rest := []) ⟨hx, hb, hml, hown, hts⟩ hG hN (i := 3) (by decide) rfl rfl (c_X8_setParts l n N hn2 rfl hP4 hE4 hNn (by rw [e4]; exact hfin9)) (cwV 1 hts gX8_carryOut_X8_setParts rfl rfl rfl (by decide +kernel) ⟨Nat.le_of_ble_eq_true rfl, Nat.le_of_ble_eq_true rfl⟩) rfl hl.1 rfl (Nat.le_of_ble_eq_true rfl) dX8_carryOut_15 ⟨Nat.le_of_ble_eq_true rfl, Nat.le_of_ble_eq_true rfl⟩ (fun H locs hN => ?_)
    refine lv_aload_n hx hb dX8_carryOut_18 rfl (lv_at hl 1 rfl) ?_
    refine lv_iconst (v := 0) hx hb dX8_carryOut_19 (by decide) ?_
    refine gp_3_3 hx hb hts hin_8 hown hG hN hk_22 dX8_carryOut_20 (fun H locs hN => ?_)
    refine lv_iload_n hx hb dX8_carryOut_23 rfl (lv_at hl 0 rfl) ?_
    exact g_ri hx hb hr hlocks hN (⟨rfl, rfl, Fq2, N, hF9, hNn, fun _ => ⟨by rw [e4], by rw [e4]⟩, fun z => absurd (z.symm.trans hfin9) (by decide)⟩) dX8_carryOut_24
set_option maxHeartbeats 4000000 in
set_option maxRecDepth 100000 in
theorem c_X9_apply (l : Launch) {D : va_G} {ad : Nat → Nat} {cs : Nat → ClassId} {zd : Nat → Nat} {F V : gF} {o : gO} {sz : Nat}  (n : Nat) (hn : V 3 3 = nI n) (hn2 : n ≤ 60) : Met l yX9_apply wsX9_apply ({ frames := 8, cells := 0, slots := 0, locals := 181 } : Room) (gPc D ad cs zd F V o sz [.ref (ad 0)]) (gQi D ad cs sz (fun r9 u9 => qApp F V o n r9 u9)) 0 0 (gX ad sz) := by
  refine g_met (Qc := fun z0 => gQi D ad cs z0 (fun r9 u9 => qApp F V o n r9 u9)) (cc := cX9_apply) (maxL := 1) (ret := (some .int)) (own := RX9) (by decide +kernel) rfl rfl (Nat.le_of_ble_eq_true rfl) ?_
  intro p0 e0 s0 m0 b0 k0 c0 hx hb hr hts hown hlocks hml hG hN ls hl
  have hl : lv_has ls 1 [(0, .ref (ad 0))] := hl
  have hin_9 : ∀ w ∈ wsX90, w ∈ wsX9_apply := by decide +kernel
  have hk_19 := hts (.fieldLink RX9 19 "GravureHouse" "script" "LGravureHouse$Script;") (by decide +kernel)
  have hk_10 := hts (.fieldLink RX9 10 "GravureHouse" "rules" "LGravureHouse$Rules;") (by decide +kernel)
  refine lv_aload_n hx hb dX9_apply_0 rfl (lv_at hl 0 rfl) ?_
  refine gf_0_1 hx hb hts hin_9 hown hG hN hk_19 dX9_apply_1 ?_
  refine lv_aload_n hx hb dX9_apply_4 rfl (lv_at hl 0 rfl) ?_
  refine gf_0_0 hx hb hts hin_9 hown hG hN hk_10 dX9_apply_5 ?_
  refine g_Vi (As := [.ref (ad 1)]) (rest := []) ⟨hx, hb, hml, hown, hts⟩ hG hN (i := 3) (by decide) rfl rfl (c_X8_carryOut l n hn hn2) (cwV 1 hts gX9_apply_X8_carryOut rfl rfl rfl (by decide +kernel) ⟨Nat.le_of_ble_eq_true rfl, Nat.le_of_ble_eq_true rfl⟩) rfl hl.1 rfl (Nat.le_of_ble_eq_true rfl) dX9_apply_8 ⟨Nat.le_of_ble_eq_true rfl, Nat.le_of_ble_eq_true rfl⟩ (fun r1 Fq2 Vq3 oq4 H locs hq5 hN => ?_)
  exact g_ri hx hb hr hlocks hN (hq5) dX9_apply_11
