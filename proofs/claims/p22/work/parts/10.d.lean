set_option maxHeartbeats 4000000 in
set_option maxRecDepth 100000 in
theorem c_X9_copy (l : Launch) (hl9 : l.stackTraces = false) {D : va_G} {ad : Nat → Nat} {cs : Nat → ClassId} {zd : Nat → Nat} {F V : gF} {o : gO} {sz : Nat} (j w : Int32) (N : Nat) (hN3 : V 33 3 = nI N) (hN4 : N ≤ 200) (hz35 : ∀ j, narrow .boolean (.int (F 35 j)) = .int (F 35 j)) : vx_Met l yX9_copy wsX9_copy ({ frames := 7, cells := 2, slots := 12, locals := 112 } : Room) (gPc D ad cs zd F V o sz [.ref (ad 0), .int j, .int w]) (gQi D ad cs sz (fun r9 u9 => fCop V j w = 0 ∧ r9 = rCop F j.toNatClampNeg w.toNatClampNeg ∧ u9 = (F, V, o))) (gXC D ad cs F V o (fun a => (a = gE0 ∧ fCop V j w = 1) ∨ (a = gE1 ∧ fCop V j w = 2)) sz) 2 12 (gX ad sz) := by
  refine g_metX (Qc := fun z0 => gQi D ad cs z0 (fun r9 u9 => fCop V j w = 0 ∧ r9 = rCop F j.toNatClampNeg w.toNatClampNeg ∧ u9 = (F, V, o))) (XC := fun z0 => gXC D ad cs F V o (fun a => (a = gE0 ∧ fCop V j w = 1) ∨ (a = gE1 ∧ fCop V j w = 2)) z0) (cc := cX9_copy) (maxL := 3) (ret := (some .int)) (own := RX9) (by decide +kernel) rfl rfl (Nat.le_of_ble_eq_true rfl) ?_
  intro p0 e0 s0 m0 b0 k0 c0 hx hb hr hts hown hlocks hml hout hG hN ls hl
  have hl : lv_has ls 3 [(0, .ref (ad 0)), (1, .int j), (2, .int w)] := hl
  have hin_9 : ∀ w ∈ wsX90, w ∈ wsX9_copy := by decide +kernel
  have hk_54 := hts (.fieldLink RX9 54 "GravureHouse" "work" "LGravureHouse$Job;") (by decide +kernel)
  refine lv_iload_n hx hb dX9_copy_0 rfl (lv_at hl 1 rfl) ?_
  refine lv_aload_n hx hb dX9_copy_1 rfl (lv_at hl 0 rfl) ?_
  refine gf_0_6 hx hb hts hin_9 hown hG hN hk_54 dX9_copy_2 ?_
  refine g_VI (As := []) (rest := [.int j]) ⟨hx, hb, hml, hown, hts⟩ hG hN (i := 33) (by decide) rfl rfl (c_X0_copies l ) (cwV 0 hts gX9_copy_X0_copies rfl rfl rfl (by decide +kernel) ⟨Nat.le_of_ble_eq_true rfl, Nat.le_of_ble_eq_true rfl⟩) rfl hl.1 rfl (Nat.le_of_ble_eq_true rfl) dX9_copy_5 ⟨Nat.le_of_ble_eq_true rfl, Nat.le_of_ble_eq_true rfl⟩ (fun H locs hN => ?_)
  refine g_xS (As := [.int j, .int (V 33 3)]) (rest := []) ⟨hx, hb, hml, hown, hts⟩ hG hN (c_X9_needIndex l hl9 j (V 33 3)) (va_cwS 2 hts gX9_copy_X9_needIndex rfl rfl rfl (by decide +kernel) ⟨Nat.le_of_ble_eq_true rfl, Nat.le_of_ble_eq_true rfl⟩) rfl hl.1 rfl (Nat.le_of_ble_eq_true rfl) dX9_copy_8 ⟨Nat.le_of_ble_eq_true rfl, Nat.le_of_ble_eq_true rfl⟩ hout hlocks (fun a h => Or.inl ⟨h.1, by simp [fCop, h.2]⟩) ⟨by omega, by omega⟩ (fun Fq2 Vq3 oq4 H locs h1 hN => ?_)
  obtain ⟨eq9, h1⟩ := h1
  cases eq9
  obtain ⟨i, hi, ei⟩ := gIdx_n N hN3 (by omega) h1
  subst ei
  refine lv_iload_n hx hb dX9_copy_11 rfl (lv_at hl 2 rfl) ?_
  refine lv_iconst (v := 0) hx hb dX9_copy_12 (by decide) ?_
  refine lv_iconst (v := 1) hx hb dX9_copy_13 (by decide) ?_
  refine g_xS (As := [.int w, .int 0, .int 1]) (rest := []) ⟨hx, hb, hml, hown, hts⟩ hG hN (c_X9_needRange l hl9 w 0 1) (va_cwS 3 hts gX9_copy_X9_needRange rfl rfl rfl (by decide +kernel) ⟨Nat.le_of_ble_eq_true rfl, Nat.le_of_ble_eq_true rfl⟩) rfl hl.1 rfl (Nat.le_of_ble_eq_true rfl) dX9_copy_14 ⟨Nat.le_of_ble_eq_true rfl, Nat.le_of_ble_eq_true rfl⟩ hout hlocks (fun a h => Or.inr (⟨h.1, by simp [fCop, h.2, h1]⟩)) ⟨by omega, by omega⟩ (fun Fq6 Vq7 oq8 H locs h5 hN => ?_)
  obtain ⟨eq9, h5⟩ := h5
  cases eq9
  obtain ⟨q, hq, eq⟩ := gRng_n 1 rfl (by decide) h5
  subst eq
  refine lv_iload_n hx hb dX9_copy_17 rfl (lv_at hl 2 rfl) ?_
  refine g_ifN_ne (a := q) (tgt := 38) hx hb dX9_copy_18 (by decide) rfl (by omega) (fun c9 => ?_) (fun c9 => ?_)
  · refine lv_aload_n hx hb dX9_copy_38 rfl (lv_at hl 0 rfl) ?_
    refine gf_0_6 hx hb hts hin_9 hown hG hN hk_54 dX9_copy_39 ?_
    refine lv_iload_n hx hb dX9_copy_42 rfl (lv_at hl 1 rfl) ?_
    refine g_VI (As := [.int (nI i)]) (rest := []) ⟨hx, hb, hml, hown, hts⟩ hG hN (i := 33) (by decide) rfl rfl (c_X0_timesPrinted l i (by omega)) (cwV 1 hts gX9_copy_X0_timesPrinted rfl rfl rfl (by decide +kernel) ⟨Nat.le_of_ble_eq_true rfl, Nat.le_of_ble_eq_true rfl⟩) rfl hl.1 rfl (Nat.le_of_ble_eq_true rfl) dX9_copy_43 ⟨Nat.le_of_ble_eq_true rfl, Nat.le_of_ble_eq_true rfl⟩ (fun H locs hN => ?_)
    exact vx_ret <| g_ri hx hb hr hlocks hN (⟨by simp [fCop, h1, h5], by rw [nI_clamp (show i < 2 ^ 31 by omega), nI_clamp (show q < 2 ^ 31 by omega)]; simp [rCop, c9, Nat.ne_of_gt c9], rfl⟩) dX9_copy_46
  · refine lv_aload_n hx hb dX9_copy_21 rfl (lv_at hl 0 rfl) ?_
    refine gf_0_6 hx hb hts hin_9 hown hG hN hk_54 dX9_copy_22 ?_
    refine lv_iload_n hx hb dX9_copy_25 rfl (lv_at hl 1 rfl) ?_
    refine g_VI (As := [.int (nI i)]) (rest := []) ⟨hx, hb, hml, hown, hts⟩ hG hN (i := 33) (by decide) rfl rfl (c_X0_isGood l i (by omega) (hz35 _)) (cwV 1 hts gX9_copy_X0_isGood rfl rfl rfl (by decide +kernel) ⟨Nat.le_of_ble_eq_true rfl, Nat.le_of_ble_eq_true rfl⟩) rfl hl.1 rfl (Nat.le_of_ble_eq_true rfl) dX9_copy_26 ⟨Nat.le_of_ble_eq_true rfl, Nat.le_of_ble_eq_true rfl⟩ (fun H locs hN => ?_)
    refine lv_if_eq (tgt := 36) hx hb dX9_copy_29 (by decide) (fun c10 => ?_) (fun c10 => ?_)
    · refine lv_iconst (v := 0) hx hb dX9_copy_36 (by decide) ?_
      exact vx_ret <| g_ri hx hb hr hlocks hN (⟨by simp [fCop, h1, h5], by rw [nI_clamp (show i < 2 ^ 31 by omega), nI_clamp (show q < 2 ^ 31 by omega)]; simp [rCop, c9, c10], rfl⟩) dX9_copy_37
    · refine lv_iconst (v := 1) hx hb dX9_copy_32 (by decide) ?_
      refine lv_goto (tgt := 37) hx hb dX9_copy_33 (by decide) ?_
      exact vx_ret <| g_ri hx hb hr hlocks hN (⟨by simp [fCop, h1, h5], by rw [nI_clamp (show i < 2 ^ 31 by omega), nI_clamp (show q < 2 ^ 31 by omega)]; simp [rCop, c9, c10], rfl⟩) dX9_copy_37
theorem gAt_X9_print_2 : ∀ w ∈ (vx_atS RX9 96 gE2 ["java/lang/RuntimeException", "java/lang/Exception"]).filter goodWord, w ∈ wsX9_print := by decide +kernel
set_option maxHeartbeats 4000000 in
set_option maxRecDepth 100000 in
theorem c_X9_print (l : Launch) (hl9 : l.stackTraces = false) {D : va_G} {ad : Nat → Nat} {cs : Nat → ClassId} {zd : Nat → Nat} {F V : gF} {o : gO} {sz : Nat} (n : Int32) (b : Nat) (hok : cOK F V b) (hb9 : b + 100 ≤ 2 ^ 30) : vx_Met l yX9_print wsX9_print ({ frames := 7, cells := 2, slots := 12, locals := 112 } : Room) (gPc D ad cs zd F V o sz [.ref (ad 0), .int n]) (gQi D ad cs sz (fun r9 u9 => fPri V n = 0 ∧ r9 = (xIt F V (cEven F) n.toNatClampNeg).2.2 ∧ u9 = ((xIt F V (cEven F) n.toNatClampNeg).1, (xIt F V (cEven F) n.toNatClampNeg).2.1, o))) (gXC D ad cs F V o (fun a => (a = gE1 ∧ fPri V n = 1) ∨ (a = gE2 ∧ fPri V n = 2)) sz) 2 12 (gX ad sz) := by
  refine g_metX (Qc := fun z0 => gQi D ad cs z0 (fun r9 u9 => fPri V n = 0 ∧ r9 = (xIt F V (cEven F) n.toNatClampNeg).2.2 ∧ u9 = ((xIt F V (cEven F) n.toNatClampNeg).1, (xIt F V (cEven F) n.toNatClampNeg).2.1, o))) (XC := fun z0 => gXC D ad cs F V o (fun a => (a = gE1 ∧ fPri V n = 1) ∨ (a = gE2 ∧ fPri V n = 2)) z0) (cc := cX9_print) (maxL := 6) (ret := (some .int)) (own := RX9) (by decide +kernel) rfl rfl (Nat.le_of_ble_eq_true rfl) ?_
  intro p0 e0 s0 m0 b0 k0 c0 hx hb hr hts hown hlocks hml hout hG hN ls hl
  have hl : lv_has ls 6 [(0, .ref (ad 0)), (1, .int n)] := hl
  have hin_9 : ∀ w ∈ wsX90, w ∈ wsX9_print := by decide +kernel
  have hat_2 : ∀ w9 ∈ (vx_atS RX9 96 gE2 ["java/lang/RuntimeException", "java/lang/Exception"]).filter goodWord, w9.before ([.ref (ad 0), .int n] : List Value).toArray s0 = true := fun w9 hw => hts w9 (gAt_X9_print_2 w9 hw)
  have hk_47 := hts (.fieldLink RX9 47 "GravureHouse" "press" "LGravureHouse$Press;") (by decide +kernel)
  have hk_33 := hts (.fieldLink RX9 33 "GravureHouse" "plateSet" "LGravureHouse$PlateSet;") (by decide +kernel)
  have hk_40 := hts (.fieldLink RX9 40 "GravureHouse" "registers" "LGravureHouse$Registers;") (by decide +kernel)
  have hk_10 := hts (.fieldLink RX9 10 "GravureHouse" "rules" "LGravureHouse$Rules;") (by decide +kernel)
  have hk_54 := hts (.fieldLink RX9 54 "GravureHouse" "work" "LGravureHouse$Job;") (by decide +kernel)
  have hn1_2 := hts (.classLink RX9 92 gE2) (by decide +kernel)
  have hn2_2 := hts (.initialized gE2) (by decide +kernel)
  refine lv_iload_n hx hb dX9_print_0 rfl (lv_at hl 1 rfl) ?_
  refine lv_iconst (v := 1) hx hb dX9_print_1 (by decide) ?_
  refine lv_bipush (v := 100) hx hb dX9_print_2 (by decide) ?_
  refine g_xS (As := [.int n, .int 1, .int 100]) (rest := []) ⟨hx, hb, hml, hown, hts⟩ hG hN (c_X9_needRange l hl9 n 1 100) (va_cwS 3 hts gX9_print_X9_needRange rfl rfl rfl (by decide +kernel) ⟨Nat.le_of_ble_eq_true rfl, Nat.le_of_ble_eq_true rfl⟩) rfl hl.1 rfl (Nat.le_of_ble_eq_true rfl) dX9_print_4 ⟨Nat.le_of_ble_eq_true rfl, Nat.le_of_ble_eq_true rfl⟩ hout hlocks (fun a h => Or.inl (⟨h.1, by simp [fPri, h.2]⟩)) ⟨by omega, by omega⟩ (fun Fq2 Vq3 oq4 H locs h1 hN => ?_)
  obtain ⟨eq9, h1⟩ := h1
  cases eq9
  obtain ⟨j, hj, ej⟩ := gRng_n1 100 rfl (by decide) h1
  subst ej
  refine lv_aload_n hx hb dX9_print_7 rfl (lv_at hl 0 rfl) ?_
  refine gf_0_5 hx hb hts hin_9 hown hG hN hk_47 dX9_print_8 ?_
  refine g_VI (As := []) (rest := []) ⟨hx, hb, hml, hown, hts⟩ hG hN (i := 27) (by decide) rfl rfl (c_X3_printed l ) (cwV 0 hts gX9_print_X3_printed rfl rfl rfl (by decide +kernel) ⟨Nat.le_of_ble_eq_true rfl, Nat.le_of_ble_eq_true rfl⟩) rfl hl.1 rfl (Nat.le_of_ble_eq_true rfl) dX9_print_11 ⟨Nat.le_of_ble_eq_true rfl, Nat.le_of_ble_eq_true rfl⟩ (fun H locs hN => ?_)
  refine lv_iload_n hx hb dX9_print_14 rfl (lv_at hl 1 rfl) ?_
  refine lv_iadd hx hb dX9_print_15 ?_
  refine lv_sipush (v := 20000) hx hb dX9_print_16 (by decide) ?_
  refine lv_icmp_le (tgt := 32) hx hb dX9_print_19 (by decide) (fun c5 => ?_) (fun c5 => ?_)
  · refine lv_aload_n hx hb dX9_print_32 rfl (lv_at hl 0 rfl) ?_
    refine gf_0_5 hx hb hts hin_9 hown hG hN hk_47 dX9_print_33 ?_
    refine lv_aload_n hx hb dX9_print_36 rfl (lv_at hl 0 rfl) ?_
    refine gf_0_3 hx hb hts hin_9 hown hG hN hk_33 dX9_print_37 ?_
    refine g_VI (As := [.ref (ad 12)]) (rest := []) ⟨hx, hb, hml, hown, hts⟩ hG hN (i := 27) (by decide) rfl rfl (c_X3_densitiesRight l ) (cwV 1 hts gX9_print_X3_densitiesRight rfl rfl rfl (by decide +kernel) ⟨Nat.le_of_ble_eq_true rfl, Nat.le_of_ble_eq_true rfl⟩) rfl hl.1 rfl (Nat.le_of_ble_eq_true rfl) dX9_print_40 ⟨Nat.le_of_ble_eq_true rfl, Nat.le_of_ble_eq_true rfl⟩ (fun H locs hN => ?_)
    refine lv_istore_n (lv' := [(2, .int (if cEven F then 1 else 0)), (0, .ref (ad 0)), (1, .int (nI j))]) hx hb dX9_print_43 rfl hl (by decide) rfl (fun ls hl => ?_)
    refine lv_iconst (v := 0) hx hb dX9_print_44 (by decide) ?_
    refine lv_istore_n (lv' := [(3, .int 0), (2, .int (if cEven F then 1 else 0)), (0, .ref (ad 0)), (1, .int (nI j))]) hx hb dX9_print_45 rfl hl (by decide) rfl (fun ls hl => ?_)
    refine lv_iconst (v := 0) hx hb dX9_print_46 (by decide) ?_
    refine lv_istore (lv' := [(4, .int 0), (3, .int 0), (2, .int (if cEven F then 1 else 0)), (0, .ref (ad 0)), (1, .int (nI j))]) hx hb dX9_print_47 hl (by decide) rfl (fun ls hl => ?_)
    have L6 : ∀ (d9_49 : Nat) (n : Nat) (F1 : gF) (V1 : gF) (x3 : Int32) (H : Heap) (locs : List Loc) (ls : Array Slot), j - n = d9_49 → (n ≤ j) → (F1 = (xIt F V (cEven F) n).1) → (V1 = (xIt F V (cEven F) n).2.1) → (x3 = (xIt F V (cEven F) n).2.2) → gN D ad cs s0 F1 V1 o H locs → lv_has ls 6 [(0, .ref (ad 0)), (1, .int (nI j)), (2, .int (if cEven F then 1 else 0)), (3, .int x3), (4, .int (nI n))] → W p0 l e0 ({ frames := 7, cells := 2, slots := 12, locals := 112 } : Room) s0 m0 ([.ref (ad 0), .int (nI j)] : List Value).toArray b0 k0 c0 H locs 1 6 (vx_MQ b0 (gQi D ad cs s0.heap.size (fun r9 u9 => fPri V (nI j) = 0 ∧ r9 = (xIt F V (cEven F) (nI j).toNatClampNeg).2.2 ∧ u9 = ((xIt F V (cEven F) (nI j).toNatClampNeg).1, (xIt F V (cEven F) (nI j).toNatClampNeg).2.1, o))) (gXC D ad cs F V o (fun a => (a = gE1 ∧ fPri V (nI j) = 1) ∨ (a = gE2 ∧ fPri V (nI j) = 2)) s0.heap.size) ([.ref (ad 0), .int (nI j)] : List Value).toArray s0 2 12 (gX ad s0.heap.size)) (F0 m0 49 ls []) := by
      intro d9_49
      induction d9_49 with
      | zero =>
        intro n F1 V1 x3 H locs ls hd_49 hn e1 e2 e3 hN hl
        refine lv_iload hx hb dX9_print_49 (lv_at hl 4 rfl) ?_
        refine lv_iload_n hx hb dX9_print_51 rfl (lv_at hl 1 rfl) ?_
        refine g_cN_ge (a := n) (b := j) (tgt := 99) hx hb dX9_print_52 (by decide) rfl rfl (by omega) (by omega) (fun c7 => ?_) (fun c7 => absurd c7 (by omega))
        refine lv_iload_n hx hb dX9_print_99 rfl (lv_at hl 3 rfl) ?_
        refine W.widen (k := 2) (n := 12) (by omega) (by omega) ?_
        exact vx_ret <| g_ri hx hb hr hlocks hN (⟨by simp [fPri, h1, c5, Int32.not_lt.mpr c5], by rw [nI_clamp (show j < 2 ^ 31 by omega), e3, show n = j by omega], by rw [nI_clamp (show j < 2 ^ 31 by omega), e1, e2, show n = j by omega]⟩) dX9_print_100
      | succ d9_49 ih49 =>
        intro n F1 V1 x3 H locs ls hd_49 hn e1 e2 e3 hN hl
        refine lv_iload hx hb dX9_print_49 (lv_at hl 4 rfl) ?_
        refine lv_iload_n hx hb dX9_print_51 rfl (lv_at hl 1 rfl) ?_
        refine g_cN_ge (a := n) (b := j) (tgt := 99) hx hb dX9_print_52 (by decide) rfl rfl (by omega) (by omega) (fun c8 => absurd c8 (by omega)) (fun c8 => ?_)
        have hok1 : cOK F1 V1 (b + n) := by rw [e1, e2]; exact xIt_ok hok n (by omega)
        obtain ⟨⟨t, ht2, ht, hu⟩, ⟨pr, hpr2, hpr⟩, h, w, hh2, hw2, hh, hw, hr9⟩ := hok1
        refine lv_aload_n hx hb dX9_print_55 rfl (lv_at hl 0 rfl) ?_
        refine gf_0_5 hx hb hts hin_9 hown hG hN hk_47 dX9_print_56 ?_
        refine lv_aload_n hx hb dX9_print_59 rfl (lv_at hl 0 rfl) ?_
        refine gf_0_4 hx hb hts hin_9 hown hG hN hk_40 dX9_print_60 ?_
        refine lv_aload_n hx hb dX9_print_63 rfl (lv_at hl 0 rfl) ?_
        refine gf_0_0 hx hb hts hin_9 hown hG hN hk_10 dX9_print_64 ?_
        refine g_VI (As := []) (rest := [.ref (ad 18), .ref (ad 27)]) ⟨hx, hb, hml, hown, hts⟩ hG hN (i := 1) (by decide) rfl rfl (c_X7_tolerance l ) (cwV 0 hts gX9_print_X7_tolerance rfl rfl rfl (by decide +kernel) ⟨Nat.le_of_ble_eq_true rfl, Nat.le_of_ble_eq_true rfl⟩) rfl hl.1 rfl (Nat.le_of_ble_eq_true rfl) dX9_print_67 ⟨Nat.le_of_ble_eq_true rfl, Nat.le_of_ble_eq_true rfl⟩ (fun H locs hN => ?_)
        refine lv_iload_n hx hb dX9_print_70 rfl (lv_at hl 2 rfl) ?_
        refine g_VI (As := [.ref (ad 18), .int (V1 1 3), .int (if cEven F then 1 else 0)]) (rest := []) ⟨hx, hb, hml, hown, hts⟩ hG hN (i := 27) (by decide) rfl rfl (c_X3_run l (V1 1 3) (cEven F) pr t (by omega) hpr ht ht2 hu) (cwV 3 hts gX9_print_X3_run rfl rfl rfl (by decide +kernel) ⟨Nat.le_of_ble_eq_true rfl, Nat.le_of_ble_eq_true rfl⟩) rfl hl.1 rfl (Nat.le_of_ble_eq_true rfl) dX9_print_71 ⟨Nat.le_of_ble_eq_true rfl, Nat.le_of_ble_eq_true rfl⟩ (fun H locs hN => ?_)
        refine lv_istore (lv' := [(5, .int (if cJudge V1 (cRight F1 (V1 1 3)) (cEven F) then 1 else 0)), (0, .ref (ad 0)), (1, .int (nI j)), (2, .int (if cEven F then 1 else 0)), (3, .int x3), (4, .int (nI n))]) hx hb dX9_print_74 hl (by decide) rfl (fun ls hl => ?_)
        refine lv_aload_n hx hb dX9_print_76 rfl (lv_at hl 1 rfl) ?_
        refine gf_0_6 hx hb hts hin_9 hown hG hN hk_54 dX9_print_77 ?_
        refine lv_iload hx hb dX9_print_80 (lv_at hl 0 rfl) ?_
        refine g_VV (As := [.int (if cJudge V1 (cRight F1 (V1 1 3)) (cEven F) then 1 else 0)]) (rest := []) ⟨hx, hb, hml, hown, hts⟩ hG hN (i := 33) (by decide) rfl rfl (c_X0_take l (xG F1 V1 (cEven F)) h w (by rw [cRunV_o (by decide) (by decide)]; exact hh) hh2 (by rw [cRunV_o (by decide) (by decide)]; exact hw) hw2 (fun _ => by rw [cRunF_o (by decide) (by decide) (by decide)]; have := hr9 0 (by omega); rw [Nat.add_zero, Nat.mod_eq_of_lt hh2] at this; exact this)) (cwV 1 hts gX9_print_X0_take rfl rfl rfl (by decide +kernel) ⟨Nat.le_of_ble_eq_true rfl, Nat.le_of_ble_eq_true rfl⟩) rfl hl.1 rfl (Nat.le_of_ble_eq_true rfl) dX9_print_82 ⟨Nat.le_of_ble_eq_true rfl, Nat.le_of_ble_eq_true rfl⟩ (fun H locs hN => ?_)
        refine lv_iload hx hb dX9_print_85 (lv_at hl 0 rfl) ?_
        refine g_ifb_eq (cJudge V1 (cRight F1 (V1 1 3)) (cEven F)) (tgt := 93) hx hb dX9_print_87 (by decide) rfl (fun c9 => ?_) (fun c9 => ?_)
        · refine lv_iinc (v := (nI (n + 1))) (lv' := [(4, .int (nI (n + 1))), (5, .int (if cJudge V1 (cRight F1 (V1 1 3)) (cEven F) then 1 else 0)), (0, .ref (ad 0)), (1, .int (nI j)), (2, .int (if cEven F then 1 else 0)), (3, .int x3)]) hx hb dX9_print_93 hl (k := 5) rfl (nI_1 _) (by decide) rfl (fun ls hl => ?_)
          refine lv_goto (tgt := 49) hx hb dX9_print_96 (by decide) ?_
          exact ih49 (n + 1) (cTakF (cRunF F1 pr t) (xG F1 V1 (cEven F)) h w) (cTakV (cRunV F1 V1 (V1 1 3) (cEven F) pr t) (xG F1 V1 (cEven F)) h w) x3 _ _ ls (by omega) (by omega) (by simp only [xIt]; rw [← e1, ← e2, xF_eq hpr ht hh hw (by omega) (by omega) (by omega) (by omega)]) (by simp only [xIt]; rw [← e1, ← e2, xV_eq hpr ht hh hw (by omega) (by omega) (by omega) (by omega)]) (by simp only [xIt]; rw [← e1, ← e2, if_neg c9, e3]) hN (lv_sub hl [2, 3, 4, 5, 0] rfl)
        · refine lv_iinc (v := (x3 + 1)) (lv' := [(3, .int (x3 + 1)), (5, .int (if cJudge V1 (cRight F1 (V1 1 3)) (cEven F) then 1 else 0)), (0, .ref (ad 0)), (1, .int (nI j)), (2, .int (if cEven F then 1 else 0)), (4, .int (nI n))]) hx hb dX9_print_90 hl (k := 4) rfl (rfl) (by decide) rfl (fun ls hl => ?_)
          refine lv_iinc (v := (nI (n + 1))) (lv' := [(4, .int (nI (n + 1))), (3, .int (x3 + 1)), (5, .int (if cJudge V1 (cRight F1 (V1 1 3)) (cEven F) then 1 else 0)), (0, .ref (ad 0)), (1, .int (nI j)), (2, .int (if cEven F then 1 else 0))]) hx hb dX9_print_93 hl (k := 5) rfl (nI_1 _) (by decide) rfl (fun ls hl => ?_)
          refine lv_goto (tgt := 49) hx hb dX9_print_96 (by decide) ?_
          exact ih49 (n + 1) (cTakF (cRunF F1 pr t) (xG F1 V1 (cEven F)) h w) (cTakV (cRunV F1 V1 (V1 1 3) (cEven F) pr t) (xG F1 V1 (cEven F)) h w) (x3 + 1) _ _ ls (by omega) (by omega) (by simp only [xIt]; rw [← e1, ← e2, xF_eq hpr ht hh hw (by omega) (by omega) (by omega) (by omega)]) (by simp only [xIt]; rw [← e1, ← e2, xV_eq hpr ht hh hw (by omega) (by omega) (by omega) (by omega)]) (by simp only [xIt]; rw [← e1, ← e2, if_pos c9, e3]) hN (lv_sub hl [3, 4, 5, 1, 0] rfl)
    exact L6 _ 0 F V 0 _ _ ls (rfl) (by omega) (rfl) (rfl) (rfl) hN (lv_sub hl [3, 4, 2, 1, 0] rfl)
  · exact g_throw hx hb hl9 (cls := gE2) (text := "too many copies") (ik := 92) (ix := 147) (ic := 96) hown (by decide) hn1_2 hn2_2 (by decide) hG hN hat_2 gBt_2 (by decide) gGd_2 (hl.1.trans hml.symm) dX9_print_22 dX9_print_25 dX9_print_26 dX9_print_28 dX9_print_31 hout ⟨Nat.le_of_ble_eq_true rfl, Nat.le_of_ble_eq_true rfl, Nat.le_of_ble_eq_true rfl, Nat.le_of_ble_eq_true rfl⟩ (Nat.le_of_ble_eq_true rfl) hlocks (Or.inr (⟨rfl, by simp [fPri, h1, c5, Int32.not_le.mp c5]⟩)) (by omega) (by omega)
