set_option maxHeartbeats 4000000 in
set_option maxRecDepth 100000 in
theorem c_X10_is (l : Launch) {D : va_G} {ad : Nat → Nat} {cs : Nat → ClassId} {zd : Nat → Nat} {F V : gF} {o : gO} {sz : Nat} (k : Nat) (a b c d e : Int32) (i : Nat) (hi : V 43 33 = nI i) (hi2 : i + k + 4 < 60) : Met l yX10_is wsX10_is ({ frames := 0, cells := 0, slots := 0, locals := 0 } : Room) (gPc D ad cs zd F V o sz [.ref (ad 43), .int (nI k), .int a, .int b, .int c, .int d, .int e]) (gQI D ad cs (if qIs (F 49) (i + k) a b c d e = true then 1 else 0) F V o sz) 0 0 (gX ad sz) := by
  refine g_met (Qc := fun z0 => gQI D ad cs (if qIs (F 49) (i + k) a b c d e = true then 1 else 0) F V o z0) (cc := cX10_is) (maxL := 7) (ret := (some .boolean)) (own := RX10) (by decide +kernel) rfl rfl (Nat.le_of_ble_eq_true rfl) ?_
  intro p0 e0 s0 m0 b0 k0 c0 hx hb hr hts hown hlocks hml hG hN ls hl
  have hl : lv_has ls 7 [(0, .ref (ad 43)), (1, .int (nI k)), (2, .int a), (3, .int b), (4, .int c), (5, .int d), (6, .int e)] := hl
  have hin_10 : ∀ w ∈ wsX100, w ∈ wsX10_is := by decide +kernel
  have hk_25 := hts (.fieldLink RX10 25 "GravureHouseModel" "sign" "[C") (by decide +kernel)
  have hk_93 := hts (.fieldLink RX10 93 "GravureHouseModel" "from" "I") (by decide +kernel)
  refine lv_aload_n hx hb dX10_is_0 rfl (lv_at hl 0 rfl) ?_
  refine gf_43_5 hx hb hts hin_10 hown hG hN hk_25 dX10_is_1 ?_
  refine lv_aload_n hx hb dX10_is_4 rfl (lv_at hl 0 rfl) ?_
  refine gf_43_33 hx hb hts hin_10 hown hG hN hk_93 dX10_is_5 ?_
  refine g_top (y := nI i) hi ?_
  refine lv_iload_n hx hb dX10_is_8 rfl (lv_at hl 1 rfl) ?_
  refine g_addN (a := i) (b := k) hx hb rfl rfl dX10_is_9 ?_
  refine g_cald hx hb hG hN (i := 49) (n := 60) (j := i + k) (by decide) rfl (by decide) (by omega) rfl dX10_is_10 ?_
  refine lv_iload_n hx hb dX10_is_11 rfl (lv_at hl 2 rfl) ?_
  refine lv_icmp_ne (tgt := 90) hx hb dX10_is_12 (by decide) (fun c1 => ?_) (fun c1 => ?_)
  · refine lv_iconst (v := 0) hx hb dX10_is_90 (by decide) ?_
    exact g_rz hx hb hr hlocks (by decide) hN (⟨by simp [qIs, c1], rfl⟩) dX10_is_91
  · refine lv_aload_n hx hb dX10_is_15 rfl (lv_at hl 0 rfl) ?_
    refine gf_43_5 hx hb hts hin_10 hown hG hN hk_25 dX10_is_16 ?_
    refine lv_aload_n hx hb dX10_is_19 rfl (lv_at hl 0 rfl) ?_
    refine gf_43_33 hx hb hts hin_10 hown hG hN hk_93 dX10_is_20 ?_
    refine g_top (y := nI i) hi ?_
    refine lv_iload_n hx hb dX10_is_23 rfl (lv_at hl 1 rfl) ?_
    refine g_addN (a := i) (b := k) hx hb rfl rfl dX10_is_24 ?_
    refine lv_iconst (v := 1) hx hb dX10_is_25 (by decide) ?_
    refine g_addN (a := i + k) (b := 1) hx hb rfl rfl dX10_is_26 ?_
    refine g_cald hx hb hG hN (i := 49) (n := 60) (j := (i + k) + 1) (by decide) rfl (by decide) (by omega) rfl dX10_is_27 ?_
    refine lv_iload_n hx hb dX10_is_28 rfl (lv_at hl 3 rfl) ?_
    refine lv_icmp_ne (tgt := 90) hx hb dX10_is_29 (by decide) (fun c2 => ?_) (fun c2 => ?_)
    · refine lv_iconst (v := 0) hx hb dX10_is_90 (by decide) ?_
      exact g_rz hx hb hr hlocks (by decide) hN (⟨by simp [qIs, c1, c2], rfl⟩) dX10_is_91
    · refine lv_aload_n hx hb dX10_is_32 rfl (lv_at hl 0 rfl) ?_
      refine gf_43_5 hx hb hts hin_10 hown hG hN hk_25 dX10_is_33 ?_
      refine lv_aload_n hx hb dX10_is_36 rfl (lv_at hl 0 rfl) ?_
      refine gf_43_33 hx hb hts hin_10 hown hG hN hk_93 dX10_is_37 ?_
      refine g_top (y := nI i) hi ?_
      refine lv_iload_n hx hb dX10_is_40 rfl (lv_at hl 1 rfl) ?_
      refine g_addN (a := i) (b := k) hx hb rfl rfl dX10_is_41 ?_
      refine lv_iconst (v := 2) hx hb dX10_is_42 (by decide) ?_
      refine g_addN (a := i + k) (b := 2) hx hb rfl rfl dX10_is_43 ?_
      refine g_cald hx hb hG hN (i := 49) (n := 60) (j := (i + k) + 2) (by decide) rfl (by decide) (by omega) rfl dX10_is_44 ?_
      refine lv_iload hx hb dX10_is_45 (lv_at hl 4 rfl) ?_
      refine lv_icmp_ne (tgt := 90) hx hb dX10_is_47 (by decide) (fun c3 => ?_) (fun c3 => ?_)
      · refine lv_iconst (v := 0) hx hb dX10_is_90 (by decide) ?_
        exact g_rz hx hb hr hlocks (by decide) hN (⟨by simp [qIs, c1, c2, c3], rfl⟩) dX10_is_91
      · refine lv_aload_n hx hb dX10_is_50 rfl (lv_at hl 0 rfl) ?_
        refine gf_43_5 hx hb hts hin_10 hown hG hN hk_25 dX10_is_51 ?_
        refine lv_aload_n hx hb dX10_is_54 rfl (lv_at hl 0 rfl) ?_
        refine gf_43_33 hx hb hts hin_10 hown hG hN hk_93 dX10_is_55 ?_
        refine g_top (y := nI i) hi ?_
        refine lv_iload_n hx hb dX10_is_58 rfl (lv_at hl 1 rfl) ?_
        refine g_addN (a := i) (b := k) hx hb rfl rfl dX10_is_59 ?_
        refine lv_iconst (v := 3) hx hb dX10_is_60 (by decide) ?_
        refine g_addN (a := i + k) (b := 3) hx hb rfl rfl dX10_is_61 ?_
        refine g_cald hx hb hG hN (i := 49) (n := 60) (j := (i + k) + 3) (by decide) rfl (by decide) (by omega) rfl dX10_is_62 ?_
        refine lv_iload hx hb dX10_is_63 (lv_at hl 5 rfl) ?_
        refine lv_icmp_ne (tgt := 90) hx hb dX10_is_65 (by decide) (fun c4 => ?_) (fun c4 => ?_)
        · refine lv_iconst (v := 0) hx hb dX10_is_90 (by decide) ?_
          exact g_rz hx hb hr hlocks (by decide) hN (⟨by simp [qIs, c1, c2, c3, c4], rfl⟩) dX10_is_91
        · refine lv_aload_n hx hb dX10_is_68 rfl (lv_at hl 0 rfl) ?_
          refine gf_43_5 hx hb hts hin_10 hown hG hN hk_25 dX10_is_69 ?_
          refine lv_aload_n hx hb dX10_is_72 rfl (lv_at hl 0 rfl) ?_
          refine gf_43_33 hx hb hts hin_10 hown hG hN hk_93 dX10_is_73 ?_
          refine g_top (y := nI i) hi ?_
          refine lv_iload_n hx hb dX10_is_76 rfl (lv_at hl 1 rfl) ?_
          refine g_addN (a := i) (b := k) hx hb rfl rfl dX10_is_77 ?_
          refine lv_iconst (v := 4) hx hb dX10_is_78 (by decide) ?_
          refine g_addN (a := i + k) (b := 4) hx hb rfl rfl dX10_is_79 ?_
          refine g_cald hx hb hG hN (i := 49) (n := 60) (j := (i + k) + 4) (by decide) rfl (by decide) (by omega) rfl dX10_is_80 ?_
          refine lv_iload hx hb dX10_is_81 (lv_at hl 6 rfl) ?_
          refine lv_icmp_ne (tgt := 90) hx hb dX10_is_83 (by decide) (fun c5 => ?_) (fun c5 => ?_)
          · refine lv_iconst (v := 0) hx hb dX10_is_90 (by decide) ?_
            exact g_rz hx hb hr hlocks (by decide) hN (⟨by simp [qIs, c1, c2, c3, c4, c5], rfl⟩) dX10_is_91
          · refine lv_iconst (v := 1) hx hb dX10_is_86 (by decide) ?_
            refine lv_goto (tgt := 91) hx hb dX10_is_87 (by decide) ?_
            exact g_rz hx hb hr hlocks (by decide) hN (⟨by simp [qIs, c1, c2, c3, c4, c5], rfl⟩) dX10_is_91
set_option maxHeartbeats 4000000 in
set_option maxRecDepth 100000 in
theorem c_X10_which (l : Launch) {D : va_G} {ad : Nat → Nat} {cs : Nat → ClassId} {zd : Nat → Nat} {F V : gF} {o : gO} {sz : Nat}  (b e : Nat) (hb0 : V 43 33 = nI b) (he0 : V 43 32 = nI e) (hbe : b ≤ e) (he2 : e ≤ 60) : Met l yX10_which wsX10_which ({ frames := 1, cells := 0, slots := 0, locals := 26 } : Room) (gPc D ad cs zd F V o sz [.ref (ad 43)]) (gQI D ad cs (qWh (F 49) b (e - b)) F V o sz) 0 0 (gX ad sz) := by
  refine g_met (Qc := fun z0 => gQI D ad cs (qWh (F 49) b (e - b)) F V o z0) (cc := cX10_which) (maxL := 4) (ret := (some .int)) (own := RX10) (by decide +kernel) rfl rfl (Nat.le_of_ble_eq_true rfl) ?_
  intro p0 e0 s0 m0 b0 k0 c0 hx hb hr hts hown hlocks hml hG hN ls hl
  have hl : lv_has ls 4 [(0, .ref (ad 43))] := hl
  have hin_10 : ∀ w ∈ wsX100, w ∈ wsX10_which := by decide +kernel
  have hk_90 := hts (.fieldLink RX10 90 "GravureHouseModel" "at" "I") (by decide +kernel)
  have hk_93 := hts (.fieldLink RX10 93 "GravureHouseModel" "from" "I") (by decide +kernel)
  have hk_25 := hts (.fieldLink RX10 25 "GravureHouseModel" "sign" "[C") (by decide +kernel)
  refine lv_aload_n hx hb dX10_which_0 rfl (lv_at hl 0 rfl) ?_
  refine gf_43_32 hx hb hts hin_10 hown hG hN hk_90 dX10_which_1 ?_
  refine g_top (y := nI e) he0 ?_
  refine lv_aload_n hx hb dX10_which_4 rfl (lv_at hl 0 rfl) ?_
  refine gf_43_33 hx hb hts hin_10 hown hG hN hk_93 dX10_which_5 ?_
  refine g_top (y := nI b) hb0 ?_
  refine g_subN (a := e) (b := b) hx hb rfl rfl (by omega) dX10_which_8 ?_
  refine lv_istore_n (lv' := [(1, .int (nI (e - b))), (0, .ref (ad 43))]) hx hb dX10_which_9 rfl hl (by decide) rfl (fun ls hl => ?_)
  refine lv_iload_n hx hb dX10_which_10 rfl (lv_at hl 0 rfl) ?_
  refine lv_iconst (v := 4) hx hb dX10_which_11 (by decide) ?_
  refine g_cN_ne (a := e - b) (b := 4) (tgt := 169) hx hb dX10_which_12 (by decide) rfl rfl (by omega) (by omega) (fun c1 => ?_) (fun c1 => ?_)
  · refine lv_iload_n hx hb dX10_which_169 rfl (lv_at hl 0 rfl) ?_
    refine lv_iconst (v := 5) hx hb dX10_which_170 (by decide) ?_
    refine g_cN_ne (a := e - b) (b := 5) (tgt := 243) hx hb dX10_which_171 (by decide) rfl rfl (by omega) (by omega) (fun c2 => ?_) (fun c2 => ?_)
    · refine lv_iload_n hx hb dX10_which_243 rfl (lv_at hl 0 rfl) ?_
      refine lv_bipush (v := 9) hx hb dX10_which_244 (by decide) ?_
      refine g_cN_ne (a := e - b) (b := 9) (tgt := 290) hx hb dX10_which_246 (by decide) rfl rfl (by omega) (by omega) (fun c3 => ?_) (fun c3 => ?_)
      · refine lv_iconst (v := (-1)) hx hb dX10_which_290 (by decide) ?_
        exact g_ri hx hb hr hlocks hN (⟨by simp [qWh, qI4, c1, c2, c3], rfl⟩) dX10_which_291
      · refine lv_aload_n hx hb dX10_which_249 rfl (lv_at hl 1 rfl) ?_
        refine lv_iconst (v := 0) hx hb dX10_which_250 (by decide) ?_
        refine lv_bipush (v := 116) hx hb dX10_which_251 (by decide) ?_
        refine lv_bipush (v := 111) hx hb dX10_which_253 (by decide) ?_
        refine lv_bipush (v := 108) hx hb dX10_which_255 (by decide) ?_
        refine lv_bipush (v := 101) hx hb dX10_which_257 (by decide) ?_
        refine lv_bipush (v := 114) hx hb dX10_which_259 (by decide) ?_
        refine g_VI (As := [.int 0, .int 116, .int 111, .int 108, .int 101, .int 114]) (rest := []) ⟨hx, hb, hml, hown, hts⟩ hG hN (i := 43) (by decide) rfl rfl (c_X10_is l 0 116 111 108 101 114 b hb0 (by omega)) (cwV 6 hts gX10_which_X10_is rfl rfl rfl (by decide +kernel) ⟨Nat.le_of_ble_eq_true rfl, Nat.le_of_ble_eq_true rfl⟩) rfl hl.1 rfl (Nat.le_of_ble_eq_true rfl) dX10_which_261 ⟨Nat.le_of_ble_eq_true rfl, Nat.le_of_ble_eq_true rfl⟩ (fun H locs hN => ?_)
        refine g_ifb_eq (qIs (F 49) b 116 111 108 101 114 = true) (tgt := 290) hx hb dX10_which_264 (by decide) rfl (fun c4 => ?_) (fun c4 => ?_)
        · refine lv_iconst (v := (-1)) hx hb dX10_which_290 (by decide) ?_
          exact g_ri hx hb hr hlocks hN (⟨by simp [qWh, qI4, c1, c2, c3, c4], rfl⟩) dX10_which_291
        · refine lv_aload_n hx hb dX10_which_267 rfl (lv_at hl 1 rfl) ?_
          refine lv_iconst (v := 4) hx hb dX10_which_268 (by decide) ?_
          refine lv_bipush (v := 114) hx hb dX10_which_269 (by decide) ?_
          refine lv_bipush (v := 97) hx hb dX10_which_271 (by decide) ?_
          refine lv_bipush (v := 110) hx hb dX10_which_273 (by decide) ?_
          refine lv_bipush (v := 99) hx hb dX10_which_275 (by decide) ?_
          refine lv_bipush (v := 101) hx hb dX10_which_277 (by decide) ?_
          refine g_VI (As := [.int 4, .int 114, .int 97, .int 110, .int 99, .int 101]) (rest := []) ⟨hx, hb, hml, hown, hts⟩ hG hN (i := 43) (by decide) rfl rfl (c_X10_is l 4 114 97 110 99 101 b hb0 (by omega)) (cwV 6 hts gX10_which_X10_is rfl rfl rfl (by decide +kernel) ⟨Nat.le_of_ble_eq_true rfl, Nat.le_of_ble_eq_true rfl⟩) rfl hl.1 rfl (Nat.le_of_ble_eq_true rfl) dX10_which_279 ⟨Nat.le_of_ble_eq_true rfl, Nat.le_of_ble_eq_true rfl⟩ (fun H locs hN => ?_)
          refine g_ifb_eq (qIs (F 49) (b + 4) 114 97 110 99 101 = true) (tgt := 290) hx hb dX10_which_282 (by decide) rfl (fun c5 => ?_) (fun c5 => ?_)
          · refine lv_iconst (v := (-1)) hx hb dX10_which_290 (by decide) ?_
            exact g_ri hx hb hr hlocks hN (⟨by simp [qWh, qI4, c1, c2, c3, c4, c5], rfl⟩) dX10_which_291
          · refine lv_bipush (v := 7) hx hb dX10_which_285 (by decide) ?_
            refine lv_goto (tgt := 291) hx hb dX10_which_287 (by decide) ?_
            exact g_ri hx hb hr hlocks hN (⟨by simp [qWh, qI4, c1, c2, c3, c4, c5], rfl⟩) dX10_which_291
    · refine lv_aload_n hx hb dX10_which_174 rfl (lv_at hl 1 rfl) ?_
      refine lv_iconst (v := 0) hx hb dX10_which_175 (by decide) ?_
      refine lv_bipush (v := 98) hx hb dX10_which_176 (by decide) ?_
      refine lv_bipush (v := 108) hx hb dX10_which_178 (by decide) ?_
      refine lv_bipush (v := 97) hx hb dX10_which_180 (by decide) ?_
      refine lv_bipush (v := 99) hx hb dX10_which_182 (by decide) ?_
      refine lv_bipush (v := 107) hx hb dX10_which_184 (by decide) ?_
      refine g_VI (As := [.int 0, .int 98, .int 108, .int 97, .int 99, .int 107]) (rest := []) ⟨hx, hb, hml, hown, hts⟩ hG hN (i := 43) (by decide) rfl rfl (c_X10_is l 0 98 108 97 99 107 b hb0 (by omega)) (cwV 6 hts gX10_which_X10_is rfl rfl rfl (by decide +kernel) ⟨Nat.le_of_ble_eq_true rfl, Nat.le_of_ble_eq_true rfl⟩) rfl hl.1 rfl (Nat.le_of_ble_eq_true rfl) dX10_which_186 ⟨Nat.le_of_ble_eq_true rfl, Nat.le_of_ble_eq_true rfl⟩ (fun H locs hN => ?_)
      refine g_ifb_eq (qIs (F 49) b 98 108 97 99 107 = true) (tgt := 196) hx hb dX10_which_189 (by decide) rfl (fun c6 => ?_) (fun c6 => ?_)
      · refine lv_aload_n hx hb dX10_which_196 rfl (lv_at hl 1 rfl) ?_
        refine lv_iconst (v := 0) hx hb dX10_which_197 (by decide) ?_
        refine lv_bipush (v := 108) hx hb dX10_which_198 (by decide) ?_
        refine lv_bipush (v := 105) hx hb dX10_which_200 (by decide) ?_
        refine lv_bipush (v := 109) hx hb dX10_which_202 (by decide) ?_
        refine lv_bipush (v := 105) hx hb dX10_which_204 (by decide) ?_
        refine lv_bipush (v := 116) hx hb dX10_which_206 (by decide) ?_
        refine g_VI (As := [.int 0, .int 108, .int 105, .int 109, .int 105, .int 116]) (rest := []) ⟨hx, hb, hml, hown, hts⟩ hG hN (i := 43) (by decide) rfl rfl (c_X10_is l 0 108 105 109 105 116 b hb0 (by omega)) (cwV 6 hts gX10_which_X10_is rfl rfl rfl (by decide +kernel) ⟨Nat.le_of_ble_eq_true rfl, Nat.le_of_ble_eq_true rfl⟩) rfl hl.1 rfl (Nat.le_of_ble_eq_true rfl) dX10_which_208 ⟨Nat.le_of_ble_eq_true rfl, Nat.le_of_ble_eq_true rfl⟩ (fun H locs hN => ?_)
        refine g_ifb_eq (qIs (F 49) b 108 105 109 105 116 = true) (tgt := 218) hx hb dX10_which_211 (by decide) rfl (fun c7 => ?_) (fun c7 => ?_)
        · refine lv_aload_n hx hb dX10_which_218 rfl (lv_at hl 1 rfl) ?_
          refine lv_iconst (v := 0) hx hb dX10_which_219 (by decide) ?_
          refine lv_bipush (v := 100) hx hb dX10_which_220 (by decide) ?_
          refine lv_bipush (v := 101) hx hb dX10_which_222 (by decide) ?_
          refine lv_bipush (v := 108) hx hb dX10_which_224 (by decide) ?_
          refine lv_bipush (v := 97) hx hb dX10_which_226 (by decide) ?_
          refine lv_bipush (v := 121) hx hb dX10_which_228 (by decide) ?_
          refine g_VI (As := [.int 0, .int 100, .int 101, .int 108, .int 97, .int 121]) (rest := []) ⟨hx, hb, hml, hown, hts⟩ hG hN (i := 43) (by decide) rfl rfl (c_X10_is l 0 100 101 108 97 121 b hb0 (by omega)) (cwV 6 hts gX10_which_X10_is rfl rfl rfl (by decide +kernel) ⟨Nat.le_of_ble_eq_true rfl, Nat.le_of_ble_eq_true rfl⟩) rfl hl.1 rfl (Nat.le_of_ble_eq_true rfl) dX10_which_230 ⟨Nat.le_of_ble_eq_true rfl, Nat.le_of_ble_eq_true rfl⟩ (fun H locs hN => ?_)
          refine g_ifb_eq (qIs (F 49) b 100 101 108 97 121 = true) (tgt := 241) hx hb dX10_which_233 (by decide) rfl (fun c8 => ?_) (fun c8 => ?_)
          · refine lv_iconst (v := (-1)) hx hb dX10_which_241 (by decide) ?_
            exact g_ri hx hb hr hlocks hN (⟨by simp [qWh, qI4, c1, c2, c6, c7, c8], rfl⟩) dX10_which_242
          · refine lv_bipush (v := 8) hx hb dX10_which_236 (by decide) ?_
            refine lv_goto (tgt := 242) hx hb dX10_which_238 (by decide) ?_
            exact g_ri hx hb hr hlocks hN (⟨by simp [qWh, qI4, c1, c2, c6, c7, c8], rfl⟩) dX10_which_242
        · refine lv_iconst (v := 1) hx hb dX10_which_214 (by decide) ?_
          refine lv_goto (tgt := 242) hx hb dX10_which_215 (by decide) ?_
          exact g_ri hx hb hr hlocks hN (⟨by simp [qWh, qI4, c1, c2, c6, c7], rfl⟩) dX10_which_242
      · refine lv_iconst (v := 0) hx hb dX10_which_192 (by decide) ?_
        refine lv_goto (tgt := 242) hx hb dX10_which_193 (by decide) ?_
        exact g_ri hx hb hr hlocks hN (⟨by simp [qWh, qI4, c1, c2, c6], rfl⟩) dX10_which_242
  · refine lv_aload_n hx hb dX10_which_15 rfl (lv_at hl 1 rfl) ?_
    refine gf_43_5 hx hb hts hin_10 hown hG hN hk_25 dX10_which_16 ?_
    refine lv_aload_n hx hb dX10_which_19 rfl (lv_at hl 1 rfl) ?_
    refine gf_43_33 hx hb hts hin_10 hown hG hN hk_93 dX10_which_20 ?_
    refine g_top (y := nI b) hb0 ?_
    refine g_cald hx hb hG hN (i := 49) (n := 60) (j := b) (by decide) rfl (by decide) (by omega) rfl dX10_which_23 ?_
    refine lv_bipush (v := 116) hx hb dX10_which_24 (by decide) ?_
    refine lv_icmp_ne (tgt := 81) hx hb dX10_which_26 (by decide) (fun c9 => ?_) (fun c9 => ?_)
    · refine lv_iconst (v := 0) hx hb dX10_which_81 (by decide) ?_
      refine lv_istore_n (lv' := [(2, .int 0), (1, .int (nI (e - b))), (0, .ref (ad 43))]) hx hb dX10_which_82 rfl hl (by decide) rfl (fun ls hl => ?_)
      refine lv_aload_n hx hb dX10_which_83 rfl (lv_at hl 2 rfl) ?_
      refine gf_43_5 hx hb hts hin_10 hown hG hN hk_25 dX10_which_84 ?_
      refine lv_aload_n hx hb dX10_which_87 rfl (lv_at hl 2 rfl) ?_
      refine gf_43_33 hx hb hts hin_10 hown hG hN hk_93 dX10_which_88 ?_
      refine g_top (y := nI b) hb0 ?_
      refine g_cald hx hb hG hN (i := 49) (n := 60) (j := b) (by decide) rfl (by decide) (by omega) rfl dX10_which_91 ?_
      refine lv_bipush (v := 103) hx hb dX10_which_92 (by decide) ?_
      refine lv_icmp_ne (tgt := 149) hx hb dX10_which_94 (by decide) (fun c10 => ?_) (fun c10 => ?_)
      · refine lv_iconst (v := 0) hx hb dX10_which_149 (by decide) ?_
        refine lv_istore_n (lv' := [(3, .int 0), (2, .int 0), (1, .int (nI (e - b))), (0, .ref (ad 43))]) hx hb dX10_which_150 rfl hl (by decide) rfl (fun ls hl => ?_)
        refine lv_iload_n hx hb dX10_which_151 rfl (lv_at hl 1 rfl) ?_
        refine lv_if_eq (tgt := 159) hx hb dX10_which_152 (by decide) (fun _ => ?_) (fun c11 => False.elim (by revert c11; decide))
        refine lv_iload_n hx hb dX10_which_159 rfl (lv_at hl 0 rfl) ?_
        refine lv_if_eq (tgt := 167) hx hb dX10_which_160 (by decide) (fun _ => ?_) (fun c12 => False.elim (by revert c12; decide))
        refine lv_iconst (v := (-1)) hx hb dX10_which_167 (by decide) ?_
        exact g_ri hx hb hr hlocks hN (⟨by simp [qWh, qI4, c1, c9, c10], rfl⟩) dX10_which_168
      · refine lv_aload_n hx hb dX10_which_97 rfl (lv_at hl 2 rfl) ?_
        refine gf_43_5 hx hb hts hin_10 hown hG hN hk_25 dX10_which_98 ?_
        refine lv_aload_n hx hb dX10_which_101 rfl (lv_at hl 2 rfl) ?_
        refine gf_43_33 hx hb hts hin_10 hown hG hN hk_93 dX10_which_102 ?_
        refine g_top (y := nI b) hb0 ?_
        refine lv_iconst (v := 1) hx hb dX10_which_105 (by decide) ?_
        refine g_addN (a := b) (b := 1) hx hb rfl rfl dX10_which_106 ?_
        refine g_cald hx hb hG hN (i := 49) (n := 60) (j := b + 1) (by decide) rfl (by decide) (by omega) rfl dX10_which_107 ?_
        refine lv_bipush (v := 97) hx hb dX10_which_108 (by decide) ?_
        refine lv_icmp_ne (tgt := 149) hx hb dX10_which_110 (by decide) (fun c13 => ?_) (fun c13 => ?_)
        · refine lv_iconst (v := 0) hx hb dX10_which_149 (by decide) ?_
          refine lv_istore_n (lv' := [(3, .int 0), (2, .int 0), (1, .int (nI (e - b))), (0, .ref (ad 43))]) hx hb dX10_which_150 rfl hl (by decide) rfl (fun ls hl => ?_)
          refine lv_iload_n hx hb dX10_which_151 rfl (lv_at hl 1 rfl) ?_
          refine lv_if_eq (tgt := 159) hx hb dX10_which_152 (by decide) (fun _ => ?_) (fun c14 => False.elim (by revert c14; decide))
          refine lv_iload_n hx hb dX10_which_159 rfl (lv_at hl 0 rfl) ?_
          refine lv_if_eq (tgt := 167) hx hb dX10_which_160 (by decide) (fun _ => ?_) (fun c15 => False.elim (by revert c15; decide))
          refine lv_iconst (v := (-1)) hx hb dX10_which_167 (by decide) ?_
          exact g_ri hx hb hr hlocks hN (⟨by simp [qWh, qI4, c1, c9, c10, c13], rfl⟩) dX10_which_168
        · refine lv_aload_n hx hb dX10_which_113 rfl (lv_at hl 2 rfl) ?_
          refine gf_43_5 hx hb hts hin_10 hown hG hN hk_25 dX10_which_114 ?_
          refine lv_aload_n hx hb dX10_which_117 rfl (lv_at hl 2 rfl) ?_
          refine gf_43_33 hx hb hts hin_10 hown hG hN hk_93 dX10_which_118 ?_
          refine g_top (y := nI b) hb0 ?_
          refine lv_iconst (v := 2) hx hb dX10_which_121 (by decide) ?_
          refine g_addN (a := b) (b := 2) hx hb rfl rfl dX10_which_122 ?_
          refine g_cald hx hb hG hN (i := 49) (n := 60) (j := b + 2) (by decide) rfl (by decide) (by omega) rfl dX10_which_123 ?_
          refine lv_bipush (v := 105) hx hb dX10_which_124 (by decide) ?_
          refine lv_icmp_ne (tgt := 149) hx hb dX10_which_126 (by decide) (fun c16 => ?_) (fun c16 => ?_)
          · refine lv_iconst (v := 0) hx hb dX10_which_149 (by decide) ?_
            refine lv_istore_n (lv' := [(3, .int 0), (2, .int 0), (1, .int (nI (e - b))), (0, .ref (ad 43))]) hx hb dX10_which_150 rfl hl (by decide) rfl (fun ls hl => ?_)
            refine lv_iload_n hx hb dX10_which_151 rfl (lv_at hl 1 rfl) ?_
            refine lv_if_eq (tgt := 159) hx hb dX10_which_152 (by decide) (fun _ => ?_) (fun c17 => False.elim (by revert c17; decide))
            refine lv_iload_n hx hb dX10_which_159 rfl (lv_at hl 0 rfl) ?_
            refine lv_if_eq (tgt := 167) hx hb dX10_which_160 (by decide) (fun _ => ?_) (fun c18 => False.elim (by revert c18; decide))
            refine lv_iconst (v := (-1)) hx hb dX10_which_167 (by decide) ?_
            exact g_ri hx hb hr hlocks hN (⟨by simp [qWh, qI4, c1, c9, c10, c13, c16], rfl⟩) dX10_which_168
          · refine lv_aload_n hx hb dX10_which_129 rfl (lv_at hl 2 rfl) ?_
            refine gf_43_5 hx hb hts hin_10 hown hG hN hk_25 dX10_which_130 ?_
            refine lv_aload_n hx hb dX10_which_133 rfl (lv_at hl 2 rfl) ?_
            refine gf_43_33 hx hb hts hin_10 hown hG hN hk_93 dX10_which_134 ?_
            refine g_top (y := nI b) hb0 ?_
            refine lv_iconst (v := 3) hx hb dX10_which_137 (by decide) ?_
            refine g_addN (a := b) (b := 3) hx hb rfl rfl dX10_which_138 ?_
            refine g_cald hx hb hG hN (i := 49) (n := 60) (j := b + 3) (by decide) rfl (by decide) (by omega) rfl dX10_which_139 ?_
            refine lv_bipush (v := 110) hx hb dX10_which_140 (by decide) ?_
            refine lv_icmp_ne (tgt := 149) hx hb dX10_which_142 (by decide) (fun c19 => ?_) (fun c19 => ?_)
            · refine lv_iconst (v := 0) hx hb dX10_which_149 (by decide) ?_
              refine lv_istore_n (lv' := [(3, .int 0), (2, .int 0), (1, .int (nI (e - b))), (0, .ref (ad 43))]) hx hb dX10_which_150 rfl hl (by decide) rfl (fun ls hl => ?_)
              refine lv_iload_n hx hb dX10_which_151 rfl (lv_at hl 1 rfl) ?_
              refine lv_if_eq (tgt := 159) hx hb dX10_which_152 (by decide) (fun _ => ?_) (fun c20 => False.elim (by revert c20; decide))
              refine lv_iload_n hx hb dX10_which_159 rfl (lv_at hl 0 rfl) ?_
              refine lv_if_eq (tgt := 167) hx hb dX10_which_160 (by decide) (fun _ => ?_) (fun c21 => False.elim (by revert c21; decide))
              refine lv_iconst (v := (-1)) hx hb dX10_which_167 (by decide) ?_
              exact g_ri hx hb hr hlocks hN (⟨by simp [qWh, qI4, c1, c9, c10, c13, c16, c19], rfl⟩) dX10_which_168
            · refine lv_iconst (v := 1) hx hb dX10_which_145 (by decide) ?_
              refine lv_goto (tgt := 150) hx hb dX10_which_146 (by decide) ?_
              refine lv_istore_n (lv' := [(3, .int 1), (2, .int 0), (1, .int (nI (e - b))), (0, .ref (ad 43))]) hx hb dX10_which_150 rfl hl (by decide) rfl (fun ls hl => ?_)
              refine lv_iload_n hx hb dX10_which_151 rfl (lv_at hl 1 rfl) ?_
              refine lv_if_eq (tgt := 159) hx hb dX10_which_152 (by decide) (fun _ => ?_) (fun c22 => False.elim (by revert c22; decide))
              refine lv_iload_n hx hb dX10_which_159 rfl (lv_at hl 0 rfl) ?_
              refine lv_if_eq (tgt := 167) hx hb dX10_which_160 (by decide) (fun c23 => False.elim (by revert c23; decide)) (fun _ => ?_)
              refine lv_iconst (v := 3) hx hb dX10_which_163 (by decide) ?_
              refine lv_goto (tgt := 168) hx hb dX10_which_164 (by decide) ?_
              exact g_ri hx hb hr hlocks hN (⟨by simp [qWh, qI4, c1, c9, c10, c13, c16, c19], rfl⟩) dX10_which_168
    · refine lv_aload_n hx hb dX10_which_29 rfl (lv_at hl 1 rfl) ?_
      refine gf_43_5 hx hb hts hin_10 hown hG hN hk_25 dX10_which_30 ?_
      refine lv_aload_n hx hb dX10_which_33 rfl (lv_at hl 1 rfl) ?_
      refine gf_43_33 hx hb hts hin_10 hown hG hN hk_93 dX10_which_34 ?_
      refine g_top (y := nI b) hb0 ?_
      refine lv_iconst (v := 1) hx hb dX10_which_37 (by decide) ?_
      refine g_addN (a := b) (b := 1) hx hb rfl rfl dX10_which_38 ?_
      refine g_cald hx hb hG hN (i := 49) (n := 60) (j := b + 1) (by decide) rfl (by decide) (by omega) rfl dX10_which_39 ?_
      refine lv_bipush (v := 114) hx hb dX10_which_40 (by decide) ?_
      refine lv_icmp_ne (tgt := 81) hx hb dX10_which_42 (by decide) (fun c24 => ?_) (fun c24 => ?_)
      · refine lv_iconst (v := 0) hx hb dX10_which_81 (by decide) ?_
        refine lv_istore_n (lv' := [(2, .int 0), (1, .int (nI (e - b))), (0, .ref (ad 43))]) hx hb dX10_which_82 rfl hl (by decide) rfl (fun ls hl => ?_)
        refine lv_aload_n hx hb dX10_which_83 rfl (lv_at hl 2 rfl) ?_
        refine gf_43_5 hx hb hts hin_10 hown hG hN hk_25 dX10_which_84 ?_
        refine lv_aload_n hx hb dX10_which_87 rfl (lv_at hl 2 rfl) ?_
        refine gf_43_33 hx hb hts hin_10 hown hG hN hk_93 dX10_which_88 ?_
        refine g_top (y := nI b) hb0 ?_
        refine g_cald hx hb hG hN (i := 49) (n := 60) (j := b) (by decide) rfl (by decide) (by omega) rfl dX10_which_91 ?_
        refine lv_bipush (v := 103) hx hb dX10_which_92 (by decide) ?_
        refine lv_icmp_ne (tgt := 149) hx hb dX10_which_94 (by decide) (fun c25 => ?_) (fun c25 => absurd c25 (by rw [c9]; decide))
        refine lv_iconst (v := 0) hx hb dX10_which_149 (by decide) ?_
        refine lv_istore_n (lv' := [(3, .int 0), (2, .int 0), (1, .int (nI (e - b))), (0, .ref (ad 43))]) hx hb dX10_which_150 rfl hl (by decide) rfl (fun ls hl => ?_)
        refine lv_iload_n hx hb dX10_which_151 rfl (lv_at hl 1 rfl) ?_
        refine lv_if_eq (tgt := 159) hx hb dX10_which_152 (by decide) (fun _ => ?_) (fun c26 => False.elim (by revert c26; decide))
        refine lv_iload_n hx hb dX10_which_159 rfl (lv_at hl 0 rfl) ?_
        refine lv_if_eq (tgt := 167) hx hb dX10_which_160 (by decide) (fun _ => ?_) (fun c27 => False.elim (by revert c27; decide))
        refine lv_iconst (v := (-1)) hx hb dX10_which_167 (by decide) ?_
        exact g_ri hx hb hr hlocks hN (⟨by simp [qWh, qI4, c1, c9, c24, c25], rfl⟩) dX10_which_168
      · refine lv_aload_n hx hb dX10_which_45 rfl (lv_at hl 1 rfl) ?_
        refine gf_43_5 hx hb hts hin_10 hown hG hN hk_25 dX10_which_46 ?_
        refine lv_aload_n hx hb dX10_which_49 rfl (lv_at hl 1 rfl) ?_
        refine gf_43_33 hx hb hts hin_10 hown hG hN hk_93 dX10_which_50 ?_
        refine g_top (y := nI b) hb0 ?_
        refine lv_iconst (v := 2) hx hb dX10_which_53 (by decide) ?_
        refine g_addN (a := b) (b := 2) hx hb rfl rfl dX10_which_54 ?_
        refine g_cald hx hb hG hN (i := 49) (n := 60) (j := b + 2) (by decide) rfl (by decide) (by omega) rfl dX10_which_55 ?_
        refine lv_bipush (v := 97) hx hb dX10_which_56 (by decide) ?_
        refine lv_icmp_ne (tgt := 81) hx hb dX10_which_58 (by decide) (fun c28 => ?_) (fun c28 => ?_)
        · refine lv_iconst (v := 0) hx hb dX10_which_81 (by decide) ?_
          refine lv_istore_n (lv' := [(2, .int 0), (1, .int (nI (e - b))), (0, .ref (ad 43))]) hx hb dX10_which_82 rfl hl (by decide) rfl (fun ls hl => ?_)
          refine lv_aload_n hx hb dX10_which_83 rfl (lv_at hl 2 rfl) ?_
          refine gf_43_5 hx hb hts hin_10 hown hG hN hk_25 dX10_which_84 ?_
          refine lv_aload_n hx hb dX10_which_87 rfl (lv_at hl 2 rfl) ?_
          refine gf_43_33 hx hb hts hin_10 hown hG hN hk_93 dX10_which_88 ?_
          refine g_top (y := nI b) hb0 ?_
          refine g_cald hx hb hG hN (i := 49) (n := 60) (j := b) (by decide) rfl (by decide) (by omega) rfl dX10_which_91 ?_
          refine lv_bipush (v := 103) hx hb dX10_which_92 (by decide) ?_
          refine lv_icmp_ne (tgt := 149) hx hb dX10_which_94 (by decide) (fun c29 => ?_) (fun c29 => absurd c29 (by rw [c9]; decide))
          refine lv_iconst (v := 0) hx hb dX10_which_149 (by decide) ?_
          refine lv_istore_n (lv' := [(3, .int 0), (2, .int 0), (1, .int (nI (e - b))), (0, .ref (ad 43))]) hx hb dX10_which_150 rfl hl (by decide) rfl (fun ls hl => ?_)
          refine lv_iload_n hx hb dX10_which_151 rfl (lv_at hl 1 rfl) ?_
          refine lv_if_eq (tgt := 159) hx hb dX10_which_152 (by decide) (fun _ => ?_) (fun c30 => False.elim (by revert c30; decide))
          refine lv_iload_n hx hb dX10_which_159 rfl (lv_at hl 0 rfl) ?_
          refine lv_if_eq (tgt := 167) hx hb dX10_which_160 (by decide) (fun _ => ?_) (fun c31 => False.elim (by revert c31; decide))
          refine lv_iconst (v := (-1)) hx hb dX10_which_167 (by decide) ?_
          exact g_ri hx hb hr hlocks hN (⟨by simp [qWh, qI4, c1, c9, c24, c28, c29], rfl⟩) dX10_which_168
        · refine lv_aload_n hx hb dX10_which_61 rfl (lv_at hl 1 rfl) ?_
          refine gf_43_5 hx hb hts hin_10 hown hG hN hk_25 dX10_which_62 ?_
          refine lv_aload_n hx hb dX10_which_65 rfl (lv_at hl 1 rfl) ?_
          refine gf_43_33 hx hb hts hin_10 hown hG hN hk_93 dX10_which_66 ?_
          refine g_top (y := nI b) hb0 ?_
          refine lv_iconst (v := 3) hx hb dX10_which_69 (by decide) ?_
          refine g_addN (a := b) (b := 3) hx hb rfl rfl dX10_which_70 ?_
          refine g_cald hx hb hG hN (i := 49) (n := 60) (j := b + 3) (by decide) rfl (by decide) (by omega) rfl dX10_which_71 ?_
          refine lv_bipush (v := 112) hx hb dX10_which_72 (by decide) ?_
          refine lv_icmp_ne (tgt := 81) hx hb dX10_which_74 (by decide) (fun c32 => ?_) (fun c32 => ?_)
          · refine lv_iconst (v := 0) hx hb dX10_which_81 (by decide) ?_
            refine lv_istore_n (lv' := [(2, .int 0), (1, .int (nI (e - b))), (0, .ref (ad 43))]) hx hb dX10_which_82 rfl hl (by decide) rfl (fun ls hl => ?_)
            refine lv_aload_n hx hb dX10_which_83 rfl (lv_at hl 2 rfl) ?_
            refine gf_43_5 hx hb hts hin_10 hown hG hN hk_25 dX10_which_84 ?_
            refine lv_aload_n hx hb dX10_which_87 rfl (lv_at hl 2 rfl) ?_
            refine gf_43_33 hx hb hts hin_10 hown hG hN hk_93 dX10_which_88 ?_
            refine g_top (y := nI b) hb0 ?_
            refine g_cald hx hb hG hN (i := 49) (n := 60) (j := b) (by decide) rfl (by decide) (by omega) rfl dX10_which_91 ?_
            refine lv_bipush (v := 103) hx hb dX10_which_92 (by decide) ?_
            refine lv_icmp_ne (tgt := 149) hx hb dX10_which_94 (by decide) (fun c33 => ?_) (fun c33 => absurd c33 (by rw [c9]; decide))
            refine lv_iconst (v := 0) hx hb dX10_which_149 (by decide) ?_
            refine lv_istore_n (lv' := [(3, .int 0), (2, .int 0), (1, .int (nI (e - b))), (0, .ref (ad 43))]) hx hb dX10_which_150 rfl hl (by decide) rfl (fun ls hl => ?_)
            refine lv_iload_n hx hb dX10_which_151 rfl (lv_at hl 1 rfl) ?_
            refine lv_if_eq (tgt := 159) hx hb dX10_which_152 (by decide) (fun _ => ?_) (fun c34 => False.elim (by revert c34; decide))
            refine lv_iload_n hx hb dX10_which_159 rfl (lv_at hl 0 rfl) ?_
            refine lv_if_eq (tgt := 167) hx hb dX10_which_160 (by decide) (fun _ => ?_) (fun c35 => False.elim (by revert c35; decide))
            refine lv_iconst (v := (-1)) hx hb dX10_which_167 (by decide) ?_
            exact g_ri hx hb hr hlocks hN (⟨by simp [qWh, qI4, c1, c9, c24, c28, c32, c33], rfl⟩) dX10_which_168
          · refine lv_iconst (v := 1) hx hb dX10_which_77 (by decide) ?_
            refine lv_goto (tgt := 82) hx hb dX10_which_78 (by decide) ?_
            refine lv_istore_n (lv' := [(2, .int 1), (1, .int (nI (e - b))), (0, .ref (ad 43))]) hx hb dX10_which_82 rfl hl (by decide) rfl (fun ls hl => ?_)
            refine lv_aload_n hx hb dX10_which_83 rfl (lv_at hl 2 rfl) ?_
            refine gf_43_5 hx hb hts hin_10 hown hG hN hk_25 dX10_which_84 ?_
            refine lv_aload_n hx hb dX10_which_87 rfl (lv_at hl 2 rfl) ?_
            refine gf_43_33 hx hb hts hin_10 hown hG hN hk_93 dX10_which_88 ?_
            refine g_top (y := nI b) hb0 ?_
            refine g_cald hx hb hG hN (i := 49) (n := 60) (j := b) (by decide) rfl (by decide) (by omega) rfl dX10_which_91 ?_
            refine lv_bipush (v := 103) hx hb dX10_which_92 (by decide) ?_
            refine lv_icmp_ne (tgt := 149) hx hb dX10_which_94 (by decide) (fun c36 => ?_) (fun c36 => absurd c36 (by rw [c9]; decide))
            refine lv_iconst (v := 0) hx hb dX10_which_149 (by decide) ?_
            refine lv_istore_n (lv' := [(3, .int 0), (2, .int 1), (1, .int (nI (e - b))), (0, .ref (ad 43))]) hx hb dX10_which_150 rfl hl (by decide) rfl (fun ls hl => ?_)
            refine lv_iload_n hx hb dX10_which_151 rfl (lv_at hl 1 rfl) ?_
            refine lv_if_eq (tgt := 159) hx hb dX10_which_152 (by decide) (fun c37 => False.elim (by revert c37; decide)) (fun _ => ?_)
            refine lv_iconst (v := 2) hx hb dX10_which_155 (by decide) ?_
            refine lv_goto (tgt := 168) hx hb dX10_which_156 (by decide) ?_
            exact g_ri hx hb hr hlocks hN (⟨by simp [qWh, qI4, c1, c9, c24, c28, c32, c36], rfl⟩) dX10_which_168
set_option maxHeartbeats 4000000 in
set_option maxRecDepth 100000 in
theorem c_X10_fits (l : Launch) {D : va_G} {ad : Nat → Nat} {cs : Nat → ClassId} {zd : Nat → Nat} {F V : gF} {o : gO} {sz : Nat} (w n : Int32) : Met l yX10_fits wsX10_fits ({ frames := 1, cells := 0, slots := 0, locals := 22 } : Room) (gPc D ad cs zd F V o sz [.int w, .int n]) (gQI D ad cs (if qFit w n then 1 else 0) F V o sz) 0 0 (gX ad sz) := by
  refine g_met (Qc := fun z0 => gQI D ad cs (if qFit w n then 1 else 0) F V o z0) (cc := cX10_fits) (maxL := 2) (ret := (some .boolean)) (own := RX10) (by decide +kernel) rfl rfl (Nat.le_of_ble_eq_true rfl) ?_
  intro p0 e0 s0 m0 b0 k0 c0 hx hb hr hts hown hlocks hml hG hN ls hl
  have hl : lv_has ls 2 [(0, .int w), (1, .int n)] := hl
  refine lv_iload_n hx hb dX10_fits_0 rfl (lv_at hl 0 rfl) ?_
  by_cases e1 : w = 0
  · refine lv_tableIn (off := 47) (tgt := 48) hx hb dX10_fits_1 (by rw [e1]; decide) (by rw [e1]; decide) (by rw [e1]; rfl) (by decide) ?_
    refine lv_iload_n hx hb dX10_fits_48 rfl (lv_at hl 1 rfl) ?_
    refine lv_iconst (v := 0) hx hb dX10_fits_49 (by decide) ?_
    refine lv_bipush (v := 100) hx hb dX10_fits_50 (by decide) ?_
    refine g_SI (As := [.int n, .int 0, .int 100]) (rest := []) ⟨hx, hb, hml, hown, hts⟩ hG hN (c_X10_isIn l n 0 100) (va_cwS 3 hts gX10_fits_X10_isIn rfl rfl rfl (by decide +kernel) ⟨Nat.le_of_ble_eq_true rfl, Nat.le_of_ble_eq_true rfl⟩) rfl hl.1 rfl (Nat.le_of_ble_eq_true rfl) dX10_fits_52 ⟨Nat.le_of_ble_eq_true rfl, Nat.le_of_ble_eq_true rfl⟩ (fun H locs hN => ?_)
    exact g_rz hx hb hr hlocks (g_nz _) hN (⟨by simp [qFit, qLo, qHi, e1], rfl⟩) dX10_fits_55
  by_cases e2 : w = 1
  · refine lv_tableIn (off := 55) (tgt := 56) hx hb dX10_fits_1 (by rw [e2]; decide) (by rw [e2]; decide) (by rw [e2]; rfl) (by decide) ?_
    refine lv_iload_n hx hb dX10_fits_56 rfl (lv_at hl 1 rfl) ?_
    refine lv_bipush (v := 100) hx hb dX10_fits_57 (by decide) ?_
    refine lv_sipush (v := 400) hx hb dX10_fits_59 (by decide) ?_
    refine g_SI (As := [.int n, .int 100, .int 400]) (rest := []) ⟨hx, hb, hml, hown, hts⟩ hG hN (c_X10_isIn l n 100 400) (va_cwS 3 hts gX10_fits_X10_isIn rfl rfl rfl (by decide +kernel) ⟨Nat.le_of_ble_eq_true rfl, Nat.le_of_ble_eq_true rfl⟩) rfl hl.1 rfl (Nat.le_of_ble_eq_true rfl) dX10_fits_62 ⟨Nat.le_of_ble_eq_true rfl, Nat.le_of_ble_eq_true rfl⟩ (fun H locs hN => ?_)
    exact g_rz hx hb hr hlocks (g_nz _) hN (⟨by simp [qFit, qLo, qHi, e2], rfl⟩) dX10_fits_65
  by_cases e3 : w = 2
  · refine lv_tableIn (off := 65) (tgt := 66) hx hb dX10_fits_1 (by rw [e3]; decide) (by rw [e3]; decide) (by rw [e3]; rfl) (by decide) ?_
    refine lv_iload_n hx hb dX10_fits_66 rfl (lv_at hl 1 rfl) ?_
    refine lv_iconst (v := 0) hx hb dX10_fits_67 (by decide) ?_
    refine lv_iconst (v := 1) hx hb dX10_fits_68 (by decide) ?_
    refine g_SI (As := [.int n, .int 0, .int 1]) (rest := []) ⟨hx, hb, hml, hown, hts⟩ hG hN (c_X10_isIn l n 0 1) (va_cwS 3 hts gX10_fits_X10_isIn rfl rfl rfl (by decide +kernel) ⟨Nat.le_of_ble_eq_true rfl, Nat.le_of_ble_eq_true rfl⟩) rfl hl.1 rfl (Nat.le_of_ble_eq_true rfl) dX10_fits_69 ⟨Nat.le_of_ble_eq_true rfl, Nat.le_of_ble_eq_true rfl⟩ (fun H locs hN => ?_)
    exact g_rz hx hb hr hlocks (g_nz _) hN (⟨by simp [qFit, qLo, qHi, e3], rfl⟩) dX10_fits_72
  by_cases e4 : w = 3
  · refine lv_tableIn (off := 72) (tgt := 73) hx hb dX10_fits_1 (by rw [e4]; decide) (by rw [e4]; decide) (by rw [e4]; rfl) (by decide) ?_
    refine lv_iload_n hx hb dX10_fits_73 rfl (lv_at hl 1 rfl) ?_
    refine lv_iconst (v := 0) hx hb dX10_fits_74 (by decide) ?_
    refine lv_bipush (v := 40) hx hb dX10_fits_75 (by decide) ?_
    refine g_SI (As := [.int n, .int 0, .int 40]) (rest := []) ⟨hx, hb, hml, hown, hts⟩ hG hN (c_X10_isIn l n 0 40) (va_cwS 3 hts gX10_fits_X10_isIn rfl rfl rfl (by decide +kernel) ⟨Nat.le_of_ble_eq_true rfl, Nat.le_of_ble_eq_true rfl⟩) rfl hl.1 rfl (Nat.le_of_ble_eq_true rfl) dX10_fits_77 ⟨Nat.le_of_ble_eq_true rfl, Nat.le_of_ble_eq_true rfl⟩ (fun H locs hN => ?_)
    exact g_rz hx hb hr hlocks (g_nz _) hN (⟨by simp [qFit, qLo, qHi, e4], rfl⟩) dX10_fits_80
  by_cases e5 : w = 4
  · refine lv_tableIn (off := 88) (tgt := 89) hx hb dX10_fits_1 (by rw [e5]; decide) (by rw [e5]; decide) (by rw [e5]; rfl) (by decide) ?_
    refine lv_iload_n hx hb dX10_fits_89 rfl (lv_at hl 1 rfl) ?_
    refine lv_iconst (v := 0) hx hb dX10_fits_90 (by decide) ?_
    refine lv_bipush (v := 50) hx hb dX10_fits_91 (by decide) ?_
    refine g_SI (As := [.int n, .int 0, .int 50]) (rest := []) ⟨hx, hb, hml, hown, hts⟩ hG hN (c_X10_isIn l n 0 50) (va_cwS 3 hts gX10_fits_X10_isIn rfl rfl rfl (by decide +kernel) ⟨Nat.le_of_ble_eq_true rfl, Nat.le_of_ble_eq_true rfl⟩) rfl hl.1 rfl (Nat.le_of_ble_eq_true rfl) dX10_fits_93 ⟨Nat.le_of_ble_eq_true rfl, Nat.le_of_ble_eq_true rfl⟩ (fun H locs hN => ?_)
    exact g_rz hx hb hr hlocks (g_nz _) hN (⟨by simp [qFit, qLo, qHi, e5], rfl⟩) dX10_fits_96
  by_cases e6 : w = 5
  · refine lv_tableIn (off := 88) (tgt := 89) hx hb dX10_fits_1 (by rw [e6]; decide) (by rw [e6]; decide) (by rw [e6]; rfl) (by decide) ?_
    refine lv_iload_n hx hb dX10_fits_89 rfl (lv_at hl 1 rfl) ?_
    refine lv_iconst (v := 0) hx hb dX10_fits_90 (by decide) ?_
    refine lv_bipush (v := 50) hx hb dX10_fits_91 (by decide) ?_
    refine g_SI (As := [.int n, .int 0, .int 50]) (rest := []) ⟨hx, hb, hml, hown, hts⟩ hG hN (c_X10_isIn l n 0 50) (va_cwS 3 hts gX10_fits_X10_isIn rfl rfl rfl (by decide +kernel) ⟨Nat.le_of_ble_eq_true rfl, Nat.le_of_ble_eq_true rfl⟩) rfl hl.1 rfl (Nat.le_of_ble_eq_true rfl) dX10_fits_93 ⟨Nat.le_of_ble_eq_true rfl, Nat.le_of_ble_eq_true rfl⟩ (fun H locs hN => ?_)
    exact g_rz hx hb hr hlocks (g_nz _) hN (⟨by simp [qFit, qLo, qHi, e6], rfl⟩) dX10_fits_96
  by_cases e7 : w = 6
  · refine lv_tableIn (off := 88) (tgt := 89) hx hb dX10_fits_1 (by rw [e7]; decide) (by rw [e7]; decide) (by rw [e7]; rfl) (by decide) ?_
    refine lv_iload_n hx hb dX10_fits_89 rfl (lv_at hl 1 rfl) ?_
    refine lv_iconst (v := 0) hx hb dX10_fits_90 (by decide) ?_
    refine lv_bipush (v := 50) hx hb dX10_fits_91 (by decide) ?_
    refine g_SI (As := [.int n, .int 0, .int 50]) (rest := []) ⟨hx, hb, hml, hown, hts⟩ hG hN (c_X10_isIn l n 0 50) (va_cwS 3 hts gX10_fits_X10_isIn rfl rfl rfl (by decide +kernel) ⟨Nat.le_of_ble_eq_true rfl, Nat.le_of_ble_eq_true rfl⟩) rfl hl.1 rfl (Nat.le_of_ble_eq_true rfl) dX10_fits_93 ⟨Nat.le_of_ble_eq_true rfl, Nat.le_of_ble_eq_true rfl⟩ (fun H locs hN => ?_)
    exact g_rz hx hb hr hlocks (g_nz _) hN (⟨by simp [qFit, qLo, qHi, e7], rfl⟩) dX10_fits_96
  by_cases e8 : w = 7
  · refine lv_tableIn (off := 80) (tgt := 81) hx hb dX10_fits_1 (by rw [e8]; decide) (by rw [e8]; decide) (by rw [e8]; rfl) (by decide) ?_
    refine lv_iload_n hx hb dX10_fits_81 rfl (lv_at hl 1 rfl) ?_
    refine lv_iconst (v := 0) hx hb dX10_fits_82 (by decide) ?_
    refine lv_bipush (v := 9) hx hb dX10_fits_83 (by decide) ?_
    refine g_SI (As := [.int n, .int 0, .int 9]) (rest := []) ⟨hx, hb, hml, hown, hts⟩ hG hN (c_X10_isIn l n 0 9) (va_cwS 3 hts gX10_fits_X10_isIn rfl rfl rfl (by decide +kernel) ⟨Nat.le_of_ble_eq_true rfl, Nat.le_of_ble_eq_true rfl⟩) rfl hl.1 rfl (Nat.le_of_ble_eq_true rfl) dX10_fits_85 ⟨Nat.le_of_ble_eq_true rfl, Nat.le_of_ble_eq_true rfl⟩ (fun H locs hN => ?_)
    exact g_rz hx hb hr hlocks (g_nz _) hN (⟨by simp [qFit, qLo, qHi, e8], rfl⟩) dX10_fits_88
  have h9 : w.toInt < 0 ∨ 7 < w.toInt := by
    have := lv_neT (a := 0) e1 (by decide)
    have := lv_neT (a := 1) e2 (by decide)
    have := lv_neT (a := 2) e3 (by decide)
    have := lv_neT (a := 3) e4 (by decide)
    have := lv_neT (a := 4) e5 (by decide)
    have := lv_neT (a := 5) e6 (by decide)
    have := lv_neT (a := 6) e7 (by decide)
    have := lv_neT (a := 7) e8 (by decide)
    omega
  refine lv_tableOut (tgt := 89) hx hb dX10_fits_1 h9 (by decide) ?_
  refine lv_iload_n hx hb dX10_fits_89 rfl (lv_at hl 1 rfl) ?_
  refine lv_iconst (v := 0) hx hb dX10_fits_90 (by decide) ?_
  refine lv_bipush (v := 50) hx hb dX10_fits_91 (by decide) ?_
  refine g_SI (As := [.int n, .int 0, .int 50]) (rest := []) ⟨hx, hb, hml, hown, hts⟩ hG hN (c_X10_isIn l n 0 50) (va_cwS 3 hts gX10_fits_X10_isIn rfl rfl rfl (by decide +kernel) ⟨Nat.le_of_ble_eq_true rfl, Nat.le_of_ble_eq_true rfl⟩) rfl hl.1 rfl (Nat.le_of_ble_eq_true rfl) dX10_fits_93 ⟨Nat.le_of_ble_eq_true rfl, Nat.le_of_ble_eq_true rfl⟩ (fun H locs hN => ?_)
  exact g_rz hx hb hr hlocks (g_nz _) hN (⟨by simp [qFit, qLo, qHi, e1, e2, e3, e4, e5, e6, e7, e8, h9], rfl⟩) dX10_fits_96
set_option maxHeartbeats 4000000 in
set_option maxRecDepth 100000 in
theorem c_X10_lays (l : Launch) {D : va_G} {ad : Nat → Nat} {cs : Nat → ClassId} {zd : Nat → Nat} {F V : gF} {o : gO} {sz : Nat} (wn : Nat) (n p : Nat) (hn : V 43 6 = nI n) (hn2 : n ≤ 60) (hi : V 43 32 = nI (qAt (F 49) n (p + 1))) (hw : V 43 34 = nI (p + 1)) (hp2 : p ≤ 100) (hwn : nI wn = qW (F 49) n p) (hwn2 : wn ≤ 8) : Met l yX10_lays wsX10_lays ({ frames := 2, cells := 0, slots := 0, locals := 45 } : Room) (gPc D ad cs zd F V o sz [.ref (ad 43), .int (nI wn)]) (gQi D ad cs sz (fun r9 u9 => u9.2.2 = o ∧ (∀ a k, (a ≠ 43 ∨ k < 32 ∨ 34 < k) → u9.2.1 a k = V a k) ∧ r9 = (if qOk (F 49) n p then 1 else 0) ∧ (qOk (F 49) n p → u9.1 = gw F 48 (wn + (qInk (F 49) n p).toNatClampNeg) (qN (F 49) n (qNp (F 49) n p)) ∧ u9.2.1 43 32 = nI (qAt (F 49) n ((qNp (F 49) n p) + 1)) ∧ u9.2.1 43 34 = nI ((qNp (F 49) n p) + 1)) ∧ (¬ qOk (F 49) n p → u9.1 = F))) 0 0 (gX ad sz) := by
  refine g_met (Qc := fun z0 => gQi D ad cs z0 (fun r9 u9 => u9.2.2 = o ∧ (∀ a k, (a ≠ 43 ∨ k < 32 ∨ 34 < k) → u9.2.1 a k = V a k) ∧ r9 = (if qOk (F 49) n p then 1 else 0) ∧ (qOk (F 49) n p → u9.1 = gw F 48 (wn + (qInk (F 49) n p).toNatClampNeg) (qN (F 49) n (qNp (F 49) n p)) ∧ u9.2.1 43 32 = nI (qAt (F 49) n ((qNp (F 49) n p) + 1)) ∧ u9.2.1 43 34 = nI ((qNp (F 49) n p) + 1)) ∧ (¬ qOk (F 49) n p → u9.1 = F))) (cc := cX10_lays) (maxL := 5) (ret := (some .boolean)) (own := RX10) (by decide +kernel) rfl rfl (Nat.le_of_ble_eq_true rfl) ?_
  intro p0 e0 s0 m0 b0 k0 c0 hx hb hr hts hown hlocks hml hG hN ls hl
  have hl : lv_has ls 5 [(0, .ref (ad 43)), (1, .int (nI wn))] := hl
  have hin_10 : ∀ w ∈ wsX100, w ∈ wsX10_lays := by decide +kernel
  have hk_22 := hts (.fieldLink RX10 22 "GravureHouseModel" "fresh" "[I") (by decide +kernel)
  refine lv_iconst (v := 0) hx hb dX10_lays_0 (by decide) ?_
  refine lv_istore_n (lv' := [(2, .int 0), (0, .ref (ad 43)), (1, .int (nI wn))]) hx hb dX10_lays_1 rfl hl (by decide) rfl (fun ls hl => ?_)
  refine lv_iload_n hx hb dX10_lays_2 rfl (lv_at hl 2 rfl) ?_
  refine lv_iconst (v := 3) hx hb dX10_lays_3 (by decide) ?_
  have J1 : ∀ (x2 : Int32) (V1 : gF) (H : Heap) (locs : List Loc) (ls : Array Slot), (x2 = qInk (F 49) n p) → (∀ a k, (a ≠ 43 ∨ k < 32 ∨ 34 < k) → V1 a k = V a k) → (gIdx x2 4 = true → V1 43 32 = nI (qAt (F 49) n (qNp (F 49) n p)) ∧ V1 43 34 = nI (qNp (F 49) n p)) → gN D ad cs s0 F V1 o H locs → lv_has ls 5 [(0, .ref (ad 43)), (1, .int (nI wn)), (2, .int x2)] → W p0 l e0 ({ frames := 2, cells := 0, slots := 0, locals := 45 } : Room) s0 m0 ([.ref (ad 43), .int (nI wn)] : List Value).toArray b0 k0 c0 H locs 0 0 (MQ b0 (gQi D ad cs s0.heap.size (fun r9 u9 => u9.2.2 = o ∧ (∀ a k, (a ≠ 43 ∨ k < 32 ∨ 34 < k) → u9.2.1 a k = V a k) ∧ r9 = (if qOk (F 49) n p then 1 else 0) ∧ (qOk (F 49) n p → u9.1 = gw F 48 (wn + (qInk (F 49) n p).toNatClampNeg) (qN (F 49) n (qNp (F 49) n p)) ∧ u9.2.1 43 32 = nI (qAt (F 49) n ((qNp (F 49) n p) + 1)) ∧ u9.2.1 43 34 = nI ((qNp (F 49) n p) + 1)) ∧ (¬ qOk (F 49) n p → u9.1 = F))) ([.ref (ad 43), .int (nI wn)] : List Value).toArray s0 0 0 (gX ad s0.heap.size)) (F0 m0 23 ls []) := by
    intro x2 V1 H locs ls hq2 hfr hps hN hl
    have J2 : ∀ (x3 : Int32) (V2 : gF) (H : Heap) (locs : List Loc) (ls : Array Slot), (gIdx x2 4 = true → x3 = qN (F 49) n (qNp (F 49) n p)) → (gIdx x2 4 ≠ true → x3 = -1) → (∀ a k, (a ≠ 43 ∨ k < 32 ∨ 34 < k) → V2 a k = V a k) → (x3 ≠ -1 → V2 43 32 = nI (qAt (F 49) n ((qNp (F 49) n p) + 1)) ∧ V2 43 34 = nI ((qNp (F 49) n p) + 1)) → gN D ad cs s0 F V2 o H locs → lv_has ls 5 [(0, .ref (ad 43)), (1, .int (nI wn)), (2, .int x2), (3, .int x3)] → W p0 l e0 ({ frames := 2, cells := 0, slots := 0, locals := 45 } : Room) s0 m0 ([.ref (ad 43), .int (nI wn)] : List Value).toArray b0 k0 c0 H locs 0 0 (MQ b0 (gQi D ad cs s0.heap.size (fun r9 u9 => u9.2.2 = o ∧ (∀ a k, (a ≠ 43 ∨ k < 32 ∨ 34 < k) → u9.2.1 a k = V a k) ∧ r9 = (if qOk (F 49) n p then 1 else 0) ∧ (qOk (F 49) n p → u9.1 = gw F 48 (wn + (qInk (F 49) n p).toNatClampNeg) (qN (F 49) n (qNp (F 49) n p)) ∧ u9.2.1 43 32 = nI (qAt (F 49) n ((qNp (F 49) n p) + 1)) ∧ u9.2.1 43 34 = nI ((qNp (F 49) n p) + 1)) ∧ (¬ qOk (F 49) n p → u9.1 = F))) ([.ref (ad 43), .int (nI wn)] : List Value).toArray s0 0 0 (gX ad s0.heap.size)) (F0 m0 46 ls []) := by
      intro x3 V2 H locs ls hq3 hg3 hfr2 hps2 hN hl
      refine lv_iload_n hx hb dX10_lays_46 rfl (lv_at hl 3 rfl) ?_
      refine lv_iconst (v := (-1)) hx hb dX10_lays_47 (by decide) ?_
      refine lv_icmp_eq (tgt := 63) hx hb dX10_lays_48 (by decide) (fun c3 => ?_) (fun c3 => ?_)
      · have hno : ¬ qOk (F 49) n p := fun z => z.2.2.1 ((hq3 (hq2.symm ▸ z.2.1)).symm.trans c3)
        refine lv_iconst (v := 0) hx hb dX10_lays_63 (by decide) ?_
        refine lv_istore (lv' := [(4, .int 0), (0, .ref (ad 43)), (1, .int (nI wn)), (2, .int x2), (3, .int x3)]) hx hb dX10_lays_64 hl (by decide) rfl (fun ls hl => ?_)
        refine lv_iload hx hb dX10_lays_66 (lv_at hl 0 rfl) ?_
        refine lv_if_eq (tgt := 80) hx hb dX10_lays_68 (by decide) (fun _ => ?_) (fun c4 => False.elim (by revert c4; decide))
        refine lv_iload hx hb dX10_lays_80 (lv_at hl 0 rfl) ?_
        exact g_rz hx hb hr hlocks (by decide) hN (⟨rfl, hfr2, (if_neg hno).symm, fun z => absurd z hno, fun _ => rfl⟩) dX10_lays_82
      · have hx3 : x3 ≠ -1 := c3
        have hgi : gIdx x2 4 = true := Classical.not_not.mp (fun z => hx3 (hg3 z))
        have hwne : qW (F 49) n p ≠ -1 := fun z => absurd (hwn.trans z) (nI_nm1 hwn2)
        have hq4 := hq3 hgi
        refine lv_iload_n hx hb dX10_lays_51 rfl (lv_at hl 1 rfl) ?_
        refine lv_iload_n hx hb dX10_lays_52 rfl (lv_at hl 3 rfl) ?_
        refine g_SI (As := [.int (nI wn), .int x3]) (rest := []) ⟨hx, hb, hml, hown, hts⟩ hG hN (c_X10_fits l (nI wn) x3) (va_cwS 2 hts gX10_lays_X10_fits rfl rfl rfl (by decide +kernel) ⟨Nat.le_of_ble_eq_true rfl, Nat.le_of_ble_eq_true rfl⟩) rfl hl.1 rfl (Nat.le_of_ble_eq_true rfl) dX10_lays_53 ⟨Nat.le_of_ble_eq_true rfl, Nat.le_of_ble_eq_true rfl⟩ (fun H locs hN => ?_)
        refine g_ifb_eq (qFit (nI wn) x3) (tgt := 63) hx hb dX10_lays_56 (by decide) rfl (fun c5 => ?_) (fun c5 => ?_)
        · have hno : ¬ qOk (F 49) n p := fun z => c5 (by rw [hwn, hq4]; exact z.2.2.2)
          refine lv_iconst (v := 0) hx hb dX10_lays_63 (by decide) ?_
          refine lv_istore (lv' := [(4, .int 0), (0, .ref (ad 43)), (1, .int (nI wn)), (2, .int x2), (3, .int x3)]) hx hb dX10_lays_64 hl (by decide) rfl (fun ls hl => ?_)
          refine lv_iload hx hb dX10_lays_66 (lv_at hl 0 rfl) ?_
          refine lv_if_eq (tgt := 80) hx hb dX10_lays_68 (by decide) (fun _ => ?_) (fun c6 => False.elim (by revert c6; decide))
          refine lv_iload hx hb dX10_lays_80 (lv_at hl 0 rfl) ?_
          exact g_rz hx hb hr hlocks (by decide) hN (⟨rfl, hfr2, (if_neg hno).symm, fun z => absurd z hno, fun _ => rfl⟩) dX10_lays_82
        · have hfit : qFit (qW (F 49) n p) (qN (F 49) n (qNp (F 49) n p)) := by rw [← hwn, ← hq4]; exact c5
          have hok : qOk (F 49) n p := ⟨hwne, hq2 ▸ hgi, hq4 ▸ hx3, hfit⟩
          obtain ⟨j, hj, ej⟩ := gIdx_n 4 rfl (by decide) hgi
          subst ej
          have hb9 := qInk_b hwn hwn2 hj hq2
          refine lv_iconst (v := 1) hx hb dX10_lays_59 (by decide) ?_
          refine lv_goto (tgt := 64) hx hb dX10_lays_60 (by decide) ?_
          refine lv_istore (lv' := [(4, .int 1), (0, .ref (ad 43)), (1, .int (nI wn)), (2, .int (nI j)), (3, .int x3)]) hx hb dX10_lays_64 hl (by decide) rfl (fun ls hl => ?_)
          refine lv_iload hx hb dX10_lays_66 (lv_at hl 0 rfl) ?_
          refine lv_if_eq (tgt := 80) hx hb dX10_lays_68 (by decide) (fun c7 => False.elim (by revert c7; decide)) (fun _ => ?_)
          refine lv_aload_n hx hb dX10_lays_71 rfl (lv_at hl 1 rfl) ?_
          refine gf_43_4 hx hb hts hin_10 hown hG hN hk_22 dX10_lays_72 ?_
          refine lv_iload_n hx hb dX10_lays_75 rfl (lv_at hl 2 rfl) ?_
          refine lv_iload_n hx hb dX10_lays_76 rfl (lv_at hl 3 rfl) ?_
          refine g_addN (a := wn) (b := j) hx hb rfl rfl dX10_lays_77 ?_
          refine lv_iload_n hx hb dX10_lays_78 rfl (lv_at hl 4 rfl) ?_
          refine g_iast hx hb hG hN (i := 48) (n := 9) (j := wn + j) (by decide) (fun _ => rfl) (by decide) (by omega) rfl dX10_lays_79 (fun H locs hN => ?_)
          refine lv_iload hx hb dX10_lays_80 (lv_at hl 0 rfl) ?_
          exact g_rz hx hb hr hlocks (by decide) hN (⟨rfl, hfr2, (if_pos hok).symm, fun _ => ⟨by rw [← hq2, ← hq4, nI_clamp (show j < 2 ^ 31 by omega)], (hps2 hx3).1, (hps2 hx3).2⟩, fun z => absurd hok z⟩) dX10_lays_82
    refine lv_iload_n hx hb dX10_lays_23 rfl (lv_at hl 2 rfl) ?_
    refine g_SI (As := [.int x2]) (rest := []) ⟨hx, hb, hml, hown, hts⟩ hG hN (c_X10_isInk l x2) (va_cwS 1 hts gX10_lays_X10_isInk rfl rfl rfl (by decide +kernel) ⟨Nat.le_of_ble_eq_true rfl, Nat.le_of_ble_eq_true rfl⟩) rfl hl.1 rfl (Nat.le_of_ble_eq_true rfl) dX10_lays_24 ⟨Nat.le_of_ble_eq_true rfl, Nat.le_of_ble_eq_true rfl⟩ (fun H locs hN => ?_)
    refine g_ifb_eq (gIdx x2 4 = true) (tgt := 44) hx hb dX10_lays_27 (by decide) rfl (fun c8 => ?_) (fun c8 => ?_)
    · refine lv_iconst (v := (-1)) hx hb dX10_lays_44 (by decide) ?_
      refine lv_istore_n (lv' := [(3, .int (-1)), (0, .ref (ad 43)), (1, .int (nI wn)), (2, .int x2)]) hx hb dX10_lays_45 rfl hl (by decide) rfl (fun ls hl => ?_)
      exact J2 (-1) V1 _ _ ls (fun z => absurd z c8) (fun _ => rfl) (hfr) (fun z => absurd rfl z) hN (lv_sub hl [1, 2, 3, 0] rfl)
    · have hgi := c8
      refine lv_aload_n hx hb dX10_lays_30 rfl (lv_at hl 0 rfl) ?_
      refine g_VI (As := []) (rest := []) ⟨hx, hb, hml, hown, hts⟩ hG hN (i := 43) (by decide) rfl rfl (c_X10_reads l n (qAt (F 49) n (qNp (F 49) n p)) (qNp (F 49) n p) ((hfr 43 6 (Or.inr (Or.inl (by decide)))).trans hn) hn2 (hps hgi).1 (qAt_b _) (hps hgi).2 (by have := qNp_b (S := F 49) (n := n) (p := p); omega)) (cwV 0 hts gX10_lays_X10_reads rfl rfl rfl (by decide +kernel) ⟨Nat.le_of_ble_eq_true rfl, Nat.le_of_ble_eq_true rfl⟩) rfl hl.1 rfl (Nat.le_of_ble_eq_true rfl) dX10_lays_31 ⟨Nat.le_of_ble_eq_true rfl, Nat.le_of_ble_eq_true rfl⟩ (fun H locs hN => ?_)
      refine g_ifb_eq ((qB (F 49) n (qAt (F 49) n (qNp (F 49) n p))) < (qE (F 49) n (qB (F 49) n (qAt (F 49) n (qNp (F 49) n p))))) (tgt := 44) hx hb dX10_lays_34 (by decide) rfl (fun c9 => ?_) (fun c9 => ?_)
      · refine lv_iconst (v := (-1)) hx hb dX10_lays_44 (by decide) ?_
        refine lv_istore_n (lv' := [(3, .int (-1)), (0, .ref (ad 43)), (1, .int (nI wn)), (2, .int x2)]) hx hb dX10_lays_45 rfl hl (by decide) rfl (fun ls hl => ?_)
        exact J2 (-1) (mRd V1 (qNp (F 49) n p) (qB (F 49) n (qAt (F 49) n (qNp (F 49) n p))) (qE (F 49) n (qB (F 49) n (qAt (F 49) n (qNp (F 49) n p))))) _ _ ls (fun _ => by rw [qN]; exact (if_neg c9).symm) (fun _ => rfl) (fun a k h => (mRd_o h).trans (hfr a k h)) (fun z => absurd rfl z) hN (lv_sub hl [1, 2, 3, 0] rfl)
      · refine lv_aload_n hx hb dX10_lays_37 rfl (lv_at hl 0 rfl) ?_
        refine g_VI (As := []) (rest := []) ⟨hx, hb, hml, hown, hts⟩ hG hN (i := 43) (by decide) rfl rfl (c_X10_number l (qb (F 49) n (qNp (F 49) n p)) (qAt (F 49) n ((qNp (F 49) n p) + 1)) rfl rfl qb_b.2.1 (by have := qAt_b (S := F 49) (n := n) ((qNp (F 49) n p) + 1); omega)) (cwV 0 hts gX10_lays_X10_number rfl rfl rfl (by decide +kernel) ⟨Nat.le_of_ble_eq_true rfl, Nat.le_of_ble_eq_true rfl⟩) rfl hl.1 rfl (Nat.le_of_ble_eq_true rfl) dX10_lays_38 ⟨Nat.le_of_ble_eq_true rfl, Nat.le_of_ble_eq_true rfl⟩ (fun H locs hN => ?_)
        refine lv_goto (tgt := 45) hx hb dX10_lays_41 (by decide) ?_
        refine lv_istore_n (lv' := [(3, .int (qNum (F 49) (qb (F 49) n (qNp (F 49) n p)) ((qAt (F 49) n ((qNp (F 49) n p) + 1)) - (qb (F 49) n (qNp (F 49) n p))))), (0, .ref (ad 43)), (1, .int (nI wn)), (2, .int x2)]) hx hb dX10_lays_45 rfl hl (by decide) rfl (fun ls hl => ?_)
        exact J2 (qNum (F 49) (qb (F 49) n (qNp (F 49) n p)) ((qAt (F 49) n ((qNp (F 49) n p) + 1)) - (qb (F 49) n (qNp (F 49) n p)))) (mRd V1 (qNp (F 49) n p) (qB (F 49) n (qAt (F 49) n (qNp (F 49) n p))) (qE (F 49) n (qB (F 49) n (qAt (F 49) n (qNp (F 49) n p))))) _ _ ls (fun _ => by rw [qN]; exact (if_pos c9).symm) (fun z => absurd c8 z) (fun a k h => (mRd_o h).trans (hfr a k h)) (fun _ => ⟨rfl, mRd_34 c9⟩) hN (lv_sub hl [1, 2, 3, 0] rfl)
  refine g_cN_ne (a := wn) (b := 3) (tgt := 23) hx hb dX10_lays_4 (by decide) rfl rfl (by omega) (by omega) (fun c10 => ?_) (fun c10 => ?_)
  · exact J1 0 V _ _ ls (by rw [qInk, if_neg (fun z => c10 ((nI3 hwn2).mp (hwn.trans z)))]) (fun _ _ _ => rfl) (fun _ => by rw [qNp, if_neg (fun z => c10 ((nI3 hwn2).mp (hwn.trans z)))]; exact ⟨hi, hw⟩) hN (lv_sub hl [1, 2, 0] rfl)
  · refine lv_aload_n hx hb dX10_lays_7 rfl (lv_at hl 1 rfl) ?_
    refine g_VI (As := []) (rest := []) ⟨hx, hb, hml, hown, hts⟩ hG hN (i := 43) (by decide) rfl rfl (c_X10_reads l n (qAt (F 49) n (p + 1)) (p + 1) hn hn2 hi (qAt_b _) hw (by omega)) (cwV 0 hts gX10_lays_X10_reads rfl rfl rfl (by decide +kernel) ⟨Nat.le_of_ble_eq_true rfl, Nat.le_of_ble_eq_true rfl⟩) rfl hl.1 rfl (Nat.le_of_ble_eq_true rfl) dX10_lays_8 ⟨Nat.le_of_ble_eq_true rfl, Nat.le_of_ble_eq_true rfl⟩ (fun H locs hN => ?_)
    refine g_ifb_eq ((qB (F 49) n (qAt (F 49) n (p + 1))) < (qE (F 49) n (qB (F 49) n (qAt (F 49) n (p + 1))))) (tgt := 21) hx hb dX10_lays_11 (by decide) rfl (fun c11 => ?_) (fun c11 => ?_)
    · refine lv_iconst (v := (-1)) hx hb dX10_lays_21 (by decide) ?_
      refine lv_istore_n (lv' := [(2, .int (-1)), (0, .ref (ad 43)), (1, .int (nI wn))]) hx hb dX10_lays_22 rfl hl (by decide) rfl (fun ls hl => ?_)
      exact J1 (-1) (mRd V (p + 1) (qB (F 49) n (qAt (F 49) n (p + 1))) (qE (F 49) n (qB (F 49) n (qAt (F 49) n (p + 1))))) _ _ ls (by rw [qInk, if_pos (hwn.symm.trans ((nI3 hwn2).mpr c10)), qN]; exact (if_neg c11).symm) (fun _ _ h => mRd_o h) (fun z => by rw [gIdx_m] at z; exact absurd z (by decide)) hN (lv_sub hl [1, 2, 0] rfl)
    · refine lv_aload_n hx hb dX10_lays_14 rfl (lv_at hl 1 rfl) ?_
      refine g_VI (As := []) (rest := []) ⟨hx, hb, hml, hown, hts⟩ hG hN (i := 43) (by decide) rfl rfl (c_X10_number l (qb (F 49) n (p + 1)) (qAt (F 49) n ((p + 1) + 1)) rfl rfl qb_b.2.1 (by have := qAt_b (S := F 49) (n := n) ((p + 1) + 1); omega)) (cwV 0 hts gX10_lays_X10_number rfl rfl rfl (by decide +kernel) ⟨Nat.le_of_ble_eq_true rfl, Nat.le_of_ble_eq_true rfl⟩) rfl hl.1 rfl (Nat.le_of_ble_eq_true rfl) dX10_lays_15 ⟨Nat.le_of_ble_eq_true rfl, Nat.le_of_ble_eq_true rfl⟩ (fun H locs hN => ?_)
      refine lv_goto (tgt := 22) hx hb dX10_lays_18 (by decide) ?_
      refine lv_istore_n (lv' := [(2, .int (qNum (F 49) (qb (F 49) n (p + 1)) ((qAt (F 49) n ((p + 1) + 1)) - (qb (F 49) n (p + 1))))), (0, .ref (ad 43)), (1, .int (nI wn))]) hx hb dX10_lays_22 rfl hl (by decide) rfl (fun ls hl => ?_)
      exact J1 (qNum (F 49) (qb (F 49) n (p + 1)) ((qAt (F 49) n ((p + 1) + 1)) - (qb (F 49) n (p + 1)))) (mRd V (p + 1) (qB (F 49) n (qAt (F 49) n (p + 1))) (qE (F 49) n (qB (F 49) n (qAt (F 49) n (p + 1))))) _ _ ls (by rw [qInk, if_pos (hwn.symm.trans ((nI3 hwn2).mpr c10)), qN]; exact (if_pos c11).symm) (fun _ _ h => mRd_o h) (fun _ => by rw [qNp, if_pos (hwn.symm.trans ((nI3 hwn2).mpr c10))]; exact ⟨rfl, mRd_34 c11⟩) hN (lv_sub hl [1, 2, 0] rfl)
