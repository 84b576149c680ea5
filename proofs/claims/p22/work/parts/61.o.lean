set_option maxHeartbeats 4000000 in
set_option maxRecDepth 100000 in
theorem c_L_others (l : Launch) {D : va_G} {ad : Nat → Nat} {cs : Nat → ClassId} {zd : Nat → Nat} {F V : gF} {o : gO} {sz : Nat} (hl9 : l.stackTraces = false) (x y b : Nat) (hx31 : x < 2 ^ 31) (hy31 : y < 2 ^ 31) (hb9 : b ≤ 200) (hP : PI F V b) : Met l yL_others wsL_others ({ frames := 10, cells := 800, slots := 4800, locals := 179 } : Room) (gPc D ad cs zd F V o sz [.ref (ad 0), .int (nI x), .int (nI y), .ref (ad 43), .ref (ad 44), .ref (ad 45), .ref (ad 46), .ref (ad 47)]) (gQi D ad cs sz (fun r9 u9 => r9 = 1 ∧ u9.2.2 = o ∧ PI u9.1 u9.2.1 b)) 800 4800 (gX ad sz) := by
  refine g_met (Qc := fun z0 => gQi D ad cs z0 (fun r9 u9 => r9 = 1 ∧ u9.2.2 = o ∧ PI u9.1 u9.2.1 b)) (cc := cL_others) (maxL := 14) (ret := (some .boolean)) (own := RL) (by decide +kernel) rfl rfl (Nat.le_of_ble_eq_true rfl) ?_
  intro p0 e0 s0 m0 b0 k0 c0 hx hb hr hts hown hlocks hml hG hN ls hl
  have hl : lv_has ls 14 [(0, .ref (ad 0)), (1, .int (nI x)), (2, .int (nI y)), (3, .ref (ad 43)), (4, .ref (ad 44)), (5, .ref (ad 45)), (6, .ref (ad 46)), (7, .ref (ad 47))] := hl
  have hld_45 := hts (.constant RL 45 (-70008)) (by decide +kernel)
  obtain ⟨hI, hB, hR, hK, hD9, N, w, ⟨hwN, hN40, hN3, hw5, hC0, hC1, hC2, hC3, hC4, hC5, hC6⟩, hT, hL⟩ := id hP
  obtain ⟨t, ht2, ht⟩ := hI.t18
  have hz12 := hI.z12
  have hz37 : narrow .boolean (.int (gw V 37 1 1 37 1)) = .int (gw V 37 1 1 37 1) := by rw [gw_ss]; decide
  refine lv_iload_n hx hb dL_others_0 rfl (lv_at hl 1 rfl) ?_
  refine lv_bipush (v := 6) hx hb dL_others_1 (by decide) ?_
  refine g_remN (a := x) (b := 6) hx hb rfl rfl (by omega) (by omega) (by omega) dL_others_3 ?_
  have h6 : x % 6 = 0 ∨ x % 6 = 1 ∨ x % 6 = 2 ∨ x % 6 = 3 ∨ x % 6 = 4 ∨ x % 6 = 5 := by omega
  rcases h6 with e6 | e6 | e6 | e6 | e6 | e6
  · refine g_top (y := 0) (by rw [e6]; rfl) ?_
    refine lv_istore (lv' := [(8, .int 0), (0, .ref (ad 0)), (1, .int (nI x)), (2, .int (nI y)), (3, .ref (ad 43)), (4, .ref (ad 44)), (5, .ref (ad 45)), (6, .ref (ad 46)), (7, .ref (ad 47))]) hx hb dL_others_4 hl (by decide) rfl (fun ls hl => ?_)
    refine lv_iload_n hx hb dL_others_6 rfl (lv_at hl 2 rfl) ?_
    refine lv_bipush (v := 6) hx hb dL_others_7 (by decide) ?_
    refine g_divN (a := x) (b := 6) hx hb rfl rfl (by omega) (by omega) (by omega) dL_others_9 ?_
    refine lv_iconst (v := 4) hx hb dL_others_10 (by decide) ?_
    refine g_remN (a := x / 6) (b := 4) hx hb rfl rfl (by omega) (by omega) (by omega) dL_others_11 ?_
    obtain ⟨u9, hu9, eu9⟩ : ∃ q, q < 4 ∧ (x / 6) % 4 = q := ⟨_, by omega, rfl⟩
    refine g_top (y := nI u9) (by rw [eu9]) ?_
    refine lv_istore (lv' := [(9, .int (nI u9)), (8, .int 0), (0, .ref (ad 0)), (1, .int (nI x)), (2, .int (nI y)), (3, .ref (ad 43)), (4, .ref (ad 44)), (5, .ref (ad 45)), (6, .ref (ad 46)), (7, .ref (ad 47))]) hx hb dL_others_12 hl (by decide) rfl (fun ls hl => ?_)
    refine lv_iload hx hb dL_others_14 (lv_at hl 1 rfl) ?_
    refine lv_if_ne (tgt := 73) hx hb dL_others_16 (by decide) (fun c1 => False.elim (by revert c1; decide)) (fun _ => ?_)
    refine lv_aload_n hx hb dL_others_19 rfl (lv_at hl 2 rfl) ?_
    refine lv_iload hx hb dL_others_20 (lv_at hl 0 rfl) ?_
    refine lv_iload_n hx hb dL_others_22 rfl (lv_at hl 4 rfl) ?_
    refine lv_bipush (v := 11) hx hb dL_others_23 (by decide) ?_
    refine g_remN (a := y) (b := 11) hx hb rfl rfl (by omega) (by omega) (by omega) dL_others_25 ?_
    refine lv_iconst (v := 5) hx hb dL_others_26 (by decide) ?_
    refine lv_isub hx hb dL_others_27 ?_
    refine lv_iload_n hx hb dL_others_28 rfl (lv_at hl 4 rfl) ?_
    refine lv_bipush (v := 11) hx hb dL_others_29 (by decide) ?_
    refine g_divN (a := y) (b := 11) hx hb rfl rfl (by omega) (by omega) (by omega) dL_others_31 ?_
    refine lv_bipush (v := 11) hx hb dL_others_32 (by decide) ?_
    refine g_remN (a := y / 11) (b := 11) hx hb rfl rfl (by omega) (by omega) (by omega) dL_others_34 ?_
    refine lv_iconst (v := 5) hx hb dL_others_35 (by decide) ?_
    refine lv_isub hx hb dL_others_36 ?_
    refine g_nVV (As := [.int (nI u9), .int ((nI (y % 11)) - 5), .int ((nI ((y / 11) % 11)) - 5)]) (rest := []) ⟨hx, hb, hml, hown, hts⟩ hG hN (i := 0) (by decide) rfl rfl (c_X9_drift l hl9 (nI u9) ((nI (y % 11)) - 5) ((nI ((y / 11) % 11)) - 5)) (cwV 3 hts gL_others_X9_drift rfl rfl rfl (by decide +kernel) ⟨Nat.le_of_ble_eq_true rfl, Nat.le_of_ble_eq_true rfl⟩) rfl hl.1 rfl (Nat.le_of_ble_eq_true rfl) dL_others_37 ⟨Nat.le_of_ble_eq_true rfl, Nat.le_of_ble_eq_true rfl⟩ (no2 (fDri0 (a := y % 11) (b := y / 11 % 11) (by omega) (by omega) (by omega))) (fun hz2 H locs hN => ?_)
    rw [nI_clamp (show u9 < 2 ^ 31 by omega)] at hN
    refine lv_aload hx hb dL_others_40 (lv_at hl 9 rfl) ?_
    refine lv_iconst (v := 2) hx hb dL_others_42 (by decide) ?_
    refine lv_iload hx hb dL_others_43 (lv_at hl 0 rfl) ?_
    refine g_mulN (a := 2) (b := u9) hx hb rfl rfl dL_others_45 ?_
    refine lv_iload_n hx hb dL_others_46 rfl (lv_at hl 4 rfl) ?_
    refine lv_bipush (v := 11) hx hb dL_others_47 (by decide) ?_
    refine g_remN (a := y) (b := 11) hx hb rfl rfl (by omega) (by omega) (by omega) dL_others_49 ?_
    refine lv_iconst (v := 5) hx hb dL_others_50 (by decide) ?_
    refine lv_isub hx hb dL_others_51 ?_
    refine g_iast hx hb hG hN (i := 47) (n := 8) (j := 2 * u9) (by decide) (fun _ => rfl) (by decide) (by omega) rfl dL_others_52 (fun H locs hN => ?_)
    refine lv_aload hx hb dL_others_53 (lv_at hl 9 rfl) ?_
    refine lv_iconst (v := 2) hx hb dL_others_55 (by decide) ?_
    refine lv_iload hx hb dL_others_56 (lv_at hl 0 rfl) ?_
    refine g_mulN (a := 2) (b := u9) hx hb rfl rfl dL_others_58 ?_
    refine lv_iconst (v := 1) hx hb dL_others_59 (by decide) ?_
    refine g_addN (a := 2 * u9) (b := 1) hx hb rfl rfl dL_others_60 ?_
    refine lv_iload_n hx hb dL_others_61 rfl (lv_at hl 4 rfl) ?_
    refine lv_bipush (v := 11) hx hb dL_others_62 (by decide) ?_
    refine g_divN (a := y) (b := 11) hx hb rfl rfl (by omega) (by omega) (by omega) dL_others_64 ?_
    refine lv_bipush (v := 11) hx hb dL_others_65 (by decide) ?_
    refine g_remN (a := y / 11) (b := 11) hx hb rfl rfl (by omega) (by omega) (by omega) dL_others_67 ?_
    refine lv_iconst (v := 5) hx hb dL_others_68 (by decide) ?_
    refine lv_isub hx hb dL_others_69 ?_
    refine g_iast hx hb hG hN (i := 47) (n := 8) (j := (2 * u9) + 1) (by decide) (fun _ => rfl) (by decide) (by omega) rfl dL_others_70 (fun H locs hN => ?_)
    refine lv_iconst (v := 1) hx hb dL_others_71 (by decide) ?_
    refine W.widen (k := 800) (n := 4800) (by omega) (by omega) ?_
    exact g_rz hx hb hr hlocks (by decide) hN (⟨rfl, rfl, PI_drift (by omega) hP⟩) dL_others_72
  · refine g_top (y := 1) (by rw [e6]; rfl) ?_
    refine lv_istore (lv' := [(8, .int 1), (0, .ref (ad 0)), (1, .int (nI x)), (2, .int (nI y)), (3, .ref (ad 43)), (4, .ref (ad 44)), (5, .ref (ad 45)), (6, .ref (ad 46)), (7, .ref (ad 47))]) hx hb dL_others_4 hl (by decide) rfl (fun ls hl => ?_)
    refine lv_iload_n hx hb dL_others_6 rfl (lv_at hl 2 rfl) ?_
    refine lv_bipush (v := 6) hx hb dL_others_7 (by decide) ?_
    refine g_divN (a := x) (b := 6) hx hb rfl rfl (by omega) (by omega) (by omega) dL_others_9 ?_
    refine lv_iconst (v := 4) hx hb dL_others_10 (by decide) ?_
    refine g_remN (a := x / 6) (b := 4) hx hb rfl rfl (by omega) (by omega) (by omega) dL_others_11 ?_
    obtain ⟨u9, hu9, eu9⟩ : ∃ q, q < 4 ∧ (x / 6) % 4 = q := ⟨_, by omega, rfl⟩
    refine g_top (y := nI u9) (by rw [eu9]) ?_
    refine lv_istore (lv' := [(9, .int (nI u9)), (8, .int 1), (0, .ref (ad 0)), (1, .int (nI x)), (2, .int (nI y)), (3, .ref (ad 43)), (4, .ref (ad 44)), (5, .ref (ad 45)), (6, .ref (ad 46)), (7, .ref (ad 47))]) hx hb dL_others_12 hl (by decide) rfl (fun ls hl => ?_)
    refine lv_iload hx hb dL_others_14 (lv_at hl 1 rfl) ?_
    refine lv_if_ne (tgt := 73) hx hb dL_others_16 (by decide) (fun _ => ?_) (fun c3 => False.elim (by revert c3; decide))
    refine lv_iload hx hb dL_others_73 (lv_at hl 1 rfl) ?_
    refine lv_iconst (v := 1) hx hb dL_others_75 (by decide) ?_
    refine lv_icmp_ne (tgt := 208) hx hb dL_others_76 (by decide) (fun c4 => False.elim (by revert c4; decide)) (fun _ => ?_)
    refine lv_aload_n hx hb dL_others_79 rfl (lv_at hl 2 rfl) ?_
    refine lv_iload hx hb dL_others_80 (lv_at hl 0 rfl) ?_
    refine lv_iconst (v := 0) hx hb dL_others_82 (by decide) ?_
    refine g_nVI (As := [.int (nI u9), .int 0]) (rest := []) ⟨hx, hb, hml, hown, hts⟩ hG hN (i := 0) (by decide) rfl rfl (c_X9_unit l hl9 (nI u9) 0) (cwV 2 hts gL_others_X9_unit rfl rfl rfl (by decide +kernel) ⟨Nat.le_of_ble_eq_true rfl, Nat.le_of_ble_eq_true rfl⟩) rfl hl.1 rfl (Nat.le_of_ble_eq_true rfl) dL_others_83 ⟨Nat.le_of_ble_eq_true rfl, Nat.le_of_ble_eq_true rfl⟩ (no2 (fUni0 (u := u9) (w := 0) (by omega) (by omega))) (fun hz5 H locs hN => ?_)
    refine g_top (y := F 19 u9) (rUni_0 (u := u9) (by omega)) ?_
    refine lv_istore (lv' := [(10, .int (F 19 u9)), (9, .int (nI u9)), (8, .int 1), (0, .ref (ad 0)), (1, .int (nI x)), (2, .int (nI y)), (3, .ref (ad 43)), (4, .ref (ad 44)), (5, .ref (ad 45)), (6, .ref (ad 46)), (7, .ref (ad 47))]) hx hb dL_others_86 hl (by decide) rfl (fun ls hl => ?_)
    refine lv_aload_n hx hb dL_others_88 rfl (lv_at hl 3 rfl) ?_
    refine lv_bipush (v := 6) hx hb dL_others_89 (by decide) ?_
    refine g_nVI (As := [.int 6]) (rest := []) ⟨hx, hb, hml, hown, hts⟩ hG hN (i := 0) (by decide) rfl rfl (c_X9_all l hl9 6) (cwV 1 hts gL_others_X9_all rfl rfl rfl (by decide +kernel) ⟨Nat.le_of_ble_eq_true rfl, Nat.le_of_ble_eq_true rfl⟩) rfl hl.1 rfl (Nat.le_of_ble_eq_true rfl) dL_others_91 ⟨Nat.le_of_ble_eq_true rfl, Nat.le_of_ble_eq_true rfl⟩ (no1 (show fAll 6 = 0 by decide)) (fun hz6 H locs hN => ?_)
    refine g_top (y := nI t) (ht) ?_
    refine lv_istore (lv' := [(11, .int (nI t)), (10, .int (F 19 u9)), (9, .int (nI u9)), (8, .int 1), (0, .ref (ad 0)), (1, .int (nI x)), (2, .int (nI y)), (3, .ref (ad 43)), (4, .ref (ad 44)), (5, .ref (ad 45)), (6, .ref (ad 46)), (7, .ref (ad 47))]) hx hb dL_others_94 hl (by decide) rfl (fun ls hl => ?_)
    refine lv_aload_n hx hb dL_others_96 rfl (lv_at hl 4 rfl) ?_
    refine lv_iconst (v := 1) hx hb dL_others_97 (by decide) ?_
    refine lv_iload hx hb dL_others_98 (lv_at hl 2 rfl) ?_
    refine lv_iload_n hx hb dL_others_100 rfl (lv_at hl 6 rfl) ?_
    refine lv_bipush (v := 9) hx hb dL_others_101 (by decide) ?_
    refine g_remN (a := y) (b := 9) hx hb rfl rfl (by omega) (by omega) (by omega) dL_others_103 ?_
    refine lv_iconst (v := 4) hx hb dL_others_104 (by decide) ?_
    refine lv_isub hx hb dL_others_105 ?_
    refine lv_iload_n hx hb dL_others_106 rfl (lv_at hl 6 rfl) ?_
    refine lv_bipush (v := 9) hx hb dL_others_107 (by decide) ?_
    refine g_divN (a := y) (b := 9) hx hb rfl rfl (by omega) (by omega) (by omega) dL_others_109 ?_
    refine lv_bipush (v := 9) hx hb dL_others_110 (by decide) ?_
    refine g_remN (a := y / 9) (b := 9) hx hb rfl rfl (by omega) (by omega) (by omega) dL_others_112 ?_
    refine lv_iconst (v := 4) hx hb dL_others_113 (by decide) ?_
    refine lv_isub hx hb dL_others_114 ?_
    refine g_Wi (As := [.ref (ad 0), .int 1, .int (nI u9), .int ((nI (y % 9)) - 4), .int ((nI ((y / 9) % 9)) - 4)]) (rest := []) ⟨hx, hb, hml, hown, hts⟩ hG hN (c_L_asks1 l hl9 u9 t ((nI (y % 9)) - 4) ((nI ((y / 9) % 9)) - 4) (by omega) (co_rng _ (by omega)) (co_rng _ (by omega)) ht ht2) (vx_cwSW 5 hts gL_others_L_asks rfl rfl rfl (by decide +kernel) ⟨Nat.le_of_ble_eq_true rfl, Nat.le_of_ble_eq_true rfl⟩) rfl hl.1 rfl (Nat.le_of_ble_eq_true rfl) dL_others_115 ⟨Nat.le_of_ble_eq_true rfl, Nat.le_of_ble_eq_true rfl⟩ (fun r7 Fq8 Vq9 oq10 H locs hq11 hN => ?_)
    by_cases ht20 : t = 20
    · obtain ⟨er9, eu9⟩ := hq11.1 ht20
      cases eu9
      refine g_top (y := -70008) er9 ?_
      refine lv_istore (lv' := [(12, .int (-70008)), (11, .int (nI t)), (10, .int (F 19 u9)), (9, .int (nI u9)), (8, .int 1), (0, .ref (ad 0)), (1, .int (nI x)), (2, .int (nI y)), (3, .ref (ad 43)), (4, .ref (ad 44)), (5, .ref (ad 45)), (6, .ref (ad 46)), (7, .ref (ad 47))]) hx hb dL_others_118 hl (by decide) rfl (fun ls hl => ?_)
      refine lv_iload hx hb dL_others_120 (lv_at hl 1 rfl) ?_
      refine lv_bipush (v := 20) hx hb dL_others_122 (by decide) ?_
      refine g_cN_ne (a := t) (b := 20) (tgt := 142) hx hb dL_others_124 (by decide) rfl rfl (by omega) (by omega) (fun c12 => absurd c12 (by omega)) (fun c12 => ?_)
      refine lv_iload hx hb dL_others_127 (lv_at hl 0 rfl) ?_
      refine lv_ldc hx hb hown hld_45 dL_others_129 ?_
      refine lv_icmp_ne (tgt := 138) hx hb dL_others_131 (by decide) (fun c13 => False.elim (by revert c13; decide)) (fun _ => ?_)
      refine lv_iconst (v := 1) hx hb dL_others_134 (by decide) ?_
      refine lv_goto (tgt := 207) hx hb dL_others_135 (by decide) ?_
      refine W.widen (k := 800) (n := 4800) (by omega) (by omega) ?_
      exact g_rz hx hb hr hlocks (by decide) hN (⟨rfl, rfl, hP⟩) dL_others_207
    · obtain ⟨er9, eu9⟩ := hq11.2 ht20
      cases eu9
      by_cases h14 : V 1 4 = 0
      · rw [if_pos h14, if_pos h14] at hN
        refine g_top (y := 0) (by rw [er9, if_pos h14]) ?_
        refine lv_istore (lv' := [(12, .int 0), (11, .int (nI t)), (10, .int (F 19 u9)), (9, .int (nI u9)), (8, .int 1), (0, .ref (ad 0)), (1, .int (nI x)), (2, .int (nI y)), (3, .ref (ad 43)), (4, .ref (ad 44)), (5, .ref (ad 45)), (6, .ref (ad 46)), (7, .ref (ad 47))]) hx hb dL_others_118 hl (by decide) rfl (fun ls hl => ?_)
        refine lv_iload hx hb dL_others_120 (lv_at hl 1 rfl) ?_
        refine lv_bipush (v := 20) hx hb dL_others_122 (by decide) ?_
        refine g_cN_ne (a := t) (b := 20) (tgt := 142) hx hb dL_others_124 (by decide) rfl rfl (by omega) (by omega) (fun c14 => ?_) (fun c14 => absurd c14 (by omega))
        refine lv_aload_n hx hb dL_others_142 rfl (lv_at hl 8 rfl) ?_
        refine lv_bipush (v := 8) hx hb dL_others_143 (by decide) ?_
        refine g_iald hx hb hG hN (i := 43) (n := 9) (j := 8) (by decide) rfl (by decide) (by omega) rfl dL_others_145 ?_
        refine g_top (y := V 1 4) (by first | exact hR.2.2.2.2.2 | (rw [cKeep_o (by decide)]; exact hR.2.2.2.2.2) | (rw [cMove_hi (by decide) (by decide)]; exact hR.2.2.2.2.2)) ?_
        refine lv_if_ne (tgt := 181) hx hb dL_others_146 (by decide) (fun c15 => absurd c15 (fun z => z h14)) (fun c15 => ?_)
        refine lv_iload hx hb dL_others_149 (lv_at hl 0 rfl) ?_
        refine lv_if_ne (tgt := 177) hx hb dL_others_151 (by decide) (fun c16 => False.elim (by revert c16; decide)) (fun _ => ?_)
        refine lv_aload_n hx hb dL_others_154 rfl (lv_at hl 5 rfl) ?_
        refine lv_iload hx hb dL_others_155 (lv_at hl 3 rfl) ?_
        refine lv_iconst (v := 0) hx hb dL_others_157 (by decide) ?_
        refine g_nVI (As := [.int (nI u9), .int 0]) (rest := []) ⟨hx, hb, hml, hown, hts⟩ hG hN (i := 0) (by decide) rfl rfl (c_X9_unit l hl9 (nI u9) 0) (cwV 2 hts gL_others_X9_unit rfl rfl rfl (by decide +kernel) ⟨Nat.le_of_ble_eq_true rfl, Nat.le_of_ble_eq_true rfl⟩) rfl hl.1 rfl (Nat.le_of_ble_eq_true rfl) dL_others_158 ⟨Nat.le_of_ble_eq_true rfl, Nat.le_of_ble_eq_true rfl⟩ (no2 (fUni0 (u := u9) (w := 0) (by omega) (by omega))) (fun hz17 H locs hN => ?_)
        refine g_top (y := F 19 u9 + (nI (y % 9) - 4)) ((rUni_0 (u := u9) (by omega)).trans mv_x) ?_
        refine lv_iload hx hb dL_others_161 (lv_at hl 2 rfl) ?_
        refine lv_iload_n hx hb dL_others_163 rfl (lv_at hl 7 rfl) ?_
        refine lv_bipush (v := 9) hx hb dL_others_164 (by decide) ?_
        refine g_remN (a := y) (b := 9) hx hb rfl rfl (by omega) (by omega) (by omega) dL_others_166 ?_
        refine lv_iadd hx hb dL_others_167 ?_
        refine lv_iconst (v := 4) hx hb dL_others_168 (by decide) ?_
        refine lv_isub hx hb dL_others_169 ?_
        refine lv_icmp_ne (tgt := 177) hx hb dL_others_170 (by decide) (fun c18 => absurd c18 (fun z => z add4)) (fun c18 => ?_)
        refine lv_iconst (v := 1) hx hb dL_others_173 (by decide) ?_
        refine lv_goto (tgt := 207) hx hb dL_others_174 (by decide) ?_
        refine W.widen (k := 800) (n := 4800) (by omega) (by omega) ?_
        exact g_rz hx hb hr hlocks (by decide) hN (⟨rfl, rfl, PI_move hP⟩) dL_others_207
      · rw [if_neg h14, if_neg h14] at hN
        refine g_top (y := nI (t + 1)) (by rw [er9, if_neg h14]) ?_
        refine lv_istore (lv' := [(12, .int (nI (t + 1))), (11, .int (nI t)), (10, .int (F 19 u9)), (9, .int (nI u9)), (8, .int 1), (0, .ref (ad 0)), (1, .int (nI x)), (2, .int (nI y)), (3, .ref (ad 43)), (4, .ref (ad 44)), (5, .ref (ad 45)), (6, .ref (ad 46)), (7, .ref (ad 47))]) hx hb dL_others_118 hl (by decide) rfl (fun ls hl => ?_)
        refine lv_iload hx hb dL_others_120 (lv_at hl 1 rfl) ?_
        refine lv_bipush (v := 20) hx hb dL_others_122 (by decide) ?_
        refine g_cN_ne (a := t) (b := 20) (tgt := 142) hx hb dL_others_124 (by decide) rfl rfl (by omega) (by omega) (fun c19 => ?_) (fun c19 => absurd c19 (by omega))
        refine lv_aload_n hx hb dL_others_142 rfl (lv_at hl 8 rfl) ?_
        refine lv_bipush (v := 8) hx hb dL_others_143 (by decide) ?_
        refine g_iald hx hb hG hN (i := 43) (n := 9) (j := 8) (by decide) rfl (by decide) (by omega) rfl dL_others_145 ?_
        refine g_top (y := V 1 4) (by first | exact hR.2.2.2.2.2 | (rw [cKeep_o (by decide)]; exact hR.2.2.2.2.2) | (rw [cMove_hi (by decide) (by decide)]; exact hR.2.2.2.2.2)) ?_
        refine lv_if_ne (tgt := 181) hx hb dL_others_146 (by decide) (fun c20 => ?_) (fun c20 => absurd c20 (h14))
        refine lv_iload hx hb dL_others_181 (lv_at hl 0 rfl) ?_
        refine lv_iload hx hb dL_others_183 (lv_at hl 1 rfl) ?_
        refine lv_iconst (v := 1) hx hb dL_others_185 (by decide) ?_
        refine g_addN (a := t) (b := 1) hx hb rfl rfl dL_others_186 ?_
        refine g_cN_ne (a := t + 1) (b := t + 1) (tgt := 206) hx hb dL_others_187 (by decide) rfl rfl (by omega) (by omega) (fun c21 => absurd c21 (by omega)) (fun c21 => ?_)
        refine lv_aload_n hx hb dL_others_190 rfl (lv_at hl 5 rfl) ?_
        refine lv_iload hx hb dL_others_191 (lv_at hl 3 rfl) ?_
        refine lv_iconst (v := 0) hx hb dL_others_193 (by decide) ?_
        refine g_nVI (As := [.int (nI u9), .int 0]) (rest := []) ⟨hx, hb, hml, hown, hts⟩ hG hN (i := 0) (by decide) rfl rfl (c_X9_unit l hl9 (nI u9) 0) (cwV 2 hts gL_others_X9_unit rfl rfl rfl (by decide +kernel) ⟨Nat.le_of_ble_eq_true rfl, Nat.le_of_ble_eq_true rfl⟩) rfl hl.1 rfl (Nat.le_of_ble_eq_true rfl) dL_others_194 ⟨Nat.le_of_ble_eq_true rfl, Nat.le_of_ble_eq_true rfl⟩ (no2 (fUni0 (u := u9) (w := 0) (by omega) (by omega))) (fun hz22 H locs hN => ?_)
        refine g_top (y := F 19 u9) ((rUni_0 (u := u9) (by omega)).trans (by rw [cKeep_o (by decide)])) ?_
        refine lv_iload hx hb dL_others_197 (lv_at hl 2 rfl) ?_
        refine lv_icmp_ne (tgt := 206) hx hb dL_others_199 (by decide) (fun c23 => absurd c23 (fun z => z rfl)) (fun c23 => ?_)
        refine lv_iconst (v := 1) hx hb dL_others_202 (by decide) ?_
        refine lv_goto (tgt := 207) hx hb dL_others_203 (by decide) ?_
        refine W.widen (k := 800) (n := 4800) (by omega) (by omega) ?_
        exact g_rz hx hb hr hlocks (by decide) hN (⟨rfl, rfl, PI_putoff hb9 ht (by omega) (by omega) h14 hP⟩) dL_others_207
  · refine g_top (y := 2) (by rw [e6]; rfl) ?_
    refine lv_istore (lv' := [(8, .int 2), (0, .ref (ad 0)), (1, .int (nI x)), (2, .int (nI y)), (3, .ref (ad 43)), (4, .ref (ad 44)), (5, .ref (ad 45)), (6, .ref (ad 46)), (7, .ref (ad 47))]) hx hb dL_others_4 hl (by decide) rfl (fun ls hl => ?_)
    refine lv_iload_n hx hb dL_others_6 rfl (lv_at hl 2 rfl) ?_
    refine lv_bipush (v := 6) hx hb dL_others_7 (by decide) ?_
    refine g_divN (a := x) (b := 6) hx hb rfl rfl (by omega) (by omega) (by omega) dL_others_9 ?_
    refine lv_iconst (v := 4) hx hb dL_others_10 (by decide) ?_
    refine g_remN (a := x / 6) (b := 4) hx hb rfl rfl (by omega) (by omega) (by omega) dL_others_11 ?_
    obtain ⟨u9, hu9, eu9⟩ : ∃ q, q < 4 ∧ (x / 6) % 4 = q := ⟨_, by omega, rfl⟩
    refine g_top (y := nI u9) (by rw [eu9]) ?_
    refine lv_istore (lv' := [(9, .int (nI u9)), (8, .int 2), (0, .ref (ad 0)), (1, .int (nI x)), (2, .int (nI y)), (3, .ref (ad 43)), (4, .ref (ad 44)), (5, .ref (ad 45)), (6, .ref (ad 46)), (7, .ref (ad 47))]) hx hb dL_others_12 hl (by decide) rfl (fun ls hl => ?_)
    refine lv_iload hx hb dL_others_14 (lv_at hl 1 rfl) ?_
    refine lv_if_ne (tgt := 73) hx hb dL_others_16 (by decide) (fun _ => ?_) (fun c24 => False.elim (by revert c24; decide))
    refine lv_iload hx hb dL_others_73 (lv_at hl 1 rfl) ?_
    refine lv_iconst (v := 1) hx hb dL_others_75 (by decide) ?_
    refine lv_icmp_ne (tgt := 208) hx hb dL_others_76 (by decide) (fun _ => ?_) (fun c25 => False.elim (by revert c25; decide))
    refine lv_iload hx hb dL_others_208 (lv_at hl 1 rfl) ?_
    refine lv_iconst (v := 2) hx hb dL_others_210 (by decide) ?_
    refine lv_icmp_ne (tgt := 285) hx hb dL_others_211 (by decide) (fun c26 => False.elim (by revert c26; decide)) (fun _ => ?_)
    refine lv_bipush (v := 8) hx hb dL_others_214 (by decide) ?_
    refine lv_iload hx hb dL_others_216 (lv_at hl 0 rfl) ?_
    refine g_mulN (a := 8) (b := u9) hx hb rfl rfl dL_others_218 ?_
    refine lv_iload_n hx hb dL_others_219 rfl (lv_at hl 4 rfl) ?_
    refine lv_bipush (v := 8) hx hb dL_others_220 (by decide) ?_
    refine g_remN (a := y) (b := 8) hx hb rfl rfl (by omega) (by omega) (by omega) dL_others_222 ?_
    refine g_addN (a := 8 * u9) (b := y % 8) hx hb rfl rfl dL_others_223 ?_
    refine lv_istore (lv' := [(10, .int (nI ((8 * u9) + (y % 8)))), (9, .int (nI u9)), (8, .int 2), (0, .ref (ad 0)), (1, .int (nI x)), (2, .int (nI y)), (3, .ref (ad 43)), (4, .ref (ad 44)), (5, .ref (ad 45)), (6, .ref (ad 46)), (7, .ref (ad 47))]) hx hb dL_others_224 hl (by decide) rfl (fun ls hl => ?_)
    refine lv_aload hx hb dL_others_226 (lv_at hl 7 rfl) ?_
    refine lv_iload hx hb dL_others_228 (lv_at hl 0 rfl) ?_
    refine g_iald hx hb hG hN (i := 44) (n := 32) (j := (8 * u9) + (y % 8)) (by decide) rfl (by decide) (by omega) rfl dL_others_230 ?_
    refine lv_istore (lv' := [(11, .int (F 44 ((8 * u9) + (y % 8)))), (10, .int (nI ((8 * u9) + (y % 8)))), (9, .int (nI u9)), (8, .int 2), (0, .ref (ad 0)), (1, .int (nI x)), (2, .int (nI y)), (3, .ref (ad 43)), (4, .ref (ad 44)), (5, .ref (ad 45)), (6, .ref (ad 46)), (7, .ref (ad 47))]) hx hb dL_others_231 hl (by decide) rfl (fun ls hl => ?_)
    refine lv_aload hx hb dL_others_233 (lv_at hl 8 rfl) ?_
    refine lv_iload hx hb dL_others_235 (lv_at hl 1 rfl) ?_
    refine lv_iload_n hx hb dL_others_237 rfl (lv_at hl 6 rfl) ?_
    refine lv_bipush (v := 8) hx hb dL_others_238 (by decide) ?_
    refine g_divN (a := y) (b := 8) hx hb rfl rfl (by omega) (by omega) (by omega) dL_others_240 ?_
    refine lv_iconst (v := 4) hx hb dL_others_241 (by decide) ?_
    refine g_remN (a := y / 8) (b := 4) hx hb rfl rfl (by omega) (by omega) (by omega) dL_others_242 ?_
    refine g_ifN_ne (a := (y / 8) % 4) (tgt := 256) hx hb dL_others_243 (by decide) rfl (by omega) (fun c27 => ?_) (fun c27 => ?_)
    · refine lv_bipush (v := 50) hx hb dL_others_256 (by decide) ?_
      refine g_iast hx hb hG hN (i := 44) (n := 32) (j := (8 * u9) + (y % 8)) (by decide) (fun _ => rfl) (by decide) (by omega) rfl dL_others_258 (fun H locs hN => ?_)
      refine lv_aload_n hx hb dL_others_259 rfl (lv_at hl 4 rfl) ?_
      refine lv_iload hx hb dL_others_260 (lv_at hl 2 rfl) ?_
      refine lv_iload_n hx hb dL_others_262 rfl (lv_at hl 6 rfl) ?_
      refine lv_bipush (v := 8) hx hb dL_others_263 (by decide) ?_
      refine g_remN (a := y) (b := 8) hx hb rfl rfl (by omega) (by omega) (by omega) dL_others_265 ?_
      refine lv_aload hx hb dL_others_266 (lv_at hl 8 rfl) ?_
      refine lv_iload hx hb dL_others_268 (lv_at hl 1 rfl) ?_
      refine g_iald hx hb hG hN (i := 44) (n := 32) (j := (8 * u9) + (y % 8)) (by decide) rfl (by decide) (by omega) rfl dL_others_270 ?_
      refine g_top (y := 50) (by simp [gw]) ?_
      refine g_nVI (As := [.int (nI u9), .int (nI (y % 8)), .int 50]) (rest := []) ⟨hx, hb, hml, hown, hts⟩ hG hN (i := 0) (by decide) rfl rfl (c_X9_key l hl9 (nI u9) (nI (y % 8)) 50) (cwV 3 hts gL_others_X9_key rfl rfl rfl (by decide +kernel) ⟨Nat.le_of_ble_eq_true rfl, Nat.le_of_ble_eq_true rfl⟩) rfl hl.1 rfl (Nat.le_of_ble_eq_true rfl) dL_others_271 ⟨Nat.le_of_ble_eq_true rfl, Nat.le_of_ble_eq_true rfl⟩ (no2 (fKey0 (x := 50) (by omega) (by omega) (by omega))) (fun hz28 H locs hN => ?_)
      refine g_top (y := F (29 + u9) (y % 8)) (by rw [nI_clamp (show u9 < 2 ^ 31 by omega), nI_clamp (show y % 8 < 2 ^ 31 by omega), gw_n _ _ _ (by omega)]) ?_
      rw [nI_clamp (show u9 < 2 ^ 31 by omega), nI_clamp (show y % 8 < 2 ^ 31 by omega)] at hN
      refine lv_iload hx hb dL_others_274 (lv_at hl 0 rfl) ?_
      refine lv_icmp_ne (tgt := 283) hx hb dL_others_276 (by decide) (fun c29 => absurd c29 (fun z => z (hK _ _ (by omega) (by omega)).symm)) (fun c29 => ?_)
      refine lv_iconst (v := 1) hx hb dL_others_279 (by decide) ?_
      refine lv_goto (tgt := 284) hx hb dL_others_280 (by decide) ?_
      refine W.widen (k := 800) (n := 4800) (by omega) (by omega) ?_
      exact g_rz hx hb hr hlocks (by decide) hN (⟨rfl, rfl, PI_key (by omega) (by omega) hP⟩) dL_others_284
    · refine lv_iload_n hx hb dL_others_246 rfl (lv_at hl 6 rfl) ?_
      refine lv_bipush (v := 32) hx hb dL_others_247 (by decide) ?_
      refine g_divN (a := y) (b := 32) hx hb rfl rfl (by omega) (by omega) (by omega) dL_others_249 ?_
      refine lv_bipush (v := 101) hx hb dL_others_250 (by decide) ?_
      refine g_remN (a := y / 32) (b := 101) hx hb rfl rfl (by omega) (by omega) (by omega) dL_others_252 ?_
      refine lv_goto (tgt := 258) hx hb dL_others_253 (by decide) ?_
      refine g_iast hx hb hG hN (i := 44) (n := 32) (j := (8 * u9) + (y % 8)) (by decide) (fun _ => rfl) (by decide) (by omega) rfl dL_others_258 (fun H locs hN => ?_)
      refine lv_aload_n hx hb dL_others_259 rfl (lv_at hl 4 rfl) ?_
      refine lv_iload hx hb dL_others_260 (lv_at hl 2 rfl) ?_
      refine lv_iload_n hx hb dL_others_262 rfl (lv_at hl 6 rfl) ?_
      refine lv_bipush (v := 8) hx hb dL_others_263 (by decide) ?_
      refine g_remN (a := y) (b := 8) hx hb rfl rfl (by omega) (by omega) (by omega) dL_others_265 ?_
      refine lv_aload hx hb dL_others_266 (lv_at hl 8 rfl) ?_
      refine lv_iload hx hb dL_others_268 (lv_at hl 1 rfl) ?_
      refine g_iald hx hb hG hN (i := 44) (n := 32) (j := (8 * u9) + (y % 8)) (by decide) rfl (by decide) (by omega) rfl dL_others_270 ?_
      refine g_top (y := (nI ((y / 32) % 101))) (by simp [gw]) ?_
      refine g_nVI (As := [.int (nI u9), .int (nI (y % 8)), .int (nI ((y / 32) % 101))]) (rest := []) ⟨hx, hb, hml, hown, hts⟩ hG hN (i := 0) (by decide) rfl rfl (c_X9_key l hl9 (nI u9) (nI (y % 8)) (nI ((y / 32) % 101))) (cwV 3 hts gL_others_X9_key rfl rfl rfl (by decide +kernel) ⟨Nat.le_of_ble_eq_true rfl, Nat.le_of_ble_eq_true rfl⟩) rfl hl.1 rfl (Nat.le_of_ble_eq_true rfl) dL_others_271 ⟨Nat.le_of_ble_eq_true rfl, Nat.le_of_ble_eq_true rfl⟩ (no2 (fKey0 (x := ((y / 32) % 101)) (by omega) (by omega) (by omega))) (fun hz30 H locs hN => ?_)
      refine g_top (y := F (29 + u9) (y % 8)) (by rw [nI_clamp (show u9 < 2 ^ 31 by omega), nI_clamp (show y % 8 < 2 ^ 31 by omega), gw_n _ _ _ (by omega)]) ?_
      rw [nI_clamp (show u9 < 2 ^ 31 by omega), nI_clamp (show y % 8 < 2 ^ 31 by omega)] at hN
      refine lv_iload hx hb dL_others_274 (lv_at hl 0 rfl) ?_
      refine lv_icmp_ne (tgt := 283) hx hb dL_others_276 (by decide) (fun c31 => absurd c31 (fun z => z (hK _ _ (by omega) (by omega)).symm)) (fun c31 => ?_)
      refine lv_iconst (v := 1) hx hb dL_others_279 (by decide) ?_
      refine lv_goto (tgt := 284) hx hb dL_others_280 (by decide) ?_
      refine W.widen (k := 800) (n := 4800) (by omega) (by omega) ?_
      exact g_rz hx hb hr hlocks (by decide) hN (⟨rfl, rfl, PI_key (by omega) (by omega) hP⟩) dL_others_284
  · refine g_top (y := 3) (by rw [e6]; rfl) ?_
    refine lv_istore (lv' := [(8, .int 3), (0, .ref (ad 0)), (1, .int (nI x)), (2, .int (nI y)), (3, .ref (ad 43)), (4, .ref (ad 44)), (5, .ref (ad 45)), (6, .ref (ad 46)), (7, .ref (ad 47))]) hx hb dL_others_4 hl (by decide) rfl (fun ls hl => ?_)
    refine lv_iload_n hx hb dL_others_6 rfl (lv_at hl 2 rfl) ?_
    refine lv_bipush (v := 6) hx hb dL_others_7 (by decide) ?_
    refine g_divN (a := x) (b := 6) hx hb rfl rfl (by omega) (by omega) (by omega) dL_others_9 ?_
    refine lv_iconst (v := 4) hx hb dL_others_10 (by decide) ?_
    refine g_remN (a := x / 6) (b := 4) hx hb rfl rfl (by omega) (by omega) (by omega) dL_others_11 ?_
    obtain ⟨u9, hu9, eu9⟩ : ∃ q, q < 4 ∧ (x / 6) % 4 = q := ⟨_, by omega, rfl⟩
    refine g_top (y := nI u9) (by rw [eu9]) ?_
    refine lv_istore (lv' := [(9, .int (nI u9)), (8, .int 3), (0, .ref (ad 0)), (1, .int (nI x)), (2, .int (nI y)), (3, .ref (ad 43)), (4, .ref (ad 44)), (5, .ref (ad 45)), (6, .ref (ad 46)), (7, .ref (ad 47))]) hx hb dL_others_12 hl (by decide) rfl (fun ls hl => ?_)
    refine lv_iload hx hb dL_others_14 (lv_at hl 1 rfl) ?_
    refine lv_if_ne (tgt := 73) hx hb dL_others_16 (by decide) (fun _ => ?_) (fun c32 => False.elim (by revert c32; decide))
    refine lv_iload hx hb dL_others_73 (lv_at hl 1 rfl) ?_
    refine lv_iconst (v := 1) hx hb dL_others_75 (by decide) ?_
    refine lv_icmp_ne (tgt := 208) hx hb dL_others_76 (by decide) (fun _ => ?_) (fun c33 => False.elim (by revert c33; decide))
    refine lv_iload hx hb dL_others_208 (lv_at hl 1 rfl) ?_
    refine lv_iconst (v := 2) hx hb dL_others_210 (by decide) ?_
    refine lv_icmp_ne (tgt := 285) hx hb dL_others_211 (by decide) (fun _ => ?_) (fun c34 => False.elim (by revert c34; decide))
    refine lv_iload hx hb dL_others_285 (lv_at hl 1 rfl) ?_
    refine lv_iconst (v := 3) hx hb dL_others_287 (by decide) ?_
    refine lv_icmp_ne (tgt := 312) hx hb dL_others_288 (by decide) (fun c35 => False.elim (by revert c35; decide)) (fun _ => ?_)
    refine lv_aload hx hb dL_others_291 (lv_at hl 8 rfl) ?_
    refine lv_iconst (v := 2) hx hb dL_others_293 (by decide) ?_
    refine lv_bipush (v := 20) hx hb dL_others_294 (by decide) ?_
    refine g_iast hx hb hG hN (i := 46) (n := 8) (j := 2) (by decide) (fun _ => rfl) (by decide) (by omega) rfl dL_others_296 (fun H locs hN => ?_)
    refine lv_aload_n hx hb dL_others_297 rfl (lv_at hl 2 rfl) ?_
    refine g_VI (As := []) (rest := []) ⟨hx, hb, hml, hown, hts⟩ hG hN (i := 0) (by decide) rfl rfl (c_X9_tear l ) (cwV 0 hts gL_others_X9_tear rfl rfl rfl (by decide +kernel) ⟨Nat.le_of_ble_eq_true rfl, Nat.le_of_ble_eq_true rfl⟩) rfl hl.1 rfl (Nat.le_of_ble_eq_true rfl) dL_others_298 ⟨Nat.le_of_ble_eq_true rfl, Nat.le_of_ble_eq_true rfl⟩ (fun H locs hN => ?_)
    refine lv_bipush (v := 20) hx hb dL_others_301 (by decide) ?_
    refine lv_icmp_ne (tgt := 310) hx hb dL_others_303 (by decide) (fun c36 => False.elim (by revert c36; decide)) (fun _ => ?_)
    refine lv_iconst (v := 1) hx hb dL_others_306 (by decide) ?_
    refine lv_goto (tgt := 311) hx hb dL_others_307 (by decide) ?_
    refine W.widen (k := 800) (n := 4800) (by omega) (by omega) ?_
    exact g_rz hx hb hr hlocks (by decide) hN (⟨rfl, rfl, PI_tear hP⟩) dL_others_311
  · refine g_top (y := 4) (by rw [e6]; rfl) ?_
    refine lv_istore (lv' := [(8, .int 4), (0, .ref (ad 0)), (1, .int (nI x)), (2, .int (nI y)), (3, .ref (ad 43)), (4, .ref (ad 44)), (5, .ref (ad 45)), (6, .ref (ad 46)), (7, .ref (ad 47))]) hx hb dL_others_4 hl (by decide) rfl (fun ls hl => ?_)
    refine lv_iload_n hx hb dL_others_6 rfl (lv_at hl 2 rfl) ?_
    refine lv_bipush (v := 6) hx hb dL_others_7 (by decide) ?_
    refine g_divN (a := x) (b := 6) hx hb rfl rfl (by omega) (by omega) (by omega) dL_others_9 ?_
    refine lv_iconst (v := 4) hx hb dL_others_10 (by decide) ?_
    refine g_remN (a := x / 6) (b := 4) hx hb rfl rfl (by omega) (by omega) (by omega) dL_others_11 ?_
    obtain ⟨u9, hu9, eu9⟩ : ∃ q, q < 4 ∧ (x / 6) % 4 = q := ⟨_, by omega, rfl⟩
    refine g_top (y := nI u9) (by rw [eu9]) ?_
    refine lv_istore (lv' := [(9, .int (nI u9)), (8, .int 4), (0, .ref (ad 0)), (1, .int (nI x)), (2, .int (nI y)), (3, .ref (ad 43)), (4, .ref (ad 44)), (5, .ref (ad 45)), (6, .ref (ad 46)), (7, .ref (ad 47))]) hx hb dL_others_12 hl (by decide) rfl (fun ls hl => ?_)
    refine lv_iload hx hb dL_others_14 (lv_at hl 1 rfl) ?_
    refine lv_if_ne (tgt := 73) hx hb dL_others_16 (by decide) (fun _ => ?_) (fun c37 => False.elim (by revert c37; decide))
    refine lv_iload hx hb dL_others_73 (lv_at hl 1 rfl) ?_
    refine lv_iconst (v := 1) hx hb dL_others_75 (by decide) ?_
    refine lv_icmp_ne (tgt := 208) hx hb dL_others_76 (by decide) (fun _ => ?_) (fun c38 => False.elim (by revert c38; decide))
    refine lv_iload hx hb dL_others_208 (lv_at hl 1 rfl) ?_
    refine lv_iconst (v := 2) hx hb dL_others_210 (by decide) ?_
    refine lv_icmp_ne (tgt := 285) hx hb dL_others_211 (by decide) (fun _ => ?_) (fun c39 => False.elim (by revert c39; decide))
    refine lv_iload hx hb dL_others_285 (lv_at hl 1 rfl) ?_
    refine lv_iconst (v := 3) hx hb dL_others_287 (by decide) ?_
    refine lv_icmp_ne (tgt := 312) hx hb dL_others_288 (by decide) (fun _ => ?_) (fun c40 => False.elim (by revert c40; decide))
    refine lv_iload hx hb dL_others_312 (lv_at hl 1 rfl) ?_
    refine lv_iconst (v := 4) hx hb dL_others_314 (by decide) ?_
    refine lv_icmp_ne (tgt := 412) hx hb dL_others_315 (by decide) (fun c41 => False.elim (by revert c41; decide)) (fun _ => ?_)
    refine lv_aload_n hx hb dL_others_318 rfl (lv_at hl 2 rfl) ?_
    refine lv_iconst (v := 0) hx hb dL_others_319 (by decide) ?_
    refine lv_iconst (v := 1) hx hb dL_others_320 (by decide) ?_
    refine lv_iload_n hx hb dL_others_321 rfl (lv_at hl 4 rfl) ?_
    refine lv_bipush (v := 40) hx hb dL_others_322 (by decide) ?_
    refine g_remN (a := y) (b := 40) hx hb rfl rfl (by omega) (by omega) (by omega) dL_others_324 ?_
    refine g_addN (a := 1) (b := y % 40) hx hb rfl rfl dL_others_325 ?_
    refine lv_iconst (v := 0) hx hb dL_others_326 (by decide) ?_
    refine lv_iconst (v := 0) hx hb dL_others_327 (by decide) ?_
    refine g_Wi (As := [.ref (ad 0), .int 0, .int (nI (1 + (y % 40))), .int 0, .int 0]) (rest := []) ⟨hx, hb, hml, hown, hts⟩ hG hN (c_L_asks0 l hl9 (1 + (y % 40)) w (by omega) (by omega) hw5 (by omega)) (vx_cwSW 5 hts gL_others_L_asks rfl rfl rfl (by decide +kernel) ⟨Nat.le_of_ble_eq_true rfl, Nat.le_of_ble_eq_true rfl⟩) rfl hl.1 rfl (Nat.le_of_ble_eq_true rfl) dL_others_328 ⟨Nat.le_of_ble_eq_true rfl, Nat.le_of_ble_eq_true rfl⟩ (fun r42 Fq43 Vq44 oq45 H locs hq46 hN => ?_)
    by_cases hw0 : w = 0
    · obtain ⟨er9, eu9⟩ := hq46.2 hw0
      cases eu9
      refine g_top (y := 0) er9 ?_
      refine lv_istore (lv' := [(10, .int 0), (9, .int (nI u9)), (8, .int 4), (0, .ref (ad 0)), (1, .int (nI x)), (2, .int (nI y)), (3, .ref (ad 43)), (4, .ref (ad 44)), (5, .ref (ad 45)), (6, .ref (ad 46)), (7, .ref (ad 47))]) hx hb dL_others_331 hl (by decide) rfl (fun ls hl => ?_)
      refine lv_aload hx hb dL_others_333 (lv_at hl 9 rfl) ?_
      refine lv_iconst (v := 0) hx hb dL_others_335 (by decide) ?_
      refine g_iald hx hb hG hN (i := 46) (n := 8) (j := 0) (by decide) rfl (by decide) (by omega) rfl dL_others_336 ?_
      refine g_top (y := nI N) (by rw [cBeg_o (by decide)]; exact hC0) ?_
      refine lv_aload hx hb dL_others_337 (lv_at hl 9 rfl) ?_
      refine lv_iconst (v := 1) hx hb dL_others_339 (by decide) ?_
      refine g_iald hx hb hG hN (i := 46) (n := 8) (j := 1) (by decide) rfl (by decide) (by omega) rfl dL_others_340 ?_
      refine g_top (y := nI (N - w)) (by rw [cBeg_o (by decide)]; exact hC1) ?_
      refine g_cN_le (a := N) (b := N - w) (tgt := 357) hx hb dL_others_341 (by decide) rfl rfl (by omega) (by omega) (fun c47 => ?_) (fun c47 => absurd c47 (by omega))
      refine lv_aload hx hb dL_others_357 (lv_at hl 9 rfl) ?_
      refine lv_iconst (v := 0) hx hb dL_others_359 (by decide) ?_
      refine lv_iconst (v := 1) hx hb dL_others_360 (by decide) ?_
      refine lv_iload_n hx hb dL_others_361 rfl (lv_at hl 5 rfl) ?_
      refine lv_bipush (v := 40) hx hb dL_others_362 (by decide) ?_
      refine g_remN (a := y) (b := 40) hx hb rfl rfl (by omega) (by omega) (by omega) dL_others_364 ?_
      refine g_addN (a := 1) (b := y % 40) hx hb rfl rfl dL_others_365 ?_
      refine g_iast hx hb hG hN (i := 46) (n := 8) (j := 0) (by decide) (fun _ => rfl) (by decide) (by omega) rfl dL_others_366 (fun H locs hN => ?_)
      refine lv_aload hx hb dL_others_367 (lv_at hl 9 rfl) ?_
      refine lv_iconst (v := 1) hx hb dL_others_369 (by decide) ?_
      refine lv_iconst (v := 0) hx hb dL_others_370 (by decide) ?_
      refine g_iast hx hb hG hN (i := 46) (n := 8) (j := 1) (by decide) (fun _ => rfl) (by decide) (by omega) rfl dL_others_371 (fun H locs hN => ?_)
      rw [← tzF_0 (Z := (gw (gw (cBeg F (1 + (y % 40))) 46 0 (nI (1 + (y % 40)))) 46 1 0))] at hN
      refine lv_iconst (v := 0) hx hb dL_others_372 (by decide) ?_
      refine lv_istore (lv' := [(11, .int 0), (10, .int 0), (9, .int (nI u9)), (8, .int 4), (0, .ref (ad 0)), (1, .int (nI x)), (2, .int (nI y)), (3, .ref (ad 43)), (4, .ref (ad 44)), (5, .ref (ad 45)), (6, .ref (ad 46)), (7, .ref (ad 47))]) hx hb dL_others_373 hl (by decide) rfl (fun ls hl => ?_)
      have L48 : ∀ (d9_375 : Nat) (j : Nat) (H : Heap) (locs : List Loc) (ls : Array Slot), 40 - j = d9_375 → (j ≤ 40) → gN D ad cs s0 (tzF (gw (gw (cBeg F (1 + (y % 40))) 46 0 (nI (1 + (y % 40)))) 46 1 0) j) (gw (gw (gw V 33 3 (nI (1 + (y % 40)))) 33 4 0) 33 5 (nI (1 + (y % 40)))) o H locs → lv_has ls 14 [(0, .ref (ad 0)), (1, .int (nI x)), (2, .int (nI y)), (3, .ref (ad 43)), (4, .ref (ad 44)), (5, .ref (ad 45)), (6, .ref (ad 46)), (7, .ref (ad 47)), (8, .int 4), (9, .int (nI u9)), (10, .int 0), (11, .int (nI j))] → W p0 l e0 ({ frames := 10, cells := 800, slots := 4800, locals := 179 } : Room) s0 m0 ([.ref (ad 0), .int (nI x), .int (nI y), .ref (ad 43), .ref (ad 44), .ref (ad 45), .ref (ad 46), .ref (ad 47)] : List Value).toArray b0 k0 c0 H locs 2 12 (MQ b0 (gQi D ad cs s0.heap.size (fun r9 u9 => r9 = 1 ∧ u9.2.2 = o ∧ PI u9.1 u9.2.1 b)) ([.ref (ad 0), .int (nI x), .int (nI y), .ref (ad 43), .ref (ad 44), .ref (ad 45), .ref (ad 46), .ref (ad 47)] : List Value).toArray s0 800 4800 (gX ad s0.heap.size)) (F0 m0 375 ls []) := by
        intro d9_375
        induction d9_375 with
        | zero =>
          intro j H locs ls hd_375 hj hN hl
          refine lv_iload hx hb dL_others_375 (lv_at hl 11 rfl) ?_
          refine lv_bipush (v := 40) hx hb dL_others_377 (by decide) ?_
          refine g_cN_ge (a := j) (b := 40) (tgt := 394) hx hb dL_others_379 (by decide) rfl rfl (by omega) (by omega) (fun c49 => ?_) (fun c49 => absurd c49 (by omega))
          obtain rfl : j = 40 := by omega
          refine lv_iload hx hb dL_others_394 (lv_at hl 10 rfl) ?_
          refine lv_if_ne (tgt := 410) hx hb dL_others_396 (by decide) (fun c50 => False.elim (by revert c50; decide)) (fun _ => ?_)
          refine lv_aload_n hx hb dL_others_399 rfl (lv_at hl 0 rfl) ?_
          refine g_VI (As := []) (rest := []) ⟨hx, hb, hml, hown, hts⟩ hG hN (i := 0) (by decide) rfl rfl (c_X9_next l 0 (1 + y % 40) (by rw [gw_sn _ _ (by decide), gw_ss]; rfl) (by decide) (gw_ss _ _ _ _) (by omega)) (cwV 0 hts gL_others_X9_next rfl rfl rfl (by decide +kernel) ⟨Nat.le_of_ble_eq_true rfl, Nat.le_of_ble_eq_true rfl⟩) rfl hl.1 rfl (Nat.le_of_ble_eq_true rfl) dL_others_400 ⟨Nat.le_of_ble_eq_true rfl, Nat.le_of_ble_eq_true rfl⟩ (fun H locs hN => ?_)
          refine g_top (y := 0) (by rw [if_neg (by omega), tzF_o (by decide), gw_n _ _ _ (by decide), gw_n _ _ _ (by decide), ((cBeg_at _ 0).1 (by omega)).1]; rfl) ?_
          refine lv_if_ne (tgt := 410) hx hb dL_others_403 (by decide) (fun c51 => False.elim (by revert c51; decide)) (fun _ => ?_)
          refine lv_iconst (v := 1) hx hb dL_others_406 (by decide) ?_
          refine lv_goto (tgt := 411) hx hb dL_others_407 (by decide) ?_
          refine W.widen (k := 800) (n := 4800) (by omega) (by omega) ?_
          exact g_rz hx hb hr hlocks (by decide) hN (⟨rfl, rfl, PI_job (by omega) (by omega) hP⟩) dL_others_411
        | succ d9_375 ih375 =>
          intro j H locs ls hd_375 hj hN hl
          refine lv_iload hx hb dL_others_375 (lv_at hl 11 rfl) ?_
          refine lv_bipush (v := 40) hx hb dL_others_377 (by decide) ?_
          refine g_cN_ge (a := j) (b := 40) (tgt := 394) hx hb dL_others_379 (by decide) rfl rfl (by omega) (by omega) (fun c52 => absurd c52 (by omega)) (fun c52 => ?_)
          refine lv_aload hx hb dL_others_382 (lv_at hl 5 rfl) ?_
          refine lv_iload hx hb dL_others_384 (lv_at hl 11 rfl) ?_
          refine lv_iconst (v := 0) hx hb dL_others_386 (by decide) ?_
          refine g_iast hx hb hG hN (i := 45) (n := 40) (j := j) (by decide) (fun _ => rfl) (by decide) (by omega) rfl dL_others_387 (fun H locs hN => ?_)
          rw [tzF_s] at hN
          refine lv_iinc (v := (nI (j + 1))) (lv' := [(11, .int (nI (j + 1))), (0, .ref (ad 0)), (1, .int (nI x)), (2, .int (nI y)), (3, .ref (ad 43)), (4, .ref (ad 44)), (5, .ref (ad 45)), (6, .ref (ad 46)), (7, .ref (ad 47)), (8, .int 4), (9, .int (nI u9)), (10, .int 0)]) hx hb dL_others_388 hl (k := 11) rfl (nI_1 _) (by decide) rfl (fun ls hl => ?_)
          refine lv_goto (tgt := 375) hx hb dL_others_391 (by decide) ?_
          exact ih375 (j + 1) _ _ ls (by omega) (by omega) hN (lv_sub hl [1, 2, 3, 4, 5, 6, 7, 8, 9, 10, 11, 0] rfl)
      exact L48 _ 0 _ _ ls (rfl) (by omega) hN (lv_sub hl [4, 5, 6, 7, 8, 9, 10, 11, 3, 2, 1, 0] rfl)
    · obtain ⟨er9, eu9⟩ := hq46.1 hw0
      cases eu9
      refine g_top (y := -70008) er9 ?_
      refine lv_istore (lv' := [(10, .int (-70008)), (9, .int (nI u9)), (8, .int 4), (0, .ref (ad 0)), (1, .int (nI x)), (2, .int (nI y)), (3, .ref (ad 43)), (4, .ref (ad 44)), (5, .ref (ad 45)), (6, .ref (ad 46)), (7, .ref (ad 47))]) hx hb dL_others_331 hl (by decide) rfl (fun ls hl => ?_)
      refine lv_aload hx hb dL_others_333 (lv_at hl 9 rfl) ?_
      refine lv_iconst (v := 0) hx hb dL_others_335 (by decide) ?_
      refine g_iald hx hb hG hN (i := 46) (n := 8) (j := 0) (by decide) rfl (by decide) (by omega) rfl dL_others_336 ?_
      refine g_top (y := nI N) (hC0) ?_
      refine lv_aload hx hb dL_others_337 (lv_at hl 9 rfl) ?_
      refine lv_iconst (v := 1) hx hb dL_others_339 (by decide) ?_
      refine g_iald hx hb hG hN (i := 46) (n := 8) (j := 1) (by decide) rfl (by decide) (by omega) rfl dL_others_340 ?_
      refine g_top (y := nI (N - w)) (hC1) ?_
      refine g_cN_le (a := N) (b := N - w) (tgt := 357) hx hb dL_others_341 (by decide) rfl rfl (by omega) (by omega) (fun c53 => absurd c53 (by omega)) (fun c53 => ?_)
      refine lv_iload hx hb dL_others_344 (lv_at hl 0 rfl) ?_
      refine lv_ldc hx hb hown hld_45 dL_others_346 ?_
      refine lv_icmp_ne (tgt := 355) hx hb dL_others_348 (by decide) (fun c54 => False.elim (by revert c54; decide)) (fun _ => ?_)
      refine lv_iconst (v := 1) hx hb dL_others_351 (by decide) ?_
      refine lv_goto (tgt := 356) hx hb dL_others_352 (by decide) ?_
      refine W.widen (k := 800) (n := 4800) (by omega) (by omega) ?_
      exact g_rz hx hb hr hlocks (by decide) hN (⟨rfl, rfl, hP⟩) dL_others_356
  · refine g_top (y := 5) (by rw [e6]; rfl) ?_
    refine lv_istore (lv' := [(8, .int 5), (0, .ref (ad 0)), (1, .int (nI x)), (2, .int (nI y)), (3, .ref (ad 43)), (4, .ref (ad 44)), (5, .ref (ad 45)), (6, .ref (ad 46)), (7, .ref (ad 47))]) hx hb dL_others_4 hl (by decide) rfl (fun ls hl => ?_)
    refine lv_iload_n hx hb dL_others_6 rfl (lv_at hl 2 rfl) ?_
    refine lv_bipush (v := 6) hx hb dL_others_7 (by decide) ?_
    refine g_divN (a := x) (b := 6) hx hb rfl rfl (by omega) (by omega) (by omega) dL_others_9 ?_
    refine lv_iconst (v := 4) hx hb dL_others_10 (by decide) ?_
    refine g_remN (a := x / 6) (b := 4) hx hb rfl rfl (by omega) (by omega) (by omega) dL_others_11 ?_
    obtain ⟨u9, hu9, eu9⟩ : ∃ q, q < 4 ∧ (x / 6) % 4 = q := ⟨_, by omega, rfl⟩
    refine g_top (y := nI u9) (by rw [eu9]) ?_
    refine lv_istore (lv' := [(9, .int (nI u9)), (8, .int 5), (0, .ref (ad 0)), (1, .int (nI x)), (2, .int (nI y)), (3, .ref (ad 43)), (4, .ref (ad 44)), (5, .ref (ad 45)), (6, .ref (ad 46)), (7, .ref (ad 47))]) hx hb dL_others_12 hl (by decide) rfl (fun ls hl => ?_)
    refine lv_iload hx hb dL_others_14 (lv_at hl 1 rfl) ?_
    refine lv_if_ne (tgt := 73) hx hb dL_others_16 (by decide) (fun _ => ?_) (fun c55 => False.elim (by revert c55; decide))
    refine lv_iload hx hb dL_others_73 (lv_at hl 1 rfl) ?_
    refine lv_iconst (v := 1) hx hb dL_others_75 (by decide) ?_
    refine lv_icmp_ne (tgt := 208) hx hb dL_others_76 (by decide) (fun _ => ?_) (fun c56 => False.elim (by revert c56; decide))
    refine lv_iload hx hb dL_others_208 (lv_at hl 1 rfl) ?_
    refine lv_iconst (v := 2) hx hb dL_others_210 (by decide) ?_
    refine lv_icmp_ne (tgt := 285) hx hb dL_others_211 (by decide) (fun _ => ?_) (fun c57 => False.elim (by revert c57; decide))
    refine lv_iload hx hb dL_others_285 (lv_at hl 1 rfl) ?_
    refine lv_iconst (v := 3) hx hb dL_others_287 (by decide) ?_
    refine lv_icmp_ne (tgt := 312) hx hb dL_others_288 (by decide) (fun _ => ?_) (fun c58 => False.elim (by revert c58; decide))
    refine lv_iload hx hb dL_others_312 (lv_at hl 1 rfl) ?_
    refine lv_iconst (v := 4) hx hb dL_others_314 (by decide) ?_
    refine lv_icmp_ne (tgt := 412) hx hb dL_others_315 (by decide) (fun _ => ?_) (fun c59 => False.elim (by revert c59; decide))
    refine lv_aload_n hx hb dL_others_412 rfl (lv_at hl 2 rfl) ?_
    refine g_VI (As := []) (rest := []) ⟨hx, hb, hml, hown, hts⟩ hG hN (i := 0) (by decide) rfl rfl (c_X9_sign l ) (cwV 0 hts gL_others_X9_sign rfl rfl rfl (by decide +kernel) ⟨Nat.le_of_ble_eq_true rfl, Nat.le_of_ble_eq_true rfl⟩) rfl hl.1 rfl (Nat.le_of_ble_eq_true rfl) dL_others_413 ⟨Nat.le_of_ble_eq_true rfl, Nat.le_of_ble_eq_true rfl⟩ (fun H locs hN => ?_)
    refine lv_istore (lv' := [(10, .int (cTkN F 256)), (9, .int (nI u9)), (8, .int 5), (0, .ref (ad 0)), (1, .int (nI x)), (2, .int (nI y)), (3, .ref (ad 43)), (4, .ref (ad 44)), (5, .ref (ad 45)), (6, .ref (ad 46)), (7, .ref (ad 47))]) hx hb dL_others_416 hl (by decide) rfl (fun ls hl => ?_)
    refine lv_iconst (v := 0) hx hb dL_others_418 (by decide) ?_
    refine lv_istore (lv' := [(11, .int 0), (10, .int (cTkN F 256)), (9, .int (nI u9)), (8, .int 5), (0, .ref (ad 0)), (1, .int (nI x)), (2, .int (nI y)), (3, .ref (ad 43)), (4, .ref (ad 44)), (5, .ref (ad 45)), (6, .ref (ad 46)), (7, .ref (ad 47))]) hx hb dL_others_419 hl (by decide) rfl (fun ls hl => ?_)
    refine lv_iconst (v := 0) hx hb dL_others_421 (by decide) ?_
    refine lv_istore (lv' := [(12, .int 0), (11, .int 0), (10, .int (cTkN F 256)), (9, .int (nI u9)), (8, .int 5), (0, .ref (ad 0)), (1, .int (nI x)), (2, .int (nI y)), (3, .ref (ad 43)), (4, .ref (ad 44)), (5, .ref (ad 45)), (6, .ref (ad 46)), (7, .ref (ad 47))]) hx hb dL_others_422 hl (by decide) rfl (fun ls hl => ?_)
    have L60 : ∀ (d9_424 : Nat) (c : Nat) (H : Heap) (locs : List Loc) (ls : Array Slot), 64 - c = d9_424 → (c ≤ 64) → gN D ad cs s0 (cTkF F 256) (gw V 37 1 1) o H locs → lv_has ls 14 [(0, .ref (ad 0)), (1, .int (nI x)), (2, .int (nI y)), (3, .ref (ad 43)), (4, .ref (ad 44)), (5, .ref (ad 45)), (6, .ref (ad 46)), (7, .ref (ad 47)), (8, .int 5), (9, .int (nI u9)), (10, .int (cTkN F 256)), (11, .int (mSum (sgF F) (4 * c))), (12, .int (nI c))] → W p0 l e0 ({ frames := 10, cells := 800, slots := 4800, locals := 179 } : Room) s0 m0 ([.ref (ad 0), .int (nI x), .int (nI y), .ref (ad 43), .ref (ad 44), .ref (ad 45), .ref (ad 46), .ref (ad 47)] : List Value).toArray b0 k0 c0 H locs (0 + 12 * c) (0 + 72 * c) (MQ b0 (gQi D ad cs s0.heap.size (fun r9 u9 => r9 = 1 ∧ u9.2.2 = o ∧ PI u9.1 u9.2.1 b)) ([.ref (ad 0), .int (nI x), .int (nI y), .ref (ad 43), .ref (ad 44), .ref (ad 45), .ref (ad 46), .ref (ad 47)] : List Value).toArray s0 800 4800 (gX ad s0.heap.size)) (F0 m0 424 ls []) := by
      intro d9_424
      induction d9_424 with
      | zero =>
        intro c H locs ls hd_424 hc hN hl
        refine lv_iload hx hb dL_others_424 (lv_at hl 12 rfl) ?_
        refine lv_bipush (v := 64) hx hb dL_others_426 (by decide) ?_
        refine g_cN_ge (a := c) (b := 64) (tgt := 466) hx hb dL_others_428 (by decide) rfl rfl (by omega) (by omega) (fun c61 => ?_) (fun c61 => absurd c61 (by omega))
        obtain rfl : c = 64 := by omega
        refine lv_iload hx hb dL_others_466 (lv_at hl 10 rfl) ?_
        refine lv_iload hx hb dL_others_468 (lv_at hl 11 rfl) ?_
        refine lv_icmp_ne (tgt := 499) hx hb dL_others_470 (by decide) (fun c62 => absurd c62 (fun z => z sg_sum)) (fun c62 => ?_)
        refine lv_aload_n hx hb dL_others_473 rfl (lv_at hl 0 rfl) ?_
        refine lv_iload_n hx hb dL_others_474 rfl (lv_at hl 2 rfl) ?_
        refine lv_bipush (v := 64) hx hb dL_others_475 (by decide) ?_
        refine g_remN (a := y) (b := 64) hx hb rfl rfl (by omega) (by omega) (by omega) dL_others_477 ?_
        refine g_nVI (As := [.int (nI (y % 64))]) (rest := []) ⟨hx, hb, hml, hown, hts⟩ hG hN (i := 0) (by decide) rfl rfl (c_X9_differs l hl9 (nI (y % 64)) hz37) (cwV 1 hts gL_others_X9_differs rfl rfl rfl (by decide +kernel) ⟨Nat.le_of_ble_eq_true rfl, Nat.le_of_ble_eq_true rfl⟩) rfl hl.1 rfl (Nat.le_of_ble_eq_true rfl) dL_others_478 ⟨by show _ ≤ 800; omega, by show _ ≤ 4800; omega⟩ (no2 (fDif_s (by omega))) (fun hz63 H locs hN => ?_)
        refine g_top (y := 0) (by rw [nI_clamp (show y % 64 < 2 ^ 31 by omega)]; exact dif_0 (by omega)) ?_
        refine lv_if_ne (tgt := 499) hx hb dL_others_481 (by decide) (fun c64 => False.elim (by revert c64; decide)) (fun _ => ?_)
        refine lv_aload_n hx hb dL_others_484 rfl (lv_at hl 0 rfl) ?_
        refine lv_iload_n hx hb dL_others_485 rfl (lv_at hl 2 rfl) ?_
        refine lv_bipush (v := 64) hx hb dL_others_486 (by decide) ?_
        refine g_remN (a := y) (b := 64) hx hb rfl rfl (by omega) (by omega) (by omega) dL_others_488 ?_
        refine g_nVI (As := [.int (nI (y % 64))]) (rest := []) ⟨hx, hb, hml, hown, hts⟩ hG hN (i := 0) (by decide) rfl rfl (c_X9_claim l hl9 (nI (y % 64)) hz37) (cwV 1 hts gL_others_X9_claim rfl rfl rfl (by decide +kernel) ⟨Nat.le_of_ble_eq_true rfl, Nat.le_of_ble_eq_true rfl⟩) rfl hl.1 rfl (Nat.le_of_ble_eq_true rfl) dL_others_489 ⟨by show _ ≤ 800; omega, by show _ ≤ 4800; omega⟩ (no2 (fDif_s (by omega))) (fun hz65 H locs hN => ?_)
        refine g_top (y := 0) (by rw [nI_clamp (show y % 64 < 2 ^ 31 by omega), dif_0 (by omega)]; decide) ?_
        refine lv_if_ne (tgt := 499) hx hb dL_others_492 (by decide) (fun c66 => False.elim (by revert c66; decide)) (fun _ => ?_)
        refine lv_iconst (v := 1) hx hb dL_others_495 (by decide) ?_
        refine lv_goto (tgt := 500) hx hb dL_others_496 (by decide) ?_
        refine W.widen (k := 800) (n := 4800) (by omega) (by omega) ?_
        exact g_rz hx hb hr hlocks (by decide) hN (⟨rfl, rfl, PI_sign hP⟩) dL_others_500
      | succ d9_424 ih424 =>
        intro c H locs ls hd_424 hc hN hl
        refine lv_iload hx hb dL_others_424 (lv_at hl 12 rfl) ?_
        refine lv_bipush (v := 64) hx hb dL_others_426 (by decide) ?_
        refine g_cN_ge (a := c) (b := 64) (tgt := 466) hx hb dL_others_428 (by decide) rfl rfl (by omega) (by omega) (fun c67 => absurd c67 (by omega)) (fun c67 => ?_)
        refine lv_iconst (v := 0) hx hb dL_others_431 (by decide) ?_
        refine lv_istore (lv' := [(13, .int 0), (0, .ref (ad 0)), (1, .int (nI x)), (2, .int (nI y)), (3, .ref (ad 43)), (4, .ref (ad 44)), (5, .ref (ad 45)), (6, .ref (ad 46)), (7, .ref (ad 47)), (8, .int 5), (9, .int (nI u9)), (10, .int (cTkN F 256)), (11, .int (mSum (sgF F) (4 * c))), (12, .int (nI c))]) hx hb dL_others_432 hl (by decide) rfl (fun ls hl => ?_)
        have L68 : ∀ (d9_434 : Nat) (k : Nat) (H : Heap) (locs : List Loc) (ls : Array Slot), 4 - k = d9_434 → (k ≤ 4) → gN D ad cs s0 (cTkF F 256) (gw V 37 1 1) o H locs → lv_has ls 14 [(0, .ref (ad 0)), (1, .int (nI x)), (2, .int (nI y)), (3, .ref (ad 43)), (4, .ref (ad 44)), (5, .ref (ad 45)), (6, .ref (ad 46)), (7, .ref (ad 47)), (8, .int 5), (9, .int (nI u9)), (10, .int (cTkN F 256)), (11, .int (mSum (sgF F) (4 * c + k))), (12, .int (nI c)), (13, .int (nI k))] → W p0 l e0 ({ frames := 10, cells := 800, slots := 4800, locals := 179 } : Room) s0 m0 ([.ref (ad 0), .int (nI x), .int (nI y), .ref (ad 43), .ref (ad 44), .ref (ad 45), .ref (ad 46), .ref (ad 47)] : List Value).toArray b0 k0 c0 H locs (0 + 12 * c + 3 * k) (0 + 72 * c + 18 * k) (MQ b0 (gQi D ad cs s0.heap.size (fun r9 u9 => r9 = 1 ∧ u9.2.2 = o ∧ PI u9.1 u9.2.1 b)) ([.ref (ad 0), .int (nI x), .int (nI y), .ref (ad 43), .ref (ad 44), .ref (ad 45), .ref (ad 46), .ref (ad 47)] : List Value).toArray s0 800 4800 (gX ad s0.heap.size)) (F0 m0 434 ls []) := by
          intro d9_434
          induction d9_434 with
          | zero =>
            intro k H locs ls hd_434 hk hN hl
            refine lv_iload hx hb dL_others_434 (lv_at hl 13 rfl) ?_
            refine lv_iconst (v := 4) hx hb dL_others_436 (by decide) ?_
            refine g_cN_ge (a := k) (b := 4) (tgt := 460) hx hb dL_others_437 (by decide) rfl rfl (by omega) (by omega) (fun c69 => ?_) (fun c69 => absurd c69 (by omega))
            obtain rfl : k = 4 := by omega
            refine lv_iinc (v := (nI (c + 1))) (lv' := [(12, .int (nI (c + 1))), (0, .ref (ad 0)), (1, .int (nI x)), (2, .int (nI y)), (3, .ref (ad 43)), (4, .ref (ad 44)), (5, .ref (ad 45)), (6, .ref (ad 46)), (7, .ref (ad 47)), (8, .int 5), (9, .int (nI u9)), (10, .int (cTkN F 256)), (11, .int (mSum (sgF F) (4 * c + 4))), (13, .int (nI 4))]) hx hb dL_others_460 hl (k := 12) rfl (nI_1 _) (by decide) rfl (fun ls hl => ?_)
            refine lv_goto (tgt := 424) hx hb dL_others_463 (by decide) ?_
            refine W.widen (k := (0 + 12 * (c + 1))) (n := (0 + 72 * (c + 1))) (by omega) (by omega) ?_
            exact ih424 (c + 1) _ _ ls (by omega) (by omega) hN (lv_sub hl [1, 2, 3, 4, 5, 6, 7, 8, 9, 10, 11, 12, 0] rfl)
          | succ d9_434 ih434 =>
            intro k H locs ls hd_434 hk hN hl
            refine lv_iload hx hb dL_others_434 (lv_at hl 13 rfl) ?_
            refine lv_iconst (v := 4) hx hb dL_others_436 (by decide) ?_
            refine g_cN_ge (a := k) (b := 4) (tgt := 460) hx hb dL_others_437 (by decide) rfl rfl (by omega) (by omega) (fun c70 => absurd c70 (by omega)) (fun c70 => ?_)
            refine lv_iload hx hb dL_others_440 (lv_at hl 11 rfl) ?_
            refine lv_aload_n hx hb dL_others_442 rfl (lv_at hl 0 rfl) ?_
            refine lv_iload hx hb dL_others_443 (lv_at hl 12 rfl) ?_
            refine lv_iload hx hb dL_others_445 (lv_at hl 13 rfl) ?_
            refine lv_iconst (v := 4) hx hb dL_others_447 (by decide) ?_
            refine g_nVI (As := [.int (nI c), .int (nI k), .int 4]) (rest := [.int (mSum (sgF F) (4 * c + k))]) ⟨hx, hb, hml, hown, hts⟩ hG hN (i := 0) (by decide) rfl rfl (c_X9_ink l hl9 (nI c) (nI k) 4 hz12) (cwV 3 hts gL_others_X9_ink rfl rfl rfl (by decide +kernel) ⟨Nat.le_of_ble_eq_true rfl, Nat.le_of_ble_eq_true rfl⟩) rfl hl.1 rfl (Nat.le_of_ble_eq_true rfl) dL_others_448 ⟨by show _ ≤ 800; omega, by show _ ≤ 4800; omega⟩ (no2 (fInk0 (by omega) (by omega) (by decide))) (fun hz71 H locs hN => ?_)
            refine g_top (y := cPrn F c k) ((rInk_4 (by omega) (by omega)).trans (cTkF_prn (by omega))) ?_
            refine lv_iadd hx hb dL_others_451 ?_
            refine g_top (y := mSum (sgF F) (4 * c + (k + 1))) (sg_s (by omega)) ?_
            refine lv_istore (lv' := [(11, .int (mSum (sgF F) (4 * c + (k + 1)))), (0, .ref (ad 0)), (1, .int (nI x)), (2, .int (nI y)), (3, .ref (ad 43)), (4, .ref (ad 44)), (5, .ref (ad 45)), (6, .ref (ad 46)), (7, .ref (ad 47)), (8, .int 5), (9, .int (nI u9)), (10, .int (cTkN F 256)), (12, .int (nI c)), (13, .int (nI k))]) hx hb dL_others_452 hl (by decide) rfl (fun ls hl => ?_)
            refine lv_iinc (v := (nI (k + 1))) (lv' := [(13, .int (nI (k + 1))), (11, .int (mSum (sgF F) (4 * c + (k + 1)))), (0, .ref (ad 0)), (1, .int (nI x)), (2, .int (nI y)), (3, .ref (ad 43)), (4, .ref (ad 44)), (5, .ref (ad 45)), (6, .ref (ad 46)), (7, .ref (ad 47)), (8, .int 5), (9, .int (nI u9)), (10, .int (cTkN F 256)), (12, .int (nI c))]) hx hb dL_others_454 hl (k := 13) rfl (nI_1 _) (by decide) rfl (fun ls hl => ?_)
            refine lv_goto (tgt := 434) hx hb dL_others_457 (by decide) ?_
            refine W.widen (k := (0 + 12 * c + 3 * (k + 1))) (n := (0 + 72 * c + 18 * (k + 1))) (by omega) (by omega) ?_
            exact ih434 (k + 1) _ _ ls (by omega) (by omega) hN (lv_sub hl [2, 3, 4, 5, 6, 7, 8, 9, 10, 11, 12, 1, 13, 0] rfl)
        refine W.widen (k := (0 + 12 * c)) (n := (0 + 72 * c)) (by omega) (by omega) ?_
        exact L68 _ 0 _ _ ls (rfl) (by omega) hN (lv_sub hl [1, 2, 3, 4, 5, 6, 7, 8, 9, 10, 11, 12, 13, 0] rfl)
    exact L60 _ 0 _ _ ls (rfl) (by omega) hN (lv_sub hl [5, 6, 7, 8, 9, 10, 11, 12, 4, 3, 2, 1, 0] rfl)
