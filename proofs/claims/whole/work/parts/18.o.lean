set_option maxHeartbeats 4000000 in
set_option maxRecDepth 100000 in
theorem c_X10_moves (l : Launch) {D : va_G} {ad : Nat → Nat} {cs : Nat → ClassId} {zd : Nat → Nat} {F V : gF} {o : gO} {sz : Nat} (Fz Vz G Y : gF) (pr t : Nat) (hs0 : sim Fz Vz F V G Y) (hp : pr < 2 ^ 31) (hpr : V 43 25 = nI pr) (ht : V 43 13 = nI t) (ht2 : t ≤ 20) (hu : ∀ j, j < t → ∃ q, q < 4 ∧ G 24 j = nI q) (hd : ∀ j, j < t → ∃ d, pr ≤ d ∧ d < 2 ^ 31 ∧ G 23 j = nI d) : Met l yX10_moves wsX10_moves ({ frames := 0, cells := 0, slots := 0, locals := 0 } : Room) (gPc D ad cs zd F V o sz [.ref (ad 43)]) (gQv D ad cs sz (fun u9 => u9.2.2 = o ∧ u9.2.1 = gw V 43 13 (nI (cFol pr (cDrift G pr) t).2) ∧ sim Fz Vz u9.1 u9.2.1 (cFol pr (cDrift G pr) t).1 (gw Y 18 8 (nI (cFol pr (cDrift G pr) t).2)))) 0 0 (gX ad sz) := by
  refine g_met (Qc := fun z0 => gQv D ad cs z0 (fun u9 => u9.2.2 = o ∧ u9.2.1 = gw V 43 13 (nI (cFol pr (cDrift G pr) t).2) ∧ sim Fz Vz u9.1 u9.2.1 (cFol pr (cDrift G pr) t).1 (gw Y 18 8 (nI (cFol pr (cDrift G pr) t).2)))) (cc := cX10_moves) (maxL := 3) (ret := none) (own := RX10) (by decide +kernel) rfl rfl (Nat.le_of_ble_eq_true rfl) ?_
  intro p0 e0 s0 m0 b0 k0 c0 hx hb hr hts hown hlocks hml hG hN ls hl
  have hl : lv_has ls 3 [(0, .ref (ad 43))] := hl
  have hin_10 : ∀ w ∈ wsX100, w ∈ wsX10_moves := by decide +kernel
  have hk_151 := hts (.fieldLink RX10 151 "GravureHouseModel" "coming" "I") (by decide +kernel)
  have hk_56 := hts (.fieldLink RX10 56 "GravureHouseModel" "when" "[I") (by decide +kernel)
  have hk_154 := hts (.fieldLink RX10 154 "GravureHouseModel" "printed" "I") (by decide +kernel)
  have hk_47 := hts (.fieldLink RX10 47 "GravureHouseModel" "ofUnit" "[I") (by decide +kernel)
  have hk_50 := hts (.fieldLink RX10 50 "GravureHouseModel" "byX" "[I") (by decide +kernel)
  have hk_53 := hts (.fieldLink RX10 53 "GravureHouseModel" "byY" "[I") (by decide +kernel)
  have hk_32 := hts (.fieldLink RX10 32 "GravureHouseModel" "x" "[I") (by decide +kernel)
  have hk_35 := hts (.fieldLink RX10 35 "GravureHouseModel" "y" "[I") (by decide +kernel)
  have hk_38 := hts (.fieldLink RX10 38 "GravureHouseModel" "driftX" "[I") (by decide +kernel)
  have hk_41 := hts (.fieldLink RX10 41 "GravureHouseModel" "driftY" "[I") (by decide +kernel)
  have J1 : ∀ (F1 : gF) (H : Heap) (locs : List Loc) (ls : Array Slot), (sim Fz Vz F1 V (cDrift G pr) Y) → gN D ad cs s0 F1 V o H locs → lv_has ls 3 [(0, .ref (ad 43))] → W p0 l e0 ({ frames := 0, cells := 0, slots := 0, locals := 0 } : Room) s0 m0 ([.ref (ad 43)] : List Value).toArray b0 k0 c0 H locs 0 0 (MQ b0 (gQv D ad cs s0.heap.size (fun u9 => u9.2.2 = o ∧ u9.2.1 = gw V 43 13 (nI (cFol pr (cDrift G pr) t).2) ∧ sim Fz Vz u9.1 u9.2.1 (cFol pr (cDrift G pr) t).1 (gw Y 18 8 (nI (cFol pr (cDrift G pr) t).2)))) ([.ref (ad 43)] : List Value).toArray s0 0 0 (gX ad s0.heap.size)) (F0 m0 53 ls []) := by
    intro F1 H locs ls hs1 hN hl
    refine lv_iconst (v := 0) hx hb dX10_moves_53 (by decide) ?_
    refine lv_istore_n (lv' := [(1, .int 0), (0, .ref (ad 43))]) hx hb dX10_moves_54 rfl hl (by decide) rfl (fun ls hl => ?_)
    refine lv_iconst (v := 0) hx hb dX10_moves_55 (by decide) ?_
    refine lv_istore_n (lv' := [(2, .int 0), (1, .int 0), (0, .ref (ad 43))]) hx hb dX10_moves_56 rfl hl (by decide) rfl (fun ls hl => ?_)
    have L2 : ∀ (d9_57 : Nat) (n : Nat) (kp : Nat) (F2 : gF) (H : Heap) (locs : List Loc) (ls : Array Slot), t - n = d9_57 → (n ≤ t) → (kp = (cFol pr (cDrift G pr) n).2) → (kp ≤ n) → (sim Fz Vz F2 V (cFol pr (cDrift G pr) n).1 Y) → gN D ad cs s0 F2 V o H locs → lv_has ls 3 [(0, .ref (ad 43)), (1, .int (nI kp)), (2, .int (nI n))] → W p0 l e0 ({ frames := 0, cells := 0, slots := 0, locals := 0 } : Room) s0 m0 ([.ref (ad 43)] : List Value).toArray b0 k0 c0 H locs 0 0 (MQ b0 (gQv D ad cs s0.heap.size (fun u9 => u9.2.2 = o ∧ u9.2.1 = gw V 43 13 (nI (cFol pr (cDrift G pr) t).2) ∧ sim Fz Vz u9.1 u9.2.1 (cFol pr (cDrift G pr) t).1 (gw Y 18 8 (nI (cFol pr (cDrift G pr) t).2)))) ([.ref (ad 43)] : List Value).toArray s0 0 0 (gX ad s0.heap.size)) (F0 m0 57 ls []) := by
      intro d9_57
      induction d9_57 with
      | zero =>
        intro n kp F2 H locs ls hd_57 hn ek hk hs2 hN hl
        refine lv_iload_n hx hb dX10_moves_57 rfl (lv_at hl 2 rfl) ?_
        refine lv_aload_n hx hb dX10_moves_58 rfl (lv_at hl 0 rfl) ?_
        refine gf_43_13 hx hb hts hin_10 hown hG hN hk_151 dX10_moves_59 ?_
        refine g_top (y := nI t) ht ?_
        refine g_cN_ge (a := n) (b := t) (tgt := 178) hx hb dX10_moves_62 (by decide) rfl rfl (by omega) (by omega) (fun c3 => ?_) (fun c3 => absurd c3 (by omega))
        refine lv_aload_n hx hb dX10_moves_178 rfl (lv_at hl 0 rfl) ?_
        refine lv_iload_n hx hb dX10_moves_179 rfl (lv_at hl 1 rfl) ?_
        refine gp_43_13 hx hb hts hin_10 hown hG hN hk_151 dX10_moves_180 (fun H locs hN => ?_)
        exact g_rv hx hb hr hlocks hN (⟨rfl, by rw [ek, show n = t by omega], by (obtain rfl : n = t := (by omega)); rw [← ek]; exact hs2.v13⟩) dX10_moves_183
      | succ d9_57 ih57 =>
        intro n kp F2 H locs ls hd_57 hn ek hk hs2 hN hl
        refine lv_iload_n hx hb dX10_moves_57 rfl (lv_at hl 2 rfl) ?_
        refine lv_aload_n hx hb dX10_moves_58 rfl (lv_at hl 0 rfl) ?_
        refine gf_43_13 hx hb hts hin_10 hown hG hN hk_151 dX10_moves_59 ?_
        refine g_top (y := nI t) ht ?_
        refine g_cN_ge (a := n) (b := t) (tgt := 178) hx hb dX10_moves_62 (by decide) rfl rfl (by omega) (by omega) (fun c4 => absurd c4 (by omega)) (fun c4 => ?_)
        have hx9a : F2 59 n = G 23 n := (hs2.1 23 (by decide) n).trans (mFol_at (by decide) (by decide))
        obtain ⟨d9, hd1, hd2, hd3⟩ := hd n (by omega)
        refine lv_aload_n hx hb dX10_moves_65 rfl (lv_at hl 0 rfl) ?_
        refine gf_43_17 hx hb hts hin_10 hown hG hN hk_56 dX10_moves_66 ?_
        refine lv_iload_n hx hb dX10_moves_69 rfl (lv_at hl 2 rfl) ?_
        refine g_iald hx hb hG hN (i := 59) (n := 20) (j := n) (by decide) rfl (by decide) (by omega) rfl dX10_moves_70 ?_
        refine lv_aload_n hx hb dX10_moves_71 rfl (lv_at hl 0 rfl) ?_
        refine gf_43_25 hx hb hts hin_10 hown hG hN hk_154 dX10_moves_72 ?_
        refine g_top (y := nI pr) hpr ?_
        refine lv_icmp_ne (tgt := 121) hx hb dX10_moves_75 (by decide) (fun c5 => ?_) (fun c5 => ?_)
        · have hgt9 : ¬ (cFol pr (cDrift G pr) n).1 23 n ≤ nI pr := by rw [mFol_at (by decide) (by decide), hd3]; exact fun z => c5 (by rw [hx9a, hd3, show d9 = pr from Nat.le_antisymm ((nI_leI hd2 hp).mp z) hd1])
          refine lv_aload_n hx hb dX10_moves_121 rfl (lv_at hl 0 rfl) ?_
          refine gf_43_14 hx hb hts hin_10 hown hG hN hk_47 dX10_moves_122 ?_
          refine lv_iload_n hx hb dX10_moves_125 rfl (lv_at hl 1 rfl) ?_
          refine lv_aload_n hx hb dX10_moves_126 rfl (lv_at hl 0 rfl) ?_
          refine gf_43_14 hx hb hts hin_10 hown hG hN hk_47 dX10_moves_127 ?_
          refine lv_iload_n hx hb dX10_moves_130 rfl (lv_at hl 2 rfl) ?_
          refine g_iald hx hb hG hN (i := 56) (n := 20) (j := n) (by decide) rfl (by decide) (by omega) rfl dX10_moves_131 ?_
          refine g_iast hx hb hG hN (i := 56) (n := 20) (j := kp) (by decide) (fun _ => rfl) (by decide) (by omega) rfl dX10_moves_132 (fun H locs hN => ?_)
          refine lv_aload_n hx hb dX10_moves_133 rfl (lv_at hl 0 rfl) ?_
          refine gf_43_15 hx hb hts hin_10 hown hG hN hk_50 dX10_moves_134 ?_
          refine lv_iload_n hx hb dX10_moves_137 rfl (lv_at hl 1 rfl) ?_
          refine lv_aload_n hx hb dX10_moves_138 rfl (lv_at hl 0 rfl) ?_
          refine gf_43_15 hx hb hts hin_10 hown hG hN hk_50 dX10_moves_139 ?_
          refine lv_iload_n hx hb dX10_moves_142 rfl (lv_at hl 2 rfl) ?_
          refine g_iald hx hb hG hN (i := 57) (n := 20) (j := n) (by decide) rfl (by decide) (by omega) rfl dX10_moves_143 ?_
          refine g_top (y := (F2 57 n)) (rfl) ?_
          refine g_iast hx hb hG hN (i := 57) (n := 20) (j := kp) (by decide) (fun _ => rfl) (by decide) (by omega) rfl dX10_moves_144 (fun H locs hN => ?_)
          refine lv_aload_n hx hb dX10_moves_145 rfl (lv_at hl 0 rfl) ?_
          refine gf_43_16 hx hb hts hin_10 hown hG hN hk_53 dX10_moves_146 ?_
          refine lv_iload_n hx hb dX10_moves_149 rfl (lv_at hl 1 rfl) ?_
          refine lv_aload_n hx hb dX10_moves_150 rfl (lv_at hl 0 rfl) ?_
          refine gf_43_16 hx hb hts hin_10 hown hG hN hk_53 dX10_moves_151 ?_
          refine lv_iload_n hx hb dX10_moves_154 rfl (lv_at hl 2 rfl) ?_
          refine g_iald hx hb hG hN (i := 58) (n := 20) (j := n) (by decide) rfl (by decide) (by omega) rfl dX10_moves_155 ?_
          refine g_top (y := (F2 58 n)) (rfl) ?_
          refine g_iast hx hb hG hN (i := 58) (n := 20) (j := kp) (by decide) (fun _ => rfl) (by decide) (by omega) rfl dX10_moves_156 (fun H locs hN => ?_)
          refine lv_aload_n hx hb dX10_moves_157 rfl (lv_at hl 0 rfl) ?_
          refine gf_43_17 hx hb hts hin_10 hown hG hN hk_56 dX10_moves_158 ?_
          refine lv_iload_n hx hb dX10_moves_161 rfl (lv_at hl 1 rfl) ?_
          refine lv_aload_n hx hb dX10_moves_162 rfl (lv_at hl 0 rfl) ?_
          refine gf_43_17 hx hb hts hin_10 hown hG hN hk_56 dX10_moves_163 ?_
          refine lv_iload_n hx hb dX10_moves_166 rfl (lv_at hl 2 rfl) ?_
          refine g_iald hx hb hG hN (i := 59) (n := 20) (j := n) (by decide) rfl (by decide) (by omega) rfl dX10_moves_167 ?_
          refine g_top (y := (F2 59 n)) (rfl) ?_
          refine g_iast hx hb hG hN (i := 59) (n := 20) (j := kp) (by decide) (fun _ => rfl) (by decide) (by omega) rfl dX10_moves_168 (fun H locs hN => ?_)
          refine lv_iinc (v := (nI (kp + 1))) (lv' := [(1, .int (nI (kp + 1))), (0, .ref (ad 43)), (2, .int (nI n))]) hx hb dX10_moves_169 hl (k := 1) rfl (nI_1 _) (by decide) rfl (fun ls hl => ?_)
          refine lv_iinc (v := (nI (n + 1))) (lv' := [(2, .int (nI (n + 1))), (1, .int (nI (kp + 1))), (0, .ref (ad 43))]) hx hb dX10_moves_172 hl (k := 2) rfl (nI_1 _) (by decide) rfl (fun ls hl => ?_)
          refine lv_goto (tgt := 57) hx hb dX10_moves_175 (by decide) ?_
          exact ih57 (n + 1) (kp + 1) (gw (gw (gw (gw F2 56 kp (F2 56 n)) 57 kp (F2 57 n)) 58 kp (F2 58 n)) 59 kp (F2 59 n)) _ _ ls (by omega) (by omega) (by rw [cFol_neg hgt9]; show kp + 1 = (cFol pr (cDrift G pr) n).2 + 1; rw [ek]) (by omega) (by rw [cFol_neg hgt9, ← ek]; exact sim_kp hs2) hN (lv_sub hl [2, 1, 0] rfl)
        · have hle9 : (cFol pr (cDrift G pr) n).1 23 n ≤ nI pr := by rw [mFol_at (by decide) (by decide), ← hx9a, c5]; exact Int32.le_refl _
          obtain ⟨hc1, hc2⟩ := g_ix (n := 4) (by decide) (show ∃ q, q < 4 ∧ F2 56 n = nI q from by rw [show F2 56 n = G 24 n from (hs2.1 24 (by decide) n).trans (mFol_at (by decide) (by decide))]; exact hu n (by omega))
          refine lv_aload_n hx hb dX10_moves_78 rfl (lv_at hl 0 rfl) ?_
          refine gf_43_8 hx hb hts hin_10 hown hG hN hk_32 dX10_moves_79 ?_
          refine lv_aload_n hx hb dX10_moves_82 rfl (lv_at hl 0 rfl) ?_
          refine gf_43_14 hx hb hts hin_10 hown hG hN hk_47 dX10_moves_83 ?_
          refine lv_iload_n hx hb dX10_moves_86 rfl (lv_at hl 2 rfl) ?_
          refine g_iald hx hb hG hN (i := 56) (n := 20) (j := n) (by decide) rfl (by decide) (by omega) rfl dX10_moves_87 ?_
          refine g_top (y := nI ((F2 56 n).toNatClampNeg)) (hc1) ?_
          refine lv_dup2_11 hx hb dX10_moves_88 rfl rfl ?_
          refine g_iald hx hb hG hN (i := 51) (n := 4) (j := (F2 56 n).toNatClampNeg) (by decide) rfl (by decide) (by omega) rfl dX10_moves_89 ?_
          refine lv_aload_n hx hb dX10_moves_90 rfl (lv_at hl 0 rfl) ?_
          refine gf_43_15 hx hb hts hin_10 hown hG hN hk_50 dX10_moves_91 ?_
          refine lv_iload_n hx hb dX10_moves_94 rfl (lv_at hl 2 rfl) ?_
          refine g_iald hx hb hG hN (i := 57) (n := 20) (j := n) (by decide) rfl (by decide) (by omega) rfl dX10_moves_95 ?_
          refine lv_iadd hx hb dX10_moves_96 ?_
          refine g_iast hx hb hG hN (i := 51) (n := 4) (j := (F2 56 n).toNatClampNeg) (by decide) (fun _ => rfl) (by decide) (by omega) rfl dX10_moves_97 (fun H locs hN => ?_)
          refine lv_aload_n hx hb dX10_moves_98 rfl (lv_at hl 0 rfl) ?_
          refine gf_43_9 hx hb hts hin_10 hown hG hN hk_35 dX10_moves_99 ?_
          refine lv_aload_n hx hb dX10_moves_102 rfl (lv_at hl 0 rfl) ?_
          refine gf_43_14 hx hb hts hin_10 hown hG hN hk_47 dX10_moves_103 ?_
          refine lv_iload_n hx hb dX10_moves_106 rfl (lv_at hl 2 rfl) ?_
          refine g_iald hx hb hG hN (i := 56) (n := 20) (j := n) (by decide) rfl (by decide) (by omega) rfl dX10_moves_107 ?_
          refine g_top (y := (F2 56 n)) (rfl) ?_
          refine g_top (y := nI ((F2 56 n).toNatClampNeg)) (hc1) ?_
          refine lv_dup2_11 hx hb dX10_moves_108 rfl rfl ?_
          refine g_iald hx hb hG hN (i := 52) (n := 4) (j := (F2 56 n).toNatClampNeg) (by decide) rfl (by decide) (by omega) rfl dX10_moves_109 ?_
          refine g_top (y := (F2 52 ((F2 56 n).toNatClampNeg))) (rfl) ?_
          refine lv_aload_n hx hb dX10_moves_110 rfl (lv_at hl 0 rfl) ?_
          refine gf_43_16 hx hb hts hin_10 hown hG hN hk_53 dX10_moves_111 ?_
          refine lv_iload_n hx hb dX10_moves_114 rfl (lv_at hl 2 rfl) ?_
          refine g_iald hx hb hG hN (i := 58) (n := 20) (j := n) (by decide) rfl (by decide) (by omega) rfl dX10_moves_115 ?_
          refine g_top (y := (F2 58 n)) (rfl) ?_
          refine lv_iadd hx hb dX10_moves_116 ?_
          refine g_iast hx hb hG hN (i := 52) (n := 4) (j := (F2 56 n).toNatClampNeg) (by decide) (fun _ => rfl) (by decide) (by omega) rfl dX10_moves_117 (fun H locs hN => ?_)
          refine lv_goto (tgt := 172) hx hb dX10_moves_118 (by decide) ?_
          refine lv_iinc (v := (nI (n + 1))) (lv' := [(2, .int (nI (n + 1))), (0, .ref (ad 43)), (1, .int (nI kp))]) hx hb dX10_moves_172 hl (k := 2) rfl (nI_1 _) (by decide) rfl (fun ls hl => ?_)
          refine lv_goto (tgt := 57) hx hb dX10_moves_175 (by decide) ?_
          exact ih57 (n + 1) kp (gw (gw F2 51 ((F2 56 n).toNatClampNeg) ((F2 51 ((F2 56 n).toNatClampNeg)) + (F2 57 n))) 52 ((F2 56 n).toNatClampNeg) ((F2 52 ((F2 56 n).toNatClampNeg)) + (F2 58 n))) _ _ ls (by omega) (by omega) (by rw [cFol_pos hle9]; exact ek) (by omega) (by rw [cFol_pos hle9]; exact sim_mv hs2) hN (lv_sub hl [1, 2, 0] rfl)
    exact L2 _ 0 0 F1 _ _ ls (rfl) (by omega) (rfl) (by omega) (hs1) hN (lv_sub hl [2, 1, 0] rfl)
  refine lv_iconst (v := 0) hx hb dX10_moves_0 (by decide) ?_
  refine lv_istore_n (lv' := [(1, .int 0), (0, .ref (ad 43))]) hx hb dX10_moves_1 rfl hl (by decide) rfl (fun ls hl => ?_)
  have L6 : ∀ (d9_2 : Nat) (n : Nat) (Fa : gF) (H : Heap) (locs : List Loc) (ls : Array Slot), 4 - n = d9_2 → (n ≤ 4) → (sim Fz Vz Fa V (cDr G n) Y) → (n = 0 ∨ pr % 10 = 0) → gN D ad cs s0 Fa V o H locs → lv_has ls 3 [(0, .ref (ad 43)), (1, .int (nI n))] → W p0 l e0 ({ frames := 0, cells := 0, slots := 0, locals := 0 } : Room) s0 m0 ([.ref (ad 43)] : List Value).toArray b0 k0 c0 H locs 0 0 (MQ b0 (gQv D ad cs s0.heap.size (fun u9 => u9.2.2 = o ∧ u9.2.1 = gw V 43 13 (nI (cFol pr (cDrift G pr) t).2) ∧ sim Fz Vz u9.1 u9.2.1 (cFol pr (cDrift G pr) t).1 (gw Y 18 8 (nI (cFol pr (cDrift G pr) t).2)))) ([.ref (ad 43)] : List Value).toArray s0 0 0 (gX ad s0.heap.size)) (F0 m0 2 ls []) := by
    intro d9_2
    induction d9_2 with
    | zero =>
      intro n Fa H locs ls hd_2 hn hs hq hN hl
      refine lv_iload_n hx hb dX10_moves_2 rfl (lv_at hl 1 rfl) ?_
      refine lv_iconst (v := 4) hx hb dX10_moves_3 (by decide) ?_
      refine g_cN_ge (a := n) (b := 4) (tgt := 53) hx hb dX10_moves_4 (by decide) rfl rfl (by omega) (by omega) (fun c7 => ?_) (fun c7 => absurd c7 (by omega))
      exact J1 Fa _ _ ls (by unfold cDrift; rw [if_pos (by omega)]; (obtain rfl : n = 4 := (by omega)); exact hs) hN (lv_sub hl [0] rfl)
    | succ d9_2 ih2 =>
      intro n Fa H locs ls hd_2 hn hs hq hN hl
      refine lv_iload_n hx hb dX10_moves_2 rfl (lv_at hl 1 rfl) ?_
      refine lv_iconst (v := 4) hx hb dX10_moves_3 (by decide) ?_
      refine g_cN_ge (a := n) (b := 4) (tgt := 53) hx hb dX10_moves_4 (by decide) rfl rfl (by omega) (by omega) (fun c8 => absurd c8 (by omega)) (fun c8 => ?_)
      refine lv_aload_n hx hb dX10_moves_7 rfl (lv_at hl 0 rfl) ?_
      refine gf_43_25 hx hb hts hin_10 hown hG hN hk_154 dX10_moves_8 ?_
      refine g_top (y := nI pr) hpr ?_
      refine lv_bipush (v := 10) hx hb dX10_moves_11 (by decide) ?_
      refine g_remN (a := pr) (b := 10) hx hb rfl rfl (by omega) (by omega) (by omega) dX10_moves_13 ?_
      refine g_ifN_ne (a := pr % 10) (tgt := 53) hx hb dX10_moves_14 (by decide) rfl (by omega) (fun c9 => ?_) (fun c9 => ?_)
      · exact J1 Fa _ _ ls (by unfold cDrift; rw [if_neg (by omega)]; (obtain rfl : n = 0 := (by omega)); exact hs) hN (lv_sub hl [0] rfl)
      · refine lv_aload_n hx hb dX10_moves_17 rfl (lv_at hl 0 rfl) ?_
        refine gf_43_8 hx hb hts hin_10 hown hG hN hk_32 dX10_moves_18 ?_
        refine lv_iload_n hx hb dX10_moves_21 rfl (lv_at hl 1 rfl) ?_
        refine lv_dup2_11 hx hb dX10_moves_22 rfl rfl ?_
        refine g_iald hx hb hG hN (i := 51) (n := 4) (j := n) (by decide) rfl (by decide) (by omega) rfl dX10_moves_23 ?_
        refine lv_aload_n hx hb dX10_moves_24 rfl (lv_at hl 0 rfl) ?_
        refine gf_43_10 hx hb hts hin_10 hown hG hN hk_38 dX10_moves_25 ?_
        refine lv_iload_n hx hb dX10_moves_28 rfl (lv_at hl 1 rfl) ?_
        refine g_iald hx hb hG hN (i := 53) (n := 4) (j := n) (by decide) rfl (by decide) (by omega) rfl dX10_moves_29 ?_
        refine lv_iadd hx hb dX10_moves_30 ?_
        refine g_iast hx hb hG hN (i := 51) (n := 4) (j := n) (by decide) (fun _ => rfl) (by decide) (by omega) rfl dX10_moves_31 (fun H locs hN => ?_)
        refine lv_aload_n hx hb dX10_moves_32 rfl (lv_at hl 0 rfl) ?_
        refine gf_43_9 hx hb hts hin_10 hown hG hN hk_35 dX10_moves_33 ?_
        refine lv_iload_n hx hb dX10_moves_36 rfl (lv_at hl 1 rfl) ?_
        refine lv_dup2_11 hx hb dX10_moves_37 rfl rfl ?_
        refine g_iald hx hb hG hN (i := 52) (n := 4) (j := n) (by decide) rfl (by decide) (by omega) rfl dX10_moves_38 ?_
        refine g_top (y := (Fa 52 n)) (rfl) ?_
        refine lv_aload_n hx hb dX10_moves_39 rfl (lv_at hl 0 rfl) ?_
        refine gf_43_11 hx hb hts hin_10 hown hG hN hk_41 dX10_moves_40 ?_
        refine lv_iload_n hx hb dX10_moves_43 rfl (lv_at hl 1 rfl) ?_
        refine g_iald hx hb hG hN (i := 54) (n := 4) (j := n) (by decide) rfl (by decide) (by omega) rfl dX10_moves_44 ?_
        refine g_top (y := (Fa 54 n)) (rfl) ?_
        refine lv_iadd hx hb dX10_moves_45 ?_
        refine g_iast hx hb hG hN (i := 52) (n := 4) (j := n) (by decide) (fun _ => rfl) (by decide) (by omega) rfl dX10_moves_46 (fun H locs hN => ?_)
        refine lv_iinc (v := (nI (n + 1))) (lv' := [(1, .int (nI (n + 1))), (0, .ref (ad 43))]) hx hb dX10_moves_47 hl (k := 1) rfl (nI_1 _) (by decide) rfl (fun ls hl => ?_)
        refine lv_goto (tgt := 2) hx hb dX10_moves_50 (by decide) ?_
        exact ih2 (n + 1) (gw (gw Fa 51 n ((Fa 51 n) + (Fa 53 n))) 52 n ((Fa 52 n) + (Fa 54 n))) _ _ ls (by omega) (by omega) (sim_dr hs) (Or.inr (by omega)) hN (lv_sub hl [1, 0] rfl)
  exact L6 _ 0 F _ _ ls (rfl) (by omega) (hs0) (Or.inl rfl) hN (lv_sub hl [1, 0] rfl)
set_option maxHeartbeats 4000000 in
set_option maxRecDepth 100000 in
theorem c_X10_printsOne (l : Launch) {D : va_G} {ad : Nat → Nat} {cs : Nat → ClassId} {zd : Nat → Nat} {F V : gF} {o : gO} {sz : Nat} (Fz Vz G Y : gF) (K : Prop) [Decidable K] (pr t h w : Nat) (hs0 : sim Fz Vz F V G Y) (hK : cEven G ↔ K) (hp : pr + 1 < 2 ^ 31) (hpr : Y 27 2 = nI pr) (ht : Y 18 8 = nI t) (ht2 : t ≤ 20) (hu : ∀ j, j < t → ∃ q, q < 4 ∧ G 24 j = nI q) (hd : ∀ j, j < t → ∃ d, pr < d ∧ d < 2 ^ 31 ∧ G 23 j = nI d) (hh : Y 33 4 = nI h) (hh2 : h < 200) (hw : Y 33 5 = nI w) (hw2 : w ≤ 200) (hrg : w ≠ 0 → ∃ q, q < 200 ∧ G 36 h = nI q ∧ G 35 q = 0) : Met l yX10_printsOne wsX10_printsOne ({ frames := 3, cells := 0, slots := 0, locals := 68 } : Room) (gPc D ad cs zd F V o sz [.ref (ad 43)]) (gQi D ad cs sz (fun r9 u9 => r9 = (if xG G Y K then 1 else 0) ∧ u9.2.2 = o ∧ u9.2.1 43 31 = V 43 31 ∧ sim Fz Vz u9.1 u9.2.1 (xF G Y K) (xV G Y K))) 0 0 (gX ad sz) := by
  refine g_met (Qc := fun z0 => gQi D ad cs z0 (fun r9 u9 => r9 = (if xG G Y K then 1 else 0) ∧ u9.2.2 = o ∧ u9.2.1 43 31 = V 43 31 ∧ sim Fz Vz u9.1 u9.2.1 (xF G Y K) (xV G Y K))) (cc := cX10_printsOne) (maxL := 3) (ret := (some .boolean)) (own := RX10) (by decide +kernel) rfl rfl (Nat.le_of_ble_eq_true rfl) ?_
  intro p0 e0 s0 m0 b0 k0 c0 hx hb hr hts hown hlocks hml hG hN ls hl
  have hl : lv_has ls 3 [(0, .ref (ad 43))] := hl
  have hin_10 : ∀ w ∈ wsX100, w ∈ wsX10_printsOne := by decide +kernel
  have hk_154 := hts (.fieldLink RX10 154 "GravureHouseModel" "printed" "I") (by decide +kernel)
  have hk_190 := hts (.fieldLink RX10 190 "GravureHouseModel" "good" "I") (by decide +kernel)
  have hk_160 := hts (.fieldLink RX10 160 "GravureHouseModel" "left" "I") (by decide +kernel)
  have hk_66 := hts (.fieldLink RX10 66 "GravureHouseModel" "ring" "[I") (by decide +kernel)
  have hk_166 := hts (.fieldLink RX10 166 "GravureHouseModel" "begin" "I") (by decide +kernel)
  have hk_63 := hts (.fieldLink RX10 63 "GravureHouseModel" "times" "[I") (by decide +kernel)
  have hk_59 := hts (.fieldLink RX10 59 "GravureHouseModel" "isGood" "[Z") (by decide +kernel)
  have hpr0 : V 43 25 = nI pr := Eq.trans (hs0.2.1 27 (by decide) 2) hpr
  have ht0 : V 43 13 = nI t := Eq.trans (hs0.2.1 18 (by decide) 8) ht
  have hh0 : V 43 23 = nI h := Eq.trans (hs0.2.1 33 (by decide) 4) hh
  have hw0 : V 43 24 = nI w := Eq.trans (hs0.2.1 33 (by decide) 5) hw
  refine lv_aload_n hx hb dX10_printsOne_0 rfl (lv_at hl 0 rfl) ?_
  refine g_VI (As := []) (rest := []) ⟨hx, hb, hml, hown, hts⟩ hG hN (i := 43) (by decide) rfl rfl (c_X10_looks l ) (cwV 0 hts gX10_printsOne_X10_looks rfl rfl rfl (by decide +kernel) ⟨Nat.le_of_ble_eq_true rfl, Nat.le_of_ble_eq_true rfl⟩) rfl hl.1 rfl (Nat.le_of_ble_eq_true rfl) dX10_printsOne_1 ⟨Nat.le_of_ble_eq_true rfl, Nat.le_of_ble_eq_true rfl⟩ (fun H locs hN => ?_)
  refine g_top (y := (if xG G Y K then 1 else 0)) (mIf (mJ hs0 hK)) ?_
  refine lv_istore_n (lv' := [(1, .int (if xG G Y K then 1 else 0)), (0, .ref (ad 43))]) hx hb dX10_printsOne_4 rfl hl (by decide) rfl (fun ls hl => ?_)
  refine lv_aload_n hx hb dX10_printsOne_5 rfl (lv_at hl 1 rfl) ?_
  refine lv_dup hx hb dX10_printsOne_6 rfl ?_
  refine gf_43_25 hx hb hts hin_10 hown hG hN hk_154 dX10_printsOne_7 ?_
  refine g_top (y := nI pr) ((mLkV_o (by decide) (by decide) (by decide)).trans hpr0) ?_
  refine lv_iconst (v := 1) hx hb dX10_printsOne_10 (by decide) ?_
  refine g_addN (a := pr) (b := 1) hx hb rfl rfl dX10_printsOne_11 ?_
  refine gp_43_25 hx hb hts hin_10 hown hG hN hk_154 dX10_printsOne_12 (fun H locs hN => ?_)
  refine lv_aload_n hx hb dX10_printsOne_15 rfl (lv_at hl 1 rfl) ?_
  refine lv_dup hx hb dX10_printsOne_16 rfl ?_
  refine gf_43_26 hx hb hts hin_10 hown hG hN hk_190 dX10_printsOne_17 ?_
  refine g_top (y := ((mLkV F V) 43 26)) rfl ?_
  refine lv_iload_n hx hb dX10_printsOne_20 rfl (lv_at hl 0 rfl) ?_
  refine g_ifb_eq (xG G Y K) (tgt := 28) hx hb dX10_printsOne_21 (by decide) rfl (fun c1 => ?_) (fun c1 => ?_)
  · refine lv_iconst (v := 0) hx hb dX10_printsOne_28 (by decide) ?_
    refine lv_iadd hx hb dX10_printsOne_29 ?_
    refine gp_43_26 hx hb hts hin_10 hown hG hN hk_190 dX10_printsOne_30 (fun H locs hN => ?_)
    refine lv_aload_n hx hb dX10_printsOne_33 rfl (lv_at hl 1 rfl) ?_
    refine gf_43_24 hx hb hts hin_10 hown hG hN hk_160 dX10_printsOne_34 ?_
    refine g_top (y := ((mLkV F V) 43 24)) rfl ?_
    refine g_top (y := nI w) ((mLkV_o (by decide) (by decide) (by decide)).trans hw0) ?_
    refine g_ifN_le (a := w) (tgt := 124) hx hb dX10_printsOne_37 (by decide) rfl (by omega) (fun c2 => ?_) (fun c2 => ?_)
    · refine lv_aload_n hx hb dX10_printsOne_124 rfl (lv_at hl 1 rfl) ?_
      have hs9 : sim Fz Vz F (gw (gw (mLkV F V) 43 25 (nI (pr + 1))) 43 26 (((mLkV F V) 43 26) + 0)) (cTakF G (xG G Y K) h w) (cTakV (gw (cJudgeV Y (cRight G (Y 1 3)) K) 27 2 (nI (pr + 1))) (xG G Y K) h w) := mTk_0 (sim_lkp (p := nI (pr + 1)) (g := 0) hs0 hK (fun z => absurd z c1) (fun _ => rfl)) c2
      refine g_Vv (As := []) (rest := []) ⟨hx, hb, hml, hown, hts⟩ hG hN (i := 43) (by decide) rfl rfl (c_X10_moves l Fz Vz (cTakF G (xG G Y K) h w) (cTakV (gw (cJudgeV Y (cRight G (Y 1 3)) K) 27 2 (nI (pr + 1))) (xG G Y K) h w) (pr + 1) t hs9 hp rfl ((mLkV_o (by decide) (by decide) (by decide)).trans ht0) ht2 (fun j hj => by rw [cTakF_o (by decide) (by decide) (by decide)]; exact hu j hj) (fun j hj => by rw [cTakF_o (by decide) (by decide) (by decide)]; exact hd j hj)) (cwV 0 hts gX10_printsOne_X10_moves rfl rfl rfl (by decide +kernel) ⟨Nat.le_of_ble_eq_true rfl, Nat.le_of_ble_eq_true rfl⟩) rfl hl.1 rfl (Nat.le_of_ble_eq_true rfl) dX10_printsOne_125 ⟨Nat.le_of_ble_eq_true rfl, Nat.le_of_ble_eq_true rfl⟩ (fun Fq4 Vq5 oq6 H locs hq7 hN => ?_)
      have ho9 : o = oq6 := hq7.1.symm
      subst ho9
      have hV9 := hq7.2.1
      have hS9 := hq7.2.2
      dsimp only at hV9 hS9
      rw [mPO_F hpr ht hh hw (by omega) (by omega) (by omega) (by omega), mPO_V hpr ht hh hw (by omega) (by omega) (by omega) (by omega)] at hS9
      refine lv_iload_n hx hb dX10_printsOne_128 rfl (lv_at hl 0 rfl) ?_
      exact g_rz hx hb hr hlocks (g_nz _) hN (⟨rfl, rfl, by rw [hV9]; exact mLkV_o (by decide) (by decide) (by decide), hS9⟩) dX10_printsOne_129
    · obtain ⟨q, hq, hgq, hgz⟩ := hrg (by omega)
      have hF62 : F 62 h = nI q := Eq.trans (hs0.1 36 (by decide) h) hgq
      refine lv_aload_n hx hb dX10_printsOne_40 rfl (lv_at hl 1 rfl) ?_
      refine gf_43_22 hx hb hts hin_10 hown hG hN hk_66 dX10_printsOne_41 ?_
      refine lv_aload_n hx hb dX10_printsOne_44 rfl (lv_at hl 1 rfl) ?_
      refine gf_43_23 hx hb hts hin_10 hown hG hN hk_166 dX10_printsOne_45 ?_
      refine g_top (y := ((mLkV F V) 43 23)) rfl ?_
      refine g_top (y := nI h) ((mLkV_o (by decide) (by decide) (by decide)).trans hh0) ?_
      refine g_iald hx hb hG hN (i := 62) (n := 200) (j := h) (by decide) rfl (by decide) (by omega) rfl dX10_printsOne_48 ?_
      refine g_top (y := nI q) (hF62) ?_
      refine lv_istore_n (lv' := [(2, .int (nI q)), (1, .int (if xG G Y K then 1 else 0)), (0, .ref (ad 43))]) hx hb dX10_printsOne_49 rfl hl (by decide) rfl (fun ls hl => ?_)
      refine lv_aload_n hx hb dX10_printsOne_50 rfl (lv_at hl 2 rfl) ?_
      refine lv_aload_n hx hb dX10_printsOne_51 rfl (lv_at hl 2 rfl) ?_
      refine gf_43_23 hx hb hts hin_10 hown hG hN hk_166 dX10_printsOne_52 ?_
      refine g_top (y := ((mLkV F V) 43 23)) rfl ?_
      refine g_top (y := nI h) ((mLkV_o (by decide) (by decide) (by decide)).trans hh0) ?_
      refine lv_iconst (v := 1) hx hb dX10_printsOne_55 (by decide) ?_
      refine g_addN (a := h) (b := 1) hx hb rfl rfl dX10_printsOne_56 ?_
      refine lv_sipush (v := 200) hx hb dX10_printsOne_57 (by decide) ?_
      refine g_remN (a := h + 1) (b := 200) hx hb rfl rfl (by omega) (by omega) (by omega) dX10_printsOne_60 ?_
      refine gp_43_23 hx hb hts hin_10 hown hG hN hk_166 dX10_printsOne_61 (fun H locs hN => ?_)
      refine lv_aload_n hx hb dX10_printsOne_64 rfl (lv_at hl 2 rfl) ?_
      refine lv_dup hx hb dX10_printsOne_65 rfl ?_
      refine gf_43_24 hx hb hts hin_10 hown hG hN hk_160 dX10_printsOne_66 ?_
      refine g_top (y := ((mLkV F V) 43 24)) rfl ?_
      refine g_top (y := nI w) ((mLkV_o (by decide) (by decide) (by decide)).trans hw0) ?_
      refine lv_iconst (v := 1) hx hb dX10_printsOne_69 (by decide) ?_
      refine g_subN (a := w) (b := 1) hx hb rfl rfl (by omega) dX10_printsOne_70 ?_
      refine gp_43_24 hx hb hts hin_10 hown hG hN hk_160 dX10_printsOne_71 (fun H locs hN => ?_)
      refine lv_aload_n hx hb dX10_printsOne_74 rfl (lv_at hl 2 rfl) ?_
      refine gf_43_21 hx hb hts hin_10 hown hG hN hk_63 dX10_printsOne_75 ?_
      refine lv_iload_n hx hb dX10_printsOne_78 rfl (lv_at hl 0 rfl) ?_
      refine lv_dup2_11 hx hb dX10_printsOne_79 rfl rfl ?_
      refine g_iald hx hb hG hN (i := 61) (n := 200) (j := q) (by decide) rfl (by decide) (by omega) rfl dX10_printsOne_80 ?_
      refine lv_iconst (v := 1) hx hb dX10_printsOne_81 (by decide) ?_
      refine lv_iadd hx hb dX10_printsOne_82 ?_
      refine g_iast hx hb hG hN (i := 61) (n := 200) (j := q) (by decide) (fun _ => rfl) (by decide) (by omega) rfl dX10_printsOne_83 (fun H locs hN => ?_)
      refine lv_aload_n hx hb dX10_printsOne_84 rfl (lv_at hl 2 rfl) ?_
      refine gf_43_20 hx hb hts hin_10 hown hG hN hk_59 dX10_printsOne_85 ?_
      refine lv_iload_n hx hb dX10_printsOne_88 rfl (lv_at hl 0 rfl) ?_
      refine lv_iload_n hx hb dX10_printsOne_89 rfl (lv_at hl 1 rfl) ?_
      refine g_zast hx hb hG hN (i := 60) (n := 200) (j := q) (by decide) (fun _ => rfl) (by decide) (by omega) rfl (g_vz _) dX10_printsOne_90 (fun H locs hN => ?_)
      refine lv_iload_n hx hb dX10_printsOne_91 rfl (lv_at hl 1 rfl) ?_
      refine g_ifb_ne (xG G Y K) (tgt := 124) hx hb dX10_printsOne_92 (by decide) rfl (fun c8 => absurd c8 (c1)) (fun c8 => ?_)
      refine lv_aload_n hx hb dX10_printsOne_95 rfl (lv_at hl 2 rfl) ?_
      refine gf_43_22 hx hb hts hin_10 hown hG hN hk_66 dX10_printsOne_96 ?_
      refine lv_aload_n hx hb dX10_printsOne_99 rfl (lv_at hl 2 rfl) ?_
      refine gf_43_23 hx hb hts hin_10 hown hG hN hk_166 dX10_printsOne_100 ?_
      refine g_top (y := (nI ((h + 1) % 200))) rfl ?_
      refine lv_aload_n hx hb dX10_printsOne_103 rfl (lv_at hl 2 rfl) ?_
      refine gf_43_24 hx hb hts hin_10 hown hG hN hk_160 dX10_printsOne_104 ?_
      refine g_top (y := (nI (w - 1))) rfl ?_
      refine g_addN (a := ((h + 1) % 200)) (b := (w - 1)) hx hb rfl rfl dX10_printsOne_107 ?_
      refine lv_sipush (v := 200) hx hb dX10_printsOne_108 (by decide) ?_
      refine g_remN (a := ((h + 1) % 200) + (w - 1)) (b := 200) hx hb rfl rfl (by omega) (by omega) (by omega) dX10_printsOne_111 ?_
      refine lv_iload_n hx hb dX10_printsOne_112 rfl (lv_at hl 0 rfl) ?_
      refine g_iast hx hb hG hN (i := 62) (n := 200) (j := (((h + 1) % 200) + (w - 1)) % 200) (by decide) (fun _ => rfl) (by decide) (by omega) rfl dX10_printsOne_113 (fun H locs hN => ?_)
      refine lv_aload_n hx hb dX10_printsOne_114 rfl (lv_at hl 2 rfl) ?_
      refine lv_dup hx hb dX10_printsOne_115 rfl ?_
      refine gf_43_24 hx hb hts hin_10 hown hG hN hk_160 dX10_printsOne_116 ?_
      refine g_top (y := (nI (w - 1))) rfl ?_
      refine lv_iconst (v := 1) hx hb dX10_printsOne_119 (by decide) ?_
      refine g_addN (a := (w - 1)) (b := 1) hx hb rfl rfl dX10_printsOne_120 ?_
      refine gp_43_24 hx hb hts hin_10 hown hG hN hk_160 dX10_printsOne_121 (fun H locs hN => ?_)
      refine lv_aload_n hx hb dX10_printsOne_124 rfl (lv_at hl 2 rfl) ?_
      have hs9 : sim Fz Vz (gw (gw (gw F 61 q ((F 61 q) + 1)) 60 q (if xG G Y K then 1 else 0)) 62 ((((h + 1) % 200) + (w - 1)) % 200) (nI q)) (gw (gw (gw (gw (gw (mLkV F V) 43 25 (nI (pr + 1))) 43 26 (((mLkV F V) 43 26) + 0)) 43 23 (nI ((h + 1) % 200))) 43 24 (nI (w - 1))) 43 24 (nI ((w - 1) + 1))) (cTakF G (xG G Y K) h w) (cTakV (gw (cJudgeV Y (cRight G (Y 1 3)) K) 27 2 (nI (pr + 1))) (xG G Y K) h w) := mTk_b (sim_lkp (p := nI (pr + 1)) (g := 0) hs0 hK (fun z => absurd z c1) (fun _ => rfl)) c2 c1 hq hgq hgz (by rw [gw_n _ _ _ (by decide), cJudgeV_o (Or.inl (by decide))]; exact hw)
      refine g_Vv (As := []) (rest := []) ⟨hx, hb, hml, hown, hts⟩ hG hN (i := 43) (by decide) rfl rfl (c_X10_moves l Fz Vz (cTakF G (xG G Y K) h w) (cTakV (gw (cJudgeV Y (cRight G (Y 1 3)) K) 27 2 (nI (pr + 1))) (xG G Y K) h w) (pr + 1) t hs9 hp rfl ((mLkV_o (by decide) (by decide) (by decide)).trans ht0) ht2 (fun j hj => by rw [cTakF_o (by decide) (by decide) (by decide)]; exact hu j hj) (fun j hj => by rw [cTakF_o (by decide) (by decide) (by decide)]; exact hd j hj)) (cwV 0 hts gX10_printsOne_X10_moves rfl rfl rfl (by decide +kernel) ⟨Nat.le_of_ble_eq_true rfl, Nat.le_of_ble_eq_true rfl⟩) rfl hl.1 rfl (Nat.le_of_ble_eq_true rfl) dX10_printsOne_125 ⟨Nat.le_of_ble_eq_true rfl, Nat.le_of_ble_eq_true rfl⟩ (fun Fq10 Vq11 oq12 H locs hq13 hN => ?_)
      have ho9 : o = oq12 := hq13.1.symm
      subst ho9
      have hV9 := hq13.2.1
      have hS9 := hq13.2.2
      dsimp only at hV9 hS9
      rw [mPO_F hpr ht hh hw (by omega) (by omega) (by omega) (by omega), mPO_V hpr ht hh hw (by omega) (by omega) (by omega) (by omega)] at hS9
      refine lv_iload_n hx hb dX10_printsOne_128 rfl (lv_at hl 1 rfl) ?_
      exact g_rz hx hb hr hlocks (g_nz _) hN (⟨rfl, rfl, by rw [hV9]; exact mLkV_o (by decide) (by decide) (by decide), hS9⟩) dX10_printsOne_129
  · refine lv_iconst (v := 1) hx hb dX10_printsOne_24 (by decide) ?_
    refine lv_goto (tgt := 29) hx hb dX10_printsOne_25 (by decide) ?_
    refine lv_iadd hx hb dX10_printsOne_29 ?_
    refine gp_43_26 hx hb hts hin_10 hown hG hN hk_190 dX10_printsOne_30 (fun H locs hN => ?_)
    refine lv_aload_n hx hb dX10_printsOne_33 rfl (lv_at hl 1 rfl) ?_
    refine gf_43_24 hx hb hts hin_10 hown hG hN hk_160 dX10_printsOne_34 ?_
    refine g_top (y := ((mLkV F V) 43 24)) rfl ?_
    refine g_top (y := nI w) ((mLkV_o (by decide) (by decide) (by decide)).trans hw0) ?_
    refine g_ifN_le (a := w) (tgt := 124) hx hb dX10_printsOne_37 (by decide) rfl (by omega) (fun c14 => ?_) (fun c14 => ?_)
    · refine lv_aload_n hx hb dX10_printsOne_124 rfl (lv_at hl 1 rfl) ?_
      have hs9 : sim Fz Vz F (gw (gw (mLkV F V) 43 25 (nI (pr + 1))) 43 26 (((mLkV F V) 43 26) + 1)) (cTakF G (xG G Y K) h w) (cTakV (gw (cJudgeV Y (cRight G (Y 1 3)) K) 27 2 (nI (pr + 1))) (xG G Y K) h w) := mTk_0 (sim_lkp (p := nI (pr + 1)) (g := 1) hs0 hK (fun _ => rfl) (fun z => absurd c1 z)) c14
      refine g_Vv (As := []) (rest := []) ⟨hx, hb, hml, hown, hts⟩ hG hN (i := 43) (by decide) rfl rfl (c_X10_moves l Fz Vz (cTakF G (xG G Y K) h w) (cTakV (gw (cJudgeV Y (cRight G (Y 1 3)) K) 27 2 (nI (pr + 1))) (xG G Y K) h w) (pr + 1) t hs9 hp rfl ((mLkV_o (by decide) (by decide) (by decide)).trans ht0) ht2 (fun j hj => by rw [cTakF_o (by decide) (by decide) (by decide)]; exact hu j hj) (fun j hj => by rw [cTakF_o (by decide) (by decide) (by decide)]; exact hd j hj)) (cwV 0 hts gX10_printsOne_X10_moves rfl rfl rfl (by decide +kernel) ⟨Nat.le_of_ble_eq_true rfl, Nat.le_of_ble_eq_true rfl⟩) rfl hl.1 rfl (Nat.le_of_ble_eq_true rfl) dX10_printsOne_125 ⟨Nat.le_of_ble_eq_true rfl, Nat.le_of_ble_eq_true rfl⟩ (fun Fq16 Vq17 oq18 H locs hq19 hN => ?_)
      have ho9 : o = oq18 := hq19.1.symm
      subst ho9
      have hV9 := hq19.2.1
      have hS9 := hq19.2.2
      dsimp only at hV9 hS9
      rw [mPO_F hpr ht hh hw (by omega) (by omega) (by omega) (by omega), mPO_V hpr ht hh hw (by omega) (by omega) (by omega) (by omega)] at hS9
      refine lv_iload_n hx hb dX10_printsOne_128 rfl (lv_at hl 0 rfl) ?_
      exact g_rz hx hb hr hlocks (g_nz _) hN (⟨rfl, rfl, by rw [hV9]; exact mLkV_o (by decide) (by decide) (by decide), hS9⟩) dX10_printsOne_129
    · obtain ⟨q, hq, hgq, hgz⟩ := hrg (by omega)
      have hF62 : F 62 h = nI q := Eq.trans (hs0.1 36 (by decide) h) hgq
      refine lv_aload_n hx hb dX10_printsOne_40 rfl (lv_at hl 1 rfl) ?_
      refine gf_43_22 hx hb hts hin_10 hown hG hN hk_66 dX10_printsOne_41 ?_
      refine lv_aload_n hx hb dX10_printsOne_44 rfl (lv_at hl 1 rfl) ?_
      refine gf_43_23 hx hb hts hin_10 hown hG hN hk_166 dX10_printsOne_45 ?_
      refine g_top (y := ((mLkV F V) 43 23)) rfl ?_
      refine g_top (y := nI h) ((mLkV_o (by decide) (by decide) (by decide)).trans hh0) ?_
      refine g_iald hx hb hG hN (i := 62) (n := 200) (j := h) (by decide) rfl (by decide) (by omega) rfl dX10_printsOne_48 ?_
      refine g_top (y := nI q) (hF62) ?_
      refine lv_istore_n (lv' := [(2, .int (nI q)), (1, .int (if xG G Y K then 1 else 0)), (0, .ref (ad 43))]) hx hb dX10_printsOne_49 rfl hl (by decide) rfl (fun ls hl => ?_)
      refine lv_aload_n hx hb dX10_printsOne_50 rfl (lv_at hl 2 rfl) ?_
      refine lv_aload_n hx hb dX10_printsOne_51 rfl (lv_at hl 2 rfl) ?_
      refine gf_43_23 hx hb hts hin_10 hown hG hN hk_166 dX10_printsOne_52 ?_
      refine g_top (y := ((mLkV F V) 43 23)) rfl ?_
      refine g_top (y := nI h) ((mLkV_o (by decide) (by decide) (by decide)).trans hh0) ?_
      refine lv_iconst (v := 1) hx hb dX10_printsOne_55 (by decide) ?_
      refine g_addN (a := h) (b := 1) hx hb rfl rfl dX10_printsOne_56 ?_
      refine lv_sipush (v := 200) hx hb dX10_printsOne_57 (by decide) ?_
      refine g_remN (a := h + 1) (b := 200) hx hb rfl rfl (by omega) (by omega) (by omega) dX10_printsOne_60 ?_
      refine gp_43_23 hx hb hts hin_10 hown hG hN hk_166 dX10_printsOne_61 (fun H locs hN => ?_)
      refine lv_aload_n hx hb dX10_printsOne_64 rfl (lv_at hl 2 rfl) ?_
      refine lv_dup hx hb dX10_printsOne_65 rfl ?_
      refine gf_43_24 hx hb hts hin_10 hown hG hN hk_160 dX10_printsOne_66 ?_
      refine g_top (y := ((mLkV F V) 43 24)) rfl ?_
      refine g_top (y := nI w) ((mLkV_o (by decide) (by decide) (by decide)).trans hw0) ?_
      refine lv_iconst (v := 1) hx hb dX10_printsOne_69 (by decide) ?_
      refine g_subN (a := w) (b := 1) hx hb rfl rfl (by omega) dX10_printsOne_70 ?_
      refine gp_43_24 hx hb hts hin_10 hown hG hN hk_160 dX10_printsOne_71 (fun H locs hN => ?_)
      refine lv_aload_n hx hb dX10_printsOne_74 rfl (lv_at hl 2 rfl) ?_
      refine gf_43_21 hx hb hts hin_10 hown hG hN hk_63 dX10_printsOne_75 ?_
      refine lv_iload_n hx hb dX10_printsOne_78 rfl (lv_at hl 0 rfl) ?_
      refine lv_dup2_11 hx hb dX10_printsOne_79 rfl rfl ?_
      refine g_iald hx hb hG hN (i := 61) (n := 200) (j := q) (by decide) rfl (by decide) (by omega) rfl dX10_printsOne_80 ?_
      refine lv_iconst (v := 1) hx hb dX10_printsOne_81 (by decide) ?_
      refine lv_iadd hx hb dX10_printsOne_82 ?_
      refine g_iast hx hb hG hN (i := 61) (n := 200) (j := q) (by decide) (fun _ => rfl) (by decide) (by omega) rfl dX10_printsOne_83 (fun H locs hN => ?_)
      refine lv_aload_n hx hb dX10_printsOne_84 rfl (lv_at hl 2 rfl) ?_
      refine gf_43_20 hx hb hts hin_10 hown hG hN hk_59 dX10_printsOne_85 ?_
      refine lv_iload_n hx hb dX10_printsOne_88 rfl (lv_at hl 0 rfl) ?_
      refine lv_iload_n hx hb dX10_printsOne_89 rfl (lv_at hl 1 rfl) ?_
      refine g_zast hx hb hG hN (i := 60) (n := 200) (j := q) (by decide) (fun _ => rfl) (by decide) (by omega) rfl (g_vz _) dX10_printsOne_90 (fun H locs hN => ?_)
      refine lv_iload_n hx hb dX10_printsOne_91 rfl (lv_at hl 1 rfl) ?_
      refine g_ifb_ne (xG G Y K) (tgt := 124) hx hb dX10_printsOne_92 (by decide) rfl (fun c20 => ?_) (fun c20 => absurd c20 (fun z => z c1))
      refine lv_aload_n hx hb dX10_printsOne_124 rfl (lv_at hl 2 rfl) ?_
      have hs9 : sim Fz Vz (gw (gw F 61 q ((F 61 q) + 1)) 60 q (if xG G Y K then 1 else 0)) (gw (gw (gw (gw (mLkV F V) 43 25 (nI (pr + 1))) 43 26 (((mLkV F V) 43 26) + 1)) 43 23 (nI ((h + 1) % 200))) 43 24 (nI (w - 1))) (cTakF G (xG G Y K) h w) (cTakV (gw (cJudgeV Y (cRight G (Y 1 3)) K) 27 2 (nI (pr + 1))) (xG G Y K) h w) := mTk_g (sim_lkp (p := nI (pr + 1)) (g := 1) hs0 hK (fun _ => rfl) (fun z => absurd c1 z)) c14 c1 hq hgq
      refine g_Vv (As := []) (rest := []) ⟨hx, hb, hml, hown, hts⟩ hG hN (i := 43) (by decide) rfl rfl (c_X10_moves l Fz Vz (cTakF G (xG G Y K) h w) (cTakV (gw (cJudgeV Y (cRight G (Y 1 3)) K) 27 2 (nI (pr + 1))) (xG G Y K) h w) (pr + 1) t hs9 hp rfl ((mLkV_o (by decide) (by decide) (by decide)).trans ht0) ht2 (fun j hj => by rw [cTakF_o (by decide) (by decide) (by decide)]; exact hu j hj) (fun j hj => by rw [cTakF_o (by decide) (by decide) (by decide)]; exact hd j hj)) (cwV 0 hts gX10_printsOne_X10_moves rfl rfl rfl (by decide +kernel) ⟨Nat.le_of_ble_eq_true rfl, Nat.le_of_ble_eq_true rfl⟩) rfl hl.1 rfl (Nat.le_of_ble_eq_true rfl) dX10_printsOne_125 ⟨Nat.le_of_ble_eq_true rfl, Nat.le_of_ble_eq_true rfl⟩ (fun Fq22 Vq23 oq24 H locs hq25 hN => ?_)
      have ho9 : o = oq24 := hq25.1.symm
      subst ho9
      have hV9 := hq25.2.1
      have hS9 := hq25.2.2
      dsimp only at hV9 hS9
      rw [mPO_F hpr ht hh hw (by omega) (by omega) (by omega) (by omega), mPO_V hpr ht hh hw (by omega) (by omega) (by omega) (by omega)] at hS9
      refine lv_iload_n hx hb dX10_printsOne_128 rfl (lv_at hl 1 rfl) ?_
      exact g_rz hx hb hr hlocks (g_nz _) hN (⟨rfl, rfl, by rw [hV9]; exact mLkV_o (by decide) (by decide) (by decide), hS9⟩) dX10_printsOne_129
