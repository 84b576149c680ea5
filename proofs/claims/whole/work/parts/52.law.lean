section LB
variable {p0 : Program} {l : Launch} {e0 : Env} {s0 : State} {m0 : MethodId} {a0 : Array Value} {b0 : List Frame} {k0 : Method} {c0 : Code} {H : Heap} {locs : List Loc} {cells slots : Nat} {Q : State → Prop}
variable {ls : Array Slot} {D : va_G} {ad : Nat → Nat} {cs : Nat → ClassId} {zd : Nat → Nat} {F V : gF} {o : gO} {b L i b9 : Nat} {xs : Nat → Int32}
def lwE (p0 : Program) (l : Launch) (s0 : State) (m0 : MethodId) (a0 : Array Value) (c0 : Code) (D : va_G) (ad : Nat → Nat) (cs : Nat → ClassId) (zd : Nat → Nat) (b L : Nat) (xs : Nat → Int32) : Prop := p0.tables.exec = Jvm.exec ∧ c0.code = cL_law ∧ c0.maxLocals = 7 ∧ (∀ w ∈ wsL_law, w.before a0 s0 = true) ∧ s0.vm.findClass RL = some m0.cls ∧ va_X b L xs s0 s0.heap ∧ b < s0.heap.size ∧ ¬ gX ad s0.heap.size b ∧ l.stackTraces = false ∧ gG D ad cs zd s0
abbrev lwL (ad : Nat → Nat) (b i : Nat) : List (Nat × Value) := [(0, .ref b), (1, .ref (ad 0)), (2, .ref (ad 43)), (3, .ref (ad 64)), (4, .int (nI i))]
theorem g_sld {pc : Nat} {rest : List Value} (hx : p0.tables.exec = Jvm.exec) (hb : c0.code = cL_law) (hX : va_X b L xs s0 s0.heap) (hbl : b < s0.heap.size) (hbA : ¬ gX ad s0.heap.size b) (hN : gN D ad cs s0 F V o H locs) {j : Nat} (hj : j < L) (hL : L ≤ 2560) (hdg : decode cL_law pc = .ok (.iaload, 1)) {R : Room}
    (kk : W p0 l e0 R s0 m0 a0 b0 k0 c0 H locs cells slots Q (F0 m0 (pc + 1) ls (.int (xs j) :: rest))) : W p0 l e0 R s0 m0 a0 b0 k0 c0 H locs cells slots Q (F0 m0 pc ls (.int (nI j) :: .ref b :: rest)) := by
  refine va_sld hx hb hX hbl hbA hN.2 (vp_in_nI hj (by omega)) hdg ?_
  rw [nI_clamp (by omega)]
  exact kk
set_option maxHeartbeats 4000000 in
set_option maxRecDepth 100000 in
theorem lw_b0 (E : lwE p0 l s0 m0 a0 c0 D ad cs zd b L xs) (hi : i + 5 ≤ L) (hL : L ≤ 2560) (hI : LI F V b9) (hb9 : b9 ≤ 2 ^ 28) (hc : cells + 4 ≤ room_1.cells) (hs : slots + 24 ≤ room_1.slots) (hN : gN D ad cs s0 F V o H locs) (hl : lv_has ls 7 (lwL ad b i))
    (kk : ∀ (F2 V2 : gF) (o2 : gO) (H1 : Heap) (locs1 : List Loc) (ls1 : Array Slot), LI F2 V2 (b9 + 100) → gN D ad cs s0 F2 V2 o2 H1 locs1 → lv_has ls1 7 (lwL ad b i) → W p0 l e0 room_1 s0 m0 a0 b0 k0 c0 H1 locs1 (cells + 4) (slots + 24) Q (F0 m0 1101 ls1 [])) : W p0 l e0 room_1 s0 m0 a0 b0 k0 c0 H locs cells slots Q (F0 m0 128 ls []) := by
  obtain ⟨hx, hb, hml, hts, hown, hX, hbl, hbA, hl9, hG⟩ := E
  have hl : lv_has ls 7 [(0, .ref b), (1, .ref (ad 0)), (2, .ref (ad 43)), (3, .ref (ad 64)), (4, .int (nI i))] := hl
  refine lv_aload_n hx hb dL_law_128 rfl (lv_at hl 1 rfl) ?_
  refine lv_aload_n hx hb dL_law_129 rfl (lv_at hl 0 rfl) ?_
  refine lv_iload hx hb dL_law_130 (lv_at hl 4 rfl) ?_
  refine lv_iconst (v := 1) hx hb dL_law_132 (by decide) ?_
  refine g_addN (a := i) (b := 1) hx hb rfl rfl dL_law_133 ?_
  refine g_sld hx hb hX hbl hbA hN (j := i + 1) (by omega) hL dL_law_134 ?_
  refine lv_aload_n hx hb dL_law_135 rfl (lv_at hl 0 rfl) ?_
  refine lv_iload hx hb dL_law_136 (lv_at hl 4 rfl) ?_
  refine lv_iconst (v := 2) hx hb dL_law_138 (by decide) ?_
  refine g_addN (a := i) (b := 2) hx hb rfl rfl dL_law_139 ?_
  refine g_sld hx hb hX hbl hbA hN (j := i + 2) (by omega) hL dL_law_140 ?_
  refine lv_aload_n hx hb dL_law_141 rfl (lv_at hl 0 rfl) ?_
  refine lv_iload hx hb dL_law_142 (lv_at hl 4 rfl) ?_
  refine lv_iconst (v := 3) hx hb dL_law_144 (by decide) ?_
  refine g_addN (a := i) (b := 3) hx hb rfl rfl dL_law_145 ?_
  refine g_sld hx hb hX hbl hbA hN (j := i + 3) (by omega) hL dL_law_146 ?_
  refine lv_aload_n hx hb dL_law_147 rfl (lv_at hl 0 rfl) ?_
  refine lv_iload hx hb dL_law_148 (lv_at hl 4 rfl) ?_
  refine lv_iconst (v := 4) hx hb dL_law_150 (by decide) ?_
  refine g_addN (a := i) (b := 4) hx hb rfl rfl dL_law_151 ?_
  refine g_sld hx hb hX hbl hbA hN (j := i + 4) (by omega) hL dL_law_152 ?_
  refine g_Wi (As := [.ref (ad 0), .int (xs (i + 1)), .int (xs (i + 2)), .int (xs (i + 3)), .int (xs (i + 4))]) (rest := []) ⟨hx, hb, hml, hown, hts⟩ hG hN (c_L_colour l (xs (i + 1)) (xs (i + 2)) (xs (i + 3)) (xs (i + 4)) hl9) (vx_cwSW 5 hts gL_law_L_colour rfl rfl rfl (by decide +kernel) ⟨Nat.le_of_ble_eq_true rfl, Nat.le_of_ble_eq_true rfl⟩) rfl hl.1 rfl (Nat.le_of_ble_eq_true rfl) dL_law_153 ⟨by omega, by omega⟩ (fun r1 F1 V1 o1 H locs hq hN => ?_)
  obtain ⟨er, hq0, hq1⟩ := hq
  subst er
  by_cases hf : fCol (xs (i + 1)) (xs (i + 2)) (xs (i + 3)) (xs (i + 4)) = 0
  · cases hq0 hf
    refine lv_istore (lv' := [(5, .int (fCol (xs (i + 1)) (xs (i + 2)) (xs (i + 3)) (xs (i + 4)))), (0, .ref b), (1, .ref (ad 0)), (2, .ref (ad 43)), (3, .ref (ad 64)), (4, .int (nI i))]) hx hb dL_law_156 hl (by decide) rfl (fun ls hl => ?_)
    refine lv_aload_n hx hb dL_law_158 rfl (lv_at hl 3 rfl) ?_
    refine lv_aload_n hx hb dL_law_159 rfl (lv_at hl 1 rfl) ?_
    refine lv_iload hx hb dL_law_160 (lv_at hl 5 rfl) ?_
    refine lv_iconst (v := 1) hx hb dL_law_162 (by decide) ?_
    refine g_addN (a := i) (b := 1) hx hb rfl rfl dL_law_163 ?_
    refine g_sld hx hb hX hbl hbA hN (j := i + 1) (by omega) hL dL_law_164 ?_
    refine lv_aload_n hx hb dL_law_165 rfl (lv_at hl 1 rfl) ?_
    refine lv_iload hx hb dL_law_166 (lv_at hl 5 rfl) ?_
    refine lv_iconst (v := 2) hx hb dL_law_168 (by decide) ?_
    refine g_addN (a := i) (b := 2) hx hb rfl rfl dL_law_169 ?_
    refine g_sld hx hb hX hbl hbA hN (j := i + 2) (by omega) hL dL_law_170 ?_
    refine lv_aload_n hx hb dL_law_171 rfl (lv_at hl 1 rfl) ?_
    refine lv_iload hx hb dL_law_172 (lv_at hl 5 rfl) ?_
    refine lv_iconst (v := 3) hx hb dL_law_174 (by decide) ?_
    refine g_addN (a := i) (b := 3) hx hb rfl rfl dL_law_175 ?_
    refine g_sld hx hb hX hbl hbA hN (j := i + 3) (by omega) hL dL_law_176 ?_
    refine lv_aload_n hx hb dL_law_177 rfl (lv_at hl 1 rfl) ?_
    refine lv_iload hx hb dL_law_178 (lv_at hl 5 rfl) ?_
    refine lv_iconst (v := 4) hx hb dL_law_180 (by decide) ?_
    refine g_addN (a := i) (b := 4) hx hb rfl rfl dL_law_181 ?_
    refine g_sld hx hb hX hbl hbA hN (j := i + 4) (by omega) hL dL_law_182 ?_
    refine g_Vv (As := [.int (xs (i + 1)), .int (xs (i + 2)), .int (xs (i + 3)), .int (xs (i + 4))]) (rest := []) ⟨hx, hb, hml, hown, hts⟩ hG hN (i := 43) (by decide) rfl rfl (c_X10_colour l (xs (i + 1)) (xs (i + 2)) (xs (i + 3)) (xs (i + 4)) ) (cwV 4 hts gL_law_X10_colour rfl rfl rfl (by decide +kernel) ⟨Nat.le_of_ble_eq_true rfl, Nat.le_of_ble_eq_true rfl⟩) rfl hl.1 rfl (Nat.le_of_ble_eq_true rfl) dL_law_183 ⟨by omega, by omega⟩ (fun F2 V2 o2 H locs hm hN => ?_)
    obtain ⟨e1, e2, e3, hI2⟩ := LQ_colour hI hf rfl hm
    have e2 : o2 = _ := e2
    rw [e2] at hN
    refine lv_aload_n hx hb dL_law_186 rfl (lv_at hl 3 rfl) ?_
    refine g_VI (As := []) (rest := []) ⟨hx, hb, hml, hown, hts⟩ hG hN (i := 43) (by decide) rfl rfl (c_X10_thrown l ) (cwV 0 hts gL_law_X10_thrown rfl rfl rfl (by decide +kernel) ⟨Nat.le_of_ble_eq_true rfl, Nat.le_of_ble_eq_true rfl⟩) rfl hl.1 rfl (Nat.le_of_ble_eq_true rfl) dL_law_187 ⟨by omega, by omega⟩ (fun H locs hN => ?_)
    refine g_top (y := 0) e1 ?_
    refine lv_iload hx hb dL_law_190 (lv_at hl 0 rfl) ?_
    refine lv_icmp_eq (tgt := 197) hx hb dL_law_192 (by decide) (fun _ => ?_) (fun c9 => absurd hf.symm c9)
    refine lv_goto (tgt := 1101) hx hb dL_law_197 (by decide) ?_
    refine W.widen (k := cells + 4) (n := slots + 24) (by omega) (by omega) ?_
    exact kk _ _ _ _ _ _ (hI2.mono (by omega)) hN (lv_sub hl [1, 2, 3, 4, 5] rfl)
  · cases hq1 hf
    refine lv_istore (lv' := [(5, .int (fCol (xs (i + 1)) (xs (i + 2)) (xs (i + 3)) (xs (i + 4)))), (0, .ref b), (1, .ref (ad 0)), (2, .ref (ad 43)), (3, .ref (ad 64)), (4, .int (nI i))]) hx hb dL_law_156 hl (by decide) rfl (fun ls hl => ?_)
    refine lv_aload_n hx hb dL_law_158 rfl (lv_at hl 3 rfl) ?_
    refine lv_aload_n hx hb dL_law_159 rfl (lv_at hl 1 rfl) ?_
    refine lv_iload hx hb dL_law_160 (lv_at hl 5 rfl) ?_
    refine lv_iconst (v := 1) hx hb dL_law_162 (by decide) ?_
    refine g_addN (a := i) (b := 1) hx hb rfl rfl dL_law_163 ?_
    refine g_sld hx hb hX hbl hbA hN (j := i + 1) (by omega) hL dL_law_164 ?_
    refine lv_aload_n hx hb dL_law_165 rfl (lv_at hl 1 rfl) ?_
    refine lv_iload hx hb dL_law_166 (lv_at hl 5 rfl) ?_
    refine lv_iconst (v := 2) hx hb dL_law_168 (by decide) ?_
    refine g_addN (a := i) (b := 2) hx hb rfl rfl dL_law_169 ?_
    refine g_sld hx hb hX hbl hbA hN (j := i + 2) (by omega) hL dL_law_170 ?_
    refine lv_aload_n hx hb dL_law_171 rfl (lv_at hl 1 rfl) ?_
    refine lv_iload hx hb dL_law_172 (lv_at hl 5 rfl) ?_
    refine lv_iconst (v := 3) hx hb dL_law_174 (by decide) ?_
    refine g_addN (a := i) (b := 3) hx hb rfl rfl dL_law_175 ?_
    refine g_sld hx hb hX hbl hbA hN (j := i + 3) (by omega) hL dL_law_176 ?_
    refine lv_aload_n hx hb dL_law_177 rfl (lv_at hl 1 rfl) ?_
    refine lv_iload hx hb dL_law_178 (lv_at hl 5 rfl) ?_
    refine lv_iconst (v := 4) hx hb dL_law_180 (by decide) ?_
    refine g_addN (a := i) (b := 4) hx hb rfl rfl dL_law_181 ?_
    refine g_sld hx hb hX hbl hbA hN (j := i + 4) (by omega) hL dL_law_182 ?_
    refine g_Vv (As := [.int (xs (i + 1)), .int (xs (i + 2)), .int (xs (i + 3)), .int (xs (i + 4))]) (rest := []) ⟨hx, hb, hml, hown, hts⟩ hG hN (i := 43) (by decide) rfl rfl (c_X10_colour l (xs (i + 1)) (xs (i + 2)) (xs (i + 3)) (xs (i + 4)) ) (cwV 4 hts gL_law_X10_colour rfl rfl rfl (by decide +kernel) ⟨Nat.le_of_ble_eq_true rfl, Nat.le_of_ble_eq_true rfl⟩) rfl hl.1 rfl (Nat.le_of_ble_eq_true rfl) dL_law_183 ⟨by omega, by omega⟩ (fun F2 V2 o2 H locs hm hN => ?_)
    simp only [hI.1, hI.2.1] at hm
    obtain ⟨e1, e2, hI2⟩ := LI_no hI hf hm
    refine lv_aload_n hx hb dL_law_186 rfl (lv_at hl 3 rfl) ?_
    refine g_VI (As := []) (rest := []) ⟨hx, hb, hml, hown, hts⟩ hG hN (i := 43) (by decide) rfl rfl (c_X10_thrown l ) (cwV 0 hts gL_law_X10_thrown rfl rfl rfl (by decide +kernel) ⟨Nat.le_of_ble_eq_true rfl, Nat.le_of_ble_eq_true rfl⟩) rfl hl.1 rfl (Nat.le_of_ble_eq_true rfl) dL_law_187 ⟨by omega, by omega⟩ (fun H locs hN => ?_)
    refine g_top (y := fCol (xs (i + 1)) (xs (i + 2)) (xs (i + 3)) (xs (i + 4))) e1 ?_
    refine lv_iload hx hb dL_law_190 (lv_at hl 0 rfl) ?_
    refine lv_icmp_eq (tgt := 197) hx hb dL_law_192 (by decide) (fun _ => ?_) (fun c9 => absurd rfl c9)
    refine lv_goto (tgt := 1101) hx hb dL_law_197 (by decide) ?_
    refine W.widen (k := cells + 4) (n := slots + 24) (by omega) (by omega) ?_
    exact kk _ _ _ _ _ _ (hI2.mono (by omega)) hN (lv_sub hl [1, 2, 3, 4, 5] rfl)
set_option maxHeartbeats 4000000 in
set_option maxRecDepth 100000 in
theorem lw_b1 (E : lwE p0 l s0 m0 a0 c0 D ad cs zd b L xs) (hi : i + 5 ≤ L) (hL : L ≤ 2560) (hI : LI F V b9) (hb9 : b9 ≤ 2 ^ 28) (hc : cells + 4 ≤ room_1.cells) (hs : slots + 24 ≤ room_1.slots) (hN : gN D ad cs s0 F V o H locs) (hl : lv_has ls 7 (lwL ad b i))
    (kk : ∀ (F2 V2 : gF) (o2 : gO) (H1 : Heap) (locs1 : List Loc) (ls1 : Array Slot), LI F2 V2 (b9 + 100) → gN D ad cs s0 F2 V2 o2 H1 locs1 → lv_has ls1 7 (lwL ad b i) → W p0 l e0 room_1 s0 m0 a0 b0 k0 c0 H1 locs1 (cells + 4) (slots + 24) Q (F0 m0 1101 ls1 [])) : W p0 l e0 room_1 s0 m0 a0 b0 k0 c0 H locs cells slots Q (F0 m0 200 ls []) := by
  obtain ⟨hx, hb, hml, hts, hown, hX, hbl, hbA, hl9, hG⟩ := E
  have hl : lv_has ls 7 [(0, .ref b), (1, .ref (ad 0)), (2, .ref (ad 43)), (3, .ref (ad 64)), (4, .int (nI i))] := hl
  obtain ⟨n, hn2, hn⟩ := hI.2.2.2.2.1
  refine lv_aload_n hx hb dL_law_200 rfl (lv_at hl 1 rfl) ?_
  refine lv_aload_n hx hb dL_law_201 rfl (lv_at hl 0 rfl) ?_
  refine lv_iload hx hb dL_law_202 (lv_at hl 4 rfl) ?_
  refine lv_iconst (v := 1) hx hb dL_law_204 (by decide) ?_
  refine g_addN (a := i) (b := 1) hx hb rfl rfl dL_law_205 ?_
  refine g_sld hx hb hX hbl hbA hN (j := i + 1) (by omega) hL dL_law_206 ?_
  refine lv_i2c hx hb dL_law_207 rfl ?_
  refine lv_aload_n hx hb dL_law_208 rfl (lv_at hl 3 rfl) ?_
  refine g_Wi (As := [.ref (ad 0), .int (((xs (i + 1)).toUInt32 % 65536).toInt32), .ref (ad 64)]) (rest := []) ⟨hx, hb, hml, hown, hts⟩ hG hN (c_L_type l (((xs (i + 1)).toUInt32 % 65536).toInt32) hl9 n hn hn2 (g_c16 _)) (vx_cwSW 3 hts gL_law_L_type rfl rfl rfl (by decide +kernel) ⟨Nat.le_of_ble_eq_true rfl, Nat.le_of_ble_eq_true rfl⟩) rfl hl.1 rfl (Nat.le_of_ble_eq_true rfl) dL_law_209 ⟨by omega, by omega⟩ (fun r1 F1 V1 o1 H locs hq hN => ?_)
  obtain ⟨er, hq0, hq1⟩ := hq
  subst er
  by_cases hf : fTyp V (((xs (i + 1)).toUInt32 % 65536).toInt32) = 0
  · cases hq0 hf
    refine lv_istore (lv' := [(5, .int (fTyp V (((xs (i + 1)).toUInt32 % 65536).toInt32))), (0, .ref b), (1, .ref (ad 0)), (2, .ref (ad 43)), (3, .ref (ad 64)), (4, .int (nI i))]) hx hb dL_law_212 hl (by decide) rfl (fun ls hl => ?_)
    refine lv_aload_n hx hb dL_law_214 rfl (lv_at hl 3 rfl) ?_
    refine lv_aload_n hx hb dL_law_215 rfl (lv_at hl 1 rfl) ?_
    refine lv_iload hx hb dL_law_216 (lv_at hl 5 rfl) ?_
    refine lv_iconst (v := 1) hx hb dL_law_218 (by decide) ?_
    refine g_addN (a := i) (b := 1) hx hb rfl rfl dL_law_219 ?_
    refine g_sld hx hb hX hbl hbA hN (j := i + 1) (by omega) hL dL_law_220 ?_
    refine lv_i2c hx hb dL_law_221 rfl ?_
    refine g_Vi (As := [.int (((xs (i + 1)).toUInt32 % 65536).toInt32)]) (rest := []) ⟨hx, hb, hml, hown, hts⟩ hG hN (i := 43) (by decide) rfl rfl (c_X10_type l (((xs (i + 1)).toUInt32 % 65536).toInt32) n (LQ_tv hI hn) hn2 (g_c16 _)) (cwV 1 hts gL_law_X10_type rfl rfl rfl (by decide +kernel) ⟨Nat.le_of_ble_eq_true rfl, Nat.le_of_ble_eq_true rfl⟩) rfl hl.1 rfl (Nat.le_of_ble_eq_true rfl) dL_law_222 ⟨by omega, by omega⟩ (fun r9 F2 V2 o2 H locs hm hN => ?_)
    obtain ⟨e1, e2, e3, hI2⟩ := LQ_type hI hn hn2 hf rfl rfl hm
    subst e3
    have e2 : o2 = _ := e2
    rw [e2] at hN
    refine lv_istore (lv' := [(6, .int (nI (n + 1))), (5, .int (fTyp V (((xs (i + 1)).toUInt32 % 65536).toInt32))), (0, .ref b), (1, .ref (ad 0)), (2, .ref (ad 43)), (3, .ref (ad 64)), (4, .int (nI i))]) hx hb dL_law_225 hl (by decide) rfl (fun ls hl => ?_)
    refine lv_aload_n hx hb dL_law_227 rfl (lv_at hl 4 rfl) ?_
    refine g_VI (As := []) (rest := []) ⟨hx, hb, hml, hown, hts⟩ hG hN (i := 43) (by decide) rfl rfl (c_X10_thrown l ) (cwV 0 hts gL_law_X10_thrown rfl rfl rfl (by decide +kernel) ⟨Nat.le_of_ble_eq_true rfl, Nat.le_of_ble_eq_true rfl⟩) rfl hl.1 rfl (Nat.le_of_ble_eq_true rfl) dL_law_228 ⟨by omega, by omega⟩ (fun H locs hN => ?_)
    refine g_top (y := 0) e1 ?_
    refine lv_iload hx hb dL_law_231 (lv_at hl 1 rfl) ?_
    refine lv_icmp_eq (tgt := 238) hx hb dL_law_233 (by decide) (fun _ => ?_) (fun c9 => absurd hf.symm c9)
    refine lv_iload hx hb dL_law_238 (lv_at hl 1 rfl) ?_
    refine lv_if_ne (tgt := 255) hx hb dL_law_240 (by decide) (fun c9 => absurd hf c9) (fun _ => ?_)
    refine lv_aload_n hx hb dL_law_243 rfl (lv_at hl 5 rfl) ?_
    refine lv_iconst (v := 0) hx hb dL_law_244 (by decide) ?_
    refine g_lald hx hb hG hN rfl dL_law_245 ?_
    refine lv_iload hx hb dL_law_246 (lv_at hl 0 rfl) ?_
    refine lv_i2l hx hb dL_law_248 rfl ?_
    refine W.lcmp hx hb dL_law_249 ?_
    refine g_top (y := 0) (lg_self _) ?_
    refine lv_if_eq (tgt := 255) hx hb dL_law_250 (by decide) (fun _ => ?_) (fun c1 => False.elim (by revert c1; decide))
    refine lv_goto (tgt := 1101) hx hb dL_law_255 (by decide) ?_
    refine W.widen (k := cells + 4) (n := slots + 24) (by omega) (by omega) ?_
    exact kk _ _ _ _ _ _ (hI2.mono (by omega)) hN (lv_sub hl [2, 3, 4, 5, 6] rfl)
  · cases hq1 hf
    refine lv_istore (lv' := [(5, .int (fTyp V (((xs (i + 1)).toUInt32 % 65536).toInt32))), (0, .ref b), (1, .ref (ad 0)), (2, .ref (ad 43)), (3, .ref (ad 64)), (4, .int (nI i))]) hx hb dL_law_212 hl (by decide) rfl (fun ls hl => ?_)
    refine lv_aload_n hx hb dL_law_214 rfl (lv_at hl 3 rfl) ?_
    refine lv_aload_n hx hb dL_law_215 rfl (lv_at hl 1 rfl) ?_
    refine lv_iload hx hb dL_law_216 (lv_at hl 5 rfl) ?_
    refine lv_iconst (v := 1) hx hb dL_law_218 (by decide) ?_
    refine g_addN (a := i) (b := 1) hx hb rfl rfl dL_law_219 ?_
    refine g_sld hx hb hX hbl hbA hN (j := i + 1) (by omega) hL dL_law_220 ?_
    refine lv_i2c hx hb dL_law_221 rfl ?_
    refine g_Vi (As := [.int (((xs (i + 1)).toUInt32 % 65536).toInt32)]) (rest := []) ⟨hx, hb, hml, hown, hts⟩ hG hN (i := 43) (by decide) rfl rfl (c_X10_type l (((xs (i + 1)).toUInt32 % 65536).toInt32) n (hI.v6.trans hn) hn2 (g_c16 _)) (cwV 1 hts gL_law_X10_type rfl rfl rfl (by decide +kernel) ⟨Nat.le_of_ble_eq_true rfl, Nat.le_of_ble_eq_true rfl⟩) rfl hl.1 rfl (Nat.le_of_ble_eq_true rfl) dL_law_222 ⟨by omega, by omega⟩ (fun r9 F2 V2 o2 H locs hm hN => ?_)
    simp only [hI.1, hI.2.1] at hm
    obtain ⟨e1, e2, hI2⟩ := LI_no hI hf hm
    refine lv_istore (lv' := [(6, .int r9), (5, .int (fTyp V (((xs (i + 1)).toUInt32 % 65536).toInt32))), (0, .ref b), (1, .ref (ad 0)), (2, .ref (ad 43)), (3, .ref (ad 64)), (4, .int (nI i))]) hx hb dL_law_225 hl (by decide) rfl (fun ls hl => ?_)
    refine lv_aload_n hx hb dL_law_227 rfl (lv_at hl 4 rfl) ?_
    refine g_VI (As := []) (rest := []) ⟨hx, hb, hml, hown, hts⟩ hG hN (i := 43) (by decide) rfl rfl (c_X10_thrown l ) (cwV 0 hts gL_law_X10_thrown rfl rfl rfl (by decide +kernel) ⟨Nat.le_of_ble_eq_true rfl, Nat.le_of_ble_eq_true rfl⟩) rfl hl.1 rfl (Nat.le_of_ble_eq_true rfl) dL_law_228 ⟨by omega, by omega⟩ (fun H locs hN => ?_)
    refine g_top (y := fTyp V (((xs (i + 1)).toUInt32 % 65536).toInt32)) e1 ?_
    refine lv_iload hx hb dL_law_231 (lv_at hl 1 rfl) ?_
    refine lv_icmp_eq (tgt := 238) hx hb dL_law_233 (by decide) (fun _ => ?_) (fun c9 => absurd rfl c9)
    refine lv_iload hx hb dL_law_238 (lv_at hl 1 rfl) ?_
    refine lv_if_ne (tgt := 255) hx hb dL_law_240 (by decide) (fun _ => ?_) (fun c9 => absurd c9 hf)
    refine lv_goto (tgt := 1101) hx hb dL_law_255 (by decide) ?_
    refine W.widen (k := cells + 4) (n := slots + 24) (by omega) (by omega) ?_
    exact kk _ _ _ _ _ _ (hI2.mono (by omega)) hN (lv_sub hl [2, 3, 4, 5, 6] rfl)
set_option maxHeartbeats 4000000 in
set_option maxRecDepth 100000 in
theorem lw_b2 (E : lwE p0 l s0 m0 a0 c0 D ad cs zd b L xs) (hi : i + 5 ≤ L) (hL : L ≤ 2560) (hI : LI F V b9) (hb9 : b9 ≤ 2 ^ 28) (hc : cells + 4 ≤ room_1.cells) (hs : slots + 24 ≤ room_1.slots) (hN : gN D ad cs s0 F V o H locs) (hl : lv_has ls 7 (lwL ad b i))
    (kk : ∀ (F2 V2 : gF) (o2 : gO) (H1 : Heap) (locs1 : List Loc) (ls1 : Array Slot), LI F2 V2 (b9 + 100) → gN D ad cs s0 F2 V2 o2 H1 locs1 → lv_has ls1 7 (lwL ad b i) → W p0 l e0 room_1 s0 m0 a0 b0 k0 c0 H1 locs1 (cells + 4) (slots + 24) Q (F0 m0 1101 ls1 [])) : W p0 l e0 room_1 s0 m0 a0 b0 k0 c0 H locs cells slots Q (F0 m0 258 ls []) := by
  obtain ⟨hx, hb, hml, hts, hown, hX, hbl, hbA, hl9, hG⟩ := E
  have hl : lv_has ls 7 [(0, .ref b), (1, .ref (ad 0)), (2, .ref (ad 43)), (3, .ref (ad 64)), (4, .int (nI i))] := hl
  obtain ⟨n, hn2, hn⟩ := hI.2.2.2.2.1
  refine lv_aload_n hx hb dL_law_258 rfl (lv_at hl 1 rfl) ?_
  refine g_Vi (As := []) (rest := []) ⟨hx, hb, hml, hown, hts⟩ hG hN (i := 0) (by decide) rfl rfl (c_X9_apply l n hn hn2) (cwV 0 hts gL_law_X9_apply rfl rfl rfl (by decide +kernel) ⟨Nat.le_of_ble_eq_true rfl, Nat.le_of_ble_eq_true rfl⟩) rfl hl.1 rfl (Nat.le_of_ble_eq_true rfl) dL_law_259 ⟨by omega, by omega⟩ (fun r1 F1 V1 o1 H locs hq hN => ?_)
  obtain ⟨g49, v6, hz⟩ := LI_apply hI hn hq
  refine lv_aload_n hx hb dL_law_262 rfl (lv_at hl 2 rfl) ?_
  refine g_Vi (As := []) (rest := [.int r1]) ⟨hx, hb, hml, hown, hts⟩ hG hN (i := 43) (by decide) rfl rfl (c_X10_apply l n v6 hn2) (cwV 0 hts gL_law_X10_apply rfl rfl rfl (by decide +kernel) ⟨Nat.le_of_ble_eq_true rfl, Nat.le_of_ble_eq_true rfl⟩) rfl hl.1 rfl (Nat.le_of_ble_eq_true rfl) dL_law_263 ⟨by omega, by omega⟩ (fun r9 F2 V2 o2 H locs hm hN => ?_)
  obtain ⟨-, -, e3, s1, s2⟩ := hm
  have hI2 := hz F2 V2 s1 s2
  have e4 : r9 = r1 := e3.trans ((congrArg (fun z => qRun z n 64 0 0) g49).trans hq.2.1.symm)
  have e3 := e4
  refine lv_icmp_eq (tgt := 1101) hx hb dL_law_266 (by decide) (fun _ => ?_) (fun c9 => absurd e3.symm c9)
  refine W.widen (k := cells + 4) (n := slots + 24) (by omega) (by omega) ?_
  exact kk _ _ _ _ _ _ (hI2.mono (by omega)) hN (lv_sub hl [0, 1, 2, 3, 4] rfl)
set_option maxHeartbeats 4000000 in
set_option maxRecDepth 100000 in
theorem lw_b3 (E : lwE p0 l s0 m0 a0 c0 D ad cs zd b L xs) (hi : i + 5 ≤ L) (hL : L ≤ 2560) (hI : LI F V b9) (hb9 : b9 ≤ 2 ^ 28) (hc : cells + 4 ≤ room_1.cells) (hs : slots + 24 ≤ room_1.slots) (hN : gN D ad cs s0 F V o H locs) (hl : lv_has ls 7 (lwL ad b i))
    (kk : ∀ (F2 V2 : gF) (o2 : gO) (H1 : Heap) (locs1 : List Loc) (ls1 : Array Slot), LI F2 V2 (b9 + 100) → gN D ad cs s0 F2 V2 o2 H1 locs1 → lv_has ls1 7 (lwL ad b i) → W p0 l e0 room_1 s0 m0 a0 b0 k0 c0 H1 locs1 (cells + 4) (slots + 24) Q (F0 m0 1101 ls1 [])) : W p0 l e0 room_1 s0 m0 a0 b0 k0 c0 H locs cells slots Q (F0 m0 271 ls []) := by
  obtain ⟨hx, hb, hml, hts, hown, hX, hbl, hbA, hl9, hG⟩ := E
  have hl : lv_has ls 7 [(0, .ref b), (1, .ref (ad 0)), (2, .ref (ad 43)), (3, .ref (ad 64)), (4, .int (nI i))] := hl
  refine lv_aload_n hx hb dL_law_271 rfl (lv_at hl 1 rfl) ?_
  refine g_VI (As := []) (rest := []) ⟨hx, hb, hml, hown, hts⟩ hG hN (i := 0) (by decide) rfl rfl (c_X9_plates l (nz01 hI.2.2.2.2.2.2.2.1)) (cwV 0 hts gL_law_X9_plates rfl rfl rfl (by decide +kernel) ⟨Nat.le_of_ble_eq_true rfl, Nat.le_of_ble_eq_true rfl⟩) rfl hl.1 rfl (Nat.le_of_ble_eq_true rfl) dL_law_272 ⟨by omega, by omega⟩ (fun H locs hN => ?_)
  refine lv_aload_n hx hb dL_law_275 rfl (lv_at hl 2 rfl) ?_
  refine g_Vi (As := []) (rest := [.int (cMkN F V 256)]) ⟨hx, hb, hml, hown, hts⟩ hG hN (i := 43) (by decide) rfl rfl (c_X10_plates l (LQ_pnz hI) (LQ_pwm hI)) (cwV 0 hts gL_law_X10_plates rfl rfl rfl (by decide +kernel) ⟨Nat.le_of_ble_eq_true rfl, Nat.le_of_ble_eq_true rfl⟩) rfl hl.1 rfl (Nat.le_of_ble_eq_true rfl) dL_law_276 ⟨by omega, by omega⟩ (fun r9 F2 V2 o2 H locs hm hN => ?_)
  obtain ⟨e1, e2, e3, hI2⟩ := LQ_plates hI rfl hm
  refine lv_icmp_eq (tgt := 1101) hx hb dL_law_279 (by decide) (fun _ => ?_) (fun c9 => absurd e3.symm c9)
  refine W.widen (k := cells + 4) (n := slots + 24) (by omega) (by omega) ?_
  exact kk _ _ _ _ _ _ (hI2.mono (by omega)) hN (lv_sub hl [0, 1, 2, 3, 4] rfl)
set_option maxHeartbeats 4000000 in
set_option maxRecDepth 100000 in
theorem lw_b4 (E : lwE p0 l s0 m0 a0 c0 D ad cs zd b L xs) (hi : i + 5 ≤ L) (hL : L ≤ 2560) (hI : LI F V b9) (hb9 : b9 ≤ 2 ^ 28) (hc : cells + 4 ≤ room_1.cells) (hs : slots + 24 ≤ room_1.slots) (hN : gN D ad cs s0 F V o H locs) (hl : lv_has ls 7 (lwL ad b i))
    (kk : ∀ (F2 V2 : gF) (o2 : gO) (H1 : Heap) (locs1 : List Loc) (ls1 : Array Slot), LI F2 V2 (b9 + 100) → gN D ad cs s0 F2 V2 o2 H1 locs1 → lv_has ls1 7 (lwL ad b i) → W p0 l e0 room_1 s0 m0 a0 b0 k0 c0 H1 locs1 (cells + 4) (slots + 24) Q (F0 m0 1101 ls1 [])) : W p0 l e0 room_1 s0 m0 a0 b0 k0 c0 H locs cells slots Q (F0 m0 284 ls []) := by
  obtain ⟨hx, hb, hml, hts, hown, hX, hbl, hbA, hl9, hG⟩ := E
  have hl : lv_has ls 7 [(0, .ref b), (1, .ref (ad 0)), (2, .ref (ad 43)), (3, .ref (ad 64)), (4, .int (nI i))] := hl
  refine lv_aload_n hx hb dL_law_284 rfl (lv_at hl 1 rfl) ?_
  refine lv_aload_n hx hb dL_law_285 rfl (lv_at hl 0 rfl) ?_
  refine lv_iload hx hb dL_law_286 (lv_at hl 4 rfl) ?_
  refine lv_iconst (v := 1) hx hb dL_law_288 (by decide) ?_
  refine g_addN (a := i) (b := 1) hx hb rfl rfl dL_law_289 ?_
  refine g_sld hx hb hX hbl hbA hN (j := i + 1) (by omega) hL dL_law_290 ?_
  refine lv_aload_n hx hb dL_law_291 rfl (lv_at hl 0 rfl) ?_
  refine lv_iload hx hb dL_law_292 (lv_at hl 4 rfl) ?_
  refine lv_iconst (v := 2) hx hb dL_law_294 (by decide) ?_
  refine g_addN (a := i) (b := 2) hx hb rfl rfl dL_law_295 ?_
  refine g_sld hx hb hX hbl hbA hN (j := i + 2) (by omega) hL dL_law_296 ?_
  refine lv_aload_n hx hb dL_law_297 rfl (lv_at hl 0 rfl) ?_
  refine lv_iload hx hb dL_law_298 (lv_at hl 4 rfl) ?_
  refine lv_iconst (v := 3) hx hb dL_law_300 (by decide) ?_
  refine g_addN (a := i) (b := 3) hx hb rfl rfl dL_law_301 ?_
  refine g_sld hx hb hX hbl hbA hN (j := i + 3) (by omega) hL dL_law_302 ?_
  refine g_Wi (As := [.ref (ad 0), .int (xs (i + 1)), .int (xs (i + 2)), .int (xs (i + 3))]) (rest := []) ⟨hx, hb, hml, hown, hts⟩ hG hN (c_L_drift l (xs (i + 1)) (xs (i + 2)) (xs (i + 3)) hl9) (vx_cwSW 4 hts gL_law_L_drift rfl rfl rfl (by decide +kernel) ⟨Nat.le_of_ble_eq_true rfl, Nat.le_of_ble_eq_true rfl⟩) rfl hl.1 rfl (Nat.le_of_ble_eq_true rfl) dL_law_303 ⟨by omega, by omega⟩ (fun r1 F1 V1 o1 H locs hq hN => ?_)
  obtain ⟨er, hq0, hq1⟩ := hq
  subst er
  by_cases hf : fDri (xs (i + 1)) (xs (i + 2)) (xs (i + 3)) = 0
  · cases hq0 hf
    refine lv_istore (lv' := [(5, .int (fDri (xs (i + 1)) (xs (i + 2)) (xs (i + 3)))), (0, .ref b), (1, .ref (ad 0)), (2, .ref (ad 43)), (3, .ref (ad 64)), (4, .int (nI i))]) hx hb dL_law_306 hl (by decide) rfl (fun ls hl => ?_)
    refine lv_aload_n hx hb dL_law_308 rfl (lv_at hl 3 rfl) ?_
    refine lv_aload_n hx hb dL_law_309 rfl (lv_at hl 1 rfl) ?_
    refine lv_iload hx hb dL_law_310 (lv_at hl 5 rfl) ?_
    refine lv_iconst (v := 1) hx hb dL_law_312 (by decide) ?_
    refine g_addN (a := i) (b := 1) hx hb rfl rfl dL_law_313 ?_
    refine g_sld hx hb hX hbl hbA hN (j := i + 1) (by omega) hL dL_law_314 ?_
    refine lv_aload_n hx hb dL_law_315 rfl (lv_at hl 1 rfl) ?_
    refine lv_iload hx hb dL_law_316 (lv_at hl 5 rfl) ?_
    refine lv_iconst (v := 2) hx hb dL_law_318 (by decide) ?_
    refine g_addN (a := i) (b := 2) hx hb rfl rfl dL_law_319 ?_
    refine g_sld hx hb hX hbl hbA hN (j := i + 2) (by omega) hL dL_law_320 ?_
    refine lv_aload_n hx hb dL_law_321 rfl (lv_at hl 1 rfl) ?_
    refine lv_iload hx hb dL_law_322 (lv_at hl 5 rfl) ?_
    refine lv_iconst (v := 3) hx hb dL_law_324 (by decide) ?_
    refine g_addN (a := i) (b := 3) hx hb rfl rfl dL_law_325 ?_
    refine g_sld hx hb hX hbl hbA hN (j := i + 3) (by omega) hL dL_law_326 ?_
    refine g_Vv (As := [.int (xs (i + 1)), .int (xs (i + 2)), .int (xs (i + 3))]) (rest := []) ⟨hx, hb, hml, hown, hts⟩ hG hN (i := 43) (by decide) rfl rfl (c_X10_drift l (xs (i + 1)) (xs (i + 2)) (xs (i + 3)) ) (cwV 3 hts gL_law_X10_drift rfl rfl rfl (by decide +kernel) ⟨Nat.le_of_ble_eq_true rfl, Nat.le_of_ble_eq_true rfl⟩) rfl hl.1 rfl (Nat.le_of_ble_eq_true rfl) dL_law_327 ⟨by omega, by omega⟩ (fun F2 V2 o2 H locs hm hN => ?_)
    obtain ⟨e1, e2, e3, hI2⟩ := LQ_drift hI hf rfl hm
    have e2 : o2 = _ := e2
    rw [e2] at hN
    refine lv_aload_n hx hb dL_law_330 rfl (lv_at hl 3 rfl) ?_
    refine g_VI (As := []) (rest := []) ⟨hx, hb, hml, hown, hts⟩ hG hN (i := 43) (by decide) rfl rfl (c_X10_thrown l ) (cwV 0 hts gL_law_X10_thrown rfl rfl rfl (by decide +kernel) ⟨Nat.le_of_ble_eq_true rfl, Nat.le_of_ble_eq_true rfl⟩) rfl hl.1 rfl (Nat.le_of_ble_eq_true rfl) dL_law_331 ⟨by omega, by omega⟩ (fun H locs hN => ?_)
    refine g_top (y := 0) e1 ?_
    refine lv_iload hx hb dL_law_334 (lv_at hl 0 rfl) ?_
    refine lv_icmp_eq (tgt := 341) hx hb dL_law_336 (by decide) (fun _ => ?_) (fun c9 => absurd hf.symm c9)
    refine lv_goto (tgt := 1101) hx hb dL_law_341 (by decide) ?_
    refine W.widen (k := cells + 4) (n := slots + 24) (by omega) (by omega) ?_
    exact kk _ _ _ _ _ _ (hI2.mono (by omega)) hN (lv_sub hl [1, 2, 3, 4, 5] rfl)
  · cases hq1 hf
    refine lv_istore (lv' := [(5, .int (fDri (xs (i + 1)) (xs (i + 2)) (xs (i + 3)))), (0, .ref b), (1, .ref (ad 0)), (2, .ref (ad 43)), (3, .ref (ad 64)), (4, .int (nI i))]) hx hb dL_law_306 hl (by decide) rfl (fun ls hl => ?_)
    refine lv_aload_n hx hb dL_law_308 rfl (lv_at hl 3 rfl) ?_
    refine lv_aload_n hx hb dL_law_309 rfl (lv_at hl 1 rfl) ?_
    refine lv_iload hx hb dL_law_310 (lv_at hl 5 rfl) ?_
    refine lv_iconst (v := 1) hx hb dL_law_312 (by decide) ?_
    refine g_addN (a := i) (b := 1) hx hb rfl rfl dL_law_313 ?_
    refine g_sld hx hb hX hbl hbA hN (j := i + 1) (by omega) hL dL_law_314 ?_
    refine lv_aload_n hx hb dL_law_315 rfl (lv_at hl 1 rfl) ?_
    refine lv_iload hx hb dL_law_316 (lv_at hl 5 rfl) ?_
    refine lv_iconst (v := 2) hx hb dL_law_318 (by decide) ?_
    refine g_addN (a := i) (b := 2) hx hb rfl rfl dL_law_319 ?_
    refine g_sld hx hb hX hbl hbA hN (j := i + 2) (by omega) hL dL_law_320 ?_
    refine lv_aload_n hx hb dL_law_321 rfl (lv_at hl 1 rfl) ?_
    refine lv_iload hx hb dL_law_322 (lv_at hl 5 rfl) ?_
    refine lv_iconst (v := 3) hx hb dL_law_324 (by decide) ?_
    refine g_addN (a := i) (b := 3) hx hb rfl rfl dL_law_325 ?_
    refine g_sld hx hb hX hbl hbA hN (j := i + 3) (by omega) hL dL_law_326 ?_
    refine g_Vv (As := [.int (xs (i + 1)), .int (xs (i + 2)), .int (xs (i + 3))]) (rest := []) ⟨hx, hb, hml, hown, hts⟩ hG hN (i := 43) (by decide) rfl rfl (c_X10_drift l (xs (i + 1)) (xs (i + 2)) (xs (i + 3)) ) (cwV 3 hts gL_law_X10_drift rfl rfl rfl (by decide +kernel) ⟨Nat.le_of_ble_eq_true rfl, Nat.le_of_ble_eq_true rfl⟩) rfl hl.1 rfl (Nat.le_of_ble_eq_true rfl) dL_law_327 ⟨by omega, by omega⟩ (fun F2 V2 o2 H locs hm hN => ?_)
    simp only [hI.1, hI.2.1] at hm
    obtain ⟨e1, e2, hI2⟩ := LI_no hI hf hm
    refine lv_aload_n hx hb dL_law_330 rfl (lv_at hl 3 rfl) ?_
    refine g_VI (As := []) (rest := []) ⟨hx, hb, hml, hown, hts⟩ hG hN (i := 43) (by decide) rfl rfl (c_X10_thrown l ) (cwV 0 hts gL_law_X10_thrown rfl rfl rfl (by decide +kernel) ⟨Nat.le_of_ble_eq_true rfl, Nat.le_of_ble_eq_true rfl⟩) rfl hl.1 rfl (Nat.le_of_ble_eq_true rfl) dL_law_331 ⟨by omega, by omega⟩ (fun H locs hN => ?_)
    refine g_top (y := fDri (xs (i + 1)) (xs (i + 2)) (xs (i + 3))) e1 ?_
    refine lv_iload hx hb dL_law_334 (lv_at hl 0 rfl) ?_
    refine lv_icmp_eq (tgt := 341) hx hb dL_law_336 (by decide) (fun _ => ?_) (fun c9 => absurd rfl c9)
    refine lv_goto (tgt := 1101) hx hb dL_law_341 (by decide) ?_
    refine W.widen (k := cells + 4) (n := slots + 24) (by omega) (by omega) ?_
    exact kk _ _ _ _ _ _ (hI2.mono (by omega)) hN (lv_sub hl [1, 2, 3, 4, 5] rfl)
set_option maxHeartbeats 4000000 in
set_option maxRecDepth 100000 in
theorem lw_b5 (E : lwE p0 l s0 m0 a0 c0 D ad cs zd b L xs) (hi : i + 5 ≤ L) (hL : L ≤ 2560) (hI : LI F V b9) (hb9 : b9 ≤ 2 ^ 28) (hc : cells + 4 ≤ room_1.cells) (hs : slots + 24 ≤ room_1.slots) (hN : gN D ad cs s0 F V o H locs) (hl : lv_has ls 7 (lwL ad b i))
    (kk : ∀ (F2 V2 : gF) (o2 : gO) (H1 : Heap) (locs1 : List Loc) (ls1 : Array Slot), LI F2 V2 (b9 + 100) → gN D ad cs s0 F2 V2 o2 H1 locs1 → lv_has ls1 7 (lwL ad b i) → W p0 l e0 room_1 s0 m0 a0 b0 k0 c0 H1 locs1 (cells + 4) (slots + 24) Q (F0 m0 1101 ls1 [])) : W p0 l e0 room_1 s0 m0 a0 b0 k0 c0 H locs cells slots Q (F0 m0 344 ls []) := by
  obtain ⟨hx, hb, hml, hts, hown, hX, hbl, hbA, hl9, hG⟩ := E
  have hl : lv_has ls 7 [(0, .ref b), (1, .ref (ad 0)), (2, .ref (ad 43)), (3, .ref (ad 64)), (4, .int (nI i))] := hl
  obtain ⟨t, pr9, h9, w9, ht2, ht, -⟩ := id hI.2.2.1
  refine lv_aload_n hx hb dL_law_344 rfl (lv_at hl 1 rfl) ?_
  refine lv_aload_n hx hb dL_law_345 rfl (lv_at hl 0 rfl) ?_
  refine lv_iload hx hb dL_law_346 (lv_at hl 4 rfl) ?_
  refine lv_iconst (v := 1) hx hb dL_law_348 (by decide) ?_
  refine g_addN (a := i) (b := 1) hx hb rfl rfl dL_law_349 ?_
  refine g_sld hx hb hX hbl hbA hN (j := i + 1) (by omega) hL dL_law_350 ?_
  refine lv_aload_n hx hb dL_law_351 rfl (lv_at hl 0 rfl) ?_
  refine lv_iload hx hb dL_law_352 (lv_at hl 4 rfl) ?_
  refine lv_iconst (v := 2) hx hb dL_law_354 (by decide) ?_
  refine g_addN (a := i) (b := 2) hx hb rfl rfl dL_law_355 ?_
  refine g_sld hx hb hX hbl hbA hN (j := i + 2) (by omega) hL dL_law_356 ?_
  refine lv_aload_n hx hb dL_law_357 rfl (lv_at hl 0 rfl) ?_
  refine lv_iload hx hb dL_law_358 (lv_at hl 4 rfl) ?_
  refine lv_iconst (v := 3) hx hb dL_law_360 (by decide) ?_
  refine g_addN (a := i) (b := 3) hx hb rfl rfl dL_law_361 ?_
  refine g_sld hx hb hX hbl hbA hN (j := i + 3) (by omega) hL dL_law_362 ?_
  refine lv_aload_n hx hb dL_law_363 rfl (lv_at hl 3 rfl) ?_
  refine g_Wi (As := [.ref (ad 0), .int (xs (i + 1)), .int (xs (i + 2)), .int (xs (i + 3)), .ref (ad 64)]) (rest := []) ⟨hx, hb, hml, hown, hts⟩ hG hN (c_L_correct l (xs (i + 1)) (xs (i + 2)) (xs (i + 3)) hl9 t ht ht2) (vx_cwSW 5 hts gL_law_L_correct rfl rfl rfl (by decide +kernel) ⟨Nat.le_of_ble_eq_true rfl, Nat.le_of_ble_eq_true rfl⟩) rfl hl.1 rfl (Nat.le_of_ble_eq_true rfl) dL_law_364 ⟨by omega, by omega⟩ (fun r1 F1 V1 o1 H locs hq hN => ?_)
  obtain ⟨er, hq0, hq1⟩ := hq
  subst er
  by_cases hf : fCor V (xs (i + 1)) (xs (i + 2)) (xs (i + 3)) = 0
  · cases hq0 hf
    refine lv_istore (lv' := [(5, .int (fCor V (xs (i + 1)) (xs (i + 2)) (xs (i + 3)))), (0, .ref b), (1, .ref (ad 0)), (2, .ref (ad 43)), (3, .ref (ad 64)), (4, .int (nI i))]) hx hb dL_law_367 hl (by decide) rfl (fun ls hl => ?_)
    refine lv_aload_n hx hb dL_law_369 rfl (lv_at hl 3 rfl) ?_
    refine lv_aload_n hx hb dL_law_370 rfl (lv_at hl 1 rfl) ?_
    refine lv_iload hx hb dL_law_371 (lv_at hl 5 rfl) ?_
    refine lv_iconst (v := 1) hx hb dL_law_373 (by decide) ?_
    refine g_addN (a := i) (b := 1) hx hb rfl rfl dL_law_374 ?_
    refine g_sld hx hb hX hbl hbA hN (j := i + 1) (by omega) hL dL_law_375 ?_
    refine lv_aload_n hx hb dL_law_376 rfl (lv_at hl 1 rfl) ?_
    refine lv_iload hx hb dL_law_377 (lv_at hl 5 rfl) ?_
    refine lv_iconst (v := 2) hx hb dL_law_379 (by decide) ?_
    refine g_addN (a := i) (b := 2) hx hb rfl rfl dL_law_380 ?_
    refine g_sld hx hb hX hbl hbA hN (j := i + 2) (by omega) hL dL_law_381 ?_
    refine lv_aload_n hx hb dL_law_382 rfl (lv_at hl 1 rfl) ?_
    refine lv_iload hx hb dL_law_383 (lv_at hl 5 rfl) ?_
    refine lv_iconst (v := 3) hx hb dL_law_385 (by decide) ?_
    refine g_addN (a := i) (b := 3) hx hb rfl rfl dL_law_386 ?_
    refine g_sld hx hb hX hbl hbA hN (j := i + 3) (by omega) hL dL_law_387 ?_
    refine g_Vi (As := [.int (xs (i + 1)), .int (xs (i + 2)), .int (xs (i + 3))]) (rest := []) ⟨hx, hb, hml, hown, hts⟩ hG hN (i := 43) (by decide) rfl rfl (c_X10_correct l (xs (i + 1)) (xs (i + 2)) (xs (i + 3)) t (LQ_cv hI ht) ht2) (cwV 3 hts gL_law_X10_correct rfl rfl rfl (by decide +kernel) ⟨Nat.le_of_ble_eq_true rfl, Nat.le_of_ble_eq_true rfl⟩) rfl hl.1 rfl (Nat.le_of_ble_eq_true rfl) dL_law_388 ⟨by omega, by omega⟩ (fun r9 F2 V2 o2 H locs hm hN => ?_)
    obtain ⟨e1, e2, e3, hI2⟩ := LQ_correct hI (by omega) ht ht2 hf rfl rfl hm
    subst e3
    have e2 : o2 = _ := e2
    rw [e2] at hN
    refine lv_istore (lv' := [(6, .int (if V 1 4 = 0 then 0 else nI (t + 1))), (5, .int (fCor V (xs (i + 1)) (xs (i + 2)) (xs (i + 3)))), (0, .ref b), (1, .ref (ad 0)), (2, .ref (ad 43)), (3, .ref (ad 64)), (4, .int (nI i))]) hx hb dL_law_391 hl (by decide) rfl (fun ls hl => ?_)
    refine lv_aload_n hx hb dL_law_393 rfl (lv_at hl 4 rfl) ?_
    refine g_VI (As := []) (rest := []) ⟨hx, hb, hml, hown, hts⟩ hG hN (i := 43) (by decide) rfl rfl (c_X10_thrown l ) (cwV 0 hts gL_law_X10_thrown rfl rfl rfl (by decide +kernel) ⟨Nat.le_of_ble_eq_true rfl, Nat.le_of_ble_eq_true rfl⟩) rfl hl.1 rfl (Nat.le_of_ble_eq_true rfl) dL_law_394 ⟨by omega, by omega⟩ (fun H locs hN => ?_)
    refine g_top (y := 0) e1 ?_
    refine lv_iload hx hb dL_law_397 (lv_at hl 1 rfl) ?_
    refine lv_icmp_eq (tgt := 404) hx hb dL_law_399 (by decide) (fun _ => ?_) (fun c9 => absurd hf.symm c9)
    refine lv_iload hx hb dL_law_404 (lv_at hl 1 rfl) ?_
    refine lv_if_ne (tgt := 421) hx hb dL_law_406 (by decide) (fun c9 => absurd hf c9) (fun _ => ?_)
    refine lv_aload_n hx hb dL_law_409 rfl (lv_at hl 5 rfl) ?_
    refine lv_iconst (v := 0) hx hb dL_law_410 (by decide) ?_
    refine g_lald hx hb hG hN rfl dL_law_411 ?_
    refine lv_iload hx hb dL_law_412 (lv_at hl 0 rfl) ?_
    refine lv_i2l hx hb dL_law_414 rfl ?_
    refine W.lcmp hx hb dL_law_415 ?_
    refine g_top (y := 0) (lg_self _) ?_
    refine lv_if_eq (tgt := 421) hx hb dL_law_416 (by decide) (fun _ => ?_) (fun c1 => False.elim (by revert c1; decide))
    refine lv_goto (tgt := 1101) hx hb dL_law_421 (by decide) ?_
    refine W.widen (k := cells + 4) (n := slots + 24) (by omega) (by omega) ?_
    exact kk _ _ _ _ _ _ (hI2.mono (by omega)) hN (lv_sub hl [2, 3, 4, 5, 6] rfl)
  · cases hq1 hf
    refine lv_istore (lv' := [(5, .int (fCor V (xs (i + 1)) (xs (i + 2)) (xs (i + 3)))), (0, .ref b), (1, .ref (ad 0)), (2, .ref (ad 43)), (3, .ref (ad 64)), (4, .int (nI i))]) hx hb dL_law_367 hl (by decide) rfl (fun ls hl => ?_)
    refine lv_aload_n hx hb dL_law_369 rfl (lv_at hl 3 rfl) ?_
    refine lv_aload_n hx hb dL_law_370 rfl (lv_at hl 1 rfl) ?_
    refine lv_iload hx hb dL_law_371 (lv_at hl 5 rfl) ?_
    refine lv_iconst (v := 1) hx hb dL_law_373 (by decide) ?_
    refine g_addN (a := i) (b := 1) hx hb rfl rfl dL_law_374 ?_
    refine g_sld hx hb hX hbl hbA hN (j := i + 1) (by omega) hL dL_law_375 ?_
    refine lv_aload_n hx hb dL_law_376 rfl (lv_at hl 1 rfl) ?_
    refine lv_iload hx hb dL_law_377 (lv_at hl 5 rfl) ?_
    refine lv_iconst (v := 2) hx hb dL_law_379 (by decide) ?_
    refine g_addN (a := i) (b := 2) hx hb rfl rfl dL_law_380 ?_
    refine g_sld hx hb hX hbl hbA hN (j := i + 2) (by omega) hL dL_law_381 ?_
    refine lv_aload_n hx hb dL_law_382 rfl (lv_at hl 1 rfl) ?_
    refine lv_iload hx hb dL_law_383 (lv_at hl 5 rfl) ?_
    refine lv_iconst (v := 3) hx hb dL_law_385 (by decide) ?_
    refine g_addN (a := i) (b := 3) hx hb rfl rfl dL_law_386 ?_
    refine g_sld hx hb hX hbl hbA hN (j := i + 3) (by omega) hL dL_law_387 ?_
    refine g_Vi (As := [.int (xs (i + 1)), .int (xs (i + 2)), .int (xs (i + 3))]) (rest := []) ⟨hx, hb, hml, hown, hts⟩ hG hN (i := 43) (by decide) rfl rfl (c_X10_correct l (xs (i + 1)) (xs (i + 2)) (xs (i + 3)) t (hI.v13.trans ht) ht2) (cwV 3 hts gL_law_X10_correct rfl rfl rfl (by decide +kernel) ⟨Nat.le_of_ble_eq_true rfl, Nat.le_of_ble_eq_true rfl⟩) rfl hl.1 rfl (Nat.le_of_ble_eq_true rfl) dL_law_388 ⟨by omega, by omega⟩ (fun r9 F2 V2 o2 H locs hm hN => ?_)
    simp only [hI.1, hI.2.1] at hm
    obtain ⟨e1, e2, hI2⟩ := LI_no hI hf hm
    refine lv_istore (lv' := [(6, .int r9), (5, .int (fCor V (xs (i + 1)) (xs (i + 2)) (xs (i + 3)))), (0, .ref b), (1, .ref (ad 0)), (2, .ref (ad 43)), (3, .ref (ad 64)), (4, .int (nI i))]) hx hb dL_law_391 hl (by decide) rfl (fun ls hl => ?_)
    refine lv_aload_n hx hb dL_law_393 rfl (lv_at hl 4 rfl) ?_
    refine g_VI (As := []) (rest := []) ⟨hx, hb, hml, hown, hts⟩ hG hN (i := 43) (by decide) rfl rfl (c_X10_thrown l ) (cwV 0 hts gL_law_X10_thrown rfl rfl rfl (by decide +kernel) ⟨Nat.le_of_ble_eq_true rfl, Nat.le_of_ble_eq_true rfl⟩) rfl hl.1 rfl (Nat.le_of_ble_eq_true rfl) dL_law_394 ⟨by omega, by omega⟩ (fun H locs hN => ?_)
    refine g_top (y := fCor V (xs (i + 1)) (xs (i + 2)) (xs (i + 3))) e1 ?_
    refine lv_iload hx hb dL_law_397 (lv_at hl 1 rfl) ?_
    refine lv_icmp_eq (tgt := 404) hx hb dL_law_399 (by decide) (fun _ => ?_) (fun c9 => absurd rfl c9)
    refine lv_iload hx hb dL_law_404 (lv_at hl 1 rfl) ?_
    refine lv_if_ne (tgt := 421) hx hb dL_law_406 (by decide) (fun _ => ?_) (fun c9 => absurd c9 hf)
    refine lv_goto (tgt := 1101) hx hb dL_law_421 (by decide) ?_
    refine W.widen (k := cells + 4) (n := slots + 24) (by omega) (by omega) ?_
    exact kk _ _ _ _ _ _ (hI2.mono (by omega)) hN (lv_sub hl [2, 3, 4, 5, 6] rfl)
set_option maxHeartbeats 4000000 in
set_option maxRecDepth 100000 in
theorem lw_b6 (E : lwE p0 l s0 m0 a0 c0 D ad cs zd b L xs) (hi : i + 5 ≤ L) (hL : L ≤ 2560) (hI : LI F V b9) (hb9 : b9 ≤ 2 ^ 28) (hc : cells + 4 ≤ room_1.cells) (hs : slots + 24 ≤ room_1.slots) (hN : gN D ad cs s0 F V o H locs) (hl : lv_has ls 7 (lwL ad b i))
    (kk : ∀ (F2 V2 : gF) (o2 : gO) (H1 : Heap) (locs1 : List Loc) (ls1 : Array Slot), LI F2 V2 (b9 + 100) → gN D ad cs s0 F2 V2 o2 H1 locs1 → lv_has ls1 7 (lwL ad b i) → W p0 l e0 room_1 s0 m0 a0 b0 k0 c0 H1 locs1 (cells + 4) (slots + 24) Q (F0 m0 1101 ls1 [])) : W p0 l e0 room_1 s0 m0 a0 b0 k0 c0 H locs cells slots Q (F0 m0 424 ls []) := by
  obtain ⟨hx, hb, hml, hts, hown, hX, hbl, hbA, hl9, hG⟩ := E
  have hl : lv_has ls 7 [(0, .ref b), (1, .ref (ad 0)), (2, .ref (ad 43)), (3, .ref (ad 64)), (4, .int (nI i))] := hl
  refine lv_aload_n hx hb dL_law_424 rfl (lv_at hl 1 rfl) ?_
  refine lv_aload_n hx hb dL_law_425 rfl (lv_at hl 0 rfl) ?_
  refine lv_iload hx hb dL_law_426 (lv_at hl 4 rfl) ?_
  refine lv_iconst (v := 1) hx hb dL_law_428 (by decide) ?_
  refine g_addN (a := i) (b := 1) hx hb rfl rfl dL_law_429 ?_
  refine g_sld hx hb hX hbl hbA hN (j := i + 1) (by omega) hL dL_law_430 ?_
  refine lv_aload_n hx hb dL_law_431 rfl (lv_at hl 0 rfl) ?_
  refine lv_iload hx hb dL_law_432 (lv_at hl 4 rfl) ?_
  refine lv_iconst (v := 2) hx hb dL_law_434 (by decide) ?_
  refine g_addN (a := i) (b := 2) hx hb rfl rfl dL_law_435 ?_
  refine g_sld hx hb hX hbl hbA hN (j := i + 2) (by omega) hL dL_law_436 ?_
  refine lv_aload_n hx hb dL_law_437 rfl (lv_at hl 0 rfl) ?_
  refine lv_iload hx hb dL_law_438 (lv_at hl 4 rfl) ?_
  refine lv_iconst (v := 3) hx hb dL_law_440 (by decide) ?_
  refine g_addN (a := i) (b := 3) hx hb rfl rfl dL_law_441 ?_
  refine g_sld hx hb hX hbl hbA hN (j := i + 3) (by omega) hL dL_law_442 ?_
  refine lv_aload_n hx hb dL_law_443 rfl (lv_at hl 3 rfl) ?_
  refine g_Wi (As := [.ref (ad 0), .int (xs (i + 1)), .int (xs (i + 2)), .int (xs (i + 3)), .ref (ad 64)]) (rest := []) ⟨hx, hb, hml, hown, hts⟩ hG hN (c_L_key l (xs (i + 1)) (xs (i + 2)) (xs (i + 3)) hl9) (vx_cwSW 5 hts gL_law_L_key rfl rfl rfl (by decide +kernel) ⟨Nat.le_of_ble_eq_true rfl, Nat.le_of_ble_eq_true rfl⟩) rfl hl.1 rfl (Nat.le_of_ble_eq_true rfl) dL_law_444 ⟨by omega, by omega⟩ (fun r1 F1 V1 o1 H locs hq hN => ?_)
  obtain ⟨er, hq0, hq1⟩ := hq
  subst er
  by_cases hf : fKey (xs (i + 1)) (xs (i + 2)) (xs (i + 3)) = 0
  · cases hq0 hf
    refine lv_istore (lv' := [(5, .int (fKey (xs (i + 1)) (xs (i + 2)) (xs (i + 3)))), (0, .ref b), (1, .ref (ad 0)), (2, .ref (ad 43)), (3, .ref (ad 64)), (4, .int (nI i))]) hx hb dL_law_447 hl (by decide) rfl (fun ls hl => ?_)
    refine lv_aload_n hx hb dL_law_449 rfl (lv_at hl 3 rfl) ?_
    refine lv_aload_n hx hb dL_law_450 rfl (lv_at hl 1 rfl) ?_
    refine lv_iload hx hb dL_law_451 (lv_at hl 5 rfl) ?_
    refine lv_iconst (v := 1) hx hb dL_law_453 (by decide) ?_
    refine g_addN (a := i) (b := 1) hx hb rfl rfl dL_law_454 ?_
    refine g_sld hx hb hX hbl hbA hN (j := i + 1) (by omega) hL dL_law_455 ?_
    refine lv_aload_n hx hb dL_law_456 rfl (lv_at hl 1 rfl) ?_
    refine lv_iload hx hb dL_law_457 (lv_at hl 5 rfl) ?_
    refine lv_iconst (v := 2) hx hb dL_law_459 (by decide) ?_
    refine g_addN (a := i) (b := 2) hx hb rfl rfl dL_law_460 ?_
    refine g_sld hx hb hX hbl hbA hN (j := i + 2) (by omega) hL dL_law_461 ?_
    refine lv_aload_n hx hb dL_law_462 rfl (lv_at hl 1 rfl) ?_
    refine lv_iload hx hb dL_law_463 (lv_at hl 5 rfl) ?_
    refine lv_iconst (v := 3) hx hb dL_law_465 (by decide) ?_
    refine g_addN (a := i) (b := 3) hx hb rfl rfl dL_law_466 ?_
    refine g_sld hx hb hX hbl hbA hN (j := i + 3) (by omega) hL dL_law_467 ?_
    refine g_Vi (As := [.int (xs (i + 1)), .int (xs (i + 2)), .int (xs (i + 3))]) (rest := []) ⟨hx, hb, hml, hown, hts⟩ hG hN (i := 43) (by decide) rfl rfl (c_X10_key l (xs (i + 1)) (xs (i + 2)) (xs (i + 3)) ) (cwV 3 hts gL_law_X10_key rfl rfl rfl (by decide +kernel) ⟨Nat.le_of_ble_eq_true rfl, Nat.le_of_ble_eq_true rfl⟩) rfl hl.1 rfl (Nat.le_of_ble_eq_true rfl) dL_law_468 ⟨by omega, by omega⟩ (fun r9 F2 V2 o2 H locs hm hN => ?_)
    obtain ⟨e1, e2, e3, hI2⟩ := LQ_key hI hf rfl hm
    subst e3
    have e2 : o2 = _ := e2
    rw [e2] at hN
    refine lv_istore (lv' := [(6, .int (F (29 + (xs (i + 1)).toNatClampNeg) (xs (i + 2)).toNatClampNeg)), (5, .int (fKey (xs (i + 1)) (xs (i + 2)) (xs (i + 3)))), (0, .ref b), (1, .ref (ad 0)), (2, .ref (ad 43)), (3, .ref (ad 64)), (4, .int (nI i))]) hx hb dL_law_471 hl (by decide) rfl (fun ls hl => ?_)
    refine lv_aload_n hx hb dL_law_473 rfl (lv_at hl 4 rfl) ?_
    refine g_VI (As := []) (rest := []) ⟨hx, hb, hml, hown, hts⟩ hG hN (i := 43) (by decide) rfl rfl (c_X10_thrown l ) (cwV 0 hts gL_law_X10_thrown rfl rfl rfl (by decide +kernel) ⟨Nat.le_of_ble_eq_true rfl, Nat.le_of_ble_eq_true rfl⟩) rfl hl.1 rfl (Nat.le_of_ble_eq_true rfl) dL_law_474 ⟨by omega, by omega⟩ (fun H locs hN => ?_)
    refine g_top (y := 0) e1 ?_
    refine lv_iload hx hb dL_law_477 (lv_at hl 1 rfl) ?_
    refine lv_icmp_eq (tgt := 484) hx hb dL_law_479 (by decide) (fun _ => ?_) (fun c9 => absurd hf.symm c9)
    refine lv_iload hx hb dL_law_484 (lv_at hl 1 rfl) ?_
    refine lv_if_ne (tgt := 501) hx hb dL_law_486 (by decide) (fun c9 => absurd hf c9) (fun _ => ?_)
    refine lv_aload_n hx hb dL_law_489 rfl (lv_at hl 5 rfl) ?_
    refine lv_iconst (v := 0) hx hb dL_law_490 (by decide) ?_
    refine g_lald hx hb hG hN rfl dL_law_491 ?_
    refine lv_iload hx hb dL_law_492 (lv_at hl 0 rfl) ?_
    refine lv_i2l hx hb dL_law_494 rfl ?_
    refine W.lcmp hx hb dL_law_495 ?_
    refine g_top (y := 0) (lg_self _) ?_
    refine lv_if_eq (tgt := 501) hx hb dL_law_496 (by decide) (fun _ => ?_) (fun c1 => False.elim (by revert c1; decide))
    refine lv_goto (tgt := 1101) hx hb dL_law_501 (by decide) ?_
    refine W.widen (k := cells + 4) (n := slots + 24) (by omega) (by omega) ?_
    exact kk _ _ _ _ _ _ (hI2.mono (by omega)) hN (lv_sub hl [2, 3, 4, 5, 6] rfl)
  · cases hq1 hf
    refine lv_istore (lv' := [(5, .int (fKey (xs (i + 1)) (xs (i + 2)) (xs (i + 3)))), (0, .ref b), (1, .ref (ad 0)), (2, .ref (ad 43)), (3, .ref (ad 64)), (4, .int (nI i))]) hx hb dL_law_447 hl (by decide) rfl (fun ls hl => ?_)
    refine lv_aload_n hx hb dL_law_449 rfl (lv_at hl 3 rfl) ?_
    refine lv_aload_n hx hb dL_law_450 rfl (lv_at hl 1 rfl) ?_
    refine lv_iload hx hb dL_law_451 (lv_at hl 5 rfl) ?_
    refine lv_iconst (v := 1) hx hb dL_law_453 (by decide) ?_
    refine g_addN (a := i) (b := 1) hx hb rfl rfl dL_law_454 ?_
    refine g_sld hx hb hX hbl hbA hN (j := i + 1) (by omega) hL dL_law_455 ?_
    refine lv_aload_n hx hb dL_law_456 rfl (lv_at hl 1 rfl) ?_
    refine lv_iload hx hb dL_law_457 (lv_at hl 5 rfl) ?_
    refine lv_iconst (v := 2) hx hb dL_law_459 (by decide) ?_
    refine g_addN (a := i) (b := 2) hx hb rfl rfl dL_law_460 ?_
    refine g_sld hx hb hX hbl hbA hN (j := i + 2) (by omega) hL dL_law_461 ?_
    refine lv_aload_n hx hb dL_law_462 rfl (lv_at hl 1 rfl) ?_
    refine lv_iload hx hb dL_law_463 (lv_at hl 5 rfl) ?_
    refine lv_iconst (v := 3) hx hb dL_law_465 (by decide) ?_
    refine g_addN (a := i) (b := 3) hx hb rfl rfl dL_law_466 ?_
    refine g_sld hx hb hX hbl hbA hN (j := i + 3) (by omega) hL dL_law_467 ?_
    refine g_Vi (As := [.int (xs (i + 1)), .int (xs (i + 2)), .int (xs (i + 3))]) (rest := []) ⟨hx, hb, hml, hown, hts⟩ hG hN (i := 43) (by decide) rfl rfl (c_X10_key l (xs (i + 1)) (xs (i + 2)) (xs (i + 3)) ) (cwV 3 hts gL_law_X10_key rfl rfl rfl (by decide +kernel) ⟨Nat.le_of_ble_eq_true rfl, Nat.le_of_ble_eq_true rfl⟩) rfl hl.1 rfl (Nat.le_of_ble_eq_true rfl) dL_law_468 ⟨by omega, by omega⟩ (fun r9 F2 V2 o2 H locs hm hN => ?_)
    simp only [hI.1, hI.2.1] at hm
    obtain ⟨e1, e2, hI2⟩ := LI_no hI hf hm
    refine lv_istore (lv' := [(6, .int r9), (5, .int (fKey (xs (i + 1)) (xs (i + 2)) (xs (i + 3)))), (0, .ref b), (1, .ref (ad 0)), (2, .ref (ad 43)), (3, .ref (ad 64)), (4, .int (nI i))]) hx hb dL_law_471 hl (by decide) rfl (fun ls hl => ?_)
    refine lv_aload_n hx hb dL_law_473 rfl (lv_at hl 4 rfl) ?_
    refine g_VI (As := []) (rest := []) ⟨hx, hb, hml, hown, hts⟩ hG hN (i := 43) (by decide) rfl rfl (c_X10_thrown l ) (cwV 0 hts gL_law_X10_thrown rfl rfl rfl (by decide +kernel) ⟨Nat.le_of_ble_eq_true rfl, Nat.le_of_ble_eq_true rfl⟩) rfl hl.1 rfl (Nat.le_of_ble_eq_true rfl) dL_law_474 ⟨by omega, by omega⟩ (fun H locs hN => ?_)
    refine g_top (y := fKey (xs (i + 1)) (xs (i + 2)) (xs (i + 3))) e1 ?_
    refine lv_iload hx hb dL_law_477 (lv_at hl 1 rfl) ?_
    refine lv_icmp_eq (tgt := 484) hx hb dL_law_479 (by decide) (fun _ => ?_) (fun c9 => absurd rfl c9)
    refine lv_iload hx hb dL_law_484 (lv_at hl 1 rfl) ?_
    refine lv_if_ne (tgt := 501) hx hb dL_law_486 (by decide) (fun _ => ?_) (fun c9 => absurd c9 hf)
    refine lv_goto (tgt := 1101) hx hb dL_law_501 (by decide) ?_
    refine W.widen (k := cells + 4) (n := slots + 24) (by omega) (by omega) ?_
    exact kk _ _ _ _ _ _ (hI2.mono (by omega)) hN (lv_sub hl [2, 3, 4, 5, 6] rfl)
set_option maxHeartbeats 4000000 in
set_option maxRecDepth 100000 in
theorem lw_b7 (E : lwE p0 l s0 m0 a0 c0 D ad cs zd b L xs) (hi : i + 5 ≤ L) (hL : L ≤ 2560) (hI : LI F V b9) (hb9 : b9 ≤ 2 ^ 28) (hc : cells + 4 ≤ room_1.cells) (hs : slots + 24 ≤ room_1.slots) (hN : gN D ad cs s0 F V o H locs) (hl : lv_has ls 7 (lwL ad b i))
    (kk : ∀ (F2 V2 : gF) (o2 : gO) (H1 : Heap) (locs1 : List Loc) (ls1 : Array Slot), LI F2 V2 (b9 + 100) → gN D ad cs s0 F2 V2 o2 H1 locs1 → lv_has ls1 7 (lwL ad b i) → W p0 l e0 room_1 s0 m0 a0 b0 k0 c0 H1 locs1 (cells + 4) (slots + 24) Q (F0 m0 1101 ls1 [])) : W p0 l e0 room_1 s0 m0 a0 b0 k0 c0 H locs cells slots Q (F0 m0 504 ls []) := by
  obtain ⟨hx, hb, hml, hts, hown, hX, hbl, hbA, hl9, hG⟩ := E
  have hl : lv_has ls 7 [(0, .ref b), (1, .ref (ad 0)), (2, .ref (ad 43)), (3, .ref (ad 64)), (4, .int (nI i))] := hl
  refine lv_aload_n hx hb dL_law_504 rfl (lv_at hl 1 rfl) ?_
  refine g_VI (As := []) (rest := []) ⟨hx, hb, hml, hown, hts⟩ hG hN (i := 0) (by decide) rfl rfl (c_X9_tear l ) (cwV 0 hts gL_law_X9_tear rfl rfl rfl (by decide +kernel) ⟨Nat.le_of_ble_eq_true rfl, Nat.le_of_ble_eq_true rfl⟩) rfl hl.1 rfl (Nat.le_of_ble_eq_true rfl) dL_law_505 ⟨by omega, by omega⟩ (fun H locs hN => ?_)
  refine lv_aload_n hx hb dL_law_508 rfl (lv_at hl 2 rfl) ?_
  refine g_Vi (As := []) (rest := [.int 20]) ⟨hx, hb, hml, hown, hts⟩ hG hN (i := 43) (by decide) rfl rfl (c_X10_tear l ) (cwV 0 hts gL_law_X10_tear rfl rfl rfl (by decide +kernel) ⟨Nat.le_of_ble_eq_true rfl, Nat.le_of_ble_eq_true rfl⟩) rfl hl.1 rfl (Nat.le_of_ble_eq_true rfl) dL_law_509 ⟨by omega, by omega⟩ (fun r9 F2 V2 o2 H locs hm hN => ?_)
  obtain ⟨e1, e2, e3, hI2⟩ := LQ_tear hI rfl rfl hm
  refine lv_icmp_eq (tgt := 1101) hx hb dL_law_512 (by decide) (fun _ => ?_) (fun c9 => absurd e3.symm c9)
  refine W.widen (k := cells + 4) (n := slots + 24) (by omega) (by omega) ?_
  exact kk _ _ _ _ _ _ (hI2.mono (by omega)) hN (lv_sub hl [0, 1, 2, 3, 4] rfl)
set_option maxHeartbeats 4000000 in
set_option maxRecDepth 100000 in
theorem lw_b8 (E : lwE p0 l s0 m0 a0 c0 D ad cs zd b L xs) (hi : i + 5 ≤ L) (hL : L ≤ 2560) (hI : LI F V b9) (hb9 : b9 ≤ 2 ^ 28) (hc : cells + 4 ≤ room_1.cells) (hs : slots + 24 ≤ room_1.slots) (hN : gN D ad cs s0 F V o H locs) (hl : lv_has ls 7 (lwL ad b i))
    (kk : ∀ (F2 V2 : gF) (o2 : gO) (H1 : Heap) (locs1 : List Loc) (ls1 : Array Slot), LI F2 V2 (b9 + 100) → gN D ad cs s0 F2 V2 o2 H1 locs1 → lv_has ls1 7 (lwL ad b i) → W p0 l e0 room_1 s0 m0 a0 b0 k0 c0 H1 locs1 (cells + 4) (slots + 24) Q (F0 m0 1101 ls1 [])) : W p0 l e0 room_1 s0 m0 a0 b0 k0 c0 H locs cells slots Q (F0 m0 517 ls []) := by
  obtain ⟨hx, hb, hml, hts, hown, hX, hbl, hbA, hl9, hG⟩ := E
  have hl : lv_has ls 7 [(0, .ref b), (1, .ref (ad 0)), (2, .ref (ad 43)), (3, .ref (ad 64)), (4, .int (nI i))] := hl
  refine lv_aload_n hx hb dL_law_517 rfl (lv_at hl 1 rfl) ?_
  refine lv_aload_n hx hb dL_law_518 rfl (lv_at hl 0 rfl) ?_
  refine lv_iload hx hb dL_law_519 (lv_at hl 4 rfl) ?_
  refine lv_iconst (v := 1) hx hb dL_law_521 (by decide) ?_
  refine g_addN (a := i) (b := 1) hx hb rfl rfl dL_law_522 ?_
  refine g_sld hx hb hX hbl hbA hN (j := i + 1) (by omega) hL dL_law_523 ?_
  refine g_Wi (As := [.ref (ad 0), .int (xs (i + 1))]) (rest := []) ⟨hx, hb, hml, hown, hts⟩ hG hN (c_L_job l (xs (i + 1)) hl9) (vx_cwSW 2 hts gL_law_L_job rfl rfl rfl (by decide +kernel) ⟨Nat.le_of_ble_eq_true rfl, Nat.le_of_ble_eq_true rfl⟩) rfl hl.1 rfl (Nat.le_of_ble_eq_true rfl) dL_law_524 ⟨by omega, by omega⟩ (fun r1 F1 V1 o1 H locs hq hN => ?_)
  obtain ⟨er, hq0, hq1⟩ := hq
  subst er
  by_cases hf : fJob V (xs (i + 1)) = 0
  · cases hq0 hf
    refine lv_istore (lv' := [(5, .int (fJob V (xs (i + 1)))), (0, .ref b), (1, .ref (ad 0)), (2, .ref (ad 43)), (3, .ref (ad 64)), (4, .int (nI i))]) hx hb dL_law_527 hl (by decide) rfl (fun ls hl => ?_)
    refine lv_aload_n hx hb dL_law_529 rfl (lv_at hl 3 rfl) ?_
    refine lv_aload_n hx hb dL_law_530 rfl (lv_at hl 1 rfl) ?_
    refine lv_iload hx hb dL_law_531 (lv_at hl 5 rfl) ?_
    refine lv_iconst (v := 1) hx hb dL_law_533 (by decide) ?_
    refine g_addN (a := i) (b := 1) hx hb rfl rfl dL_law_534 ?_
    refine g_sld hx hb hX hbl hbA hN (j := i + 1) (by omega) hL dL_law_535 ?_
    refine g_Vv (As := [.int (xs (i + 1))]) (rest := []) ⟨hx, hb, hml, hown, hts⟩ hG hN (i := 43) (by decide) rfl rfl (c_X10_job l (xs (i + 1)) ) (cwV 1 hts gL_law_X10_job rfl rfl rfl (by decide +kernel) ⟨Nat.le_of_ble_eq_true rfl, Nat.le_of_ble_eq_true rfl⟩) rfl hl.1 rfl (Nat.le_of_ble_eq_true rfl) dL_law_536 ⟨by omega, by omega⟩ (fun F2 V2 o2 H locs hm hN => ?_)
    obtain ⟨e1, e2, e3, hI2⟩ := LQ_job hI hf rfl rfl hm
    have e2 : o2 = _ := e2
    rw [e2] at hN
    refine lv_aload_n hx hb dL_law_539 rfl (lv_at hl 3 rfl) ?_
    refine g_VI (As := []) (rest := []) ⟨hx, hb, hml, hown, hts⟩ hG hN (i := 43) (by decide) rfl rfl (c_X10_thrown l ) (cwV 0 hts gL_law_X10_thrown rfl rfl rfl (by decide +kernel) ⟨Nat.le_of_ble_eq_true rfl, Nat.le_of_ble_eq_true rfl⟩) rfl hl.1 rfl (Nat.le_of_ble_eq_true rfl) dL_law_540 ⟨by omega, by omega⟩ (fun H locs hN => ?_)
    refine g_top (y := 0) e1 ?_
    refine lv_iload hx hb dL_law_543 (lv_at hl 0 rfl) ?_
    refine lv_icmp_eq (tgt := 550) hx hb dL_law_545 (by decide) (fun _ => ?_) (fun c9 => absurd hf.symm c9)
    refine lv_goto (tgt := 1101) hx hb dL_law_550 (by decide) ?_
    refine W.widen (k := cells + 4) (n := slots + 24) (by omega) (by omega) ?_
    exact kk _ _ _ _ _ _ (hI2.mono (by omega)) hN (lv_sub hl [1, 2, 3, 4, 5] rfl)
  · cases hq1 hf
    refine lv_istore (lv' := [(5, .int (fJob V (xs (i + 1)))), (0, .ref b), (1, .ref (ad 0)), (2, .ref (ad 43)), (3, .ref (ad 64)), (4, .int (nI i))]) hx hb dL_law_527 hl (by decide) rfl (fun ls hl => ?_)
    refine lv_aload_n hx hb dL_law_529 rfl (lv_at hl 3 rfl) ?_
    refine lv_aload_n hx hb dL_law_530 rfl (lv_at hl 1 rfl) ?_
    refine lv_iload hx hb dL_law_531 (lv_at hl 5 rfl) ?_
    refine lv_iconst (v := 1) hx hb dL_law_533 (by decide) ?_
    refine g_addN (a := i) (b := 1) hx hb rfl rfl dL_law_534 ?_
    refine g_sld hx hb hX hbl hbA hN (j := i + 1) (by omega) hL dL_law_535 ?_
    refine g_Vv (As := [.int (xs (i + 1))]) (rest := []) ⟨hx, hb, hml, hown, hts⟩ hG hN (i := 43) (by decide) rfl rfl (c_X10_job l (xs (i + 1)) ) (cwV 1 hts gL_law_X10_job rfl rfl rfl (by decide +kernel) ⟨Nat.le_of_ble_eq_true rfl, Nat.le_of_ble_eq_true rfl⟩) rfl hl.1 rfl (Nat.le_of_ble_eq_true rfl) dL_law_536 ⟨by omega, by omega⟩ (fun F2 V2 o2 H locs hm hN => ?_)
    simp only [hI.1, hI.2.1] at hm
    obtain ⟨e1, e2, hI2⟩ := LI_no hI hf hm
    refine lv_aload_n hx hb dL_law_539 rfl (lv_at hl 3 rfl) ?_
    refine g_VI (As := []) (rest := []) ⟨hx, hb, hml, hown, hts⟩ hG hN (i := 43) (by decide) rfl rfl (c_X10_thrown l ) (cwV 0 hts gL_law_X10_thrown rfl rfl rfl (by decide +kernel) ⟨Nat.le_of_ble_eq_true rfl, Nat.le_of_ble_eq_true rfl⟩) rfl hl.1 rfl (Nat.le_of_ble_eq_true rfl) dL_law_540 ⟨by omega, by omega⟩ (fun H locs hN => ?_)
    refine g_top (y := fJob V (xs (i + 1))) e1 ?_
    refine lv_iload hx hb dL_law_543 (lv_at hl 0 rfl) ?_
    refine lv_icmp_eq (tgt := 550) hx hb dL_law_545 (by decide) (fun _ => ?_) (fun c9 => absurd rfl c9)
    refine lv_goto (tgt := 1101) hx hb dL_law_550 (by decide) ?_
    refine W.widen (k := cells + 4) (n := slots + 24) (by omega) (by omega) ?_
    exact kk _ _ _ _ _ _ (hI2.mono (by omega)) hN (lv_sub hl [1, 2, 3, 4, 5] rfl)
set_option maxHeartbeats 4000000 in
set_option maxRecDepth 100000 in
theorem lw_b9 (E : lwE p0 l s0 m0 a0 c0 D ad cs zd b L xs) (hi : i + 5 ≤ L) (hL : L ≤ 2560) (hI : LI F V b9) (hb9 : b9 ≤ 2 ^ 28) (hc : cells + 4 ≤ room_1.cells) (hs : slots + 24 ≤ room_1.slots) (hN : gN D ad cs s0 F V o H locs) (hl : lv_has ls 7 (lwL ad b i))
    (kk : ∀ (F2 V2 : gF) (o2 : gO) (H1 : Heap) (locs1 : List Loc) (ls1 : Array Slot), LI F2 V2 (b9 + 100) → gN D ad cs s0 F2 V2 o2 H1 locs1 → lv_has ls1 7 (lwL ad b i) → W p0 l e0 room_1 s0 m0 a0 b0 k0 c0 H1 locs1 (cells + 4) (slots + 24) Q (F0 m0 1101 ls1 [])) : W p0 l e0 room_1 s0 m0 a0 b0 k0 c0 H locs cells slots Q (F0 m0 553 ls []) := by
  obtain ⟨hx, hb, hml, hts, hown, hX, hbl, hbA, hl9, hG⟩ := E
  have hl : lv_has ls 7 [(0, .ref b), (1, .ref (ad 0)), (2, .ref (ad 43)), (3, .ref (ad 64)), (4, .int (nI i))] := hl
  refine lv_aload_n hx hb dL_law_553 rfl (lv_at hl 1 rfl) ?_
  refine lv_aload_n hx hb dL_law_554 rfl (lv_at hl 0 rfl) ?_
  refine lv_iload hx hb dL_law_555 (lv_at hl 4 rfl) ?_
  refine lv_iconst (v := 1) hx hb dL_law_557 (by decide) ?_
  refine g_addN (a := i) (b := 1) hx hb rfl rfl dL_law_558 ?_
  refine g_sld hx hb hX hbl hbA hN (j := i + 1) (by omega) hL dL_law_559 ?_
  refine lv_aload_n hx hb dL_law_560 rfl (lv_at hl 3 rfl) ?_
  refine g_Wi (As := [.ref (ad 0), .int (xs (i + 1)), .ref (ad 64)]) (rest := []) ⟨hx, hb, hml, hown, hts⟩ hG hN (c_L_print l (xs (i + 1)) hl9 b9 hI.2.2.1.ok (by omega)) (vx_cwSW 3 hts gL_law_L_print rfl rfl rfl (by decide +kernel) ⟨Nat.le_of_ble_eq_true rfl, Nat.le_of_ble_eq_true rfl⟩) rfl hl.1 rfl (Nat.le_of_ble_eq_true rfl) dL_law_561 ⟨by omega, by omega⟩ (fun r1 F1 V1 o1 H locs hq hN => ?_)
  obtain ⟨er, hq0, hq1⟩ := hq
  subst er
  by_cases hf : fPri V (xs (i + 1)) = 0
  · cases hq0 hf
    refine lv_istore (lv' := [(5, .int (fPri V (xs (i + 1)))), (0, .ref b), (1, .ref (ad 0)), (2, .ref (ad 43)), (3, .ref (ad 64)), (4, .int (nI i))]) hx hb dL_law_564 hl (by decide) rfl (fun ls hl => ?_)
    refine lv_aload_n hx hb dL_law_566 rfl (lv_at hl 3 rfl) ?_
    refine lv_aload_n hx hb dL_law_567 rfl (lv_at hl 1 rfl) ?_
    refine lv_iload hx hb dL_law_568 (lv_at hl 5 rfl) ?_
    refine lv_iconst (v := 1) hx hb dL_law_570 (by decide) ?_
    refine g_addN (a := i) (b := 1) hx hb rfl rfl dL_law_571 ?_
    refine g_sld hx hb hX hbl hbA hN (j := i + 1) (by omega) hL dL_law_572 ?_
    refine g_Vi (As := [.int (xs (i + 1))]) (rest := []) ⟨hx, hb, hml, hown, hts⟩ hG hN (i := 43) (by decide) rfl rfl (c_X10_print l (xs (i + 1)) b9 (LQ_pok hI) (by omega)) (cwV 1 hts gL_law_X10_print rfl rfl rfl (by decide +kernel) ⟨Nat.le_of_ble_eq_true rfl, Nat.le_of_ble_eq_true rfl⟩) rfl hl.1 rfl (Nat.le_of_ble_eq_true rfl) dL_law_573 ⟨by omega, by omega⟩ (fun r9 F2 V2 o2 H locs hm hN => ?_)
    obtain ⟨e1, e2, e3, hI2⟩ := LQ_print hI (by omega) hf rfl rfl hm
    subst e3
    have e2 : o2 = _ := e2
    rw [e2] at hN
    refine lv_istore (lv' := [(6, .int ((xIt F V (cEven F) (xs (i + 1)).toNatClampNeg).2.2)), (5, .int (fPri V (xs (i + 1)))), (0, .ref b), (1, .ref (ad 0)), (2, .ref (ad 43)), (3, .ref (ad 64)), (4, .int (nI i))]) hx hb dL_law_576 hl (by decide) rfl (fun ls hl => ?_)
    refine lv_aload_n hx hb dL_law_578 rfl (lv_at hl 4 rfl) ?_
    refine g_VI (As := []) (rest := []) ⟨hx, hb, hml, hown, hts⟩ hG hN (i := 43) (by decide) rfl rfl (c_X10_thrown l ) (cwV 0 hts gL_law_X10_thrown rfl rfl rfl (by decide +kernel) ⟨Nat.le_of_ble_eq_true rfl, Nat.le_of_ble_eq_true rfl⟩) rfl hl.1 rfl (Nat.le_of_ble_eq_true rfl) dL_law_579 ⟨by omega, by omega⟩ (fun H locs hN => ?_)
    refine g_top (y := 0) e1 ?_
    refine lv_iload hx hb dL_law_582 (lv_at hl 1 rfl) ?_
    refine lv_icmp_eq (tgt := 589) hx hb dL_law_584 (by decide) (fun _ => ?_) (fun c9 => absurd hf.symm c9)
    refine lv_iload hx hb dL_law_589 (lv_at hl 1 rfl) ?_
    refine lv_if_ne (tgt := 606) hx hb dL_law_591 (by decide) (fun c9 => absurd hf c9) (fun _ => ?_)
    refine lv_aload_n hx hb dL_law_594 rfl (lv_at hl 5 rfl) ?_
    refine lv_iconst (v := 0) hx hb dL_law_595 (by decide) ?_
    refine g_lald hx hb hG hN rfl dL_law_596 ?_
    refine lv_iload hx hb dL_law_597 (lv_at hl 0 rfl) ?_
    refine lv_i2l hx hb dL_law_599 rfl ?_
    refine W.lcmp hx hb dL_law_600 ?_
    refine g_top (y := 0) (lg_self _) ?_
    refine lv_if_eq (tgt := 606) hx hb dL_law_601 (by decide) (fun _ => ?_) (fun c1 => False.elim (by revert c1; decide))
    refine lv_goto (tgt := 1101) hx hb dL_law_606 (by decide) ?_
    refine W.widen (k := cells + 4) (n := slots + 24) (by omega) (by omega) ?_
    exact kk _ _ _ _ _ _ (hI2.mono (by omega)) hN (lv_sub hl [2, 3, 4, 5, 6] rfl)
  · cases hq1 hf
    refine lv_istore (lv' := [(5, .int (fPri V (xs (i + 1)))), (0, .ref b), (1, .ref (ad 0)), (2, .ref (ad 43)), (3, .ref (ad 64)), (4, .int (nI i))]) hx hb dL_law_564 hl (by decide) rfl (fun ls hl => ?_)
    refine lv_aload_n hx hb dL_law_566 rfl (lv_at hl 3 rfl) ?_
    refine lv_aload_n hx hb dL_law_567 rfl (lv_at hl 1 rfl) ?_
    refine lv_iload hx hb dL_law_568 (lv_at hl 5 rfl) ?_
    refine lv_iconst (v := 1) hx hb dL_law_570 (by decide) ?_
    refine g_addN (a := i) (b := 1) hx hb rfl rfl dL_law_571 ?_
    refine g_sld hx hb hX hbl hbA hN (j := i + 1) (by omega) hL dL_law_572 ?_
    refine g_Vi (As := [.int (xs (i + 1))]) (rest := []) ⟨hx, hb, hml, hown, hts⟩ hG hN (i := 43) (by decide) rfl rfl (c_X10_print l (xs (i + 1)) b9 (LQ_ok0 hI) (by omega)) (cwV 1 hts gL_law_X10_print rfl rfl rfl (by decide +kernel) ⟨Nat.le_of_ble_eq_true rfl, Nat.le_of_ble_eq_true rfl⟩) rfl hl.1 rfl (Nat.le_of_ble_eq_true rfl) dL_law_573 ⟨by omega, by omega⟩ (fun r9 F2 V2 o2 H locs hm hN => ?_)
    simp only [hI.1, hI.2.1] at hm
    obtain ⟨e1, e2, hI2⟩ := LI_no hI hf hm
    refine lv_istore (lv' := [(6, .int r9), (5, .int (fPri V (xs (i + 1)))), (0, .ref b), (1, .ref (ad 0)), (2, .ref (ad 43)), (3, .ref (ad 64)), (4, .int (nI i))]) hx hb dL_law_576 hl (by decide) rfl (fun ls hl => ?_)
    refine lv_aload_n hx hb dL_law_578 rfl (lv_at hl 4 rfl) ?_
    refine g_VI (As := []) (rest := []) ⟨hx, hb, hml, hown, hts⟩ hG hN (i := 43) (by decide) rfl rfl (c_X10_thrown l ) (cwV 0 hts gL_law_X10_thrown rfl rfl rfl (by decide +kernel) ⟨Nat.le_of_ble_eq_true rfl, Nat.le_of_ble_eq_true rfl⟩) rfl hl.1 rfl (Nat.le_of_ble_eq_true rfl) dL_law_579 ⟨by omega, by omega⟩ (fun H locs hN => ?_)
    refine g_top (y := fPri V (xs (i + 1))) e1 ?_
    refine lv_iload hx hb dL_law_582 (lv_at hl 1 rfl) ?_
    refine lv_icmp_eq (tgt := 589) hx hb dL_law_584 (by decide) (fun _ => ?_) (fun c9 => absurd rfl c9)
    refine lv_iload hx hb dL_law_589 (lv_at hl 1 rfl) ?_
    refine lv_if_ne (tgt := 606) hx hb dL_law_591 (by decide) (fun _ => ?_) (fun c9 => absurd c9 hf)
    refine lv_goto (tgt := 1101) hx hb dL_law_606 (by decide) ?_
    refine W.widen (k := cells + 4) (n := slots + 24) (by omega) (by omega) ?_
    exact kk _ _ _ _ _ _ (hI2.mono (by omega)) hN (lv_sub hl [2, 3, 4, 5, 6] rfl)
set_option maxHeartbeats 4000000 in
set_option maxRecDepth 100000 in
theorem lw_b10 (E : lwE p0 l s0 m0 a0 c0 D ad cs zd b L xs) (hi : i + 5 ≤ L) (hL : L ≤ 2560) (hI : LI F V b9) (hb9 : b9 ≤ 2 ^ 28) (hc : cells + 4 ≤ room_1.cells) (hs : slots + 24 ≤ room_1.slots) (hN : gN D ad cs s0 F V o H locs) (hl : lv_has ls 7 (lwL ad b i))
    (kk : ∀ (F2 V2 : gF) (o2 : gO) (H1 : Heap) (locs1 : List Loc) (ls1 : Array Slot), LI F2 V2 (b9 + 100) → gN D ad cs s0 F2 V2 o2 H1 locs1 → lv_has ls1 7 (lwL ad b i) → W p0 l e0 room_1 s0 m0 a0 b0 k0 c0 H1 locs1 (cells + 4) (slots + 24) Q (F0 m0 1101 ls1 [])) : W p0 l e0 room_1 s0 m0 a0 b0 k0 c0 H locs cells slots Q (F0 m0 609 ls []) := by
  obtain ⟨hx, hb, hml, hts, hown, hX, hbl, hbA, hl9, hG⟩ := E
  have hl : lv_has ls 7 [(0, .ref b), (1, .ref (ad 0)), (2, .ref (ad 43)), (3, .ref (ad 64)), (4, .int (nI i))] := hl
  refine lv_aload_n hx hb dL_law_609 rfl (lv_at hl 1 rfl) ?_
  refine g_VI (As := []) (rest := []) ⟨hx, hb, hml, hown, hts⟩ hG hN (i := 0) (by decide) rfl rfl (c_X9_sign l ) (cwV 0 hts gL_law_X9_sign rfl rfl rfl (by decide +kernel) ⟨Nat.le_of_ble_eq_true rfl, Nat.le_of_ble_eq_true rfl⟩) rfl hl.1 rfl (Nat.le_of_ble_eq_true rfl) dL_law_610 ⟨by omega, by omega⟩ (fun H locs hN => ?_)
  refine lv_aload_n hx hb dL_law_613 rfl (lv_at hl 2 rfl) ?_
  refine g_Vi (As := []) (rest := [.int (cTkN F 256)]) ⟨hx, hb, hml, hown, hts⟩ hG hN (i := 43) (by decide) rfl rfl (c_X10_sign l ) (cwV 0 hts gL_law_X10_sign rfl rfl rfl (by decide +kernel) ⟨Nat.le_of_ble_eq_true rfl, Nat.le_of_ble_eq_true rfl⟩) rfl hl.1 rfl (Nat.le_of_ble_eq_true rfl) dL_law_614 ⟨by omega, by omega⟩ (fun r9 F2 V2 o2 H locs hm hN => ?_)
  obtain ⟨e1, e2, e3, hI2⟩ := LQ_sign hI rfl rfl hm
  refine lv_icmp_eq (tgt := 1101) hx hb dL_law_617 (by decide) (fun _ => ?_) (fun c9 => absurd e3.symm c9)
  refine W.widen (k := cells + 4) (n := slots + 24) (by omega) (by omega) ?_
  exact kk _ _ _ _ _ _ (hI2.mono (by omega)) hN (lv_sub hl [0, 1, 2, 3, 4] rfl)
set_option maxHeartbeats 4000000 in
set_option maxRecDepth 100000 in
theorem lw_b11 (E : lwE p0 l s0 m0 a0 c0 D ad cs zd b L xs) (hi : i + 5 ≤ L) (hL : L ≤ 2560) (hI : LI F V b9) (hb9 : b9 ≤ 2 ^ 28) (hc : cells + 4 ≤ room_1.cells) (hs : slots + 24 ≤ room_1.slots) (hN : gN D ad cs s0 F V o H locs) (hl : lv_has ls 7 (lwL ad b i))
    (kk : ∀ (F2 V2 : gF) (o2 : gO) (H1 : Heap) (locs1 : List Loc) (ls1 : Array Slot), LI F2 V2 (b9 + 100) → gN D ad cs s0 F2 V2 o2 H1 locs1 → lv_has ls1 7 (lwL ad b i) → W p0 l e0 room_1 s0 m0 a0 b0 k0 c0 H1 locs1 (cells + 4) (slots + 24) Q (F0 m0 1101 ls1 [])) : W p0 l e0 room_1 s0 m0 a0 b0 k0 c0 H locs cells slots Q (F0 m0 622 ls []) := by
  obtain ⟨hx, hb, hml, hts, hown, hX, hbl, hbA, hl9, hG⟩ := E
  have hl : lv_has ls 7 [(0, .ref b), (1, .ref (ad 0)), (2, .ref (ad 43)), (3, .ref (ad 64)), (4, .int (nI i))] := hl
  refine lv_aload_n hx hb dL_law_622 rfl (lv_at hl 1 rfl) ?_
  refine lv_aload_n hx hb dL_law_623 rfl (lv_at hl 0 rfl) ?_
  refine lv_iload hx hb dL_law_624 (lv_at hl 4 rfl) ?_
  refine lv_iconst (v := 1) hx hb dL_law_626 (by decide) ?_
  refine g_addN (a := i) (b := 1) hx hb rfl rfl dL_law_627 ?_
  refine g_sld hx hb hX hbl hbA hN (j := i + 1) (by omega) hL dL_law_628 ?_
  refine lv_aload_n hx hb dL_law_629 rfl (lv_at hl 3 rfl) ?_
  refine g_Wi (As := [.ref (ad 0), .int (xs (i + 1)), .ref (ad 64)]) (rest := []) ⟨hx, hb, hml, hown, hts⟩ hG hN (c_L_differs l (xs (i + 1)) hl9 (nz01 hI.2.2.2.2.2.2.1)) (vx_cwSW 3 hts gL_law_L_differs rfl rfl rfl (by decide +kernel) ⟨Nat.le_of_ble_eq_true rfl, Nat.le_of_ble_eq_true rfl⟩) rfl hl.1 rfl (Nat.le_of_ble_eq_true rfl) dL_law_630 ⟨by omega, by omega⟩ (fun r1 F1 V1 o1 H locs hq hN => ?_)
  obtain ⟨er, hq0, hq1⟩ := hq
  subst er
  by_cases hf : fDif V (xs (i + 1)) = 0
  · cases hq0 hf
    refine lv_istore (lv' := [(5, .int (fDif V (xs (i + 1)))), (0, .ref b), (1, .ref (ad 0)), (2, .ref (ad 43)), (3, .ref (ad 64)), (4, .int (nI i))]) hx hb dL_law_633 hl (by decide) rfl (fun ls hl => ?_)
    refine lv_aload_n hx hb dL_law_635 rfl (lv_at hl 3 rfl) ?_
    refine lv_aload_n hx hb dL_law_636 rfl (lv_at hl 1 rfl) ?_
    refine lv_iload hx hb dL_law_637 (lv_at hl 5 rfl) ?_
    refine lv_iconst (v := 1) hx hb dL_law_639 (by decide) ?_
    refine g_addN (a := i) (b := 1) hx hb rfl rfl dL_law_640 ?_
    refine g_sld hx hb hX hbl hbA hN (j := i + 1) (by omega) hL dL_law_641 ?_
    refine g_Vi (As := [.int (xs (i + 1))]) (rest := []) ⟨hx, hb, hml, hown, hts⟩ hG hN (i := 43) (by decide) rfl rfl (c_X10_differs l (xs (i + 1)) ) (cwV 1 hts gL_law_X10_differs rfl rfl rfl (by decide +kernel) ⟨Nat.le_of_ble_eq_true rfl, Nat.le_of_ble_eq_true rfl⟩) rfl hl.1 rfl (Nat.le_of_ble_eq_true rfl) dL_law_642 ⟨by omega, by omega⟩ (fun r9 F2 V2 o2 H locs hm hN => ?_)
    simp only [hI.1, hI.2.1] at hm
    obtain ⟨e1, e2, e3, hI2⟩ := LI_rd hI hf hI.1.symm hI.2.1.symm hm
    subst e3
    have e2 : o2 = _ := e2
    rw [e2] at hN
    refine lv_istore (lv' := [(6, .int (cDif F (xs (i + 1)).toNatClampNeg 4)), (5, .int (fDif V (xs (i + 1)))), (0, .ref b), (1, .ref (ad 0)), (2, .ref (ad 43)), (3, .ref (ad 64)), (4, .int (nI i))]) hx hb dL_law_645 hl (by decide) rfl (fun ls hl => ?_)
    refine lv_aload_n hx hb dL_law_647 rfl (lv_at hl 4 rfl) ?_
    refine g_VI (As := []) (rest := []) ⟨hx, hb, hml, hown, hts⟩ hG hN (i := 43) (by decide) rfl rfl (c_X10_thrown l ) (cwV 0 hts gL_law_X10_thrown rfl rfl rfl (by decide +kernel) ⟨Nat.le_of_ble_eq_true rfl, Nat.le_of_ble_eq_true rfl⟩) rfl hl.1 rfl (Nat.le_of_ble_eq_true rfl) dL_law_648 ⟨by omega, by omega⟩ (fun H locs hN => ?_)
    refine g_top (y := 0) e1 ?_
    refine lv_iload hx hb dL_law_651 (lv_at hl 1 rfl) ?_
    refine lv_icmp_eq (tgt := 658) hx hb dL_law_653 (by decide) (fun _ => ?_) (fun c9 => absurd hf.symm c9)
    refine lv_iload hx hb dL_law_658 (lv_at hl 1 rfl) ?_
    refine lv_if_ne (tgt := 675) hx hb dL_law_660 (by decide) (fun c9 => absurd hf c9) (fun _ => ?_)
    refine lv_aload_n hx hb dL_law_663 rfl (lv_at hl 5 rfl) ?_
    refine lv_iconst (v := 0) hx hb dL_law_664 (by decide) ?_
    refine g_lald hx hb hG hN rfl dL_law_665 ?_
    refine lv_iload hx hb dL_law_666 (lv_at hl 0 rfl) ?_
    refine lv_i2l hx hb dL_law_668 rfl ?_
    refine W.lcmp hx hb dL_law_669 ?_
    refine g_top (y := 0) (lg_self _) ?_
    refine lv_if_eq (tgt := 675) hx hb dL_law_670 (by decide) (fun _ => ?_) (fun c1 => False.elim (by revert c1; decide))
    refine lv_goto (tgt := 1101) hx hb dL_law_675 (by decide) ?_
    refine W.widen (k := cells + 4) (n := slots + 24) (by omega) (by omega) ?_
    exact kk _ _ _ _ _ _ (hI2.mono (by omega)) hN (lv_sub hl [2, 3, 4, 5, 6] rfl)
  · cases hq1 hf
    refine lv_istore (lv' := [(5, .int (fDif V (xs (i + 1)))), (0, .ref b), (1, .ref (ad 0)), (2, .ref (ad 43)), (3, .ref (ad 64)), (4, .int (nI i))]) hx hb dL_law_633 hl (by decide) rfl (fun ls hl => ?_)
    refine lv_aload_n hx hb dL_law_635 rfl (lv_at hl 3 rfl) ?_
    refine lv_aload_n hx hb dL_law_636 rfl (lv_at hl 1 rfl) ?_
    refine lv_iload hx hb dL_law_637 (lv_at hl 5 rfl) ?_
    refine lv_iconst (v := 1) hx hb dL_law_639 (by decide) ?_
    refine g_addN (a := i) (b := 1) hx hb rfl rfl dL_law_640 ?_
    refine g_sld hx hb hX hbl hbA hN (j := i + 1) (by omega) hL dL_law_641 ?_
    refine g_Vi (As := [.int (xs (i + 1))]) (rest := []) ⟨hx, hb, hml, hown, hts⟩ hG hN (i := 43) (by decide) rfl rfl (c_X10_differs l (xs (i + 1)) ) (cwV 1 hts gL_law_X10_differs rfl rfl rfl (by decide +kernel) ⟨Nat.le_of_ble_eq_true rfl, Nat.le_of_ble_eq_true rfl⟩) rfl hl.1 rfl (Nat.le_of_ble_eq_true rfl) dL_law_642 ⟨by omega, by omega⟩ (fun r9 F2 V2 o2 H locs hm hN => ?_)
    simp only [hI.1, hI.2.1] at hm
    obtain ⟨e1, e2, hI2⟩ := LI_no hI hf hm
    refine lv_istore (lv' := [(6, .int r9), (5, .int (fDif V (xs (i + 1)))), (0, .ref b), (1, .ref (ad 0)), (2, .ref (ad 43)), (3, .ref (ad 64)), (4, .int (nI i))]) hx hb dL_law_645 hl (by decide) rfl (fun ls hl => ?_)
    refine lv_aload_n hx hb dL_law_647 rfl (lv_at hl 4 rfl) ?_
    refine g_VI (As := []) (rest := []) ⟨hx, hb, hml, hown, hts⟩ hG hN (i := 43) (by decide) rfl rfl (c_X10_thrown l ) (cwV 0 hts gL_law_X10_thrown rfl rfl rfl (by decide +kernel) ⟨Nat.le_of_ble_eq_true rfl, Nat.le_of_ble_eq_true rfl⟩) rfl hl.1 rfl (Nat.le_of_ble_eq_true rfl) dL_law_648 ⟨by omega, by omega⟩ (fun H locs hN => ?_)
    refine g_top (y := fDif V (xs (i + 1))) e1 ?_
    refine lv_iload hx hb dL_law_651 (lv_at hl 1 rfl) ?_
    refine lv_icmp_eq (tgt := 658) hx hb dL_law_653 (by decide) (fun _ => ?_) (fun c9 => absurd rfl c9)
    refine lv_iload hx hb dL_law_658 (lv_at hl 1 rfl) ?_
    refine lv_if_ne (tgt := 675) hx hb dL_law_660 (by decide) (fun _ => ?_) (fun c9 => absurd c9 hf)
    refine lv_goto (tgt := 1101) hx hb dL_law_675 (by decide) ?_
    refine W.widen (k := cells + 4) (n := slots + 24) (by omega) (by omega) ?_
    exact kk _ _ _ _ _ _ (hI2.mono (by omega)) hN (lv_sub hl [2, 3, 4, 5, 6] rfl)
set_option maxHeartbeats 4000000 in
set_option maxRecDepth 100000 in
theorem lw_b12 (E : lwE p0 l s0 m0 a0 c0 D ad cs zd b L xs) (hi : i + 5 ≤ L) (hL : L ≤ 2560) (hI : LI F V b9) (hb9 : b9 ≤ 2 ^ 28) (hc : cells + 4 ≤ room_1.cells) (hs : slots + 24 ≤ room_1.slots) (hN : gN D ad cs s0 F V o H locs) (hl : lv_has ls 7 (lwL ad b i))
    (kk : ∀ (F2 V2 : gF) (o2 : gO) (H1 : Heap) (locs1 : List Loc) (ls1 : Array Slot), LI F2 V2 (b9 + 100) → gN D ad cs s0 F2 V2 o2 H1 locs1 → lv_has ls1 7 (lwL ad b i) → W p0 l e0 room_1 s0 m0 a0 b0 k0 c0 H1 locs1 (cells + 4) (slots + 24) Q (F0 m0 1101 ls1 [])) : W p0 l e0 room_1 s0 m0 a0 b0 k0 c0 H locs cells slots Q (F0 m0 678 ls []) := by
  obtain ⟨hx, hb, hml, hts, hown, hX, hbl, hbA, hl9, hG⟩ := E
  have hl : lv_has ls 7 [(0, .ref b), (1, .ref (ad 0)), (2, .ref (ad 43)), (3, .ref (ad 64)), (4, .int (nI i))] := hl
  refine lv_aload_n hx hb dL_law_678 rfl (lv_at hl 1 rfl) ?_
  refine lv_aload_n hx hb dL_law_679 rfl (lv_at hl 0 rfl) ?_
  refine lv_iload hx hb dL_law_680 (lv_at hl 4 rfl) ?_
  refine lv_iconst (v := 1) hx hb dL_law_682 (by decide) ?_
  refine g_addN (a := i) (b := 1) hx hb rfl rfl dL_law_683 ?_
  refine g_sld hx hb hX hbl hbA hN (j := i + 1) (by omega) hL dL_law_684 ?_
  refine lv_aload_n hx hb dL_law_685 rfl (lv_at hl 3 rfl) ?_
  refine g_Wi (As := [.ref (ad 0), .int (xs (i + 1)), .ref (ad 64)]) (rest := []) ⟨hx, hb, hml, hown, hts⟩ hG hN (c_L_claim l (xs (i + 1)) hl9 (nz01 hI.2.2.2.2.2.2.1)) (vx_cwSW 3 hts gL_law_L_claim rfl rfl rfl (by decide +kernel) ⟨Nat.le_of_ble_eq_true rfl, Nat.le_of_ble_eq_true rfl⟩) rfl hl.1 rfl (Nat.le_of_ble_eq_true rfl) dL_law_686 ⟨by omega, by omega⟩ (fun r1 F1 V1 o1 H locs hq hN => ?_)
  obtain ⟨er, hq0, hq1⟩ := hq
  subst er
  by_cases hf : fDif V (xs (i + 1)) = 0
  · cases hq0 hf
    refine lv_istore (lv' := [(5, .int (fDif V (xs (i + 1)))), (0, .ref b), (1, .ref (ad 0)), (2, .ref (ad 43)), (3, .ref (ad 64)), (4, .int (nI i))]) hx hb dL_law_689 hl (by decide) rfl (fun ls hl => ?_)
    refine lv_aload_n hx hb dL_law_691 rfl (lv_at hl 3 rfl) ?_
    refine lv_aload_n hx hb dL_law_692 rfl (lv_at hl 1 rfl) ?_
    refine lv_iload hx hb dL_law_693 (lv_at hl 5 rfl) ?_
    refine lv_iconst (v := 1) hx hb dL_law_695 (by decide) ?_
    refine g_addN (a := i) (b := 1) hx hb rfl rfl dL_law_696 ?_
    refine g_sld hx hb hX hbl hbA hN (j := i + 1) (by omega) hL dL_law_697 ?_
    refine g_Vi (As := [.int (xs (i + 1))]) (rest := []) ⟨hx, hb, hml, hown, hts⟩ hG hN (i := 43) (by decide) rfl rfl (c_X10_claim l (xs (i + 1)) ) (cwV 1 hts gL_law_X10_claim rfl rfl rfl (by decide +kernel) ⟨Nat.le_of_ble_eq_true rfl, Nat.le_of_ble_eq_true rfl⟩) rfl hl.1 rfl (Nat.le_of_ble_eq_true rfl) dL_law_698 ⟨by omega, by omega⟩ (fun r9 F2 V2 o2 H locs hm hN => ?_)
    simp only [hI.1, hI.2.1] at hm
    obtain ⟨e1, e2, e3, hI2⟩ := LI_rd hI hf hI.1.symm hI.2.1.symm hm
    subst e3
    have e2 : o2 = _ := e2
    rw [e2] at hN
    refine lv_istore (lv' := [(6, .int (if 5 < cDif F (xs (i + 1)).toNatClampNeg 4 then 1 else 0)), (5, .int (fDif V (xs (i + 1)))), (0, .ref b), (1, .ref (ad 0)), (2, .ref (ad 43)), (3, .ref (ad 64)), (4, .int (nI i))]) hx hb dL_law_701 hl (by decide) rfl (fun ls hl => ?_)
    refine lv_aload_n hx hb dL_law_703 rfl (lv_at hl 4 rfl) ?_
    refine g_VI (As := []) (rest := []) ⟨hx, hb, hml, hown, hts⟩ hG hN (i := 43) (by decide) rfl rfl (c_X10_thrown l ) (cwV 0 hts gL_law_X10_thrown rfl rfl rfl (by decide +kernel) ⟨Nat.le_of_ble_eq_true rfl, Nat.le_of_ble_eq_true rfl⟩) rfl hl.1 rfl (Nat.le_of_ble_eq_true rfl) dL_law_704 ⟨by omega, by omega⟩ (fun H locs hN => ?_)
    refine g_top (y := 0) e1 ?_
    refine lv_iload hx hb dL_law_707 (lv_at hl 1 rfl) ?_
    refine lv_icmp_eq (tgt := 714) hx hb dL_law_709 (by decide) (fun _ => ?_) (fun c9 => absurd hf.symm c9)
    refine lv_iload hx hb dL_law_714 (lv_at hl 1 rfl) ?_
    refine lv_if_ne (tgt := 738) hx hb dL_law_716 (by decide) (fun c9 => absurd hf c9) (fun _ => ?_)
    refine lv_aload_n hx hb dL_law_719 rfl (lv_at hl 5 rfl) ?_
    refine lv_iconst (v := 0) hx hb dL_law_720 (by decide) ?_
    refine g_lald hx hb hG hN rfl dL_law_721 ?_
    refine lv_iload hx hb dL_law_722 (lv_at hl 0 rfl) ?_
    refine g_ifb_eq (5 < cDif F (xs (i + 1)).toNatClampNeg 4) (tgt := 731) hx hb dL_law_724 (by decide) rfl (fun c8 => ?_) (fun c8 => ?_)
    · skip
      refine lv_lconst (v := 0) hx hb dL_law_731 (by decide) ?_
      refine W.lcmp hx hb dL_law_732 ?_
      refine g_top (y := 0) (by rw [if_neg c8]; exact lg_self _) ?_
      refine lv_if_eq (tgt := 738) hx hb dL_law_733 (by decide) (fun _ => ?_) (fun c1 => False.elim (by revert c1; decide))
      refine lv_goto (tgt := 1101) hx hb dL_law_738 (by decide) ?_
      refine W.widen (k := cells + 4) (n := slots + 24) (by omega) (by omega) ?_
      exact kk _ _ _ _ _ _ (hI2.mono (by omega)) hN (lv_sub hl [2, 3, 4, 5, 6] rfl)
    · skip
      refine lv_lconst (v := 1) hx hb dL_law_727 (by decide) ?_
      refine lv_goto (tgt := 732) hx hb dL_law_728 (by decide) ?_
      refine W.lcmp hx hb dL_law_732 ?_
      refine g_top (y := 0) (by rw [if_pos c8]; exact lg_self _) ?_
      refine lv_if_eq (tgt := 738) hx hb dL_law_733 (by decide) (fun _ => ?_) (fun c2 => False.elim (by revert c2; decide))
      refine lv_goto (tgt := 1101) hx hb dL_law_738 (by decide) ?_
      refine W.widen (k := cells + 4) (n := slots + 24) (by omega) (by omega) ?_
      exact kk _ _ _ _ _ _ (hI2.mono (by omega)) hN (lv_sub hl [2, 3, 4, 5, 6] rfl)
  · cases hq1 hf
    refine lv_istore (lv' := [(5, .int (fDif V (xs (i + 1)))), (0, .ref b), (1, .ref (ad 0)), (2, .ref (ad 43)), (3, .ref (ad 64)), (4, .int (nI i))]) hx hb dL_law_689 hl (by decide) rfl (fun ls hl => ?_)
    refine lv_aload_n hx hb dL_law_691 rfl (lv_at hl 3 rfl) ?_
    refine lv_aload_n hx hb dL_law_692 rfl (lv_at hl 1 rfl) ?_
    refine lv_iload hx hb dL_law_693 (lv_at hl 5 rfl) ?_
    refine lv_iconst (v := 1) hx hb dL_law_695 (by decide) ?_
    refine g_addN (a := i) (b := 1) hx hb rfl rfl dL_law_696 ?_
    refine g_sld hx hb hX hbl hbA hN (j := i + 1) (by omega) hL dL_law_697 ?_
    refine g_Vi (As := [.int (xs (i + 1))]) (rest := []) ⟨hx, hb, hml, hown, hts⟩ hG hN (i := 43) (by decide) rfl rfl (c_X10_claim l (xs (i + 1)) ) (cwV 1 hts gL_law_X10_claim rfl rfl rfl (by decide +kernel) ⟨Nat.le_of_ble_eq_true rfl, Nat.le_of_ble_eq_true rfl⟩) rfl hl.1 rfl (Nat.le_of_ble_eq_true rfl) dL_law_698 ⟨by omega, by omega⟩ (fun r9 F2 V2 o2 H locs hm hN => ?_)
    simp only [hI.1, hI.2.1] at hm
    obtain ⟨e1, e2, hI2⟩ := LI_no hI hf hm
    refine lv_istore (lv' := [(6, .int r9), (5, .int (fDif V (xs (i + 1)))), (0, .ref b), (1, .ref (ad 0)), (2, .ref (ad 43)), (3, .ref (ad 64)), (4, .int (nI i))]) hx hb dL_law_701 hl (by decide) rfl (fun ls hl => ?_)
    refine lv_aload_n hx hb dL_law_703 rfl (lv_at hl 4 rfl) ?_
    refine g_VI (As := []) (rest := []) ⟨hx, hb, hml, hown, hts⟩ hG hN (i := 43) (by decide) rfl rfl (c_X10_thrown l ) (cwV 0 hts gL_law_X10_thrown rfl rfl rfl (by decide +kernel) ⟨Nat.le_of_ble_eq_true rfl, Nat.le_of_ble_eq_true rfl⟩) rfl hl.1 rfl (Nat.le_of_ble_eq_true rfl) dL_law_704 ⟨by omega, by omega⟩ (fun H locs hN => ?_)
    refine g_top (y := fDif V (xs (i + 1))) e1 ?_
    refine lv_iload hx hb dL_law_707 (lv_at hl 1 rfl) ?_
    refine lv_icmp_eq (tgt := 714) hx hb dL_law_709 (by decide) (fun _ => ?_) (fun c9 => absurd rfl c9)
    refine lv_iload hx hb dL_law_714 (lv_at hl 1 rfl) ?_
    refine lv_if_ne (tgt := 738) hx hb dL_law_716 (by decide) (fun _ => ?_) (fun c9 => absurd c9 hf)
    refine lv_goto (tgt := 1101) hx hb dL_law_738 (by decide) ?_
    refine W.widen (k := cells + 4) (n := slots + 24) (by omega) (by omega) ?_
    exact kk _ _ _ _ _ _ (hI2.mono (by omega)) hN (lv_sub hl [2, 3, 4, 5, 6] rfl)
set_option maxHeartbeats 4000000 in
set_option maxRecDepth 100000 in
theorem lw_b13 (E : lwE p0 l s0 m0 a0 c0 D ad cs zd b L xs) (hi : i + 5 ≤ L) (hL : L ≤ 2560) (hI : LI F V b9) (hb9 : b9 ≤ 2 ^ 28) (hc : cells + 4 ≤ room_1.cells) (hs : slots + 24 ≤ room_1.slots) (hN : gN D ad cs s0 F V o H locs) (hl : lv_has ls 7 (lwL ad b i))
    (kk : ∀ (F2 V2 : gF) (o2 : gO) (H1 : Heap) (locs1 : List Loc) (ls1 : Array Slot), LI F2 V2 (b9 + 100) → gN D ad cs s0 F2 V2 o2 H1 locs1 → lv_has ls1 7 (lwL ad b i) → W p0 l e0 room_1 s0 m0 a0 b0 k0 c0 H1 locs1 (cells + 4) (slots + 24) Q (F0 m0 1101 ls1 [])) : W p0 l e0 room_1 s0 m0 a0 b0 k0 c0 H locs cells slots Q (F0 m0 741 ls []) := by
  obtain ⟨hx, hb, hml, hts, hown, hX, hbl, hbA, hl9, hG⟩ := E
  have hl : lv_has ls 7 [(0, .ref b), (1, .ref (ad 0)), (2, .ref (ad 43)), (3, .ref (ad 64)), (4, .int (nI i))] := hl
  refine lv_aload_n hx hb dL_law_741 rfl (lv_at hl 1 rfl) ?_
  refine lv_aload_n hx hb dL_law_742 rfl (lv_at hl 0 rfl) ?_
  refine lv_iload hx hb dL_law_743 (lv_at hl 4 rfl) ?_
  refine lv_iconst (v := 1) hx hb dL_law_745 (by decide) ?_
  refine g_addN (a := i) (b := 1) hx hb rfl rfl dL_law_746 ?_
  refine g_sld hx hb hX hbl hbA hN (j := i + 1) (by omega) hL dL_law_747 ?_
  refine lv_aload_n hx hb dL_law_748 rfl (lv_at hl 0 rfl) ?_
  refine lv_iload hx hb dL_law_749 (lv_at hl 4 rfl) ?_
  refine lv_iconst (v := 2) hx hb dL_law_751 (by decide) ?_
  refine g_addN (a := i) (b := 2) hx hb rfl rfl dL_law_752 ?_
  refine g_sld hx hb hX hbl hbA hN (j := i + 2) (by omega) hL dL_law_753 ?_
  refine lv_aload_n hx hb dL_law_754 rfl (lv_at hl 0 rfl) ?_
  refine lv_iload hx hb dL_law_755 (lv_at hl 4 rfl) ?_
  refine lv_iconst (v := 3) hx hb dL_law_757 (by decide) ?_
  refine g_addN (a := i) (b := 3) hx hb rfl rfl dL_law_758 ?_
  refine g_sld hx hb hX hbl hbA hN (j := i + 3) (by omega) hL dL_law_759 ?_
  refine lv_aload_n hx hb dL_law_760 rfl (lv_at hl 3 rfl) ?_
  refine g_Wi (As := [.ref (ad 0), .int (xs (i + 1)), .int (xs (i + 2)), .int (xs (i + 3)), .ref (ad 64)]) (rest := []) ⟨hx, hb, hml, hown, hts⟩ hG hN (c_L_ink l (xs (i + 1)) (xs (i + 2)) (xs (i + 3)) hl9 (nz01 hI.2.2.2.2.2.2.2.1)) (vx_cwSW 5 hts gL_law_L_ink rfl rfl rfl (by decide +kernel) ⟨Nat.le_of_ble_eq_true rfl, Nat.le_of_ble_eq_true rfl⟩) rfl hl.1 rfl (Nat.le_of_ble_eq_true rfl) dL_law_761 ⟨by omega, by omega⟩ (fun r1 F1 V1 o1 H locs hq hN => ?_)
  obtain ⟨er, hq0, hq1⟩ := hq
  subst er
  by_cases hf : fInk (xs (i + 1)) (xs (i + 2)) (xs (i + 3)) = 0
  · cases hq0 hf
    refine lv_istore (lv' := [(5, .int (fInk (xs (i + 1)) (xs (i + 2)) (xs (i + 3)))), (0, .ref b), (1, .ref (ad 0)), (2, .ref (ad 43)), (3, .ref (ad 64)), (4, .int (nI i))]) hx hb dL_law_764 hl (by decide) rfl (fun ls hl => ?_)
    refine lv_aload_n hx hb dL_law_766 rfl (lv_at hl 3 rfl) ?_
    refine lv_aload_n hx hb dL_law_767 rfl (lv_at hl 1 rfl) ?_
    refine lv_iload hx hb dL_law_768 (lv_at hl 5 rfl) ?_
    refine lv_iconst (v := 1) hx hb dL_law_770 (by decide) ?_
    refine g_addN (a := i) (b := 1) hx hb rfl rfl dL_law_771 ?_
    refine g_sld hx hb hX hbl hbA hN (j := i + 1) (by omega) hL dL_law_772 ?_
    refine lv_aload_n hx hb dL_law_773 rfl (lv_at hl 1 rfl) ?_
    refine lv_iload hx hb dL_law_774 (lv_at hl 5 rfl) ?_
    refine lv_iconst (v := 2) hx hb dL_law_776 (by decide) ?_
    refine g_addN (a := i) (b := 2) hx hb rfl rfl dL_law_777 ?_
    refine g_sld hx hb hX hbl hbA hN (j := i + 2) (by omega) hL dL_law_778 ?_
    refine lv_aload_n hx hb dL_law_779 rfl (lv_at hl 1 rfl) ?_
    refine lv_iload hx hb dL_law_780 (lv_at hl 5 rfl) ?_
    refine lv_iconst (v := 3) hx hb dL_law_782 (by decide) ?_
    refine g_addN (a := i) (b := 3) hx hb rfl rfl dL_law_783 ?_
    refine g_sld hx hb hX hbl hbA hN (j := i + 3) (by omega) hL dL_law_784 ?_
    refine g_Vi (As := [.int (xs (i + 1)), .int (xs (i + 2)), .int (xs (i + 3))]) (rest := []) ⟨hx, hb, hml, hown, hts⟩ hG hN (i := 43) (by decide) rfl rfl (c_X10_ink l (xs (i + 1)) (xs (i + 2)) (xs (i + 3)) hI.nz hI.wm) (cwV 3 hts gL_law_X10_ink rfl rfl rfl (by decide +kernel) ⟨Nat.le_of_ble_eq_true rfl, Nat.le_of_ble_eq_true rfl⟩) rfl hl.1 rfl (Nat.le_of_ble_eq_true rfl) dL_law_785 ⟨by omega, by omega⟩ (fun r9 F2 V2 o2 H locs hm hN => ?_)
    simp only [hI.1, hI.2.1] at hm
    obtain ⟨e1, e2, e3, hI2⟩ := LI_rd hI hf hI.1.symm hI.2.1.symm hm
    subst e3
    have e2 : o2 = _ := e2
    rw [e2] at hN
    refine lv_istore (lv' := [(6, .int (rInk F V (xs (i + 1)).toNatClampNeg (xs (i + 2)).toNatClampNeg (xs (i + 3)))), (5, .int (fInk (xs (i + 1)) (xs (i + 2)) (xs (i + 3)))), (0, .ref b), (1, .ref (ad 0)), (2, .ref (ad 43)), (3, .ref (ad 64)), (4, .int (nI i))]) hx hb dL_law_788 hl (by decide) rfl (fun ls hl => ?_)
    refine lv_aload_n hx hb dL_law_790 rfl (lv_at hl 4 rfl) ?_
    refine g_VI (As := []) (rest := []) ⟨hx, hb, hml, hown, hts⟩ hG hN (i := 43) (by decide) rfl rfl (c_X10_thrown l ) (cwV 0 hts gL_law_X10_thrown rfl rfl rfl (by decide +kernel) ⟨Nat.le_of_ble_eq_true rfl, Nat.le_of_ble_eq_true rfl⟩) rfl hl.1 rfl (Nat.le_of_ble_eq_true rfl) dL_law_791 ⟨by omega, by omega⟩ (fun H locs hN => ?_)
    refine g_top (y := 0) e1 ?_
    refine lv_iload hx hb dL_law_794 (lv_at hl 1 rfl) ?_
    refine lv_icmp_eq (tgt := 801) hx hb dL_law_796 (by decide) (fun _ => ?_) (fun c9 => absurd hf.symm c9)
    refine lv_iload hx hb dL_law_801 (lv_at hl 1 rfl) ?_
    refine lv_if_ne (tgt := 818) hx hb dL_law_803 (by decide) (fun c9 => absurd hf c9) (fun _ => ?_)
    refine lv_aload_n hx hb dL_law_806 rfl (lv_at hl 5 rfl) ?_
    refine lv_iconst (v := 0) hx hb dL_law_807 (by decide) ?_
    refine g_lald hx hb hG hN rfl dL_law_808 ?_
    refine lv_iload hx hb dL_law_809 (lv_at hl 0 rfl) ?_
    refine lv_i2l hx hb dL_law_811 rfl ?_
    refine W.lcmp hx hb dL_law_812 ?_
    refine g_top (y := 0) (lg_self _) ?_
    refine lv_if_eq (tgt := 818) hx hb dL_law_813 (by decide) (fun _ => ?_) (fun c1 => False.elim (by revert c1; decide))
    refine lv_goto (tgt := 1101) hx hb dL_law_818 (by decide) ?_
    refine W.widen (k := cells + 4) (n := slots + 24) (by omega) (by omega) ?_
    exact kk _ _ _ _ _ _ (hI2.mono (by omega)) hN (lv_sub hl [2, 3, 4, 5, 6] rfl)
  · cases hq1 hf
    refine lv_istore (lv' := [(5, .int (fInk (xs (i + 1)) (xs (i + 2)) (xs (i + 3)))), (0, .ref b), (1, .ref (ad 0)), (2, .ref (ad 43)), (3, .ref (ad 64)), (4, .int (nI i))]) hx hb dL_law_764 hl (by decide) rfl (fun ls hl => ?_)
    refine lv_aload_n hx hb dL_law_766 rfl (lv_at hl 3 rfl) ?_
    refine lv_aload_n hx hb dL_law_767 rfl (lv_at hl 1 rfl) ?_
    refine lv_iload hx hb dL_law_768 (lv_at hl 5 rfl) ?_
    refine lv_iconst (v := 1) hx hb dL_law_770 (by decide) ?_
    refine g_addN (a := i) (b := 1) hx hb rfl rfl dL_law_771 ?_
    refine g_sld hx hb hX hbl hbA hN (j := i + 1) (by omega) hL dL_law_772 ?_
    refine lv_aload_n hx hb dL_law_773 rfl (lv_at hl 1 rfl) ?_
    refine lv_iload hx hb dL_law_774 (lv_at hl 5 rfl) ?_
    refine lv_iconst (v := 2) hx hb dL_law_776 (by decide) ?_
    refine g_addN (a := i) (b := 2) hx hb rfl rfl dL_law_777 ?_
    refine g_sld hx hb hX hbl hbA hN (j := i + 2) (by omega) hL dL_law_778 ?_
    refine lv_aload_n hx hb dL_law_779 rfl (lv_at hl 1 rfl) ?_
    refine lv_iload hx hb dL_law_780 (lv_at hl 5 rfl) ?_
    refine lv_iconst (v := 3) hx hb dL_law_782 (by decide) ?_
    refine g_addN (a := i) (b := 3) hx hb rfl rfl dL_law_783 ?_
    refine g_sld hx hb hX hbl hbA hN (j := i + 3) (by omega) hL dL_law_784 ?_
    refine g_Vi (As := [.int (xs (i + 1)), .int (xs (i + 2)), .int (xs (i + 3))]) (rest := []) ⟨hx, hb, hml, hown, hts⟩ hG hN (i := 43) (by decide) rfl rfl (c_X10_ink l (xs (i + 1)) (xs (i + 2)) (xs (i + 3)) hI.nz hI.wm) (cwV 3 hts gL_law_X10_ink rfl rfl rfl (by decide +kernel) ⟨Nat.le_of_ble_eq_true rfl, Nat.le_of_ble_eq_true rfl⟩) rfl hl.1 rfl (Nat.le_of_ble_eq_true rfl) dL_law_785 ⟨by omega, by omega⟩ (fun r9 F2 V2 o2 H locs hm hN => ?_)
    simp only [hI.1, hI.2.1] at hm
    obtain ⟨e1, e2, hI2⟩ := LI_no hI hf hm
    refine lv_istore (lv' := [(6, .int r9), (5, .int (fInk (xs (i + 1)) (xs (i + 2)) (xs (i + 3)))), (0, .ref b), (1, .ref (ad 0)), (2, .ref (ad 43)), (3, .ref (ad 64)), (4, .int (nI i))]) hx hb dL_law_788 hl (by decide) rfl (fun ls hl => ?_)
    refine lv_aload_n hx hb dL_law_790 rfl (lv_at hl 4 rfl) ?_
    refine g_VI (As := []) (rest := []) ⟨hx, hb, hml, hown, hts⟩ hG hN (i := 43) (by decide) rfl rfl (c_X10_thrown l ) (cwV 0 hts gL_law_X10_thrown rfl rfl rfl (by decide +kernel) ⟨Nat.le_of_ble_eq_true rfl, Nat.le_of_ble_eq_true rfl⟩) rfl hl.1 rfl (Nat.le_of_ble_eq_true rfl) dL_law_791 ⟨by omega, by omega⟩ (fun H locs hN => ?_)
    refine g_top (y := fInk (xs (i + 1)) (xs (i + 2)) (xs (i + 3))) e1 ?_
    refine lv_iload hx hb dL_law_794 (lv_at hl 1 rfl) ?_
    refine lv_icmp_eq (tgt := 801) hx hb dL_law_796 (by decide) (fun _ => ?_) (fun c9 => absurd rfl c9)
    refine lv_iload hx hb dL_law_801 (lv_at hl 1 rfl) ?_
    refine lv_if_ne (tgt := 818) hx hb dL_law_803 (by decide) (fun _ => ?_) (fun c9 => absurd c9 hf)
    refine lv_goto (tgt := 1101) hx hb dL_law_818 (by decide) ?_
    refine W.widen (k := cells + 4) (n := slots + 24) (by omega) (by omega) ?_
    exact kk _ _ _ _ _ _ (hI2.mono (by omega)) hN (lv_sub hl [2, 3, 4, 5, 6] rfl)
set_option maxHeartbeats 4000000 in
set_option maxRecDepth 100000 in
theorem lw_b14 (E : lwE p0 l s0 m0 a0 c0 D ad cs zd b L xs) (hi : i + 5 ≤ L) (hL : L ≤ 2560) (hI : LI F V b9) (hb9 : b9 ≤ 2 ^ 28) (hc : cells + 4 ≤ room_1.cells) (hs : slots + 24 ≤ room_1.slots) (hN : gN D ad cs s0 F V o H locs) (hl : lv_has ls 7 (lwL ad b i))
    (kk : ∀ (F2 V2 : gF) (o2 : gO) (H1 : Heap) (locs1 : List Loc) (ls1 : Array Slot), LI F2 V2 (b9 + 100) → gN D ad cs s0 F2 V2 o2 H1 locs1 → lv_has ls1 7 (lwL ad b i) → W p0 l e0 room_1 s0 m0 a0 b0 k0 c0 H1 locs1 (cells + 4) (slots + 24) Q (F0 m0 1101 ls1 [])) : W p0 l e0 room_1 s0 m0 a0 b0 k0 c0 H locs cells slots Q (F0 m0 821 ls []) := by
  obtain ⟨hx, hb, hml, hts, hown, hX, hbl, hbA, hl9, hG⟩ := E
  have hl : lv_has ls 7 [(0, .ref b), (1, .ref (ad 0)), (2, .ref (ad 43)), (3, .ref (ad 64)), (4, .int (nI i))] := hl
  refine lv_aload_n hx hb dL_law_821 rfl (lv_at hl 1 rfl) ?_
  refine lv_aload_n hx hb dL_law_822 rfl (lv_at hl 0 rfl) ?_
  refine lv_iload hx hb dL_law_823 (lv_at hl 4 rfl) ?_
  refine lv_iconst (v := 1) hx hb dL_law_825 (by decide) ?_
  refine g_addN (a := i) (b := 1) hx hb rfl rfl dL_law_826 ?_
  refine g_sld hx hb hX hbl hbA hN (j := i + 1) (by omega) hL dL_law_827 ?_
  refine lv_aload_n hx hb dL_law_828 rfl (lv_at hl 0 rfl) ?_
  refine lv_iload hx hb dL_law_829 (lv_at hl 4 rfl) ?_
  refine lv_iconst (v := 2) hx hb dL_law_831 (by decide) ?_
  refine g_addN (a := i) (b := 2) hx hb rfl rfl dL_law_832 ?_
  refine g_sld hx hb hX hbl hbA hN (j := i + 2) (by omega) hL dL_law_833 ?_
  refine lv_aload_n hx hb dL_law_834 rfl (lv_at hl 3 rfl) ?_
  refine g_Wi (As := [.ref (ad 0), .int (xs (i + 1)), .int (xs (i + 2)), .ref (ad 64)]) (rest := []) ⟨hx, hb, hml, hown, hts⟩ hG hN (c_L_dot l (xs (i + 1)) (xs (i + 2)) hl9) (vx_cwSW 4 hts gL_law_L_dot rfl rfl rfl (by decide +kernel) ⟨Nat.le_of_ble_eq_true rfl, Nat.le_of_ble_eq_true rfl⟩) rfl hl.1 rfl (Nat.le_of_ble_eq_true rfl) dL_law_835 ⟨by omega, by omega⟩ (fun r1 F1 V1 o1 H locs hq hN => ?_)
  obtain ⟨er, hq0, hq1⟩ := hq
  subst er
  by_cases hf : fDot (xs (i + 1)) (xs (i + 2)) = 0
  · cases hq0 hf
    refine lv_istore (lv' := [(5, .int (fDot (xs (i + 1)) (xs (i + 2)))), (0, .ref b), (1, .ref (ad 0)), (2, .ref (ad 43)), (3, .ref (ad 64)), (4, .int (nI i))]) hx hb dL_law_838 hl (by decide) rfl (fun ls hl => ?_)
    refine lv_aload_n hx hb dL_law_840 rfl (lv_at hl 3 rfl) ?_
    refine lv_aload_n hx hb dL_law_841 rfl (lv_at hl 1 rfl) ?_
    refine lv_iload hx hb dL_law_842 (lv_at hl 5 rfl) ?_
    refine lv_iconst (v := 1) hx hb dL_law_844 (by decide) ?_
    refine g_addN (a := i) (b := 1) hx hb rfl rfl dL_law_845 ?_
    refine g_sld hx hb hX hbl hbA hN (j := i + 1) (by omega) hL dL_law_846 ?_
    refine lv_aload_n hx hb dL_law_847 rfl (lv_at hl 1 rfl) ?_
    refine lv_iload hx hb dL_law_848 (lv_at hl 5 rfl) ?_
    refine lv_iconst (v := 2) hx hb dL_law_850 (by decide) ?_
    refine g_addN (a := i) (b := 2) hx hb rfl rfl dL_law_851 ?_
    refine g_sld hx hb hX hbl hbA hN (j := i + 2) (by omega) hL dL_law_852 ?_
    refine g_Vi (As := [.int (xs (i + 1)), .int (xs (i + 2))]) (rest := []) ⟨hx, hb, hml, hown, hts⟩ hG hN (i := 43) (by decide) rfl rfl (c_X10_dot l (xs (i + 1)) (xs (i + 2)) ) (cwV 2 hts gL_law_X10_dot rfl rfl rfl (by decide +kernel) ⟨Nat.le_of_ble_eq_true rfl, Nat.le_of_ble_eq_true rfl⟩) rfl hl.1 rfl (Nat.le_of_ble_eq_true rfl) dL_law_853 ⟨by omega, by omega⟩ (fun r9 F2 V2 o2 H locs hm hN => ?_)
    simp only [hI.1, hI.2.1] at hm
    obtain ⟨e1, e2, e3, hI2⟩ := LI_rd hI hf hI.1.symm hI.2.1.symm hm
    subst e3
    have e2 : o2 = _ := e2
    rw [e2] at hN
    refine lv_istore (lv' := [(6, .int (if (cDot1 F (xs (i + 2)).toNatClampNeg ((xs (i + 1)).toNatClampNeg - (xs (i + 1)).toNatClampNeg % 8) ((xs (i + 1)).toNatClampNeg % 8 + 1)).2 = true then 1 else 0)), (5, .int (fDot (xs (i + 1)) (xs (i + 2)))), (0, .ref b), (1, .ref (ad 0)), (2, .ref (ad 43)), (3, .ref (ad 64)), (4, .int (nI i))]) hx hb dL_law_856 hl (by decide) rfl (fun ls hl => ?_)
    refine lv_aload_n hx hb dL_law_858 rfl (lv_at hl 4 rfl) ?_
    refine g_VI (As := []) (rest := []) ⟨hx, hb, hml, hown, hts⟩ hG hN (i := 43) (by decide) rfl rfl (c_X10_thrown l ) (cwV 0 hts gL_law_X10_thrown rfl rfl rfl (by decide +kernel) ⟨Nat.le_of_ble_eq_true rfl, Nat.le_of_ble_eq_true rfl⟩) rfl hl.1 rfl (Nat.le_of_ble_eq_true rfl) dL_law_859 ⟨by omega, by omega⟩ (fun H locs hN => ?_)
    refine g_top (y := 0) e1 ?_
    refine lv_iload hx hb dL_law_862 (lv_at hl 1 rfl) ?_
    refine lv_icmp_eq (tgt := 869) hx hb dL_law_864 (by decide) (fun _ => ?_) (fun c9 => absurd hf.symm c9)
    refine lv_iload hx hb dL_law_869 (lv_at hl 1 rfl) ?_
    refine lv_if_ne (tgt := 893) hx hb dL_law_871 (by decide) (fun c9 => absurd hf c9) (fun _ => ?_)
    refine lv_aload_n hx hb dL_law_874 rfl (lv_at hl 5 rfl) ?_
    refine lv_iconst (v := 0) hx hb dL_law_875 (by decide) ?_
    refine g_lald hx hb hG hN rfl dL_law_876 ?_
    refine lv_iload hx hb dL_law_877 (lv_at hl 0 rfl) ?_
    refine g_ifb_eq ((cDot1 F (xs (i + 2)).toNatClampNeg ((xs (i + 1)).toNatClampNeg - (xs (i + 1)).toNatClampNeg % 8) ((xs (i + 1)).toNatClampNeg % 8 + 1)).2 = true) (tgt := 886) hx hb dL_law_879 (by decide) rfl (fun c8 => ?_) (fun c8 => ?_)
    · skip
      refine lv_lconst (v := 0) hx hb dL_law_886 (by decide) ?_
      refine W.lcmp hx hb dL_law_887 ?_
      refine g_top (y := 0) (by rw [if_neg c8]; exact lg_self _) ?_
      refine lv_if_eq (tgt := 893) hx hb dL_law_888 (by decide) (fun _ => ?_) (fun c1 => False.elim (by revert c1; decide))
      refine lv_goto (tgt := 1101) hx hb dL_law_893 (by decide) ?_
      refine W.widen (k := cells + 4) (n := slots + 24) (by omega) (by omega) ?_
      exact kk _ _ _ _ _ _ (hI2.mono (by omega)) hN (lv_sub hl [2, 3, 4, 5, 6] rfl)
    · skip
      refine lv_lconst (v := 1) hx hb dL_law_882 (by decide) ?_
      refine lv_goto (tgt := 887) hx hb dL_law_883 (by decide) ?_
      refine W.lcmp hx hb dL_law_887 ?_
      refine g_top (y := 0) (by rw [if_pos c8]; exact lg_self _) ?_
      refine lv_if_eq (tgt := 893) hx hb dL_law_888 (by decide) (fun _ => ?_) (fun c2 => False.elim (by revert c2; decide))
      refine lv_goto (tgt := 1101) hx hb dL_law_893 (by decide) ?_
      refine W.widen (k := cells + 4) (n := slots + 24) (by omega) (by omega) ?_
      exact kk _ _ _ _ _ _ (hI2.mono (by omega)) hN (lv_sub hl [2, 3, 4, 5, 6] rfl)
  · cases hq1 hf
    refine lv_istore (lv' := [(5, .int (fDot (xs (i + 1)) (xs (i + 2)))), (0, .ref b), (1, .ref (ad 0)), (2, .ref (ad 43)), (3, .ref (ad 64)), (4, .int (nI i))]) hx hb dL_law_838 hl (by decide) rfl (fun ls hl => ?_)
    refine lv_aload_n hx hb dL_law_840 rfl (lv_at hl 3 rfl) ?_
    refine lv_aload_n hx hb dL_law_841 rfl (lv_at hl 1 rfl) ?_
    refine lv_iload hx hb dL_law_842 (lv_at hl 5 rfl) ?_
    refine lv_iconst (v := 1) hx hb dL_law_844 (by decide) ?_
    refine g_addN (a := i) (b := 1) hx hb rfl rfl dL_law_845 ?_
    refine g_sld hx hb hX hbl hbA hN (j := i + 1) (by omega) hL dL_law_846 ?_
    refine lv_aload_n hx hb dL_law_847 rfl (lv_at hl 1 rfl) ?_
    refine lv_iload hx hb dL_law_848 (lv_at hl 5 rfl) ?_
    refine lv_iconst (v := 2) hx hb dL_law_850 (by decide) ?_
    refine g_addN (a := i) (b := 2) hx hb rfl rfl dL_law_851 ?_
    refine g_sld hx hb hX hbl hbA hN (j := i + 2) (by omega) hL dL_law_852 ?_
    refine g_Vi (As := [.int (xs (i + 1)), .int (xs (i + 2))]) (rest := []) ⟨hx, hb, hml, hown, hts⟩ hG hN (i := 43) (by decide) rfl rfl (c_X10_dot l (xs (i + 1)) (xs (i + 2)) ) (cwV 2 hts gL_law_X10_dot rfl rfl rfl (by decide +kernel) ⟨Nat.le_of_ble_eq_true rfl, Nat.le_of_ble_eq_true rfl⟩) rfl hl.1 rfl (Nat.le_of_ble_eq_true rfl) dL_law_853 ⟨by omega, by omega⟩ (fun r9 F2 V2 o2 H locs hm hN => ?_)
    simp only [hI.1, hI.2.1] at hm
    obtain ⟨e1, e2, hI2⟩ := LI_no hI hf hm
    refine lv_istore (lv' := [(6, .int r9), (5, .int (fDot (xs (i + 1)) (xs (i + 2)))), (0, .ref b), (1, .ref (ad 0)), (2, .ref (ad 43)), (3, .ref (ad 64)), (4, .int (nI i))]) hx hb dL_law_856 hl (by decide) rfl (fun ls hl => ?_)
    refine lv_aload_n hx hb dL_law_858 rfl (lv_at hl 4 rfl) ?_
    refine g_VI (As := []) (rest := []) ⟨hx, hb, hml, hown, hts⟩ hG hN (i := 43) (by decide) rfl rfl (c_X10_thrown l ) (cwV 0 hts gL_law_X10_thrown rfl rfl rfl (by decide +kernel) ⟨Nat.le_of_ble_eq_true rfl, Nat.le_of_ble_eq_true rfl⟩) rfl hl.1 rfl (Nat.le_of_ble_eq_true rfl) dL_law_859 ⟨by omega, by omega⟩ (fun H locs hN => ?_)
    refine g_top (y := fDot (xs (i + 1)) (xs (i + 2))) e1 ?_
    refine lv_iload hx hb dL_law_862 (lv_at hl 1 rfl) ?_
    refine lv_icmp_eq (tgt := 869) hx hb dL_law_864 (by decide) (fun _ => ?_) (fun c9 => absurd rfl c9)
    refine lv_iload hx hb dL_law_869 (lv_at hl 1 rfl) ?_
    refine lv_if_ne (tgt := 893) hx hb dL_law_871 (by decide) (fun _ => ?_) (fun c9 => absurd c9 hf)
    refine lv_goto (tgt := 1101) hx hb dL_law_893 (by decide) ?_
    refine W.widen (k := cells + 4) (n := slots + 24) (by omega) (by omega) ?_
    exact kk _ _ _ _ _ _ (hI2.mono (by omega)) hN (lv_sub hl [2, 3, 4, 5, 6] rfl)
set_option maxHeartbeats 4000000 in
set_option maxRecDepth 100000 in
theorem lw_b15 (E : lwE p0 l s0 m0 a0 c0 D ad cs zd b L xs) (hi : i + 5 ≤ L) (hL : L ≤ 2560) (hI : LI F V b9) (hb9 : b9 ≤ 2 ^ 28) (hc : cells + 4 ≤ room_1.cells) (hs : slots + 24 ≤ room_1.slots) (hN : gN D ad cs s0 F V o H locs) (hl : lv_has ls 7 (lwL ad b i))
    (kk : ∀ (F2 V2 : gF) (o2 : gO) (H1 : Heap) (locs1 : List Loc) (ls1 : Array Slot), LI F2 V2 (b9 + 100) → gN D ad cs s0 F2 V2 o2 H1 locs1 → lv_has ls1 7 (lwL ad b i) → W p0 l e0 room_1 s0 m0 a0 b0 k0 c0 H1 locs1 (cells + 4) (slots + 24) Q (F0 m0 1101 ls1 [])) : W p0 l e0 room_1 s0 m0 a0 b0 k0 c0 H locs cells slots Q (F0 m0 896 ls []) := by
  obtain ⟨hx, hb, hml, hts, hown, hX, hbl, hbA, hl9, hG⟩ := E
  have hl : lv_has ls 7 [(0, .ref b), (1, .ref (ad 0)), (2, .ref (ad 43)), (3, .ref (ad 64)), (4, .int (nI i))] := hl
  refine lv_aload_n hx hb dL_law_896 rfl (lv_at hl 1 rfl) ?_
  refine lv_aload_n hx hb dL_law_897 rfl (lv_at hl 0 rfl) ?_
  refine lv_iload hx hb dL_law_898 (lv_at hl 4 rfl) ?_
  refine lv_iconst (v := 1) hx hb dL_law_900 (by decide) ?_
  refine g_addN (a := i) (b := 1) hx hb rfl rfl dL_law_901 ?_
  refine g_sld hx hb hX hbl hbA hN (j := i + 1) (by omega) hL dL_law_902 ?_
  refine lv_aload_n hx hb dL_law_903 rfl (lv_at hl 0 rfl) ?_
  refine lv_iload hx hb dL_law_904 (lv_at hl 4 rfl) ?_
  refine lv_iconst (v := 2) hx hb dL_law_906 (by decide) ?_
  refine g_addN (a := i) (b := 2) hx hb rfl rfl dL_law_907 ?_
  refine g_sld hx hb hX hbl hbA hN (j := i + 2) (by omega) hL dL_law_908 ?_
  refine lv_aload_n hx hb dL_law_909 rfl (lv_at hl 3 rfl) ?_
  refine g_Wi (As := [.ref (ad 0), .int (xs (i + 1)), .int (xs (i + 2)), .ref (ad 64)]) (rest := []) ⟨hx, hb, hml, hown, hts⟩ hG hN (c_L_unit l (xs (i + 1)) (xs (i + 2)) hl9) (vx_cwSW 4 hts gL_law_L_unit rfl rfl rfl (by decide +kernel) ⟨Nat.le_of_ble_eq_true rfl, Nat.le_of_ble_eq_true rfl⟩) rfl hl.1 rfl (Nat.le_of_ble_eq_true rfl) dL_law_910 ⟨by omega, by omega⟩ (fun r1 F1 V1 o1 H locs hq hN => ?_)
  obtain ⟨er, hq0, hq1⟩ := hq
  subst er
  by_cases hf : fUni (xs (i + 1)) (xs (i + 2)) = 0
  · cases hq0 hf
    refine lv_istore (lv' := [(5, .int (fUni (xs (i + 1)) (xs (i + 2)))), (0, .ref b), (1, .ref (ad 0)), (2, .ref (ad 43)), (3, .ref (ad 64)), (4, .int (nI i))]) hx hb dL_law_913 hl (by decide) rfl (fun ls hl => ?_)
    refine lv_aload_n hx hb dL_law_915 rfl (lv_at hl 3 rfl) ?_
    refine lv_aload_n hx hb dL_law_916 rfl (lv_at hl 1 rfl) ?_
    refine lv_iload hx hb dL_law_917 (lv_at hl 5 rfl) ?_
    refine lv_iconst (v := 1) hx hb dL_law_919 (by decide) ?_
    refine g_addN (a := i) (b := 1) hx hb rfl rfl dL_law_920 ?_
    refine g_sld hx hb hX hbl hbA hN (j := i + 1) (by omega) hL dL_law_921 ?_
    refine lv_aload_n hx hb dL_law_922 rfl (lv_at hl 1 rfl) ?_
    refine lv_iload hx hb dL_law_923 (lv_at hl 5 rfl) ?_
    refine lv_iconst (v := 2) hx hb dL_law_925 (by decide) ?_
    refine g_addN (a := i) (b := 2) hx hb rfl rfl dL_law_926 ?_
    refine g_sld hx hb hX hbl hbA hN (j := i + 2) (by omega) hL dL_law_927 ?_
    refine g_Vi (As := [.int (xs (i + 1)), .int (xs (i + 2))]) (rest := []) ⟨hx, hb, hml, hown, hts⟩ hG hN (i := 43) (by decide) rfl rfl (c_X10_unit l (xs (i + 1)) (xs (i + 2)) ) (cwV 2 hts gL_law_X10_unit rfl rfl rfl (by decide +kernel) ⟨Nat.le_of_ble_eq_true rfl, Nat.le_of_ble_eq_true rfl⟩) rfl hl.1 rfl (Nat.le_of_ble_eq_true rfl) dL_law_928 ⟨by omega, by omega⟩ (fun r9 F2 V2 o2 H locs hm hN => ?_)
    simp only [hI.1, hI.2.1] at hm
    obtain ⟨e1, e2, e3, hI2⟩ := LI_rd hI hf hI.1.symm hI.2.1.symm hm
    subst e3
    have e2 : o2 = _ := e2
    rw [e2] at hN
    refine lv_istore (lv' := [(6, .int (rUni F (xs (i + 1)).toNatClampNeg (xs (i + 2)).toNatClampNeg)), (5, .int (fUni (xs (i + 1)) (xs (i + 2)))), (0, .ref b), (1, .ref (ad 0)), (2, .ref (ad 43)), (3, .ref (ad 64)), (4, .int (nI i))]) hx hb dL_law_931 hl (by decide) rfl (fun ls hl => ?_)
    refine lv_aload_n hx hb dL_law_933 rfl (lv_at hl 4 rfl) ?_
    refine g_VI (As := []) (rest := []) ⟨hx, hb, hml, hown, hts⟩ hG hN (i := 43) (by decide) rfl rfl (c_X10_thrown l ) (cwV 0 hts gL_law_X10_thrown rfl rfl rfl (by decide +kernel) ⟨Nat.le_of_ble_eq_true rfl, Nat.le_of_ble_eq_true rfl⟩) rfl hl.1 rfl (Nat.le_of_ble_eq_true rfl) dL_law_934 ⟨by omega, by omega⟩ (fun H locs hN => ?_)
    refine g_top (y := 0) e1 ?_
    refine lv_iload hx hb dL_law_937 (lv_at hl 1 rfl) ?_
    refine lv_icmp_eq (tgt := 944) hx hb dL_law_939 (by decide) (fun _ => ?_) (fun c9 => absurd hf.symm c9)
    refine lv_iload hx hb dL_law_944 (lv_at hl 1 rfl) ?_
    refine lv_if_ne (tgt := 961) hx hb dL_law_946 (by decide) (fun c9 => absurd hf c9) (fun _ => ?_)
    refine lv_aload_n hx hb dL_law_949 rfl (lv_at hl 5 rfl) ?_
    refine lv_iconst (v := 0) hx hb dL_law_950 (by decide) ?_
    refine g_lald hx hb hG hN rfl dL_law_951 ?_
    refine lv_iload hx hb dL_law_952 (lv_at hl 0 rfl) ?_
    refine lv_i2l hx hb dL_law_954 rfl ?_
    refine W.lcmp hx hb dL_law_955 ?_
    refine g_top (y := 0) (lg_self _) ?_
    refine lv_if_eq (tgt := 961) hx hb dL_law_956 (by decide) (fun _ => ?_) (fun c1 => False.elim (by revert c1; decide))
    refine lv_goto (tgt := 1101) hx hb dL_law_961 (by decide) ?_
    refine W.widen (k := cells + 4) (n := slots + 24) (by omega) (by omega) ?_
    exact kk _ _ _ _ _ _ (hI2.mono (by omega)) hN (lv_sub hl [2, 3, 4, 5, 6] rfl)
  · cases hq1 hf
    refine lv_istore (lv' := [(5, .int (fUni (xs (i + 1)) (xs (i + 2)))), (0, .ref b), (1, .ref (ad 0)), (2, .ref (ad 43)), (3, .ref (ad 64)), (4, .int (nI i))]) hx hb dL_law_913 hl (by decide) rfl (fun ls hl => ?_)
    refine lv_aload_n hx hb dL_law_915 rfl (lv_at hl 3 rfl) ?_
    refine lv_aload_n hx hb dL_law_916 rfl (lv_at hl 1 rfl) ?_
    refine lv_iload hx hb dL_law_917 (lv_at hl 5 rfl) ?_
    refine lv_iconst (v := 1) hx hb dL_law_919 (by decide) ?_
    refine g_addN (a := i) (b := 1) hx hb rfl rfl dL_law_920 ?_
    refine g_sld hx hb hX hbl hbA hN (j := i + 1) (by omega) hL dL_law_921 ?_
    refine lv_aload_n hx hb dL_law_922 rfl (lv_at hl 1 rfl) ?_
    refine lv_iload hx hb dL_law_923 (lv_at hl 5 rfl) ?_
    refine lv_iconst (v := 2) hx hb dL_law_925 (by decide) ?_
    refine g_addN (a := i) (b := 2) hx hb rfl rfl dL_law_926 ?_
    refine g_sld hx hb hX hbl hbA hN (j := i + 2) (by omega) hL dL_law_927 ?_
    refine g_Vi (As := [.int (xs (i + 1)), .int (xs (i + 2))]) (rest := []) ⟨hx, hb, hml, hown, hts⟩ hG hN (i := 43) (by decide) rfl rfl (c_X10_unit l (xs (i + 1)) (xs (i + 2)) ) (cwV 2 hts gL_law_X10_unit rfl rfl rfl (by decide +kernel) ⟨Nat.le_of_ble_eq_true rfl, Nat.le_of_ble_eq_true rfl⟩) rfl hl.1 rfl (Nat.le_of_ble_eq_true rfl) dL_law_928 ⟨by omega, by omega⟩ (fun r9 F2 V2 o2 H locs hm hN => ?_)
    simp only [hI.1, hI.2.1] at hm
    obtain ⟨e1, e2, hI2⟩ := LI_no hI hf hm
    refine lv_istore (lv' := [(6, .int r9), (5, .int (fUni (xs (i + 1)) (xs (i + 2)))), (0, .ref b), (1, .ref (ad 0)), (2, .ref (ad 43)), (3, .ref (ad 64)), (4, .int (nI i))]) hx hb dL_law_931 hl (by decide) rfl (fun ls hl => ?_)
    refine lv_aload_n hx hb dL_law_933 rfl (lv_at hl 4 rfl) ?_
    refine g_VI (As := []) (rest := []) ⟨hx, hb, hml, hown, hts⟩ hG hN (i := 43) (by decide) rfl rfl (c_X10_thrown l ) (cwV 0 hts gL_law_X10_thrown rfl rfl rfl (by decide +kernel) ⟨Nat.le_of_ble_eq_true rfl, Nat.le_of_ble_eq_true rfl⟩) rfl hl.1 rfl (Nat.le_of_ble_eq_true rfl) dL_law_934 ⟨by omega, by omega⟩ (fun H locs hN => ?_)
    refine g_top (y := fUni (xs (i + 1)) (xs (i + 2))) e1 ?_
    refine lv_iload hx hb dL_law_937 (lv_at hl 1 rfl) ?_
    refine lv_icmp_eq (tgt := 944) hx hb dL_law_939 (by decide) (fun _ => ?_) (fun c9 => absurd rfl c9)
    refine lv_iload hx hb dL_law_944 (lv_at hl 1 rfl) ?_
    refine lv_if_ne (tgt := 961) hx hb dL_law_946 (by decide) (fun _ => ?_) (fun c9 => absurd c9 hf)
    refine lv_goto (tgt := 1101) hx hb dL_law_961 (by decide) ?_
    refine W.widen (k := cells + 4) (n := slots + 24) (by omega) (by omega) ?_
    exact kk _ _ _ _ _ _ (hI2.mono (by omega)) hN (lv_sub hl [2, 3, 4, 5, 6] rfl)
set_option maxHeartbeats 4000000 in
set_option maxRecDepth 100000 in
theorem lw_b16 (E : lwE p0 l s0 m0 a0 c0 D ad cs zd b L xs) (hi : i + 5 ≤ L) (hL : L ≤ 2560) (hI : LI F V b9) (hb9 : b9 ≤ 2 ^ 28) (hc : cells + 4 ≤ room_1.cells) (hs : slots + 24 ≤ room_1.slots) (hN : gN D ad cs s0 F V o H locs) (hl : lv_has ls 7 (lwL ad b i))
    (kk : ∀ (F2 V2 : gF) (o2 : gO) (H1 : Heap) (locs1 : List Loc) (ls1 : Array Slot), LI F2 V2 (b9 + 100) → gN D ad cs s0 F2 V2 o2 H1 locs1 → lv_has ls1 7 (lwL ad b i) → W p0 l e0 room_1 s0 m0 a0 b0 k0 c0 H1 locs1 (cells + 4) (slots + 24) Q (F0 m0 1101 ls1 [])) : W p0 l e0 room_1 s0 m0 a0 b0 k0 c0 H locs cells slots Q (F0 m0 964 ls []) := by
  obtain ⟨hx, hb, hml, hts, hown, hX, hbl, hbA, hl9, hG⟩ := E
  have hl : lv_has ls 7 [(0, .ref b), (1, .ref (ad 0)), (2, .ref (ad 43)), (3, .ref (ad 64)), (4, .int (nI i))] := hl
  obtain ⟨N, hN4, hN3⟩ := hI.2.2.2.1
  refine lv_aload_n hx hb dL_law_964 rfl (lv_at hl 1 rfl) ?_
  refine lv_aload_n hx hb dL_law_965 rfl (lv_at hl 0 rfl) ?_
  refine lv_iload hx hb dL_law_966 (lv_at hl 4 rfl) ?_
  refine lv_iconst (v := 1) hx hb dL_law_968 (by decide) ?_
  refine g_addN (a := i) (b := 1) hx hb rfl rfl dL_law_969 ?_
  refine g_sld hx hb hX hbl hbA hN (j := i + 1) (by omega) hL dL_law_970 ?_
  refine lv_aload_n hx hb dL_law_971 rfl (lv_at hl 0 rfl) ?_
  refine lv_iload hx hb dL_law_972 (lv_at hl 4 rfl) ?_
  refine lv_iconst (v := 2) hx hb dL_law_974 (by decide) ?_
  refine g_addN (a := i) (b := 2) hx hb rfl rfl dL_law_975 ?_
  refine g_sld hx hb hX hbl hbA hN (j := i + 2) (by omega) hL dL_law_976 ?_
  refine lv_aload_n hx hb dL_law_977 rfl (lv_at hl 3 rfl) ?_
  refine g_Wi (As := [.ref (ad 0), .int (xs (i + 1)), .int (xs (i + 2)), .ref (ad 64)]) (rest := []) ⟨hx, hb, hml, hown, hts⟩ hG hN (c_L_copy l (xs (i + 1)) (xs (i + 2)) hl9 N hN3 hN4 (fun j => nz01 (hI.2.2.2.2.2.1 j))) (vx_cwSW 4 hts gL_law_L_copy rfl rfl rfl (by decide +kernel) ⟨Nat.le_of_ble_eq_true rfl, Nat.le_of_ble_eq_true rfl⟩) rfl hl.1 rfl (Nat.le_of_ble_eq_true rfl) dL_law_978 ⟨by omega, by omega⟩ (fun r1 F1 V1 o1 H locs hq hN => ?_)
  obtain ⟨er, hq0, hq1⟩ := hq
  subst er
  by_cases hf : fCop V (xs (i + 1)) (xs (i + 2)) = 0
  · cases hq0 hf
    refine lv_istore (lv' := [(5, .int (fCop V (xs (i + 1)) (xs (i + 2)))), (0, .ref b), (1, .ref (ad 0)), (2, .ref (ad 43)), (3, .ref (ad 64)), (4, .int (nI i))]) hx hb dL_law_981 hl (by decide) rfl (fun ls hl => ?_)
    refine lv_aload_n hx hb dL_law_983 rfl (lv_at hl 3 rfl) ?_
    refine lv_aload_n hx hb dL_law_984 rfl (lv_at hl 1 rfl) ?_
    refine lv_iload hx hb dL_law_985 (lv_at hl 5 rfl) ?_
    refine lv_iconst (v := 1) hx hb dL_law_987 (by decide) ?_
    refine g_addN (a := i) (b := 1) hx hb rfl rfl dL_law_988 ?_
    refine g_sld hx hb hX hbl hbA hN (j := i + 1) (by omega) hL dL_law_989 ?_
    refine lv_aload_n hx hb dL_law_990 rfl (lv_at hl 1 rfl) ?_
    refine lv_iload hx hb dL_law_991 (lv_at hl 5 rfl) ?_
    refine lv_iconst (v := 2) hx hb dL_law_993 (by decide) ?_
    refine g_addN (a := i) (b := 2) hx hb rfl rfl dL_law_994 ?_
    refine g_sld hx hb hX hbl hbA hN (j := i + 2) (by omega) hL dL_law_995 ?_
    refine g_Vi (As := [.int (xs (i + 1)), .int (xs (i + 2))]) (rest := []) ⟨hx, hb, hml, hown, hts⟩ hG hN (i := 43) (by decide) rfl rfl (c_X10_copy l (xs (i + 1)) (xs (i + 2)) N (hI.v19.trans hN3) hN4) (cwV 2 hts gL_law_X10_copy rfl rfl rfl (by decide +kernel) ⟨Nat.le_of_ble_eq_true rfl, Nat.le_of_ble_eq_true rfl⟩) rfl hl.1 rfl (Nat.le_of_ble_eq_true rfl) dL_law_996 ⟨by omega, by omega⟩ (fun r9 F2 V2 o2 H locs hm hN => ?_)
    simp only [hI.1, hI.2.1] at hm
    obtain ⟨e1, e2, e3, hI2⟩ := LI_rd hI hf hI.1.symm hI.2.1.symm hm
    subst e3
    have e2 : o2 = _ := e2
    rw [e2] at hN
    refine lv_istore (lv' := [(6, .int (rCop F (xs (i + 1)).toNatClampNeg (xs (i + 2)).toNatClampNeg)), (5, .int (fCop V (xs (i + 1)) (xs (i + 2)))), (0, .ref b), (1, .ref (ad 0)), (2, .ref (ad 43)), (3, .ref (ad 64)), (4, .int (nI i))]) hx hb dL_law_999 hl (by decide) rfl (fun ls hl => ?_)
    refine lv_aload_n hx hb dL_law_1001 rfl (lv_at hl 4 rfl) ?_
    refine g_VI (As := []) (rest := []) ⟨hx, hb, hml, hown, hts⟩ hG hN (i := 43) (by decide) rfl rfl (c_X10_thrown l ) (cwV 0 hts gL_law_X10_thrown rfl rfl rfl (by decide +kernel) ⟨Nat.le_of_ble_eq_true rfl, Nat.le_of_ble_eq_true rfl⟩) rfl hl.1 rfl (Nat.le_of_ble_eq_true rfl) dL_law_1002 ⟨by omega, by omega⟩ (fun H locs hN => ?_)
    refine g_top (y := 0) e1 ?_
    refine lv_iload hx hb dL_law_1005 (lv_at hl 1 rfl) ?_
    refine lv_icmp_eq (tgt := 1012) hx hb dL_law_1007 (by decide) (fun _ => ?_) (fun c9 => absurd hf.symm c9)
    refine lv_iload hx hb dL_law_1012 (lv_at hl 1 rfl) ?_
    refine lv_if_ne (tgt := 1029) hx hb dL_law_1014 (by decide) (fun c9 => absurd hf c9) (fun _ => ?_)
    refine lv_aload_n hx hb dL_law_1017 rfl (lv_at hl 5 rfl) ?_
    refine lv_iconst (v := 0) hx hb dL_law_1018 (by decide) ?_
    refine g_lald hx hb hG hN rfl dL_law_1019 ?_
    refine lv_iload hx hb dL_law_1020 (lv_at hl 0 rfl) ?_
    refine lv_i2l hx hb dL_law_1022 rfl ?_
    refine W.lcmp hx hb dL_law_1023 ?_
    refine g_top (y := 0) (lg_self _) ?_
    refine lv_if_eq (tgt := 1029) hx hb dL_law_1024 (by decide) (fun _ => ?_) (fun c1 => False.elim (by revert c1; decide))
    refine lv_goto (tgt := 1101) hx hb dL_law_1029 (by decide) ?_
    refine W.widen (k := cells + 4) (n := slots + 24) (by omega) (by omega) ?_
    exact kk _ _ _ _ _ _ (hI2.mono (by omega)) hN (lv_sub hl [2, 3, 4, 5, 6] rfl)
  · cases hq1 hf
    refine lv_istore (lv' := [(5, .int (fCop V (xs (i + 1)) (xs (i + 2)))), (0, .ref b), (1, .ref (ad 0)), (2, .ref (ad 43)), (3, .ref (ad 64)), (4, .int (nI i))]) hx hb dL_law_981 hl (by decide) rfl (fun ls hl => ?_)
    refine lv_aload_n hx hb dL_law_983 rfl (lv_at hl 3 rfl) ?_
    refine lv_aload_n hx hb dL_law_984 rfl (lv_at hl 1 rfl) ?_
    refine lv_iload hx hb dL_law_985 (lv_at hl 5 rfl) ?_
    refine lv_iconst (v := 1) hx hb dL_law_987 (by decide) ?_
    refine g_addN (a := i) (b := 1) hx hb rfl rfl dL_law_988 ?_
    refine g_sld hx hb hX hbl hbA hN (j := i + 1) (by omega) hL dL_law_989 ?_
    refine lv_aload_n hx hb dL_law_990 rfl (lv_at hl 1 rfl) ?_
    refine lv_iload hx hb dL_law_991 (lv_at hl 5 rfl) ?_
    refine lv_iconst (v := 2) hx hb dL_law_993 (by decide) ?_
    refine g_addN (a := i) (b := 2) hx hb rfl rfl dL_law_994 ?_
    refine g_sld hx hb hX hbl hbA hN (j := i + 2) (by omega) hL dL_law_995 ?_
    refine g_Vi (As := [.int (xs (i + 1)), .int (xs (i + 2))]) (rest := []) ⟨hx, hb, hml, hown, hts⟩ hG hN (i := 43) (by decide) rfl rfl (c_X10_copy l (xs (i + 1)) (xs (i + 2)) N (hI.v19.trans hN3) hN4) (cwV 2 hts gL_law_X10_copy rfl rfl rfl (by decide +kernel) ⟨Nat.le_of_ble_eq_true rfl, Nat.le_of_ble_eq_true rfl⟩) rfl hl.1 rfl (Nat.le_of_ble_eq_true rfl) dL_law_996 ⟨by omega, by omega⟩ (fun r9 F2 V2 o2 H locs hm hN => ?_)
    simp only [hI.1, hI.2.1] at hm
    obtain ⟨e1, e2, hI2⟩ := LI_no hI hf hm
    refine lv_istore (lv' := [(6, .int r9), (5, .int (fCop V (xs (i + 1)) (xs (i + 2)))), (0, .ref b), (1, .ref (ad 0)), (2, .ref (ad 43)), (3, .ref (ad 64)), (4, .int (nI i))]) hx hb dL_law_999 hl (by decide) rfl (fun ls hl => ?_)
    refine lv_aload_n hx hb dL_law_1001 rfl (lv_at hl 4 rfl) ?_
    refine g_VI (As := []) (rest := []) ⟨hx, hb, hml, hown, hts⟩ hG hN (i := 43) (by decide) rfl rfl (c_X10_thrown l ) (cwV 0 hts gL_law_X10_thrown rfl rfl rfl (by decide +kernel) ⟨Nat.le_of_ble_eq_true rfl, Nat.le_of_ble_eq_true rfl⟩) rfl hl.1 rfl (Nat.le_of_ble_eq_true rfl) dL_law_1002 ⟨by omega, by omega⟩ (fun H locs hN => ?_)
    refine g_top (y := fCop V (xs (i + 1)) (xs (i + 2))) e1 ?_
    refine lv_iload hx hb dL_law_1005 (lv_at hl 1 rfl) ?_
    refine lv_icmp_eq (tgt := 1012) hx hb dL_law_1007 (by decide) (fun _ => ?_) (fun c9 => absurd rfl c9)
    refine lv_iload hx hb dL_law_1012 (lv_at hl 1 rfl) ?_
    refine lv_if_ne (tgt := 1029) hx hb dL_law_1014 (by decide) (fun _ => ?_) (fun c9 => absurd c9 hf)
    refine lv_goto (tgt := 1101) hx hb dL_law_1029 (by decide) ?_
    refine W.widen (k := cells + 4) (n := slots + 24) (by omega) (by omega) ?_
    exact kk _ _ _ _ _ _ (hI2.mono (by omega)) hN (lv_sub hl [2, 3, 4, 5, 6] rfl)
set_option maxHeartbeats 4000000 in
set_option maxRecDepth 100000 in
theorem lw_b17 (E : lwE p0 l s0 m0 a0 c0 D ad cs zd b L xs) (hi : i + 5 ≤ L) (hL : L ≤ 2560) (hI : LI F V b9) (hb9 : b9 ≤ 2 ^ 28) (hc : cells + 4 ≤ room_1.cells) (hs : slots + 24 ≤ room_1.slots) (hN : gN D ad cs s0 F V o H locs) (hl : lv_has ls 7 (lwL ad b i))
    (kk : ∀ (F2 V2 : gF) (o2 : gO) (H1 : Heap) (locs1 : List Loc) (ls1 : Array Slot), LI F2 V2 (b9 + 100) → gN D ad cs s0 F2 V2 o2 H1 locs1 → lv_has ls1 7 (lwL ad b i) → W p0 l e0 room_1 s0 m0 a0 b0 k0 c0 H1 locs1 (cells + 4) (slots + 24) Q (F0 m0 1101 ls1 [])) : W p0 l e0 room_1 s0 m0 a0 b0 k0 c0 H locs cells slots Q (F0 m0 1032 ls []) := by
  obtain ⟨hx, hb, hml, hts, hown, hX, hbl, hbA, hl9, hG⟩ := E
  have hl : lv_has ls 7 [(0, .ref b), (1, .ref (ad 0)), (2, .ref (ad 43)), (3, .ref (ad 64)), (4, .int (nI i))] := hl
  obtain ⟨t9, pr9, h, w, -, -, -, -, hh2, hw2, hh, hw, -⟩ := id hI.2.2.1
  refine lv_aload_n hx hb dL_law_1032 rfl (lv_at hl 1 rfl) ?_
  refine g_VI (As := []) (rest := []) ⟨hx, hb, hml, hown, hts⟩ hG hN (i := 0) (by decide) rfl rfl (c_X9_next l h w hh hh2 hw hw2) (cwV 0 hts gL_law_X9_next rfl rfl rfl (by decide +kernel) ⟨Nat.le_of_ble_eq_true rfl, Nat.le_of_ble_eq_true rfl⟩) rfl hl.1 rfl (Nat.le_of_ble_eq_true rfl) dL_law_1033 ⟨by omega, by omega⟩ (fun H locs hN => ?_)
  refine lv_aload_n hx hb dL_law_1036 rfl (lv_at hl 2 rfl) ?_
  refine g_Vi (As := []) (rest := [.int (if w = 0 then -1 else F 36 h)]) ⟨hx, hb, hml, hown, hts⟩ hG hN (i := 43) (by decide) rfl rfl (c_X10_next l h w (hI.v23.trans hh) hh2 (hI.v24.trans hw) hw2) (cwV 0 hts gL_law_X10_next rfl rfl rfl (by decide +kernel) ⟨Nat.le_of_ble_eq_true rfl, Nat.le_of_ble_eq_true rfl⟩) rfl hl.1 rfl (Nat.le_of_ble_eq_true rfl) dL_law_1037 ⟨by omega, by omega⟩ (fun r9 F2 V2 o2 H locs hm hN => ?_)
  simp only [hI.1, hI.2.1] at hm
  obtain ⟨e1, e2, e3, hI2⟩ := LI_rd hI rfl hI.1.symm hI.2.1.symm hm
  refine lv_icmp_eq (tgt := 1101) hx hb dL_law_1040 (by decide) (fun _ => ?_) (fun c9 => absurd e3.symm c9)
  refine W.widen (k := cells + 4) (n := slots + 24) (by omega) (by omega) ?_
  exact kk _ _ _ _ _ _ (hI2.mono (by omega)) hN (lv_sub hl [0, 1, 2, 3, 4] rfl)
set_option maxHeartbeats 4000000 in
set_option maxRecDepth 100000 in
theorem lw_b18 (E : lwE p0 l s0 m0 a0 c0 D ad cs zd b L xs) (hi : i + 5 ≤ L) (hL : L ≤ 2560) (hI : LI F V b9) (hb9 : b9 ≤ 2 ^ 28) (hc : cells + 4 ≤ room_1.cells) (hs : slots + 24 ≤ room_1.slots) (hN : gN D ad cs s0 F V o H locs) (hl : lv_has ls 7 (lwL ad b i))
    (kk : ∀ (F2 V2 : gF) (o2 : gO) (H1 : Heap) (locs1 : List Loc) (ls1 : Array Slot), LI F2 V2 (b9 + 100) → gN D ad cs s0 F2 V2 o2 H1 locs1 → lv_has ls1 7 (lwL ad b i) → W p0 l e0 room_1 s0 m0 a0 b0 k0 c0 H1 locs1 (cells + 4) (slots + 24) Q (F0 m0 1101 ls1 [])) : W p0 l e0 room_1 s0 m0 a0 b0 k0 c0 H locs cells slots Q (F0 m0 1045 ls []) := by
  obtain ⟨hx, hb, hml, hts, hown, hX, hbl, hbA, hl9, hG⟩ := E
  have hl : lv_has ls 7 [(0, .ref b), (1, .ref (ad 0)), (2, .ref (ad 43)), (3, .ref (ad 64)), (4, .int (nI i))] := hl
  refine lv_aload_n hx hb dL_law_1045 rfl (lv_at hl 1 rfl) ?_
  refine lv_aload_n hx hb dL_law_1046 rfl (lv_at hl 0 rfl) ?_
  refine lv_iload hx hb dL_law_1047 (lv_at hl 4 rfl) ?_
  refine lv_iconst (v := 1) hx hb dL_law_1049 (by decide) ?_
  refine g_addN (a := i) (b := 1) hx hb rfl rfl dL_law_1050 ?_
  refine g_sld hx hb hX hbl hbA hN (j := i + 1) (by omega) hL dL_law_1051 ?_
  refine lv_aload_n hx hb dL_law_1052 rfl (lv_at hl 3 rfl) ?_
  refine g_Wi (As := [.ref (ad 0), .int (xs (i + 1)), .ref (ad 64)]) (rest := []) ⟨hx, hb, hml, hown, hts⟩ hG hN (c_L_all l (xs (i + 1)) hl9) (vx_cwSW 3 hts gL_law_L_all rfl rfl rfl (by decide +kernel) ⟨Nat.le_of_ble_eq_true rfl, Nat.le_of_ble_eq_true rfl⟩) rfl hl.1 rfl (Nat.le_of_ble_eq_true rfl) dL_law_1053 ⟨by omega, by omega⟩ (fun r1 F1 V1 o1 H locs hq hN => ?_)
  obtain ⟨er, hq0, hq1⟩ := hq
  subst er
  by_cases hf : fAll (xs (i + 1)) = 0
  · cases hq0 hf
    refine lv_istore (lv' := [(5, .int (fAll (xs (i + 1)))), (0, .ref b), (1, .ref (ad 0)), (2, .ref (ad 43)), (3, .ref (ad 64)), (4, .int (nI i))]) hx hb dL_law_1056 hl (by decide) rfl (fun ls hl => ?_)
    refine lv_aload_n hx hb dL_law_1058 rfl (lv_at hl 3 rfl) ?_
    refine lv_aload_n hx hb dL_law_1059 rfl (lv_at hl 1 rfl) ?_
    refine lv_iload hx hb dL_law_1060 (lv_at hl 5 rfl) ?_
    refine lv_iconst (v := 1) hx hb dL_law_1062 (by decide) ?_
    refine g_addN (a := i) (b := 1) hx hb rfl rfl dL_law_1063 ?_
    refine g_sld hx hb hX hbl hbA hN (j := i + 1) (by omega) hL dL_law_1064 ?_
    refine g_Vi (As := [.int (xs (i + 1))]) (rest := []) ⟨hx, hb, hml, hown, hts⟩ hG hN (i := 43) (by decide) rfl rfl (c_X10_all l (xs (i + 1)) ) (cwV 1 hts gL_law_X10_all rfl rfl rfl (by decide +kernel) ⟨Nat.le_of_ble_eq_true rfl, Nat.le_of_ble_eq_true rfl⟩) rfl hl.1 rfl (Nat.le_of_ble_eq_true rfl) dL_law_1065 ⟨by omega, by omega⟩ (fun r9 F2 V2 o2 H locs hm hN => ?_)
    simp only [hI.1, hI.2.1] at hm
    obtain ⟨e1, e2, e3, hI2⟩ := LI_rd hI hf hI.1.symm hI.2.1.symm hm
    subst e3
    have e2 : o2 = _ := e2
    rw [e2] at hN
    refine lv_istore (lv' := [(6, .int (rAll V (xs (i + 1)))), (5, .int (fAll (xs (i + 1)))), (0, .ref b), (1, .ref (ad 0)), (2, .ref (ad 43)), (3, .ref (ad 64)), (4, .int (nI i))]) hx hb dL_law_1068 hl (by decide) rfl (fun ls hl => ?_)
    refine lv_aload_n hx hb dL_law_1070 rfl (lv_at hl 4 rfl) ?_
    refine g_VI (As := []) (rest := []) ⟨hx, hb, hml, hown, hts⟩ hG hN (i := 43) (by decide) rfl rfl (c_X10_thrown l ) (cwV 0 hts gL_law_X10_thrown rfl rfl rfl (by decide +kernel) ⟨Nat.le_of_ble_eq_true rfl, Nat.le_of_ble_eq_true rfl⟩) rfl hl.1 rfl (Nat.le_of_ble_eq_true rfl) dL_law_1071 ⟨by omega, by omega⟩ (fun H locs hN => ?_)
    refine g_top (y := 0) e1 ?_
    refine lv_iload hx hb dL_law_1074 (lv_at hl 1 rfl) ?_
    refine lv_icmp_eq (tgt := 1081) hx hb dL_law_1076 (by decide) (fun _ => ?_) (fun c9 => absurd hf.symm c9)
    refine lv_iload hx hb dL_law_1081 (lv_at hl 1 rfl) ?_
    refine lv_if_ne (tgt := 1098) hx hb dL_law_1083 (by decide) (fun c9 => absurd hf c9) (fun _ => ?_)
    refine lv_aload_n hx hb dL_law_1086 rfl (lv_at hl 5 rfl) ?_
    refine lv_iconst (v := 0) hx hb dL_law_1087 (by decide) ?_
    refine g_lald hx hb hG hN rfl dL_law_1088 ?_
    refine lv_iload hx hb dL_law_1089 (lv_at hl 0 rfl) ?_
    refine lv_i2l hx hb dL_law_1091 rfl ?_
    refine W.lcmp hx hb dL_law_1092 ?_
    refine g_top (y := 0) (lg_self _) ?_
    refine lv_if_eq (tgt := 1098) hx hb dL_law_1093 (by decide) (fun _ => ?_) (fun c1 => False.elim (by revert c1; decide))
    refine lv_goto (tgt := 1101) hx hb dL_law_1098 (by decide) ?_
    refine W.widen (k := cells + 4) (n := slots + 24) (by omega) (by omega) ?_
    exact kk _ _ _ _ _ _ (hI2.mono (by omega)) hN (lv_sub hl [2, 3, 4, 5, 6] rfl)
  · cases hq1 hf
    refine lv_istore (lv' := [(5, .int (fAll (xs (i + 1)))), (0, .ref b), (1, .ref (ad 0)), (2, .ref (ad 43)), (3, .ref (ad 64)), (4, .int (nI i))]) hx hb dL_law_1056 hl (by decide) rfl (fun ls hl => ?_)
    refine lv_aload_n hx hb dL_law_1058 rfl (lv_at hl 3 rfl) ?_
    refine lv_aload_n hx hb dL_law_1059 rfl (lv_at hl 1 rfl) ?_
    refine lv_iload hx hb dL_law_1060 (lv_at hl 5 rfl) ?_
    refine lv_iconst (v := 1) hx hb dL_law_1062 (by decide) ?_
    refine g_addN (a := i) (b := 1) hx hb rfl rfl dL_law_1063 ?_
    refine g_sld hx hb hX hbl hbA hN (j := i + 1) (by omega) hL dL_law_1064 ?_
    refine g_Vi (As := [.int (xs (i + 1))]) (rest := []) ⟨hx, hb, hml, hown, hts⟩ hG hN (i := 43) (by decide) rfl rfl (c_X10_all l (xs (i + 1)) ) (cwV 1 hts gL_law_X10_all rfl rfl rfl (by decide +kernel) ⟨Nat.le_of_ble_eq_true rfl, Nat.le_of_ble_eq_true rfl⟩) rfl hl.1 rfl (Nat.le_of_ble_eq_true rfl) dL_law_1065 ⟨by omega, by omega⟩ (fun r9 F2 V2 o2 H locs hm hN => ?_)
    simp only [hI.1, hI.2.1] at hm
    obtain ⟨e1, e2, hI2⟩ := LI_no hI hf hm
    refine lv_istore (lv' := [(6, .int r9), (5, .int (fAll (xs (i + 1)))), (0, .ref b), (1, .ref (ad 0)), (2, .ref (ad 43)), (3, .ref (ad 64)), (4, .int (nI i))]) hx hb dL_law_1068 hl (by decide) rfl (fun ls hl => ?_)
    refine lv_aload_n hx hb dL_law_1070 rfl (lv_at hl 4 rfl) ?_
    refine g_VI (As := []) (rest := []) ⟨hx, hb, hml, hown, hts⟩ hG hN (i := 43) (by decide) rfl rfl (c_X10_thrown l ) (cwV 0 hts gL_law_X10_thrown rfl rfl rfl (by decide +kernel) ⟨Nat.le_of_ble_eq_true rfl, Nat.le_of_ble_eq_true rfl⟩) rfl hl.1 rfl (Nat.le_of_ble_eq_true rfl) dL_law_1071 ⟨by omega, by omega⟩ (fun H locs hN => ?_)
    refine g_top (y := fAll (xs (i + 1))) e1 ?_
    refine lv_iload hx hb dL_law_1074 (lv_at hl 1 rfl) ?_
    refine lv_icmp_eq (tgt := 1081) hx hb dL_law_1076 (by decide) (fun _ => ?_) (fun c9 => absurd rfl c9)
    refine lv_iload hx hb dL_law_1081 (lv_at hl 1 rfl) ?_
    refine lv_if_ne (tgt := 1098) hx hb dL_law_1083 (by decide) (fun _ => ?_) (fun c9 => absurd c9 hf)
    refine lv_goto (tgt := 1101) hx hb dL_law_1098 (by decide) ?_
    refine W.widen (k := cells + 4) (n := slots + 24) (by omega) (by omega) ?_
    exact kk _ _ _ _ _ _ (hI2.mono (by omega)) hN (lv_sub hl [2, 3, 4, 5, 6] rfl)
end LB
