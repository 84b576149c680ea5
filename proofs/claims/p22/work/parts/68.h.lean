set_option maxHeartbeats 8000000 in
set_option maxRecDepth 100000 in
theorem c_L_house (l : Launch) (hl9 : l.stackTraces = false) {D : va_G} {cs : Nat → ClassId} {zd : Nat → Nat} {b L sz : Nat} {xs : Nat → Int32} (a : Nat) (hL : L ≤ 260) (ha9 : a ≤ 1000) : Met l yL_house wsL_house ({ frames := 11, cells := 182000, slots := 1080000, locals := 231 } : Room) (hPc D cs zd b L xs sz [.ref b, .int (nI a)]) (dQi (fun r => r = 1) sz) 182000 1080000 (fun q => sz ≤ q) := by
  refine b_met (cc := cL_house) (maxL := 14) (ret := some .boolean) (own := RL) (by decide +kernel) rfl rfl (Nat.le_of_ble_eq_true rfl) ?_
  intro p0 e0 s0 m0 b0 k0 c0 hx hb hr hts hown hlocks hml hB ls hl
  obtain ⟨hsz, hkG, hZ, hM, hX, hbs⟩ := hB
  subst hsz
  have hl : lv_has ls 14 [(0, .ref b), (1, .int (nI a))] := hl
  have hin9 : ∀ w ∈ wsX90, w ∈ wsL_house := hx_wsL_house_wsX90
  have hld_45 := hts (.constant RL 45 (-70008)) (by decide +kernel)
  have hld_119 := hts (.constant RL 119 (1073741824)) (by decide +kernel)
  have hA : ∀ q : Nat, s0.heap.size ≤ q → (fun q : Nat => s0.heap.size ≤ q) q := fun _ h => h
  have hN : kN D (fun q : Nat => s0.heap.size ≤ q) s0.heap [] s0.heap [] := ⟨fun k q h => by simp at h, ⟨fun i j p q h => by simp at h, fun k q h => by simp at h⟩, va_S.rf⟩
  refine va_new (ci := 8) (fs := [.null, .null, .null, .null, .null, .null, .null, .null]) (C := RX9) (T := TX9) (N := 8) hx hb hts hin9 tyX9 tyX9_ok hown (hts (.classLink RL 11 RX9) (by decide +kernel)) (hts (.instantiable RX9 8) (by decide +kernel)) (hts (.initialized RX9) (by decide +kernel)) hkG.1 hN.1 hN.2.1 hN.2.2 hA rfl dfX9 (Nat.le_of_ble_eq_true rfl) (Nat.le_of_ble_eq_true rfl) dL_house_0 (fun q0 H hP hD hS => ?_)
  have hN : kN D (fun q : Nat => s0.heap.size ≤ q) s0.heap [(q0, .inr (8, [.null, .null, .null, .null, .null, .null, .null, .null]))] H _ := ⟨hP, hD, hS⟩
  refine lv_dup hx hb dL_house_3 rfl ?_
  refine k_callI (As := []) (rest := [.ref q0]) (wc := [(q0, .inr (8, [.null, .null, .null, .null, .null, .null, .null, .null]))]) (wr := []) ⟨hx, hb, hml, hown, hts⟩ hkG hN hA [0] [] (by decide) rfl rfl (by decide) (by decide) (c_X9_init l) (cwI 0 hts gL_house_X9_init rfl rfl rfl (hts (.initialized RX9) (by decide +kernel)) (hts (.methodLink RL 118 yX9_init) (by decide +kernel)) (hts (.instanceMethod yX9_init) (by decide +kernel)) rfl (by decide +kernel) ⟨Nat.le_of_ble_eq_true rfl, Nat.le_of_ble_eq_true rfl⟩) rfl hl.1 rfl (Nat.le_of_ble_eq_true rfl) dL_house_4 ⟨Nat.le_of_ble_eq_true rfl, Nat.le_of_ble_eq_true rfl⟩ (fun r4 H locs hN => ?_)
  refine W.widen (k := 43) (n := 1675) (Nat.le_of_ble_eq_true rfl) (Nat.le_of_ble_eq_true rfl) ?_
  have hN : kN D (fun q : Nat => s0.heap.size ≤ q) s0.heap (kX9 cs q0 r4) H locs := hN
  refine lv_astore_n (lv' := [(2, .ref q0), (0, .ref b), (1, .int (nI a))]) hx hb dL_house_7 rfl hl (by decide) rfl (fun ls hl => ?_)
  have hP8 := hN.1
  have hD8 := hN.2.1
  have hS8 := hN.2.2
  have hac := hts (.arrayClass .int) (by decide +kernel)
  refine lv_bipush (v := 9) hx hb dL_house_8 (by decide) ?_
  refine g_newa (N' := 9) hx hb hac hkG.1 hP8 hD8 hS8 hA (by decide) rfl (Nat.le_of_ble_eq_true rfl) (Nat.le_of_ble_eq_true rfl) (Nat.le_of_ble_eq_true rfl) dL_house_10 (fun q8 H hP8 hD8 hS8 => ?_)
  refine lv_astore_n (lv' := [(3, .ref q8), (2, .ref q0), (0, .ref b), (1, .int (nI a))]) hx hb dL_house_12 rfl hl (by decide) rfl (fun ls hl => ?_)
  refine lv_bipush (v := 32) hx hb dL_house_13 (by decide) ?_
  refine g_newa (N' := 32) hx hb hac hkG.1 hP8 hD8 hS8 hA (by decide) rfl (Nat.le_of_ble_eq_true rfl) (Nat.le_of_ble_eq_true rfl) (Nat.le_of_ble_eq_true rfl) dL_house_15 (fun q13 H hP8 hD8 hS8 => ?_)
  refine lv_astore (lv' := [(4, .ref q13), (3, .ref q8), (2, .ref q0), (0, .ref b), (1, .int (nI a))]) hx hb dL_house_17 hl (by decide) rfl (fun ls hl => ?_)
  refine lv_bipush (v := 40) hx hb dL_house_19 (by decide) ?_
  refine g_newa (N' := 40) hx hb hac hkG.1 hP8 hD8 hS8 hA (by decide) rfl (Nat.le_of_ble_eq_true rfl) (Nat.le_of_ble_eq_true rfl) (Nat.le_of_ble_eq_true rfl) dL_house_21 (fun q19 H hP8 hD8 hS8 => ?_)
  refine lv_astore (lv' := [(5, .ref q19), (4, .ref q13), (3, .ref q8), (2, .ref q0), (0, .ref b), (1, .int (nI a))]) hx hb dL_house_23 hl (by decide) rfl (fun ls hl => ?_)
  refine lv_bipush (v := 8) hx hb dL_house_25 (by decide) ?_
  refine g_newa (N' := 8) hx hb hac hkG.1 hP8 hD8 hS8 hA (by decide) rfl (Nat.le_of_ble_eq_true rfl) (Nat.le_of_ble_eq_true rfl) (Nat.le_of_ble_eq_true rfl) dL_house_27 (fun q25 H hP8 hD8 hS8 => ?_)
  refine lv_astore (lv' := [(6, .ref q25), (5, .ref q19), (4, .ref q13), (3, .ref q8), (2, .ref q0), (0, .ref b), (1, .int (nI a))]) hx hb dL_house_29 hl (by decide) rfl (fun ls hl => ?_)
  refine lv_bipush (v := 8) hx hb dL_house_31 (by decide) ?_
  refine g_newa (N' := 8) hx hb hac hkG.1 hP8 hD8 hS8 hA (by decide) rfl (Nat.le_of_ble_eq_true rfl) (Nat.le_of_ble_eq_true rfl) (Nat.le_of_ble_eq_true rfl) dL_house_33 (fun q31 H hP8 hD8 hS8 => ?_)
  refine lv_astore (lv' := [(7, .ref q31), (6, .ref q25), (5, .ref q19), (4, .ref q13), (3, .ref q8), (2, .ref q0), (0, .ref b), (1, .int (nI a))]) hx hb dL_house_35 hl (by decide) rfl (fun ls hl => ?_)
  obtain ⟨ad, e0, e43, e44, e45, e46, e47, hlo8, hW⟩ := h_world hP8 hD8 hS8
  subst e0 e43 e44 e45 e46 e47
  have hlo0 : ∀ i, i < 48 → s0.heap.size ≤ ad i := fun i hi => hW.2.1.2 i _ (gW_at ad cs F00 V00 0 hi)
  have hlo : ∀ i, 48 ≤ i → s0.heap.size ≤ ad i := fun i hi => Nat.le_trans hW.2.2.1 (hlo8.1 i hi)
  have hgx : ∀ q, gX ad s0.heap.size q → s0.heap.size ≤ q := fun q h => h.elim (fun ⟨i, e⟩ => by rw [e]; by_cases c9 : i < 48; exact hlo0 i c9; exact hlo i (by omega)) (fun h => h)
  have hG : gG D ad cs zd s0 := ⟨hkG.1, hlo8.2, hZ.narrow hgx, hM⟩
  have hN : gN D ad cs s0 F00 V00 0 H locs := ⟨hW.1, hW.2.2.1, fun q h1 _ => hW.2.2.2.1 q h1 (Nat.not_le.mpr h1), fun x hx => Or.inr (hW.2.2.2.2 x hx)⟩
  have hbA : ¬ gX ad s0.heap.size b := fun h => absurd (hgx b h) (Nat.not_le.mpr hbs)
  clear hW hlo8 hP8 hD8 hS8
  generalize hQ9 : MQ b0 (dQi (fun r => r = 1) s0.heap.size) ([.ref b, .int (nI a)] : List Value).toArray s0 182000 1080000 (fun q => s0.heap.size ≤ q) = Q9
  refine lv_aload_n hx hb dL_house_37 rfl (lv_at hl 5 rfl) ?_
  refine lv_iconst (v := 3) hx hb dL_house_38 (by decide) ?_
  refine lv_iconst (v := 0) hx hb dL_house_39 (by decide) ?_
  refine lv_iconst (v := 0) hx hb dL_house_40 (by decide) ?_
  refine lv_iconst (v := 0) hx hb dL_house_41 (by decide) ?_
  refine g_WI (As := [.ref (ad 0), .int 3, .int 0, .int 0, .int 0]) (rest := []) ⟨hx, hb, hml, hown, hts⟩ hG hN (c_L_asks3 l hl9 rfl (by decide)) (vx_cwSW 5 hts gL_house_L_asks rfl rfl rfl (by decide +kernel) ⟨Nat.le_of_ble_eq_true rfl, Nat.le_of_ble_eq_true rfl⟩) rfl hl.1 rfl (Nat.le_of_ble_eq_true rfl) dL_house_42 ⟨Nat.le_of_ble_eq_true rfl, Nat.le_of_ble_eq_true rfl⟩ (fun H locs hN => ?_)
  refine lv_ldc hx hb hown hld_45 dL_house_45 ?_
  refine lv_icmp_ne (tgt := 54) hx hb dL_house_47 (by decide) (fun c1 => False.elim (by revert c1; decide)) (fun _ => ?_)
  refine lv_iconst (v := 1) hx hb dL_house_50 (by decide) ?_
  refine lv_goto (tgt := 55) hx hb dL_house_51 (by decide) ?_
  refine lv_istore (lv' := [(8, .int 1), (7, .ref (ad 47)), (6, .ref (ad 46)), (5, .ref (ad 45)), (4, .ref (ad 44)), (3, .ref (ad 43)), (2, .ref (ad 0)), (0, .ref b), (1, .int (nI a))]) hx hb dL_house_55 hl (by decide) rfl (fun ls hl => ?_)
  refine lv_aload_n hx hb dL_house_57 rfl (lv_at hl 5 rfl) ?_
  refine lv_iconst (v := 0) hx hb dL_house_58 (by decide) ?_
  refine lv_bipush (v := 50) hx hb dL_house_59 (by decide) ?_
  refine g_iast hx hb hG hN (i := 43) (n := 9) (j := 0) (by decide) (fun _ => rfl) (by decide) (by omega) rfl dL_house_61 (fun H locs hN => ?_)
  refine lv_aload_n hx hb dL_house_62 rfl (lv_at hl 5 rfl) ?_
  refine lv_iconst (v := 1) hx hb dL_house_63 (by decide) ?_
  refine lv_sipush (v := 300) hx hb dL_house_64 (by decide) ?_
  refine g_iast hx hb hG hN (i := 43) (n := 9) (j := 1) (by decide) (fun _ => rfl) (by decide) (by omega) rfl dL_house_67 (fun H locs hN => ?_)
  refine lv_aload_n hx hb dL_house_68 rfl (lv_at hl 5 rfl) ?_
  refine lv_bipush (v := 7) hx hb dL_house_69 (by decide) ?_
  refine lv_iconst (v := 2) hx hb dL_house_71 (by decide) ?_
  refine g_iast hx hb hG hN (i := 43) (n := 9) (j := 7) (by decide) (fun _ => rfl) (by decide) (by omega) rfl dL_house_72 (fun H locs hN => ?_)
  refine lv_aload_n hx hb dL_house_73 rfl (lv_at hl 5 rfl) ?_
  refine lv_bipush (v := 8) hx hb dL_house_74 (by decide) ?_
  refine lv_bipush (v := 10) hx hb dL_house_76 (by decide) ?_
  refine g_iast hx hb hG hN (i := 43) (n := 9) (j := 8) (by decide) (fun _ => rfl) (by decide) (by omega) rfl dL_house_78 (fun H locs hN => ?_)
  have hN : gN D ad cs s0 (inF Z00 0) V00 0 H locs := by rw [inF_0]; exact hN
  refine lv_iconst (v := 0) hx hb dL_house_79 (by decide) ?_
  refine lv_istore (lv' := [(9, .int 0), (8, .int 1), (7, .ref (ad 47)), (6, .ref (ad 46)), (5, .ref (ad 45)), (4, .ref (ad 44)), (3, .ref (ad 43)), (2, .ref (ad 0)), (0, .ref b), (1, .int (nI a))]) hx hb dL_house_80 hl (by decide) rfl (fun ls hl => ?_)
  have L2 : ∀ (d9_82 : Nat) (j : Nat) (H : Heap) (locs : List Loc) (ls : Array Slot), 32 - j = d9_82 → (j ≤ 32) → gN D ad cs s0 (inF Z00 j) V00 0 H locs → lv_has ls 14 [(0, .ref b), (1, .int (nI a)), (2, .ref (ad 0)), (3, .ref (ad 43)), (4, .ref (ad 44)), (5, .ref (ad 45)), (6, .ref (ad 46)), (7, .ref (ad 47)), (8, .int 1), (9, .int (nI j))] → W p0 l e0 ({ frames := 11, cells := 182000, slots := 1080000, locals := 231 } : Room) s0 m0 ([.ref b, .int (nI a)] : List Value).toArray b0 k0 c0 H locs 50 1784 Q9 (F0 m0 82 ls []) := by
    intro d9_82
    induction d9_82 with
    | zero =>
      intro j H locs ls hd_82 hj hN hl
      refine lv_iload hx hb dL_house_82 (lv_at hl 9 rfl) ?_
      refine lv_bipush (v := 32) hx hb dL_house_84 (by decide) ?_
      refine g_cN_ge (a := j) (b := 32) (tgt := 112) hx hb dL_house_86 (by decide) rfl rfl (by omega) (by omega) (fun c3 => ?_) (fun c3 => absurd c3 (by omega))
      obtain rfl : j = 32 := by omega
      refine lv_iconst (v := 0) hx hb dL_house_112 (by decide) ?_
      refine lv_istore (lv' := [(9, .int 0), (0, .ref b), (1, .int (nI a)), (2, .ref (ad 0)), (3, .ref (ad 43)), (4, .ref (ad 44)), (5, .ref (ad 45)), (6, .ref (ad 46)), (7, .ref (ad 47)), (8, .int 1)]) hx hb dL_house_113 hl (by decide) rfl (fun ls hl => ?_)
      have L4 : ∀ (d9_115 : Nat) (j : Nat) (X : gF) (H : Heap) (locs : List Loc) (ls : Array Slot), 64 - j = d9_115 → (j ≤ 64) → (PI X V00 0) → gN D ad cs s0 X V00 0 H locs → lv_has ls 14 [(0, .ref b), (1, .int (nI a)), (2, .ref (ad 0)), (3, .ref (ad 43)), (4, .ref (ad 44)), (5, .ref (ad 45)), (6, .ref (ad 46)), (7, .ref (ad 47)), (8, .int 1), (9, .int (nI j))] → W p0 l e0 ({ frames := 11, cells := 182000, slots := 1080000, locals := 231 } : Room) s0 m0 ([.ref b, .int (nI a)] : List Value).toArray b0 k0 c0 H locs (50 + 4 * j) (1784 + 24 * j) Q9 (F0 m0 115 ls []) := by
        intro d9_115
        induction d9_115 with
        | zero =>
          intro j X H locs ls hd_115 hj hX9 hN hl
          refine lv_iload hx hb dL_house_115 (lv_at hl 9 rfl) ?_
          refine lv_bipush (v := 64) hx hb dL_house_117 (by decide) ?_
          refine g_cN_ge (a := j) (b := 64) (tgt := 168) hx hb dL_house_119 (by decide) rfl rfl (by omega) (by omega) (fun c5 => ?_) (fun c5 => absurd c5 (by omega))
          obtain rfl : j = 64 := by omega
          refine lv_iconst (v := 0) hx hb dL_house_168 (by decide) ?_
          refine lv_istore (lv' := [(9, .int 0), (0, .ref b), (1, .int (nI a)), (2, .ref (ad 0)), (3, .ref (ad 43)), (4, .ref (ad 44)), (5, .ref (ad 45)), (6, .ref (ad 46)), (7, .ref (ad 47)), (8, .int 1)]) hx hb dL_house_169 hl (by decide) rfl (fun ls hl => ?_)
          have L6 : ∀ (d9_171 : Nat) (j : Nat) (X : gF) (Y : gF) (H : Heap) (locs : List Loc) (ls : Array Slot), 90 - j = d9_171 → (j ≤ 90) → (PI X Y j) → gN D ad cs s0 X Y 0 H locs → lv_has ls 14 [(0, .ref b), (1, .int (nI a)), (2, .ref (ad 0)), (3, .ref (ad 43)), (4, .ref (ad 44)), (5, .ref (ad 45)), (6, .ref (ad 46)), (7, .ref (ad 47)), (8, .int 1), (9, .int (nI j))] → W p0 l e0 ({ frames := 11, cells := 182000, slots := 1080000, locals := 231 } : Room) s0 m0 ([.ref b, .int (nI a)] : List Value).toArray b0 k0 c0 H locs (50 + 4 * 64 + 2000 * j) (1784 + 24 * 64 + 11800 * j) Q9 (F0 m0 171 ls []) := by
            intro d9_171
            induction d9_171 with
            | zero =>
              intro j X Y H locs ls hd_171 hj hP hN hl
              refine lv_iload hx hb dL_house_171 (lv_at hl 9 rfl) ?_
              refine lv_bipush (v := 90) hx hb dL_house_173 (by decide) ?_
              refine g_cN_ge (a := j) (b := 90) (tgt := 458) hx hb dL_house_175 (by decide) rfl rfl (by omega) (by omega) (fun c7 => ?_) (fun c7 => absurd c7 (by omega))
              obtain rfl : j = 90 := by omega
              refine lv_iload hx hb dL_house_458 (lv_at hl 8 rfl) ?_
              refine lv_if_eq (tgt := 483) hx hb dL_house_460 (by decide) (fun c8 => False.elim (by revert c8; decide)) (fun _ => ?_)
              refine lv_aload_n hx hb dL_house_463 rfl (lv_at hl 2 rfl) ?_
              refine lv_bipush (v := 77) hx hb dL_house_464 (by decide) ?_
              refine lv_aload_n hx hb dL_house_466 rfl (lv_at hl 3 rfl) ?_
              refine lv_aload hx hb dL_house_467 (lv_at hl 4 rfl) ?_
              refine lv_aload hx hb dL_house_469 (lv_at hl 5 rfl) ?_
              refine lv_aload hx hb dL_house_471 (lv_at hl 6 rfl) ?_
              refine g_SI (As := [.ref (ad 0), .int 77, .ref (ad 43), .ref (ad 44), .ref (ad 45), .ref (ad 46)]) (rest := []) ⟨hx, hb, hml, hown, hts⟩ hG hN (c_L_isSound l hl9 77 90 (by omega) (by omega) hP) (va_cwS 6 hts gL_house_L_isSound rfl rfl rfl (by decide +kernel) ⟨Nat.le_of_ble_eq_true rfl, Nat.le_of_ble_eq_true rfl⟩) rfl hl.1 rfl (Nat.le_of_ble_eq_true rfl) dL_house_473 ⟨by show _ ≤ 182000; omega, by show _ ≤ 1080000; omega⟩ (fun H locs hN => ?_)
              refine lv_if_eq (tgt := 483) hx hb dL_house_476 (by decide) (fun c9 => False.elim (by revert c9; decide)) (fun _ => ?_)
              refine lv_iconst (v := 1) hx hb dL_house_479 (by decide) ?_
              refine lv_goto (tgt := 484) hx hb dL_house_480 (by decide) ?_
              subst hQ9
              refine W.widen (k := 182000) (n := 1080000) (by omega) (by omega) ?_
              exact W.zret (v := 1) hx hb hr (by decide) (fun t ht _ => ⟨⟨1, (), rfl, rfl, trivial⟩, (va_Sm hN.2 hgx).F ht⟩) (va_Sm hN.2 hgx).2.2 dL_house_484 hlocks
            | succ d9_171 ih171 =>
              intro j X Y H locs ls hd_171 hj hP hN hl
              refine lv_iload hx hb dL_house_171 (lv_at hl 9 rfl) ?_
              refine lv_bipush (v := 90) hx hb dL_house_173 (by decide) ?_
              refine g_cN_ge (a := j) (b := 90) (tgt := 458) hx hb dL_house_175 (by decide) rfl rfl (by omega) (by omega) (fun c10 => absurd c10 (by omega)) (fun c10 => ?_)
              refine lv_iload hx hb dL_house_178 (lv_at hl 8 rfl) ?_
              refine lv_if_eq (tgt := 458) hx hb dL_house_180 (by decide) (fun c11 => False.elim (by revert c11; decide)) (fun _ => ?_)
              refine lv_aload_n hx hb dL_house_183 rfl (lv_at hl 0 rfl) ?_
              refine lv_iload_n hx hb dL_house_184 rfl (lv_at hl 1 rfl) ?_
              refine lv_bipush (v := 64) hx hb dL_house_185 (by decide) ?_
              refine g_addN (a := a) (b := 64) hx hb rfl rfl dL_house_187 ?_
              refine lv_iconst (v := 2) hx hb dL_house_188 (by decide) ?_
              refine lv_iload hx hb dL_house_189 (lv_at hl 9 rfl) ?_
              refine g_mulN (a := 2) (b := j) hx hb rfl rfl dL_house_191 ?_
              refine g_addN (a := a + 64) (b := 2 * j) hx hb rfl rfl dL_house_192 ?_
              refine lv_ldc hx hb hown hld_119 dL_house_193 ?_
              refine g_draw (As := [.ref b, .int (nI ((a + 64) + (2 * j))), .int 1073741824]) (rest := []) ⟨hx, hb, hml, hown, hts⟩ hX hbs hbA hN (c_L_draw l ((a + 64) + (2 * j)) 1073741824 (Nat.lt_of_lt_of_le hbs hN.2.1) hL (by omega) (by decide) (by decide)) (va_cwS 3 hts gL_house_L_draw rfl rfl rfl (by decide +kernel) ⟨Nat.le_of_ble_eq_true rfl, Nat.le_of_ble_eq_true rfl⟩) rfl hl.1 rfl (Nat.le_of_ble_eq_true rfl) dL_house_195 ⟨by show _ ≤ 182000; omega, by show _ ≤ 1080000; omega⟩ (fun r195 H locs hr195 hN => ?_)
              obtain ⟨x195, hx195, ex195⟩ := hr195
              subst ex195
              refine lv_istore (lv' := [(10, .int (nI x195)), (0, .ref b), (1, .int (nI a)), (2, .ref (ad 0)), (3, .ref (ad 43)), (4, .ref (ad 44)), (5, .ref (ad 45)), (6, .ref (ad 46)), (7, .ref (ad 47)), (8, .int 1), (9, .int (nI j))]) hx hb dL_house_198 hl (by decide) rfl (fun ls hl => ?_)
              refine lv_aload_n hx hb dL_house_200 rfl (lv_at hl 1 rfl) ?_
              refine lv_iload_n hx hb dL_house_201 rfl (lv_at hl 2 rfl) ?_
              refine lv_bipush (v := 65) hx hb dL_house_202 (by decide) ?_
              refine g_addN (a := a) (b := 65) hx hb rfl rfl dL_house_204 ?_
              refine lv_iconst (v := 2) hx hb dL_house_205 (by decide) ?_
              refine lv_iload hx hb dL_house_206 (lv_at hl 10 rfl) ?_
              refine g_mulN (a := 2) (b := j) hx hb rfl rfl dL_house_208 ?_
              refine g_addN (a := a + 65) (b := 2 * j) hx hb rfl rfl dL_house_209 ?_
              refine lv_ldc hx hb hown hld_119 dL_house_210 ?_
              refine g_draw (As := [.ref b, .int (nI ((a + 65) + (2 * j))), .int 1073741824]) (rest := []) ⟨hx, hb, hml, hown, hts⟩ hX hbs hbA hN (c_L_draw l ((a + 65) + (2 * j)) 1073741824 (Nat.lt_of_lt_of_le hbs hN.2.1) hL (by omega) (by decide) (by decide)) (va_cwS 3 hts gL_house_L_draw rfl rfl rfl (by decide +kernel) ⟨Nat.le_of_ble_eq_true rfl, Nat.le_of_ble_eq_true rfl⟩) rfl hl.1 rfl (Nat.le_of_ble_eq_true rfl) dL_house_212 ⟨by show _ ≤ 182000; omega, by show _ ≤ 1080000; omega⟩ (fun r212 H locs hr212 hN => ?_)
              obtain ⟨x212, hx212, ex212⟩ := hr212
              subst ex212
              refine lv_istore (lv' := [(11, .int (nI x212)), (10, .int (nI x195)), (0, .ref b), (1, .int (nI a)), (2, .ref (ad 0)), (3, .ref (ad 43)), (4, .ref (ad 44)), (5, .ref (ad 45)), (6, .ref (ad 46)), (7, .ref (ad 47)), (8, .int 1), (9, .int (nI j))]) hx hb dL_house_215 hl (by decide) rfl (fun ls hl => ?_)
              refine lv_iload hx hb dL_house_217 (lv_at hl 1 rfl) ?_
              refine lv_bipush (v := 16) hx hb dL_house_219 (by decide) ?_
              refine g_remN (a := x195) (b := 16) hx hb rfl rfl (by omega) (by omega) (by omega) dL_house_221 ?_
              refine lv_istore (lv' := [(12, .int (nI (x195 % 16))), (11, .int (nI x212)), (10, .int (nI x195)), (0, .ref b), (1, .int (nI a)), (2, .ref (ad 0)), (3, .ref (ad 43)), (4, .ref (ad 44)), (5, .ref (ad 45)), (6, .ref (ad 46)), (7, .ref (ad 47)), (8, .int 1), (9, .int (nI j))]) hx hb dL_house_222 hl (by decide) rfl (fun ls hl => ?_)
              have J12 : ∀ (X2 : gF) (Y2 : gF) (H : Heap) (locs : List Loc) (ls : Array Slot), (PI X2 Y2 (j + 1)) → gN D ad cs s0 X2 Y2 0 H locs → lv_has ls 14 [(0, .ref b), (1, .int (nI a)), (2, .ref (ad 0)), (3, .ref (ad 43)), (4, .ref (ad 44)), (5, .ref (ad 45)), (6, .ref (ad 46)), (7, .ref (ad 47)), (8, .int 1), (9, .int (nI j)), (11, .int (nI x212))] → W p0 l e0 ({ frames := 11, cells := 182000, slots := 1080000, locals := 231 } : Room) s0 m0 ([.ref b, .int (nI a)] : List Value).toArray b0 k0 c0 H locs (850 + 4 * 64 + 2000 * j) (6584 + 24 * 64 + 11800 * j) Q9 (F0 m0 414 ls []) := by
                intro X2 Y2 H locs ls hPw hN hl
                refine lv_iload hx hb dL_house_414 (lv_at hl 8 rfl) ?_
                refine lv_if_eq (tgt := 449) hx hb dL_house_416 (by decide) (fun c13 => False.elim (by revert c13; decide)) (fun _ => ?_)
                refine lv_iload hx hb dL_house_419 (lv_at hl 9 rfl) ?_
                refine lv_bipush (v := 10) hx hb dL_house_421 (by decide) ?_
                refine g_remN (a := j) (b := 10) hx hb rfl rfl (by omega) (by omega) (by omega) dL_house_423 ?_
                refine lv_bipush (v := 9) hx hb dL_house_424 (by decide) ?_
                refine g_cN_lt (a := j % 10) (b := 9) (tgt := 445) hx hb dL_house_426 (by decide) rfl rfl (by omega) (by omega) (fun c14 => ?_) (fun c14 => ?_)
                · refine lv_iconst (v := 1) hx hb dL_house_445 (by decide) ?_
                  refine lv_goto (tgt := 450) hx hb dL_house_446 (by decide) ?_
                  refine lv_istore (lv' := [(8, .int 1), (0, .ref b), (1, .int (nI a)), (2, .ref (ad 0)), (3, .ref (ad 43)), (4, .ref (ad 44)), (5, .ref (ad 45)), (6, .ref (ad 46)), (7, .ref (ad 47)), (9, .int (nI j)), (11, .int (nI x212))]) hx hb dL_house_450 hl (by decide) rfl (fun ls hl => ?_)
                  refine lv_iinc (v := (nI (j + 1))) (lv' := [(9, .int (nI (j + 1))), (8, .int 1), (0, .ref b), (1, .int (nI a)), (2, .ref (ad 0)), (3, .ref (ad 43)), (4, .ref (ad 44)), (5, .ref (ad 45)), (6, .ref (ad 46)), (7, .ref (ad 47)), (11, .int (nI x212))]) hx hb dL_house_452 hl (k := 9) rfl (nI_1 _) (by decide) rfl (fun ls hl => ?_)
                  refine lv_goto (tgt := 171) hx hb dL_house_455 (by decide) ?_
                  refine W.widen (k := (50 + 4 * 64 + 2000 * (j + 1))) (n := (1784 + 24 * 64 + 11800 * (j + 1))) (by omega) (by omega) ?_
                  exact ih171 (j + 1) X2 Y2 _ _ ls (by omega) (by omega) (hPw) hN (lv_sub hl [2, 3, 4, 5, 6, 7, 8, 9, 1, 0] rfl)
                · refine lv_aload_n hx hb dL_house_429 rfl (lv_at hl 2 rfl) ?_
                  refine lv_iload hx hb dL_house_430 (lv_at hl 10 rfl) ?_
                  refine lv_aload_n hx hb dL_house_432 rfl (lv_at hl 3 rfl) ?_
                  refine lv_aload hx hb dL_house_433 (lv_at hl 4 rfl) ?_
                  refine lv_aload hx hb dL_house_435 (lv_at hl 5 rfl) ?_
                  refine lv_aload hx hb dL_house_437 (lv_at hl 6 rfl) ?_
                  refine g_SI (As := [.ref (ad 0), .int (nI x212), .ref (ad 43), .ref (ad 44), .ref (ad 45), .ref (ad 46)]) (rest := []) ⟨hx, hb, hml, hown, hts⟩ hG hN (c_L_isSound l hl9 x212 (j + 1) (by omega) (by omega) hPw) (va_cwS 6 hts gL_house_L_isSound rfl rfl rfl (by decide +kernel) ⟨Nat.le_of_ble_eq_true rfl, Nat.le_of_ble_eq_true rfl⟩) rfl hl.1 rfl (Nat.le_of_ble_eq_true rfl) dL_house_439 ⟨by show _ ≤ 182000; omega, by show _ ≤ 1080000; omega⟩ (fun H locs hN => ?_)
                  refine lv_if_eq (tgt := 449) hx hb dL_house_442 (by decide) (fun c15 => False.elim (by revert c15; decide)) (fun _ => ?_)
                  refine lv_iconst (v := 1) hx hb dL_house_445 (by decide) ?_
                  refine lv_goto (tgt := 450) hx hb dL_house_446 (by decide) ?_
                  refine lv_istore (lv' := [(8, .int 1), (0, .ref b), (1, .int (nI a)), (2, .ref (ad 0)), (3, .ref (ad 43)), (4, .ref (ad 44)), (5, .ref (ad 45)), (6, .ref (ad 46)), (7, .ref (ad 47)), (9, .int (nI j)), (11, .int (nI x212))]) hx hb dL_house_450 hl (by decide) rfl (fun ls hl => ?_)
                  refine lv_iinc (v := (nI (j + 1))) (lv' := [(9, .int (nI (j + 1))), (8, .int 1), (0, .ref b), (1, .int (nI a)), (2, .ref (ad 0)), (3, .ref (ad 43)), (4, .ref (ad 44)), (5, .ref (ad 45)), (6, .ref (ad 46)), (7, .ref (ad 47)), (11, .int (nI x212))]) hx hb dL_house_452 hl (k := 9) rfl (nI_1 _) (by decide) rfl (fun ls hl => ?_)
                  refine lv_goto (tgt := 171) hx hb dL_house_455 (by decide) ?_
                  refine W.widen (k := (50 + 4 * 64 + 2000 * (j + 1))) (n := (1784 + 24 * 64 + 11800 * (j + 1))) (by omega) (by omega) ?_
                  exact ih171 (j + 1) X2 Y2 _ _ ls (by omega) (by omega) (hPw) hN (lv_sub hl [2, 3, 4, 5, 6, 7, 8, 9, 1, 0] rfl)
              refine lv_iload hx hb dL_house_224 (lv_at hl 0 rfl) ?_
              refine lv_iconst (v := 3) hx hb dL_house_226 (by decide) ?_
              refine g_cN_ge (a := x195 % 16) (b := 3) (tgt := 247) hx hb dL_house_227 (by decide) rfl rfl (by omega) (by omega) (fun c16 => ?_) (fun c16 => ?_)
              · refine lv_iload hx hb dL_house_247 (lv_at hl 0 rfl) ?_
                refine lv_iconst (v := 3) hx hb dL_house_249 (by decide) ?_
                refine g_cN_ne (a := x195 % 16) (b := 3) (tgt := 290) hx hb dL_house_250 (by decide) rfl rfl (by omega) (by omega) (fun c17 => ?_) (fun c17 => ?_)
                · refine lv_iload hx hb dL_house_290 (lv_at hl 0 rfl) ?_
                  refine lv_iconst (v := 4) hx hb dL_house_292 (by decide) ?_
                  refine g_cN_ne (a := x195 % 16) (b := 4) (tgt := 369) hx hb dL_house_293 (by decide) rfl rfl (by omega) (by omega) (fun c18 => ?_) (fun c18 => ?_)
                  · refine lv_iload hx hb dL_house_369 (lv_at hl 0 rfl) ?_
                    refine lv_bipush (v := 12) hx hb dL_house_371 (by decide) ?_
                    refine g_cN_ge (a := x195 % 16) (b := 12) (tgt := 392) hx hb dL_house_373 (by decide) rfl rfl (by omega) (by omega) (fun c19 => ?_) (fun c19 => ?_)
                    · refine lv_aload_n hx hb dL_house_392 rfl (lv_at hl 5 rfl) ?_
                      refine lv_iload hx hb dL_house_393 (lv_at hl 2 rfl) ?_
                      refine lv_bipush (v := 16) hx hb dL_house_395 (by decide) ?_
                      refine g_divN (a := x195) (b := 16) hx hb rfl rfl (by omega) (by omega) (by omega) dL_house_397 ?_
                      refine lv_iload hx hb dL_house_398 (lv_at hl 1 rfl) ?_
                      refine lv_aload_n hx hb dL_house_400 rfl (lv_at hl 6 rfl) ?_
                      refine lv_aload hx hb dL_house_401 (lv_at hl 7 rfl) ?_
                      refine lv_aload hx hb dL_house_403 (lv_at hl 8 rfl) ?_
                      refine lv_aload hx hb dL_house_405 (lv_at hl 9 rfl) ?_
                      refine lv_aload hx hb dL_house_407 (lv_at hl 10 rfl) ?_
                      refine g_Si (As := [.ref (ad 0), .int (nI (x195 / 16)), .int (nI x212), .ref (ad 43), .ref (ad 44), .ref (ad 45), .ref (ad 46), .ref (ad 47)]) (rest := []) ⟨hx, hb, hml, hown, hts⟩ hG hN (c_L_others l hl9 (x195 / 16) x212 j (by omega) (by omega) (by omega) hP) (va_cwS 8 hts gL_house_L_others rfl rfl rfl (by decide +kernel) ⟨Nat.le_of_ble_eq_true rfl, Nat.le_of_ble_eq_true rfl⟩) rfl hl.1 rfl (Nat.le_of_ble_eq_true rfl) dL_house_409 ⟨by show _ ≤ 182000; omega, by show _ ≤ 1080000; omega⟩ (fun r20 Fq21 Vq22 oq23 H locs hq24 hN => ?_)
                      obtain ⟨er9, eo9, hPq⟩ := hq24
                      dsimp only at eo9 hPq
                      subst eo9
                      refine g_top (y := 1) er9 ?_
                      refine lv_istore (lv' := [(8, .int 1), (12, .int (nI (x195 % 16))), (11, .int (nI x212)), (10, .int (nI x195)), (0, .ref b), (1, .int (nI a)), (2, .ref (ad 0)), (3, .ref (ad 43)), (4, .ref (ad 44)), (5, .ref (ad 45)), (6, .ref (ad 46)), (7, .ref (ad 47)), (9, .int (nI j))]) hx hb dL_house_412 hl (by decide) rfl (fun ls hl => ?_)
                      refine W.widen (k := (850 + 4 * 64 + 2000 * j)) (n := (6584 + 24 * 64 + 11800 * j)) (by omega) (by omega) ?_
                      exact J12 Fq21 Vq22 _ _ ls ((hPq).mono) hN (lv_sub hl [4, 5, 6, 7, 8, 9, 10, 11, 0, 12, 2] rfl)
                    · refine lv_aload_n hx hb dL_house_376 rfl (lv_at hl 5 rfl) ?_
                      refine lv_aload_n hx hb dL_house_377 rfl (lv_at hl 6 rfl) ?_
                      refine lv_aload hx hb dL_house_378 (lv_at hl 8 rfl) ?_
                      refine lv_aload hx hb dL_house_380 (lv_at hl 9 rfl) ?_
                      refine lv_aload hx hb dL_house_382 (lv_at hl 10 rfl) ?_
                      obtain ⟨ad2, h48, hj2, hsub, hG2, hN2⟩ := gN.junk hlo hG hN
                      refine W.eq (g2 := F0 m0 384 ls [.ref (ad2 47), .ref (ad2 46), .ref (ad2 45), .ref (ad2 43), .ref (ad2 0)]) (by rw [h48 0 (by decide), h48 43 (by decide), h48 45 (by decide), h48 46 (by decide), h48 47 (by decide)]) ?_
                      refine g_Si (As := [.ref (ad2 0), .ref (ad2 43), .ref (ad2 45), .ref (ad2 46), .ref (ad2 47)]) (rest := []) ⟨hx, hb, hml, hown, hts⟩ hG2 hN2 (c_L_copies l hl9 j rfl hj2 (by omega) hP) (va_cwS 5 hts gL_house_L_copies rfl rfl rfl (by decide +kernel) ⟨Nat.le_of_ble_eq_true rfl, Nat.le_of_ble_eq_true rfl⟩) rfl hl.1 rfl (Nat.le_of_ble_eq_true rfl) dL_house_384 ⟨by show _ ≤ 182000; omega, by show _ ≤ 1080000; omega⟩ (fun rq Fq Vq oq H locs hq hN => ?_)
                      obtain ⟨er9, eo9, hPq⟩ := hq
                      dsimp only at eo9 hPq
                      subst eo9
                      have hN := gN.back h48 hsub hN
                      refine g_top (y := 1) er9 ?_
                      refine lv_istore (lv' := [(8, .int 1), (12, .int (nI (x195 % 16))), (11, .int (nI x212)), (10, .int (nI x195)), (0, .ref b), (1, .int (nI a)), (2, .ref (ad 0)), (3, .ref (ad 43)), (4, .ref (ad 44)), (5, .ref (ad 45)), (6, .ref (ad 46)), (7, .ref (ad 47)), (9, .int (nI j))]) hx hb dL_house_387 hl (by decide) rfl (fun ls hl => ?_)
                      refine lv_goto (tgt := 414) hx hb dL_house_389 (by decide) ?_
                      refine W.widen (k := (850 + 4 * 64 + 2000 * j)) (n := (6584 + 24 * 64 + 11800 * j)) (by omega) (by omega) ?_
                      exact J12 Fq Vq _ _ ls (hPq) hN (lv_sub hl [4, 5, 6, 7, 8, 9, 10, 11, 0, 12, 2] rfl)
                  · refine lv_aload_n hx hb dL_house_296 rfl (lv_at hl 5 rfl) ?_
                    refine g_VI (As := []) (rest := []) ⟨hx, hb, hml, hown, hts⟩ hG hN (i := 0) (by decide) rfl rfl (c_X9_plates l hP.1.z12) (cwV 0 hts gL_house_X9_plates rfl rfl rfl (by decide +kernel) ⟨Nat.le_of_ble_eq_true rfl, Nat.le_of_ble_eq_true rfl⟩) rfl hl.1 rfl (Nat.le_of_ble_eq_true rfl) dL_house_297 ⟨by show _ ≤ 182000; omega, by show _ ≤ 1080000; omega⟩ (fun H locs hN => ?_)
                    obtain ⟨pm, hpm, epm⟩ := cMkN_n (F := X) (V := Y) 256
                    refine g_top (y := nI pm) epm ?_
                    refine lv_istore (lv' := [(13, .int (nI pm)), (12, .int (nI (x195 % 16))), (11, .int (nI x212)), (10, .int (nI x195)), (0, .ref b), (1, .int (nI a)), (2, .ref (ad 0)), (3, .ref (ad 43)), (4, .ref (ad 44)), (5, .ref (ad 45)), (6, .ref (ad 46)), (7, .ref (ad 47)), (8, .int 1), (9, .int (nI j))]) hx hb dL_house_300 hl (by decide) rfl (fun ls hl => ?_)
                    refine lv_iload hx hb dL_house_302 (lv_at hl 0 rfl) ?_
                    refine lv_if_lt (tgt := 363) hx hb dL_house_304 (by decide) (fun c25 => absurd c25 (nI_pos (by omega))) (fun c25 => ?_)
                    refine lv_iload hx hb dL_house_307 (lv_at hl 0 rfl) ?_
                    refine lv_sipush (v := 256) hx hb dL_house_309 (by decide) ?_
                    refine g_cN_gt (a := pm) (b := 256) (tgt := 363) hx hb dL_house_312 (by decide) rfl rfl (by omega) (by omega) (fun c26 => absurd c26 (by omega)) (fun c26 => ?_)
                    refine lv_aload_n hx hb dL_house_315 rfl (lv_at hl 6 rfl) ?_
                    refine g_VI (As := []) (rest := []) ⟨hx, hb, hml, hown, hts⟩ hG hN (i := 0) (by decide) rfl rfl (c_X9_plates l hP.1.z12) (cwV 0 hts gL_house_X9_plates rfl rfl rfl (by decide +kernel) ⟨Nat.le_of_ble_eq_true rfl, Nat.le_of_ble_eq_true rfl⟩) rfl hl.1 rfl (Nat.le_of_ble_eq_true rfl) dL_house_316 ⟨by show _ ≤ 182000; omega, by show _ ≤ 1080000; omega⟩ (fun H locs hN => ?_)
                    rw [cMk_twice.1] at hN
                    refine g_top (y := 0) cMk_twice.2 ?_
                    refine lv_if_ne (tgt := 363) hx hb dL_house_319 (by decide) (fun c27 => False.elim (by revert c27; decide)) (fun _ => ?_)
                    refine lv_aload_n hx hb dL_house_322 rfl (lv_at hl 6 rfl) ?_
                    refine lv_iload hx hb dL_house_323 (lv_at hl 2 rfl) ?_
                    refine lv_bipush (v := 64) hx hb dL_house_325 (by decide) ?_
                    refine g_remN (a := x212) (b := 64) hx hb rfl rfl (by omega) (by omega) (by omega) dL_house_327 ?_
                    refine lv_iload hx hb dL_house_328 (lv_at hl 2 rfl) ?_
                    refine lv_bipush (v := 64) hx hb dL_house_330 (by decide) ?_
                    refine g_divN (a := x212) (b := 64) hx hb rfl rfl (by omega) (by omega) (by omega) dL_house_332 ?_
                    refine lv_iconst (v := 4) hx hb dL_house_333 (by decide) ?_
                    refine g_remN (a := x212 / 64) (b := 4) hx hb rfl rfl (by omega) (by omega) (by omega) dL_house_334 ?_
                    refine lv_iconst (v := 3) hx hb dL_house_335 (by decide) ?_
                    refine g_nVI (As := [.int (nI (x212 % 64)), .int (nI ((x212 / 64) % 4)), .int 3]) (rest := []) ⟨hx, hb, hml, hown, hts⟩ hG hN (i := 0) (by decide) rfl rfl (c_X9_ink l hl9 (nI (x212 % 64)) (nI ((x212 / 64) % 4)) 3 (hP.1.z12)) (cwV 3 hts gL_house_X9_ink rfl rfl rfl (by decide +kernel) ⟨Nat.le_of_ble_eq_true rfl, Nat.le_of_ble_eq_true rfl⟩) rfl hl.1 rfl (Nat.le_of_ble_eq_true rfl) dL_house_336 ⟨by show _ ≤ 182000; omega, by show _ ≤ 1080000; omega⟩ (no2 (fInk0 (by omega) (by omega) (by decide))) (fun hz28 H locs hN => ?_)
                    refine g_top (y := (cMkF X Y 256) (14 + ((x212 / 64) % 4)) (x212 % 64)) (rInk_3 (by omega) (by omega)) ?_
                    refine lv_aload_n hx hb dL_house_339 rfl (lv_at hl 6 rfl) ?_
                    refine lv_iload hx hb dL_house_340 (lv_at hl 2 rfl) ?_
                    refine lv_bipush (v := 64) hx hb dL_house_342 (by decide) ?_
                    refine g_remN (a := x212) (b := 64) hx hb rfl rfl (by omega) (by omega) (by omega) dL_house_344 ?_
                    refine lv_iload hx hb dL_house_345 (lv_at hl 2 rfl) ?_
                    refine lv_bipush (v := 64) hx hb dL_house_347 (by decide) ?_
                    refine g_divN (a := x212) (b := 64) hx hb rfl rfl (by omega) (by omega) (by omega) dL_house_349 ?_
                    refine lv_iconst (v := 4) hx hb dL_house_350 (by decide) ?_
                    refine g_remN (a := x212 / 64) (b := 4) hx hb rfl rfl (by omega) (by omega) (by omega) dL_house_351 ?_
                    refine lv_iconst (v := 2) hx hb dL_house_352 (by decide) ?_
                    refine g_nVI (As := [.int (nI (x212 % 64)), .int (nI ((x212 / 64) % 4)), .int 2]) (rest := [.int ((cMkF X Y 256) (14 + ((x212 / 64) % 4)) (x212 % 64))]) ⟨hx, hb, hml, hown, hts⟩ hG hN (i := 0) (by decide) rfl rfl (c_X9_ink l hl9 (nI (x212 % 64)) (nI ((x212 / 64) % 4)) 2 (hP.1.z12)) (cwV 3 hts gL_house_X9_ink rfl rfl rfl (by decide +kernel) ⟨Nat.le_of_ble_eq_true rfl, Nat.le_of_ble_eq_true rfl⟩) rfl hl.1 rfl (Nat.le_of_ble_eq_true rfl) dL_house_353 ⟨by show _ ≤ 182000; omega, by show _ ≤ 1080000; omega⟩ (no2 (fInk0 (by omega) (by omega) (by decide))) (fun hz29 H locs hN => ?_)
                    refine g_top (y := nI (cPlate (cMkF X Y 256) Y ((x212 / 64) % 4) (x212 % 64))) (rInk_2 (by omega) (by omega)) ?_
                    refine lv_icmp_ne (tgt := 363) hx hb dL_house_356 (by decide) (fun c30 => absurd c30 (fun z => z (cMk_same (by omega) (by omega)))) (fun c30 => ?_)
                    refine lv_iconst (v := 1) hx hb dL_house_359 (by decide) ?_
                    refine lv_goto (tgt := 364) hx hb dL_house_360 (by decide) ?_
                    refine lv_istore (lv' := [(8, .int 1), (13, .int (nI pm)), (12, .int (nI (x195 % 16))), (11, .int (nI x212)), (10, .int (nI x195)), (0, .ref b), (1, .int (nI a)), (2, .ref (ad 0)), (3, .ref (ad 43)), (4, .ref (ad 44)), (5, .ref (ad 45)), (6, .ref (ad 46)), (7, .ref (ad 47)), (9, .int (nI j))]) hx hb dL_house_364 hl (by decide) rfl (fun ls hl => ?_)
                    refine lv_goto (tgt := 414) hx hb dL_house_366 (by decide) ?_
                    refine W.widen (k := (850 + 4 * 64 + 2000 * j)) (n := (6584 + 24 * 64 + 11800 * j)) (by omega) (by omega) ?_
                    exact J12 (cMkF X Y 256) Y _ _ ls ((PI_plates hP).mono) hN (lv_sub hl [5, 6, 7, 8, 9, 10, 11, 12, 0, 13, 3] rfl)
                · refine lv_aload_n hx hb dL_house_253 rfl (lv_at hl 5 rfl) ?_
                  refine lv_iload hx hb dL_house_254 (lv_at hl 1 rfl) ?_
                  refine lv_bipush (v := 64) hx hb dL_house_256 (by decide) ?_
                  refine g_remN (a := x212) (b := 64) hx hb rfl rfl (by omega) (by omega) (by omega) dL_house_258 ?_
                  refine lv_iload hx hb dL_house_259 (lv_at hl 2 rfl) ?_
                  refine lv_bipush (v := 16) hx hb dL_house_261 (by decide) ?_
                  refine g_divN (a := x195) (b := 16) hx hb rfl rfl (by omega) (by omega) (by omega) dL_house_263 ?_
                  refine lv_bipush (v := 101) hx hb dL_house_264 (by decide) ?_
                  refine g_remN (a := x195 / 16) (b := 101) hx hb rfl rfl (by omega) (by omega) (by omega) dL_house_266 ?_
                  refine lv_iload hx hb dL_house_267 (lv_at hl 1 rfl) ?_
                  refine lv_bipush (v := 64) hx hb dL_house_269 (by decide) ?_
                  refine g_divN (a := x212) (b := 64) hx hb rfl rfl (by omega) (by omega) (by omega) dL_house_271 ?_
                  refine lv_bipush (v := 101) hx hb dL_house_272 (by decide) ?_
                  refine g_remN (a := x212 / 64) (b := 101) hx hb rfl rfl (by omega) (by omega) (by omega) dL_house_274 ?_
                  refine lv_iload hx hb dL_house_275 (lv_at hl 1 rfl) ?_
                  refine lv_sipush (v := 6464) hx hb dL_house_277 (by decide) ?_
                  refine g_divN (a := x212) (b := 6464) hx hb rfl rfl (by omega) (by omega) (by omega) dL_house_280 ?_
                  refine lv_bipush (v := 101) hx hb dL_house_281 (by decide) ?_
                  refine g_remN (a := x212 / 6464) (b := 101) hx hb rfl rfl (by omega) (by omega) (by omega) dL_house_283 ?_
                  refine g_nVV (As := [.int (nI (x212 % 64)), .int (nI ((x195 / 16) % 101)), .int (nI ((x212 / 64) % 101)), .int (nI ((x212 / 6464) % 101))]) (rest := []) ⟨hx, hb, hml, hown, hts⟩ hG hN (i := 0) (by decide) rfl rfl (c_X9_colour l hl9 (nI (x212 % 64)) (nI ((x195 / 16) % 101)) (nI ((x212 / 64) % 101)) (nI ((x212 / 6464) % 101))) (cwV 4 hts gL_house_X9_colour rfl rfl rfl (by decide +kernel) ⟨Nat.le_of_ble_eq_true rfl, Nat.le_of_ble_eq_true rfl⟩) rfl hl.1 rfl (Nat.le_of_ble_eq_true rfl) dL_house_284 ⟨by show _ ≤ 182000; omega, by show _ ≤ 1080000; omega⟩ (no2 (fCol0 (by omega) (by omega) (by omega) (by omega))) (fun hz31 H locs hN => ?_)
                  rw [colN (show x212 % 64 < 2 ^ 31 by omega)] at hN
                  refine lv_goto (tgt := 414) hx hb dL_house_287 (by decide) ?_
                  refine W.widen (k := (850 + 4 * 64 + 2000 * j)) (n := (6584 + 24 * 64 + 11800 * j)) (by omega) (by omega) ?_
                  exact J12 (gw (gw (gw X 9 (x212 % 64) (nI ((x195 / 16) % 101))) 10 (x212 % 64) (nI ((x212 / 64) % 101))) 11 (x212 % 64) (nI ((x212 / 6464) % 101))) Y _ _ ls ((PI_colour (gR100 (by omega)) (gR100 (by omega)) (gR100 (by omega)) hP).mono) hN (lv_sub hl [3, 4, 5, 6, 7, 8, 9, 10, 11, 12, 1] rfl)
              · refine lv_aload_n hx hb dL_house_230 rfl (lv_at hl 5 rfl) ?_
                refine lv_iload hx hb dL_house_231 (lv_at hl 2 rfl) ?_
                refine lv_bipush (v := 16) hx hb dL_house_233 (by decide) ?_
                refine g_divN (a := x195) (b := 16) hx hb rfl rfl (by omega) (by omega) (by omega) dL_house_235 ?_
                refine lv_iload hx hb dL_house_236 (lv_at hl 1 rfl) ?_
                refine lv_aload_n hx hb dL_house_238 rfl (lv_at hl 6 rfl) ?_
                refine g_Si (As := [.ref (ad 0), .int (nI (x195 / 16)), .int (nI x212), .ref (ad 43)]) (rest := []) ⟨hx, hb, hml, hown, hts⟩ hG hN (c_L_rules l hl9 (x195 / 16) x212 j (by omega) (by omega) hP) (va_cwS 4 hts gL_house_L_rules rfl rfl rfl (by decide +kernel) ⟨Nat.le_of_ble_eq_true rfl, Nat.le_of_ble_eq_true rfl⟩) rfl hl.1 rfl (Nat.le_of_ble_eq_true rfl) dL_house_239 ⟨by show _ ≤ 182000; omega, by show _ ≤ 1080000; omega⟩ (fun r32 Fq33 Vq34 oq35 H locs hq36 hN => ?_)
                obtain ⟨er9, eo9, hPq⟩ := hq36
                dsimp only at eo9 hPq
                subst eo9
                refine g_top (y := 1) er9 ?_
                refine lv_istore (lv' := [(8, .int 1), (12, .int (nI (x195 % 16))), (11, .int (nI x212)), (10, .int (nI x195)), (0, .ref b), (1, .int (nI a)), (2, .ref (ad 0)), (3, .ref (ad 43)), (4, .ref (ad 44)), (5, .ref (ad 45)), (6, .ref (ad 46)), (7, .ref (ad 47)), (9, .int (nI j))]) hx hb dL_house_242 hl (by decide) rfl (fun ls hl => ?_)
                refine lv_goto (tgt := 414) hx hb dL_house_244 (by decide) ?_
                refine W.widen (k := (850 + 4 * 64 + 2000 * j)) (n := (6584 + 24 * 64 + 11800 * j)) (by omega) (by omega) ?_
                exact J12 Fq33 Vq34 _ _ ls ((hPq).mono) hN (lv_sub hl [4, 5, 6, 7, 8, 9, 10, 11, 0, 12, 2] rfl)
          refine W.widen (k := (50 + 4 * 64)) (n := (1784 + 24 * 64)) (by omega) (by omega) ?_
          exact L6 _ 0 X V00 _ _ ls (rfl) (by omega) (hX9) hN (lv_sub hl [1, 2, 3, 4, 5, 6, 7, 8, 9, 0] rfl)
        | succ d9_115 ih115 =>
          intro j X H locs ls hd_115 hj hX9 hN hl
          refine lv_iload hx hb dL_house_115 (lv_at hl 9 rfl) ?_
          refine lv_bipush (v := 64) hx hb dL_house_117 (by decide) ?_
          refine g_cN_ge (a := j) (b := 64) (tgt := 168) hx hb dL_house_119 (by decide) rfl rfl (by omega) (by omega) (fun c37 => absurd c37 (by omega)) (fun c37 => ?_)
          refine lv_aload_n hx hb dL_house_122 rfl (lv_at hl 0 rfl) ?_
          refine lv_iload_n hx hb dL_house_123 rfl (lv_at hl 1 rfl) ?_
          refine lv_iload hx hb dL_house_124 (lv_at hl 9 rfl) ?_
          refine g_addN (a := a) (b := j) hx hb rfl rfl dL_house_126 ?_
          refine lv_ldc hx hb hown hld_119 dL_house_127 ?_
          refine g_draw (As := [.ref b, .int (nI (a + j)), .int 1073741824]) (rest := []) ⟨hx, hb, hml, hown, hts⟩ hX hbs hbA hN (c_L_draw l (a + j) 1073741824 (Nat.lt_of_lt_of_le hbs hN.2.1) hL (by omega) (by decide) (by decide)) (va_cwS 3 hts gL_house_L_draw rfl rfl rfl (by decide +kernel) ⟨Nat.le_of_ble_eq_true rfl, Nat.le_of_ble_eq_true rfl⟩) rfl hl.1 rfl (Nat.le_of_ble_eq_true rfl) dL_house_129 ⟨by show _ ≤ 182000; omega, by show _ ≤ 1080000; omega⟩ (fun r129 H locs hr129 hN => ?_)
          obtain ⟨x129, hx129, ex129⟩ := hr129
          subst ex129
          refine lv_istore (lv' := [(10, .int (nI x129)), (0, .ref b), (1, .int (nI a)), (2, .ref (ad 0)), (3, .ref (ad 43)), (4, .ref (ad 44)), (5, .ref (ad 45)), (6, .ref (ad 46)), (7, .ref (ad 47)), (8, .int 1), (9, .int (nI j))]) hx hb dL_house_132 hl (by decide) rfl (fun ls hl => ?_)
          refine lv_aload_n hx hb dL_house_134 rfl (lv_at hl 3 rfl) ?_
          refine lv_iload hx hb dL_house_135 (lv_at hl 10 rfl) ?_
          refine lv_iload hx hb dL_house_137 (lv_at hl 0 rfl) ?_
          refine lv_bipush (v := 101) hx hb dL_house_139 (by decide) ?_
          refine g_remN (a := x129) (b := 101) hx hb rfl rfl (by omega) (by omega) (by omega) dL_house_141 ?_
          refine lv_iload hx hb dL_house_142 (lv_at hl 0 rfl) ?_
          refine lv_bipush (v := 101) hx hb dL_house_144 (by decide) ?_
          refine g_divN (a := x129) (b := 101) hx hb rfl rfl (by omega) (by omega) (by omega) dL_house_146 ?_
          refine lv_bipush (v := 101) hx hb dL_house_147 (by decide) ?_
          refine g_remN (a := x129 / 101) (b := 101) hx hb rfl rfl (by omega) (by omega) (by omega) dL_house_149 ?_
          refine lv_iload hx hb dL_house_150 (lv_at hl 0 rfl) ?_
          refine lv_sipush (v := 10201) hx hb dL_house_152 (by decide) ?_
          refine g_divN (a := x129) (b := 10201) hx hb rfl rfl (by omega) (by omega) (by omega) dL_house_155 ?_
          refine lv_bipush (v := 101) hx hb dL_house_156 (by decide) ?_
          refine g_remN (a := x129 / 10201) (b := 101) hx hb rfl rfl (by omega) (by omega) (by omega) dL_house_158 ?_
          refine g_nVV (As := [.int (nI j), .int (nI (x129 % 101)), .int (nI ((x129 / 101) % 101)), .int (nI ((x129 / 10201) % 101))]) (rest := []) ⟨hx, hb, hml, hown, hts⟩ hG hN (i := 0) (by decide) rfl rfl (c_X9_colour l hl9 (nI j) (nI (x129 % 101)) (nI ((x129 / 101) % 101)) (nI ((x129 / 10201) % 101))) (cwV 4 hts gL_house_X9_colour rfl rfl rfl (by decide +kernel) ⟨Nat.le_of_ble_eq_true rfl, Nat.le_of_ble_eq_true rfl⟩) rfl hl.1 rfl (Nat.le_of_ble_eq_true rfl) dL_house_159 ⟨by show _ ≤ 182000; omega, by show _ ≤ 1080000; omega⟩ (no2 (fCol0 (by omega) (by omega) (by omega) (by omega))) (fun hz38 H locs hN => ?_)
          rw [colN (show j < 2 ^ 31 by omega)] at hN
          refine lv_iinc (v := (nI (j + 1))) (lv' := [(9, .int (nI (j + 1))), (10, .int (nI x129)), (0, .ref b), (1, .int (nI a)), (2, .ref (ad 0)), (3, .ref (ad 43)), (4, .ref (ad 44)), (5, .ref (ad 45)), (6, .ref (ad 46)), (7, .ref (ad 47)), (8, .int 1)]) hx hb dL_house_162 hl (k := 10) rfl (nI_1 _) (by decide) rfl (fun ls hl => ?_)
          refine lv_goto (tgt := 115) hx hb dL_house_165 (by decide) ?_
          refine W.widen (k := (50 + 4 * (j + 1))) (n := (1784 + 24 * (j + 1))) (by omega) (by omega) ?_
          exact ih115 (j + 1) (gw (gw (gw X 9 j (nI (x129 % 101))) 10 j (nI ((x129 / 101) % 101))) 11 j (nI ((x129 / 10201) % 101))) _ _ ls (by omega) (by omega) (PI_colour (gR100 (by omega)) (gR100 (by omega)) (gR100 (by omega)) hX9) hN (lv_sub hl [2, 3, 4, 5, 6, 7, 8, 9, 10, 0] rfl)
      exact L4 _ 0 (inF Z00 32) _ _ ls (rfl) (by omega) (PI_00) hN (lv_sub hl [1, 2, 3, 4, 5, 6, 7, 8, 9, 0] rfl)
    | succ d9_82 ih82 =>
      intro j H locs ls hd_82 hj hN hl
      refine lv_iload hx hb dL_house_82 (lv_at hl 9 rfl) ?_
      refine lv_bipush (v := 32) hx hb dL_house_84 (by decide) ?_
      refine g_cN_ge (a := j) (b := 32) (tgt := 112) hx hb dL_house_86 (by decide) rfl rfl (by omega) (by omega) (fun c39 => absurd c39 (by omega)) (fun c39 => ?_)
      refine lv_aload hx hb dL_house_89 (lv_at hl 4 rfl) ?_
      refine lv_iload hx hb dL_house_91 (lv_at hl 9 rfl) ?_
      refine lv_bipush (v := 50) hx hb dL_house_93 (by decide) ?_
      refine g_iast hx hb hG hN (i := 44) (n := 32) (j := j) (by decide) (fun _ => rfl) (by decide) (by omega) rfl dL_house_95 (fun H locs hN => ?_)
      refine lv_aload_n hx hb dL_house_96 rfl (lv_at hl 3 rfl) ?_
      refine lv_iconst (v := 3) hx hb dL_house_97 (by decide) ?_
      refine lv_iload hx hb dL_house_98 (lv_at hl 9 rfl) ?_
      refine lv_iconst (v := 4) hx hb dL_house_100 (by decide) ?_
      refine g_remN (a := j) (b := 4) hx hb rfl rfl (by omega) (by omega) (by omega) dL_house_101 ?_
      refine g_addN (a := 3) (b := j % 4) hx hb rfl rfl dL_house_102 ?_
      refine lv_bipush (v := 20) hx hb dL_house_103 (by decide) ?_
      refine g_iast hx hb hG hN (i := 43) (n := 9) (j := 3 + (j % 4)) (by decide) (fun _ => rfl) (by decide) (by omega) rfl dL_house_105 (fun H locs hN => ?_)
      rw [inF_s] at hN
      refine lv_iinc (v := (nI (j + 1))) (lv' := [(9, .int (nI (j + 1))), (0, .ref b), (1, .int (nI a)), (2, .ref (ad 0)), (3, .ref (ad 43)), (4, .ref (ad 44)), (5, .ref (ad 45)), (6, .ref (ad 46)), (7, .ref (ad 47)), (8, .int 1)]) hx hb dL_house_106 hl (k := 9) rfl (nI_1 _) (by decide) rfl (fun ls hl => ?_)
      refine lv_goto (tgt := 82) hx hb dL_house_109 (by decide) ?_
      exact ih82 (j + 1) _ _ ls (by omega) (by omega) hN (lv_sub hl [1, 2, 3, 4, 5, 6, 7, 8, 9, 0] rfl)
  exact L2 _ 0 _ _ ls (rfl) (by omega) hN (lv_sub hl [8, 9, 7, 6, 5, 4, 3, 2, 1, 0] rfl)
