section LL
variable {p0 : Program} {l : Launch} {e0 : Env} {s0 : State} {m0 : MethodId} {a0 : Array Value} {b0 : List Frame} {k0 : Method} {c0 : Code} {Q : State → Prop}
variable {D : va_G} {ad : Nat → Nat} {cs : Nat → ClassId} {zd : Nat → Nat} {b L : Nat} {xs : Nat → Int32}
set_option maxHeartbeats 4000000 in
set_option maxRecDepth 100000 in
theorem lw_head {H : Heap} {locs : List Loc} {cells slots i b9 : Nat} {ls : Array Slot} {F V : gF} {o : gO} (E : lwE p0 l s0 m0 a0 c0 D ad cs zd b L xs) (hL : L ≤ 2560) (hi : i + 5 ≤ L) (hI : LI F V b9) (hb9 : b9 ≤ 2 ^ 28) (hc : cells + 4 ≤ room_1.cells) (hs : slots + 24 ≤ room_1.slots) (hN : gN D ad cs s0 F V o H locs) (hl : lv_has ls 7 (lwL ad b i))
    (kk : ∀ (F2 V2 : gF) (o2 : gO) (H1 : Heap) (locs1 : List Loc) (ls1 : Array Slot), LI F2 V2 (b9 + 100) → gN D ad cs s0 F2 V2 o2 H1 locs1 → lv_has ls1 7 (lwL ad b i) → W p0 l e0 room_1 s0 m0 a0 b0 k0 c0 H1 locs1 (cells + 4) (slots + 24) Q (F0 m0 1101 ls1 [])) : W p0 l e0 room_1 s0 m0 a0 b0 k0 c0 H locs cells slots Q (F0 m0 32 ls []) := by
  obtain ⟨hx, hb, hml, hts, hown, hX, hbl, hbA, hl9, hG⟩ := id E
  refine lv_aload_n hx hb dL_law_32 rfl (lv_at hl 0 rfl) ?_
  refine lv_iload hx hb dL_law_33 (lv_at hl 4 rfl) ?_
  refine g_sld hx hb hX hbl hbA hN (j := i) (by omega) hL dL_law_35 ?_
  refine lv_bipush (v := 31) hx hb dL_law_36 (by decide) ?_
  refine lv_iand hx hb dL_law_38 ?_
  generalize xs i &&& 31 = x
  by_cases e0 : x = 0
  · refine lv_tableIn (off := 89) (tgt := 128) hx hb dL_law_39 (by rw [e0]; decide) (by rw [e0]; decide) (by rw [e0]; rfl) (by decide) ?_
    exact lw_b0 E hi hL hI hb9 hc hs hN hl kk
  by_cases e1 : x = 1
  · refine lv_tableIn (off := 161) (tgt := 200) hx hb dL_law_39 (by rw [e1]; decide) (by rw [e1]; decide) (by rw [e1]; rfl) (by decide) ?_
    exact lw_b1 E hi hL hI hb9 hc hs hN hl kk
  by_cases e2 : x = 2
  · refine lv_tableIn (off := 219) (tgt := 258) hx hb dL_law_39 (by rw [e2]; decide) (by rw [e2]; decide) (by rw [e2]; rfl) (by decide) ?_
    exact lw_b2 E hi hL hI hb9 hc hs hN hl kk
  by_cases e3 : x = 3
  · refine lv_tableIn (off := 232) (tgt := 271) hx hb dL_law_39 (by rw [e3]; decide) (by rw [e3]; decide) (by rw [e3]; rfl) (by decide) ?_
    exact lw_b3 E hi hL hI hb9 hc hs hN hl kk
  by_cases e4 : x = 4
  · refine lv_tableIn (off := 245) (tgt := 284) hx hb dL_law_39 (by rw [e4]; decide) (by rw [e4]; decide) (by rw [e4]; rfl) (by decide) ?_
    exact lw_b4 E hi hL hI hb9 hc hs hN hl kk
  by_cases e5 : x = 5
  · refine lv_tableIn (off := 305) (tgt := 344) hx hb dL_law_39 (by rw [e5]; decide) (by rw [e5]; decide) (by rw [e5]; rfl) (by decide) ?_
    exact lw_b5 E hi hL hI hb9 hc hs hN hl kk
  by_cases e6 : x = 6
  · refine lv_tableIn (off := 385) (tgt := 424) hx hb dL_law_39 (by rw [e6]; decide) (by rw [e6]; decide) (by rw [e6]; rfl) (by decide) ?_
    exact lw_b6 E hi hL hI hb9 hc hs hN hl kk
  by_cases e7 : x = 7
  · refine lv_tableIn (off := 465) (tgt := 504) hx hb dL_law_39 (by rw [e7]; decide) (by rw [e7]; decide) (by rw [e7]; rfl) (by decide) ?_
    exact lw_b7 E hi hL hI hb9 hc hs hN hl kk
  by_cases e8 : x = 8
  · refine lv_tableIn (off := 478) (tgt := 517) hx hb dL_law_39 (by rw [e8]; decide) (by rw [e8]; decide) (by rw [e8]; rfl) (by decide) ?_
    exact lw_b8 E hi hL hI hb9 hc hs hN hl kk
  by_cases e9 : x = 9
  · refine lv_tableIn (off := 514) (tgt := 553) hx hb dL_law_39 (by rw [e9]; decide) (by rw [e9]; decide) (by rw [e9]; rfl) (by decide) ?_
    exact lw_b9 E hi hL hI hb9 hc hs hN hl kk
  by_cases e10 : x = 10
  · refine lv_tableIn (off := 570) (tgt := 609) hx hb dL_law_39 (by rw [e10]; decide) (by rw [e10]; decide) (by rw [e10]; rfl) (by decide) ?_
    exact lw_b10 E hi hL hI hb9 hc hs hN hl kk
  by_cases e11 : x = 11
  · refine lv_tableIn (off := 583) (tgt := 622) hx hb dL_law_39 (by rw [e11]; decide) (by rw [e11]; decide) (by rw [e11]; rfl) (by decide) ?_
    exact lw_b11 E hi hL hI hb9 hc hs hN hl kk
  by_cases e12 : x = 12
  · refine lv_tableIn (off := 639) (tgt := 678) hx hb dL_law_39 (by rw [e12]; decide) (by rw [e12]; decide) (by rw [e12]; rfl) (by decide) ?_
    exact lw_b12 E hi hL hI hb9 hc hs hN hl kk
  by_cases e13 : x = 13
  · refine lv_tableIn (off := 702) (tgt := 741) hx hb dL_law_39 (by rw [e13]; decide) (by rw [e13]; decide) (by rw [e13]; rfl) (by decide) ?_
    exact lw_b13 E hi hL hI hb9 hc hs hN hl kk
  by_cases e14 : x = 14
  · refine lv_tableIn (off := 782) (tgt := 821) hx hb dL_law_39 (by rw [e14]; decide) (by rw [e14]; decide) (by rw [e14]; rfl) (by decide) ?_
    exact lw_b14 E hi hL hI hb9 hc hs hN hl kk
  by_cases e15 : x = 15
  · refine lv_tableIn (off := 857) (tgt := 896) hx hb dL_law_39 (by rw [e15]; decide) (by rw [e15]; decide) (by rw [e15]; rfl) (by decide) ?_
    exact lw_b15 E hi hL hI hb9 hc hs hN hl kk
  by_cases e16 : x = 16
  · refine lv_tableIn (off := 925) (tgt := 964) hx hb dL_law_39 (by rw [e16]; decide) (by rw [e16]; decide) (by rw [e16]; rfl) (by decide) ?_
    exact lw_b16 E hi hL hI hb9 hc hs hN hl kk
  by_cases e17 : x = 17
  · refine lv_tableIn (off := 993) (tgt := 1032) hx hb dL_law_39 (by rw [e17]; decide) (by rw [e17]; decide) (by rw [e17]; rfl) (by decide) ?_
    exact lw_b17 E hi hL hI hb9 hc hs hN hl kk
  by_cases e18 : x = 18
  · refine lv_tableIn (off := 1006) (tgt := 1045) hx hb dL_law_39 (by rw [e18]; decide) (by rw [e18]; decide) (by rw [e18]; rfl) (by decide) ?_
    exact lw_b18 E hi hL hI hb9 hc hs hN hl kk
  have h9 : x.toInt < 0 ∨ 18 < x.toInt := by
    have := lv_neT (a := 0) e0 (by decide)
    have := lv_neT (a := 1) e1 (by decide)
    have := lv_neT (a := 2) e2 (by decide)
    have := lv_neT (a := 3) e3 (by decide)
    have := lv_neT (a := 4) e4 (by decide)
    have := lv_neT (a := 5) e5 (by decide)
    have := lv_neT (a := 6) e6 (by decide)
    have := lv_neT (a := 7) e7 (by decide)
    have := lv_neT (a := 8) e8 (by decide)
    have := lv_neT (a := 9) e9 (by decide)
    have := lv_neT (a := 10) e10 (by decide)
    have := lv_neT (a := 11) e11 (by decide)
    have := lv_neT (a := 12) e12 (by decide)
    have := lv_neT (a := 13) e13 (by decide)
    have := lv_neT (a := 14) e14 (by decide)
    have := lv_neT (a := 15) e15 (by decide)
    have := lv_neT (a := 16) e16 (by decide)
    have := lv_neT (a := 17) e17 (by decide)
    have := lv_neT (a := 18) e18 (by decide)
    omega
  refine lv_tableOut (tgt := 1101) hx hb dL_law_39 h9 (by decide) ?_
  refine W.widen (k := cells + 4) (n := slots + 24) (by omega) (by omega) ?_
  exact kk _ _ _ _ _ _ (hI.mono (by omega)) hN hl
theorem lw_neg {L : Nat} (h : ¬ 5 ≤ L) : (0 : Int32) > nI L - 5 := by
  have hd : L = 0 ∨ L = 1 ∨ L = 2 ∨ L = 3 ∨ L = 4 := by omega
  rcases hd with rfl | rfl | rfl | rfl | rfl <;> decide
set_option maxHeartbeats 4000000 in
set_option maxRecDepth 100000 in
theorem law_loop {cz sz : Nat} (E : lwE p0 l s0 m0 a0 c0 D ad cs zd b L xs) (hL : L ≤ 2560) (hcz : cz + 4 * 513 ≤ room_1.cells) (hsz : sz + 24 * 513 ≤ room_1.slots)
    (kend : ∀ (H : Heap) (locs : List Loc) (ls : Array Slot) (cells slots : Nat) (F V : gF) (o : gO), cells ≤ cz + 4 * 513 → slots ≤ sz + 24 * 513 → gN D ad cs s0 F V o H locs → W p0 l e0 room_1 s0 m0 a0 b0 k0 c0 H locs cells slots Q (F0 m0 1107 ls [])) :
    ∀ (n k : Nat) (F V : gF) (o : gO) (H : Heap) (locs : List Loc) (ls : Array Slot), n + k = 513 → 5 * k ≤ L → LI F V (100 * k) → gN D ad cs s0 F V o H locs → lv_has ls 7 (lwL ad b (5 * k)) → W p0 l e0 room_1 s0 m0 a0 b0 k0 c0 H locs (cz + 4 * k) (sz + 24 * k) Q (F0 m0 23 ls []) := by
  obtain ⟨hx, hb, hml, hts, hown, hX, hbl, hbA, hl9, hG⟩ := id E
  intro n
  induction n with
  | zero =>
    intro k F V o H locs ls hk h5
    exact absurd h5 (by omega)
  | succ n ih =>
    intro k F V o H locs ls hk h5 hI hN hl
    refine lv_iload hx hb dL_law_23 (lv_at hl 4 rfl) ?_
    refine lv_aload_n hx hb dL_law_25 rfl (lv_at hl 0 rfl) ?_
    refine va_slen hx hb hX hbl hbA hN.2 dL_law_26 ?_
    refine g_top (y := nI L) rfl ?_
    refine lv_iconst (v := 5) hx hb dL_law_27 (by decide) ?_
    have K : ∀ H locs ls, gN D ad cs s0 F V o H locs → W p0 l e0 room_1 s0 m0 a0 b0 k0 c0 H locs (cz + 4 * k) (sz + 24 * k) Q (F0 m0 1107 ls []) := fun H locs ls h => kend H locs ls _ _ F V o (by omega) (by omega) h
    by_cases h9 : 5 ≤ L
    · refine g_subN (a := L) (b := 5) hx hb rfl rfl h9 dL_law_28 ?_
      refine g_cN_gt (a := 5 * k) (b := L - 5) (tgt := 1107) hx hb dL_law_29 (by decide) rfl rfl (by omega) (by omega) (fun c1 => K _ _ _ hN) (fun c1 => ?_)
      refine lw_head (b9 := 100 * k) E hL (by omega) hI (by omega) (by omega) (by omega) hN hl (fun F2 V2 o2 H locs ls hI hN hl => ?_)
      have hl : lv_has ls 7 [(0, .ref b), (1, .ref (ad 0)), (2, .ref (ad 43)), (3, .ref (ad 64)), (4, .int (nI (5 * k)))] := hl
      refine lv_iinc (v := nI (5 * k + 5)) (lv' := [(4, .int (nI (5 * k + 5))), (0, .ref b), (1, .ref (ad 0)), (2, .ref (ad 43)), (3, .ref (ad 64))]) hx hb dL_law_1101 hl (k := 4) rfl (nI_add _ 5) (by decide) rfl (fun ls hl => ?_)
      refine lv_goto (tgt := 23) hx hb dL_law_1104 (by decide) ?_
      exact ih (k + 1) F2 V2 o2 H locs ls (by omega) (by omega) hI hN (lv_sub hl [1, 2, 3, 4, 0] rfl)
    · have e9 : k = 0 := by omega
      subst e9
      refine lv_isub hx hb dL_law_28 ?_
      refine lv_icmp_gt (tgt := 1107) hx hb dL_law_29 (by decide) (fun c1 => K _ _ _ hN) (fun c1 => absurd (lw_neg h9) c1)
end LL
