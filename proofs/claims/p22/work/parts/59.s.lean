set_option maxHeartbeats 4000000 in
set_option maxRecDepth 100000 in
theorem c_L_copies (l : Launch) {D : va_G} {ad : Nat → Nat} {cs : Nat → ClassId} {zd : Nat → Nat} {F V : gF} {o : gO} {sz : Nat} (hl9 : l.stackTraces = false) (b : Nat) (ho0 : o = 0) (hj : ∀ i, 48 ≤ i → sz ≤ ad i) (hb9 : b ≤ 100) (hP : PI F V b) : Met l yL_copies wsL_copies ({ frames := 8, cells := 130, slots := 760, locals := 137 } : Room) (gPc D ad cs zd F V o sz [.ref (ad 0), .ref (ad 43), .ref (ad 45), .ref (ad 46), .ref (ad 47)]) (gQi D ad cs sz (fun r9 u9 => r9 = 1 ∧ u9.2.2 = o ∧ PI u9.1 u9.2.1 (b + 1))) 130 760 (gX ad sz) := by
  refine g_metZ (Qc := fun z0 => gQi D ad cs z0 (fun r9 u9 => r9 = 1 ∧ u9.2.2 = o ∧ PI u9.1 u9.2.1 (b + 1))) (cc := cL_copies) (maxL := 16) (ret := (some .boolean)) (own := RL) (by decide +kernel) rfl rfl (Nat.le_of_ble_eq_true rfl) ?_
  intro p0 e0 s0 m0 b0 k0 c0 hx hb hr hts hown hlocks hml hG hN hsz ls hl
  have hl : lv_has ls 16 [(0, .ref (ad 0)), (1, .ref (ad 43)), (2, .ref (ad 45)), (3, .ref (ad 46)), (4, .ref (ad 47))] := hl
  have hac := hts (.arrayClass .int) (by decide +kernel)
  refine lv_iconst (v := 0) hx hb dL_copies_0 (by decide) ?_
  refine lv_istore (lv' := [(5, .int 0), (0, .ref (ad 0)), (1, .ref (ad 43)), (2, .ref (ad 45)), (3, .ref (ad 46)), (4, .ref (ad 47))]) hx hb dL_copies_1 hl (by decide) rfl (fun ls hl => ?_)
  refine lv_iconst (v := 0) hx hb dL_copies_3 (by decide) ?_
  refine lv_istore (lv' := [(6, .int 0), (5, .int 0), (0, .ref (ad 0)), (1, .ref (ad 43)), (2, .ref (ad 45)), (3, .ref (ad 46)), (4, .ref (ad 47))]) hx hb dL_copies_4 hl (by decide) rfl (fun ls hl => ?_)
  generalize hav9 : ([.ref (ad 0), .ref (ad 43), .ref (ad 45), .ref (ad 46), .ref (ad 47)] : List Value).toArray = av9 at *
  generalize hQ9 : (MQ b0 (gQi D ad cs s0.heap.size (fun r9 u9 => r9 = 1 ∧ u9.2.2 = o ∧ PI u9.1 u9.2.1 (b + 1))) av9 s0 130 760 (gX ad s0.heap.size)) = Q9
  rw [ho0] at hN
  have hP8 := hN.1
  have hD8 := gD (F := F) (V := V) (o := 0) (cs := cs) (sz := s0.heap.size) hG.2.1
  have hS8 := hN.2
  have hj2 : ∀ i, 48 ≤ i → s0.heap.size ≤ ad i := by rw [hsz]; exact hj
  refine lv_iconst (v := 4) hx hb dL_copies_6 (by decide) ?_
  refine g_newa (N' := 4) hx hb hac hG.1 hP8 hD8 hS8 (fun _ h => Or.inr h) (by decide) rfl (Nat.le_of_ble_eq_true rfl) (Nat.le_of_ble_eq_true rfl) (Nat.le_of_ble_eq_true rfl) dL_copies_7 (fun q7 H hP8 hD8 hS8 => ?_)
  refine lv_astore (lv' := [(7, .ref q7), (6, .int 0), (5, .int 0), (0, .ref (ad 0)), (1, .ref (ad 43)), (2, .ref (ad 45)), (3, .ref (ad 46)), (4, .ref (ad 47))]) hx hb dL_copies_9 hl (by decide) rfl (fun ls hl => ?_)
  refine lv_iconst (v := 4) hx hb dL_copies_11 (by decide) ?_
  refine g_newa (N' := 4) hx hb hac hG.1 hP8 hD8 hS8 (fun _ h => Or.inr h) (by decide) rfl (Nat.le_of_ble_eq_true rfl) (Nat.le_of_ble_eq_true rfl) (Nat.le_of_ble_eq_true rfl) dL_copies_12 (fun q12 H hP8 hD8 hS8 => ?_)
  refine lv_astore (lv' := [(8, .ref q12), (7, .ref q7), (6, .int 0), (5, .int 0), (0, .ref (ad 0)), (1, .ref (ad 43)), (2, .ref (ad 45)), (3, .ref (ad 46)), (4, .ref (ad 47))]) hx hb dL_copies_14 hl (by decide) rfl (fun ls hl => ?_)
  obtain ⟨ad2, h48, hsub, e48, e49, hG2, hN2⟩ := gN.grow hj2 hG hP8 hD8 hS8
  have hl2 : lv_has ls 16 [(8, .ref (ad2 49)), (7, .ref (ad2 48)), (6, .int 0), (5, .int 0), (0, .ref (ad2 0)), (1, .ref (ad2 43)), (2, .ref (ad2 45)), (3, .ref (ad2 46)), (4, .ref (ad2 47))] := by rw [h48 0 (by decide), h48 43 (by decide), h48 45 (by decide), h48 46 (by decide), h48 47 (by decide), e48, e49]; exact hl
  have hPx : PI (F9 F) V b := hP.cells (fun a ha => F9_o ha)
  obtain ⟨Fz, hFz⟩ : ∃ Fz, Fz = F9 F := ⟨_, rfl⟩
  rw [← hFz] at hN2 hPx
  clear hl hP hG hN hP8 hD8 hS8 hFz
  obtain ⟨ad, F, h48, hsub, hG, hN, hl, hP⟩ : ∃ (ad9 : Nat → Nat) (F9 : gF), (∀ i, i < 48 → ad9 i = ad i) ∧ (∀ q, gX ad9 s0.heap.size q → gX ad s0.heap.size q) ∧ gG D ad9 cs zd s0 ∧ gN D ad9 cs s0 F9 V 2 H [] ∧ lv_has ls 16 [(8, .ref (ad9 49)), (7, .ref (ad9 48)), (6, .int 0), (5, .int 0), (0, .ref (ad9 0)), (1, .ref (ad9 43)), (2, .ref (ad9 45)), (3, .ref (ad9 46)), (4, .ref (ad9 47))] ∧ PI F9 V b := ⟨ad2, Fz, h48, hsub, hG2, hN2, hl2, hPx⟩
  have hN : gN D ad cs s0 (xyF F 0) V 2 H [] := by rw [xyF_0]; exact hN
  obtain ⟨dt9, hdt9, edt9⟩ := hP.2.1.1
  have htol : (0 : Int32) ≤ V 1 3 := by rw [edt9]; exact (nI_leI (a := 0) (by decide) (by omega)).mpr (Nat.zero_le _)
  refine lv_iconst (v := 0) hx hb dL_copies_16 (by decide) ?_
  refine lv_istore (lv' := [(9, .int 0), (8, .ref (ad 49)), (7, .ref (ad 48)), (6, .int 0), (5, .int 0), (0, .ref (ad 0)), (1, .ref (ad 43)), (2, .ref (ad 45)), (3, .ref (ad 46)), (4, .ref (ad 47))]) hx hb dL_copies_17 hl (by decide) rfl (fun ls hl => ?_)
  have L1 : ∀ (d9_19 : Nat) (u : Nat) (H : Heap) (locs : List Loc) (ls : Array Slot), 4 - u = d9_19 → (u ≤ 4) → gN D ad cs s0 (xyF F u) V 2 H locs → lv_has ls 16 [(0, .ref (ad 0)), (1, .ref (ad 43)), (2, .ref (ad 45)), (3, .ref (ad 46)), (4, .ref (ad 47)), (5, .int (if offB F (V 1 3) u = true then 1 else 0)), (6, .int (if unB F (8 * u) = true then 1 else 0)), (7, .ref (ad 48)), (8, .ref (ad 49)), (9, .int (nI u))] → W p0 l e0 ({ frames := 8, cells := 130, slots := 760, locals := 137 } : Room) s0 m0 av9 b0 k0 c0 H locs (2 + 24 * u) (8 + 144 * u) Q9 (F0 m0 19 ls []) := by
    intro d9_19
    induction d9_19 with
    | zero =>
      intro u H locs ls hd_19 hu hN hl
      refine lv_iload hx hb dL_copies_19 (lv_at hl 9 rfl) ?_
      refine lv_iconst (v := 4) hx hb dL_copies_21 (by decide) ?_
      refine g_cN_ge (a := u) (b := 4) (tgt := 187) hx hb dL_copies_22 (by decide) rfl rfl (by omega) (by omega) (fun c2 => ?_) (fun c2 => absurd c2 (by omega))
      obtain rfl : u = 4 := by omega
      have hX : PI (xyF F 4) V b := hP.cells (fun a ha => xyF_o ha)
      have hx9 : ∀ i, i < 4 → xyF F 4 48 i = xyF F 4 19 i ∧ xyF F 4 49 i = xyF F 4 20 i := fun i hi => ⟨(xyF_at hi).1.trans (by rw [xyF_o (by decide)]), (xyF_at hi).2.trans (by rw [xyF_o (by decide)])⟩
      have hof : ¬ offB F (V 1 3) 4 = true ↔ cRight (xyF F 4) (V 1 3) := by rw [off_right, cRight_cong (F := xyF F 4) (G := F) (fun b => by rw [xyF_o (by decide)]) (fun b => by rw [xyF_o (by decide)])]
      have hun : ¬ unB F (8 * 4) = true ↔ cEven (xyF F 4) := by rw [show 8 * 4 = 32 from rfl, un_even, cEven_cong (F := xyF F 4) (G := F) (fun a ha b => by rw [xyF_o (by omega)])]
      obtain ⟨X, hXe⟩ : ∃ X, X = xyF F 4 := ⟨_, rfl⟩
      rw [← hXe] at hN hX hx9 hof hun
      obtain ⟨hI, hB, hR, hK, hD9, N, w, ⟨hwN, hN40, hN3, hw5, hC0, hC1, hC2, hC3, hC4, hC5, hC6⟩, hT, hL⟩ := id hX
      obtain ⟨t, ht2, ht⟩ := hI.t18
      obtain ⟨pr, hpr, hp⟩ := hI.p27
      obtain ⟨hd, w2, hh2, hw2, hh4, hw52, hln⟩ := hI.line
      have hww : w2 = w := (nI_eq (by omega) (by omega)).mp (hw52.symm.trans hw5)
      subst hww
      have J3 : ∀ (G : gF) (Wv : gF) (H : Heap) (locs : List Loc) (ls : Array Slot), (PI G Wv (b + 1)) → (cpR X G Wv pr t) → gN D ad cs s0 G Wv 2 H locs → lv_has ls 16 [(0, .ref (ad 0)), (3, .ref (ad 46)), (4, .ref (ad 47)), (7, .ref (ad 48)), (8, .ref (ad 49)), (12, .int (nI t)), (13, .int 1)] → W p0 l e0 ({ frames := 8, cells := 130, slots := 760, locals := 137 } : Room) s0 m0 av9 b0 k0 c0 H locs (5 + 24 * 4) (26 + 144 * 4) Q9 (F0 m0 388 ls []) := by
        intro G Wv H locs ls hPG hRG hN hl
        obtain ⟨r1, r2, r3, t2, r4, r5, r6⟩ := hRG
        have hIG := hPG.1
        refine lv_iconst (v := 0) hx hb dL_copies_388 (by decide) ?_
        refine lv_istore (lv' := [(14, .int 0), (0, .ref (ad 0)), (3, .ref (ad 46)), (4, .ref (ad 47)), (7, .ref (ad 48)), (8, .ref (ad 49)), (12, .int (nI t)), (13, .int 1)]) hx hb dL_copies_389 hl (by decide) rfl (fun ls hl => ?_)
        have L4 : ∀ (d9_391 : Nat) (u : Nat) (H : Heap) (locs : List Loc) (ls : Array Slot), 4 - u = d9_391 → (u ≤ 4) → gN D ad cs s0 G Wv 2 H locs → lv_has ls 16 [(0, .ref (ad 0)), (3, .ref (ad 46)), (4, .ref (ad 47)), (7, .ref (ad 48)), (8, .ref (ad 49)), (12, .int (nI t)), (13, .int 1), (14, .int (nI u))] → W p0 l e0 ({ frames := 8, cells := 130, slots := 760, locals := 137 } : Room) s0 m0 av9 b0 k0 c0 H locs (5 + 24 * 4 + 5 * u) (26 + 144 * 4 + 30 * u) Q9 (F0 m0 391 ls []) := by
          intro d9_391
          induction d9_391 with
          | zero =>
            intro u H locs ls hd_391 hu hN hl
            refine lv_iload hx hb dL_copies_391 (lv_at hl 7 rfl) ?_
            refine lv_iconst (v := 4) hx hb dL_copies_393 (by decide) ?_
            refine g_cN_ge (a := u) (b := 4) (tgt := 508) hx hb dL_copies_394 (by decide) rfl rfl (by omega) (by omega) (fun c5 => ?_) (fun c5 => absurd c5 (by omega))
            refine lv_iload hx hb dL_copies_508 (lv_at hl 6 rfl) ?_
            refine lv_if_eq (tgt := 528) hx hb dL_copies_510 (by decide) (fun c6 => False.elim (by revert c6; decide)) (fun _ => ?_)
            refine lv_aload_n hx hb dL_copies_513 rfl (lv_at hl 0 rfl) ?_
            refine lv_bipush (v := 6) hx hb dL_copies_514 (by decide) ?_
            refine g_nVI (As := [.int 6]) (rest := []) ⟨hx, hb, hml, hown, hts⟩ hG hN (i := 0) (by decide) rfl rfl (c_X9_all l hl9 6) (cwV 1 hts gL_copies_X9_all rfl rfl rfl (by decide +kernel) ⟨Nat.le_of_ble_eq_true rfl, Nat.le_of_ble_eq_true rfl⟩) rfl hl.1 rfl (Nat.le_of_ble_eq_true rfl) dL_copies_516 ⟨by show _ ≤ 130; omega, by show _ ≤ 760; omega⟩ (no1 (show fAll 6 = 0 by decide)) (fun hz7 H locs hN => ?_)
            refine g_top (y := nI t2) (r5) ?_
            refine lv_iload hx hb dL_copies_519 (lv_at hl 5 rfl) ?_
            refine g_cN_gt (a := t2) (b := t) (tgt := 528) hx hb dL_copies_521 (by decide) rfl rfl (by omega) (by omega) (fun c8 => absurd c8 (by omega)) (fun c8 => ?_)
            refine lv_iconst (v := 1) hx hb dL_copies_524 (by decide) ?_
            refine lv_goto (tgt := 529) hx hb dL_copies_525 (by decide) ?_
            refine W.widen (k := 130) (n := 760) (by omega) (by omega) ?_
            subst hQ9
            exact g_rz hx hb hr hlocks (by decide) (gN.back h48 hsub hN) (⟨rfl, ho0.symm, hPG⟩) dL_copies_529
          | succ d9_391 ih391 =>
            intro u H locs ls hd_391 hu hN hl
            refine lv_iload hx hb dL_copies_391 (lv_at hl 7 rfl) ?_
            refine lv_iconst (v := 4) hx hb dL_copies_393 (by decide) ?_
            refine g_cN_ge (a := u) (b := 4) (tgt := 508) hx hb dL_copies_394 (by decide) rfl rfl (by omega) (by omega) (fun c9 => absurd c9 (by omega)) (fun c9 => ?_)
            refine lv_iload hx hb dL_copies_397 (lv_at hl 6 rfl) ?_
            refine lv_if_eq (tgt := 508) hx hb dL_copies_399 (by decide) (fun c10 => False.elim (by revert c10; decide)) (fun _ => ?_)
            refine lv_aload_n hx hb dL_copies_402 rfl (lv_at hl 1 rfl) ?_
            refine lv_iconst (v := 3) hx hb dL_copies_403 (by decide) ?_
            refine g_iald hx hb hG hN (i := 46) (n := 8) (j := 3) (by decide) rfl (by decide) (by omega) rfl dL_copies_404 ?_
            refine g_top (y := nI (pr + 1)) (r2) ?_
            refine lv_bipush (v := 10) hx hb dL_copies_405 (by decide) ?_
            refine g_remN (a := pr + 1) (b := 10) hx hb rfl rfl (by omega) (by omega) (by omega) dL_copies_407 ?_
            refine g_ifN_ne (a := (pr + 1) % 10) (tgt := 415) hx hb dL_copies_408 (by decide) rfl (by omega) (fun c11 => ?_) (fun c11 => ?_)
            · refine lv_iconst (v := 0) hx hb dL_copies_415 (by decide) ?_
              refine lv_istore (lv' := [(15, .int 0), (0, .ref (ad 0)), (3, .ref (ad 46)), (4, .ref (ad 47)), (7, .ref (ad 48)), (8, .ref (ad 49)), (12, .int (nI t)), (13, .int 1), (14, .int (nI u))]) hx hb dL_copies_416 hl (by decide) rfl (fun ls hl => ?_)
              refine lv_aload_n hx hb dL_copies_418 rfl (lv_at hl 1 rfl) ?_
              refine lv_bipush (v := 6) hx hb dL_copies_419 (by decide) ?_
              refine g_nVI (As := [.int 6]) (rest := []) ⟨hx, hb, hml, hown, hts⟩ hG hN (i := 0) (by decide) rfl rfl (c_X9_all l hl9 6) (cwV 1 hts gL_copies_X9_all rfl rfl rfl (by decide +kernel) ⟨Nat.le_of_ble_eq_true rfl, Nat.le_of_ble_eq_true rfl⟩) rfl hl.1 rfl (Nat.le_of_ble_eq_true rfl) dL_copies_421 ⟨by show _ ≤ 130; omega, by show _ ≤ 760; omega⟩ (no1 (show fAll 6 = 0 by decide)) (fun hz12 H locs hN => ?_)
              refine g_top (y := nI t2) (r5) ?_
              refine lv_iload hx hb dL_copies_424 (lv_at hl 6 rfl) ?_
              refine g_cN_lt (a := t2) (b := t) (tgt := 495) hx hb dL_copies_426 (by decide) rfl rfl (by omega) (by omega) (fun c13 => ?_) (fun c13 => ?_)
              · refine lv_iconst (v := 1) hx hb dL_copies_495 (by decide) ?_
                refine lv_goto (tgt := 500) hx hb dL_copies_496 (by decide) ?_
                refine lv_istore (lv' := [(13, .int 1), (15, .int 0), (0, .ref (ad 0)), (3, .ref (ad 46)), (4, .ref (ad 47)), (7, .ref (ad 48)), (8, .ref (ad 49)), (12, .int (nI t)), (14, .int (nI u))]) hx hb dL_copies_500 hl (by decide) rfl (fun ls hl => ?_)
                refine lv_iinc (v := (nI (u + 1))) (lv' := [(14, .int (nI (u + 1))), (13, .int 1), (15, .int 0), (0, .ref (ad 0)), (3, .ref (ad 46)), (4, .ref (ad 47)), (7, .ref (ad 48)), (8, .ref (ad 49)), (12, .int (nI t))]) hx hb dL_copies_502 hl (k := 8) rfl (nI_1 _) (by decide) rfl (fun ls hl => ?_)
                refine lv_goto (tgt := 391) hx hb dL_copies_505 (by decide) ?_
                refine W.widen (k := (5 + 24 * 4 + 5 * (u + 1))) (n := (26 + 144 * 4 + 30 * (u + 1))) (by omega) (by omega) ?_
                exact ih391 (u + 1) _ _ ls (by omega) (by omega) hN (lv_sub hl [3, 4, 5, 6, 7, 8, 1, 0] rfl)
              · refine lv_aload_n hx hb dL_copies_429 rfl (lv_at hl 1 rfl) ?_
                refine lv_iload hx hb dL_copies_430 (lv_at hl 8 rfl) ?_
                refine lv_iconst (v := 0) hx hb dL_copies_432 (by decide) ?_
                refine g_nVI (As := [.int (nI u), .int 0]) (rest := []) ⟨hx, hb, hml, hown, hts⟩ hG hN (i := 0) (by decide) rfl rfl (c_X9_unit l hl9 (nI u) 0) (cwV 2 hts gL_copies_X9_unit rfl rfl rfl (by decide +kernel) ⟨Nat.le_of_ble_eq_true rfl, Nat.le_of_ble_eq_true rfl⟩) rfl hl.1 rfl (Nat.le_of_ble_eq_true rfl) dL_copies_433 ⟨by show _ ≤ 130; omega, by show _ ≤ 760; omega⟩ (no2 (fUni0 (u := u) (w := 0) (by omega) (by omega))) (fun hz14 H locs hN => ?_)
                refine g_top (y := G 19 u) ((rUni_0 (u := u) (by omega)).trans (rfl)) ?_
                refine lv_aload hx hb dL_copies_436 (lv_at hl 4 rfl) ?_
                refine lv_iload hx hb dL_copies_438 (lv_at hl 8 rfl) ?_
                refine g_iald0 hx hb hG hN (i := 48) (n := 4) (j := u) (by decide) rfl (by decide) (by omega) rfl dL_copies_440 ?_
                refine lv_iload hx hb dL_copies_441 (lv_at hl 0 rfl) ?_
                refine lv_if_eq (tgt := 456) hx hb dL_copies_443 (by decide) (fun _ => ?_) (fun c15 => False.elim (by revert c15; decide))
                refine lv_iconst (v := 0) hx hb dL_copies_456 (by decide) ?_
                refine lv_iadd hx hb dL_copies_457 ?_
                refine lv_icmp_ne (tgt := 499) hx hb dL_copies_458 (by decide) (fun c16 => absurd c16 (fun z => z (by rw [(r6 (by omega) u (by omega)).1, (r1 u (by omega)).1, if_neg (by omega)]))) (fun c16 => ?_)
                refine lv_aload_n hx hb dL_copies_461 rfl (lv_at hl 1 rfl) ?_
                refine lv_iload hx hb dL_copies_462 (lv_at hl 8 rfl) ?_
                refine lv_iconst (v := 1) hx hb dL_copies_464 (by decide) ?_
                refine g_nVI (As := [.int (nI u), .int 1]) (rest := []) ⟨hx, hb, hml, hown, hts⟩ hG hN (i := 0) (by decide) rfl rfl (c_X9_unit l hl9 (nI u) 1) (cwV 2 hts gL_copies_X9_unit rfl rfl rfl (by decide +kernel) ⟨Nat.le_of_ble_eq_true rfl, Nat.le_of_ble_eq_true rfl⟩) rfl hl.1 rfl (Nat.le_of_ble_eq_true rfl) dL_copies_465 ⟨by show _ ≤ 130; omega, by show _ ≤ 760; omega⟩ (no2 (fUni0 (u := u) (w := 1) (by omega) (by omega))) (fun hz17 H locs hN => ?_)
                refine g_top (y := G 20 u) ((rUni_1 (u := u) (by omega)).trans (rfl)) ?_
                refine lv_aload hx hb dL_copies_468 (lv_at hl 5 rfl) ?_
                refine lv_iload hx hb dL_copies_470 (lv_at hl 8 rfl) ?_
                refine g_iald0 hx hb hG hN (i := 49) (n := 4) (j := u) (by decide) rfl (by decide) (by omega) rfl dL_copies_472 ?_
                refine lv_iload hx hb dL_copies_473 (lv_at hl 0 rfl) ?_
                refine lv_if_eq (tgt := 490) hx hb dL_copies_475 (by decide) (fun _ => ?_) (fun c18 => False.elim (by revert c18; decide))
                refine lv_iconst (v := 0) hx hb dL_copies_490 (by decide) ?_
                refine lv_iadd hx hb dL_copies_491 ?_
                refine lv_icmp_ne (tgt := 499) hx hb dL_copies_492 (by decide) (fun c19 => absurd c19 (fun z => z (by rw [(r6 (by omega) u (by omega)).2, (r1 u (by omega)).2, if_neg (by omega)]))) (fun c19 => ?_)
                refine lv_iconst (v := 1) hx hb dL_copies_495 (by decide) ?_
                refine lv_goto (tgt := 500) hx hb dL_copies_496 (by decide) ?_
                refine lv_istore (lv' := [(13, .int 1), (15, .int 0), (0, .ref (ad 0)), (3, .ref (ad 46)), (4, .ref (ad 47)), (7, .ref (ad 48)), (8, .ref (ad 49)), (12, .int (nI t)), (14, .int (nI u))]) hx hb dL_copies_500 hl (by decide) rfl (fun ls hl => ?_)
                refine lv_iinc (v := (nI (u + 1))) (lv' := [(14, .int (nI (u + 1))), (13, .int 1), (15, .int 0), (0, .ref (ad 0)), (3, .ref (ad 46)), (4, .ref (ad 47)), (7, .ref (ad 48)), (8, .ref (ad 49)), (12, .int (nI t))]) hx hb dL_copies_502 hl (k := 8) rfl (nI_1 _) (by decide) rfl (fun ls hl => ?_)
                refine lv_goto (tgt := 391) hx hb dL_copies_505 (by decide) ?_
                refine W.widen (k := (5 + 24 * 4 + 5 * (u + 1))) (n := (26 + 144 * 4 + 30 * (u + 1))) (by omega) (by omega) ?_
                exact ih391 (u + 1) _ _ ls (by omega) (by omega) hN (lv_sub hl [3, 4, 5, 6, 7, 8, 1, 0] rfl)
            · refine lv_iconst (v := 1) hx hb dL_copies_411 (by decide) ?_
              refine lv_goto (tgt := 416) hx hb dL_copies_412 (by decide) ?_
              refine lv_istore (lv' := [(15, .int 1), (0, .ref (ad 0)), (3, .ref (ad 46)), (4, .ref (ad 47)), (7, .ref (ad 48)), (8, .ref (ad 49)), (12, .int (nI t)), (13, .int 1), (14, .int (nI u))]) hx hb dL_copies_416 hl (by decide) rfl (fun ls hl => ?_)
              refine lv_aload_n hx hb dL_copies_418 rfl (lv_at hl 1 rfl) ?_
              refine lv_bipush (v := 6) hx hb dL_copies_419 (by decide) ?_
              refine g_nVI (As := [.int 6]) (rest := []) ⟨hx, hb, hml, hown, hts⟩ hG hN (i := 0) (by decide) rfl rfl (c_X9_all l hl9 6) (cwV 1 hts gL_copies_X9_all rfl rfl rfl (by decide +kernel) ⟨Nat.le_of_ble_eq_true rfl, Nat.le_of_ble_eq_true rfl⟩) rfl hl.1 rfl (Nat.le_of_ble_eq_true rfl) dL_copies_421 ⟨by show _ ≤ 130; omega, by show _ ≤ 760; omega⟩ (no1 (show fAll 6 = 0 by decide)) (fun hz20 H locs hN => ?_)
              refine g_top (y := nI t2) (r5) ?_
              refine lv_iload hx hb dL_copies_424 (lv_at hl 6 rfl) ?_
              refine g_cN_lt (a := t2) (b := t) (tgt := 495) hx hb dL_copies_426 (by decide) rfl rfl (by omega) (by omega) (fun c21 => ?_) (fun c21 => ?_)
              · refine lv_iconst (v := 1) hx hb dL_copies_495 (by decide) ?_
                refine lv_goto (tgt := 500) hx hb dL_copies_496 (by decide) ?_
                refine lv_istore (lv' := [(13, .int 1), (15, .int 1), (0, .ref (ad 0)), (3, .ref (ad 46)), (4, .ref (ad 47)), (7, .ref (ad 48)), (8, .ref (ad 49)), (12, .int (nI t)), (14, .int (nI u))]) hx hb dL_copies_500 hl (by decide) rfl (fun ls hl => ?_)
                refine lv_iinc (v := (nI (u + 1))) (lv' := [(14, .int (nI (u + 1))), (13, .int 1), (15, .int 1), (0, .ref (ad 0)), (3, .ref (ad 46)), (4, .ref (ad 47)), (7, .ref (ad 48)), (8, .ref (ad 49)), (12, .int (nI t))]) hx hb dL_copies_502 hl (k := 8) rfl (nI_1 _) (by decide) rfl (fun ls hl => ?_)
                refine lv_goto (tgt := 391) hx hb dL_copies_505 (by decide) ?_
                refine W.widen (k := (5 + 24 * 4 + 5 * (u + 1))) (n := (26 + 144 * 4 + 30 * (u + 1))) (by omega) (by omega) ?_
                exact ih391 (u + 1) _ _ ls (by omega) (by omega) hN (lv_sub hl [3, 4, 5, 6, 7, 8, 1, 0] rfl)
              · refine lv_aload_n hx hb dL_copies_429 rfl (lv_at hl 1 rfl) ?_
                refine lv_iload hx hb dL_copies_430 (lv_at hl 8 rfl) ?_
                refine lv_iconst (v := 0) hx hb dL_copies_432 (by decide) ?_
                refine g_nVI (As := [.int (nI u), .int 0]) (rest := []) ⟨hx, hb, hml, hown, hts⟩ hG hN (i := 0) (by decide) rfl rfl (c_X9_unit l hl9 (nI u) 0) (cwV 2 hts gL_copies_X9_unit rfl rfl rfl (by decide +kernel) ⟨Nat.le_of_ble_eq_true rfl, Nat.le_of_ble_eq_true rfl⟩) rfl hl.1 rfl (Nat.le_of_ble_eq_true rfl) dL_copies_433 ⟨by show _ ≤ 130; omega, by show _ ≤ 760; omega⟩ (no2 (fUni0 (u := u) (w := 0) (by omega) (by omega))) (fun hz22 H locs hN => ?_)
                refine g_top (y := G 19 u) ((rUni_0 (u := u) (by omega)).trans (rfl)) ?_
                refine lv_aload hx hb dL_copies_436 (lv_at hl 4 rfl) ?_
                refine lv_iload hx hb dL_copies_438 (lv_at hl 8 rfl) ?_
                refine g_iald0 hx hb hG hN (i := 48) (n := 4) (j := u) (by decide) rfl (by decide) (by omega) rfl dL_copies_440 ?_
                refine lv_iload hx hb dL_copies_441 (lv_at hl 0 rfl) ?_
                refine lv_if_eq (tgt := 456) hx hb dL_copies_443 (by decide) (fun c23 => False.elim (by revert c23; decide)) (fun _ => ?_)
                refine lv_aload hx hb dL_copies_446 (lv_at hl 3 rfl) ?_
                refine lv_iconst (v := 2) hx hb dL_copies_448 (by decide) ?_
                refine lv_iload hx hb dL_copies_449 (lv_at hl 8 rfl) ?_
                refine g_mulN (a := 2) (b := u) hx hb rfl rfl dL_copies_451 ?_
                refine g_iald hx hb hG hN (i := 47) (n := 8) (j := 2 * u) (by decide) rfl (by decide) (by omega) rfl dL_copies_452 ?_
                refine lv_goto (tgt := 457) hx hb dL_copies_453 (by decide) ?_
                refine lv_iadd hx hb dL_copies_457 ?_
                refine lv_icmp_ne (tgt := 499) hx hb dL_copies_458 (by decide) (fun c24 => absurd c24 (fun z => z (by rw [(r6 (by omega) u (by omega)).1, (r1 u (by omega)).1, (r3 u (by omega)).1, if_pos c11]))) (fun c24 => ?_)
                refine lv_aload_n hx hb dL_copies_461 rfl (lv_at hl 1 rfl) ?_
                refine lv_iload hx hb dL_copies_462 (lv_at hl 8 rfl) ?_
                refine lv_iconst (v := 1) hx hb dL_copies_464 (by decide) ?_
                refine g_nVI (As := [.int (nI u), .int 1]) (rest := []) ⟨hx, hb, hml, hown, hts⟩ hG hN (i := 0) (by decide) rfl rfl (c_X9_unit l hl9 (nI u) 1) (cwV 2 hts gL_copies_X9_unit rfl rfl rfl (by decide +kernel) ⟨Nat.le_of_ble_eq_true rfl, Nat.le_of_ble_eq_true rfl⟩) rfl hl.1 rfl (Nat.le_of_ble_eq_true rfl) dL_copies_465 ⟨by show _ ≤ 130; omega, by show _ ≤ 760; omega⟩ (no2 (fUni0 (u := u) (w := 1) (by omega) (by omega))) (fun hz25 H locs hN => ?_)
                refine g_top (y := G 20 u) ((rUni_1 (u := u) (by omega)).trans (rfl)) ?_
                refine lv_aload hx hb dL_copies_468 (lv_at hl 5 rfl) ?_
                refine lv_iload hx hb dL_copies_470 (lv_at hl 8 rfl) ?_
                refine g_iald0 hx hb hG hN (i := 49) (n := 4) (j := u) (by decide) rfl (by decide) (by omega) rfl dL_copies_472 ?_
                refine lv_iload hx hb dL_copies_473 (lv_at hl 0 rfl) ?_
                refine lv_if_eq (tgt := 490) hx hb dL_copies_475 (by decide) (fun c26 => False.elim (by revert c26; decide)) (fun _ => ?_)
                refine lv_aload hx hb dL_copies_478 (lv_at hl 3 rfl) ?_
                refine lv_iconst (v := 2) hx hb dL_copies_480 (by decide) ?_
                refine lv_iload hx hb dL_copies_481 (lv_at hl 8 rfl) ?_
                refine g_mulN (a := 2) (b := u) hx hb rfl rfl dL_copies_483 ?_
                refine lv_iconst (v := 1) hx hb dL_copies_484 (by decide) ?_
                refine g_addN (a := 2 * u) (b := 1) hx hb rfl rfl dL_copies_485 ?_
                refine g_iald hx hb hG hN (i := 47) (n := 8) (j := (2 * u) + 1) (by decide) rfl (by decide) (by omega) rfl dL_copies_486 ?_
                refine lv_goto (tgt := 491) hx hb dL_copies_487 (by decide) ?_
                refine lv_iadd hx hb dL_copies_491 ?_
                refine lv_icmp_ne (tgt := 499) hx hb dL_copies_492 (by decide) (fun c27 => absurd c27 (fun z => z (by rw [(r6 (by omega) u (by omega)).2, (r1 u (by omega)).2, (r3 u (by omega)).2, if_pos c11]))) (fun c27 => ?_)
                refine lv_iconst (v := 1) hx hb dL_copies_495 (by decide) ?_
                refine lv_goto (tgt := 500) hx hb dL_copies_496 (by decide) ?_
                refine lv_istore (lv' := [(13, .int 1), (15, .int 1), (0, .ref (ad 0)), (3, .ref (ad 46)), (4, .ref (ad 47)), (7, .ref (ad 48)), (8, .ref (ad 49)), (12, .int (nI t)), (14, .int (nI u))]) hx hb dL_copies_500 hl (by decide) rfl (fun ls hl => ?_)
                refine lv_iinc (v := (nI (u + 1))) (lv' := [(14, .int (nI (u + 1))), (13, .int 1), (15, .int 1), (0, .ref (ad 0)), (3, .ref (ad 46)), (4, .ref (ad 47)), (7, .ref (ad 48)), (8, .ref (ad 49)), (12, .int (nI t))]) hx hb dL_copies_502 hl (k := 8) rfl (nI_1 _) (by decide) rfl (fun ls hl => ?_)
                refine lv_goto (tgt := 391) hx hb dL_copies_505 (by decide) ?_
                refine W.widen (k := (5 + 24 * 4 + 5 * (u + 1))) (n := (26 + 144 * 4 + 30 * (u + 1))) (by omega) (by omega) ?_
                exact ih391 (u + 1) _ _ ls (by omega) (by omega) hN (lv_sub hl [3, 4, 5, 6, 7, 8, 1, 0] rfl)
        refine W.widen (k := (5 + 24 * 4)) (n := (26 + 144 * 4)) (by omega) (by omega) ?_
        exact L4 _ 0 _ _ ls (rfl) (by omega) hN (lv_sub hl [1, 2, 3, 4, 5, 6, 7, 0] rfl)
      have h4c : 0 < V 27 1 ∨ (¬ 0 < V 27 1 ∧ ¬ cRight X (V 1 3)) ∨ (¬ 0 < V 27 1 ∧ cRight X (V 1 3) ∧ ¬ cEven X) ∨ (¬ 0 < V 27 1 ∧ cRight X (V 1 3) ∧ cEven X) := by
        by_cases z1 : 0 < V 27 1
        · exact Or.inl z1
        · by_cases z2 : cRight X (V 1 3)
          · by_cases z3 : cEven X
            · exact Or.inr (Or.inr (Or.inr ⟨z1, z2, z3⟩))
            · exact Or.inr (Or.inr (Or.inl ⟨z1, z2, z3⟩))
          · exact Or.inr (Or.inl ⟨z1, z2⟩)
      rcases h4c with hled | ⟨hled, hri⟩ | ⟨hled, hri, hev⟩ | ⟨hled, hri, hev⟩
      · have hg9 : ¬ xG X V (cEven X) := fun z => z.1 hled
        obtain ⟨hv1, hv3, hv4, hv5⟩ := jv_led (V := V) (P := cRight X (V 1 3)) (K := cEven X) hled
        have hcp := cp_fin (K := cEven X) hX (by omega) hp (by omega) ((xV_27 (by decide)).trans hv1).symm ((xV_27 (by decide)).trans hv3).symm ((xV_27 (by decide)).trans hv4).symm ((xV_27 (by decide)).trans hv5).symm
        refine lv_aload_n hx hb dL_copies_187 rfl (lv_at hl 3 rfl) ?_
        refine lv_iconst (v := 2) hx hb dL_copies_188 (by decide) ?_
        refine g_iald hx hb hG hN (i := 46) (n := 8) (j := 2) (by decide) rfl (by decide) (by omega) rfl dL_copies_189 ?_
        refine g_top (y := V 27 1) (hC2) ?_
        refine lv_if_le (tgt := 197) hx hb dL_copies_190 (by decide) (fun c28 => absurd c28 (Int32.not_le.mpr hled)) (fun c28 => ?_)
        refine lv_iconst (v := 1) hx hb dL_copies_193 (by decide) ?_
        refine lv_goto (tgt := 198) hx hb dL_copies_194 (by decide) ?_
        refine lv_istore (lv' := [(9, .int 1), (0, .ref (ad 0)), (1, .ref (ad 43)), (2, .ref (ad 45)), (3, .ref (ad 46)), (4, .ref (ad 47)), (5, .int (if offB F (V 1 3) 4 = true then 1 else 0)), (6, .int (if unB F (8 * 4) = true then 1 else 0)), (7, .ref (ad 48)), (8, .ref (ad 49))]) hx hb dL_copies_198 hl (by decide) rfl (fun ls hl => ?_)
        refine lv_iload hx hb dL_copies_200 (lv_at hl 0 rfl) ?_
        refine lv_if_ne (tgt := 219) hx hb dL_copies_202 (by decide) (fun _ => ?_) (fun c29 => False.elim (by revert c29; decide))
        refine lv_iconst (v := 0) hx hb dL_copies_219 (by decide) ?_
        refine lv_istore (lv' := [(10, .int 0), (9, .int 1), (0, .ref (ad 0)), (1, .ref (ad 43)), (2, .ref (ad 45)), (3, .ref (ad 46)), (4, .ref (ad 47)), (5, .int (if offB F (V 1 3) 4 = true then 1 else 0)), (6, .int (if unB F (8 * 4) = true then 1 else 0)), (7, .ref (ad 48)), (8, .ref (ad 49))]) hx hb dL_copies_220 hl (by decide) rfl (fun ls hl => ?_)
        refine lv_aload_n hx hb dL_copies_222 rfl (lv_at hl 2 rfl) ?_
        refine g_VI (As := []) (rest := []) ⟨hx, hb, hml, hown, hts⟩ hG hN (i := 0) (by decide) rfl rfl (c_X9_next l hd w2 hh4 hh2 hw5 hw2) (cwV 0 hts gL_copies_X9_next rfl rfl rfl (by decide +kernel) ⟨Nat.le_of_ble_eq_true rfl, Nat.le_of_ble_eq_true rfl⟩) rfl hl.1 rfl (Nat.le_of_ble_eq_true rfl) dL_copies_223 ⟨by show _ ≤ 130; omega, by show _ ≤ 760; omega⟩ (fun H locs hN => ?_)
        refine lv_istore (lv' := [(11, .int (if w2 = 0 then -1 else X 36 hd)), (10, .int 0), (9, .int 1), (0, .ref (ad 0)), (1, .ref (ad 43)), (2, .ref (ad 45)), (3, .ref (ad 46)), (4, .ref (ad 47)), (5, .int (if offB F (V 1 3) 4 = true then 1 else 0)), (6, .int (if unB F (8 * 4) = true then 1 else 0)), (7, .ref (ad 48)), (8, .ref (ad 49))]) hx hb dL_copies_226 hl (by decide) rfl (fun ls hl => ?_)
        refine lv_aload_n hx hb dL_copies_228 rfl (lv_at hl 3 rfl) ?_
        refine lv_bipush (v := 6) hx hb dL_copies_229 (by decide) ?_
        refine g_nVI (As := [.int 6]) (rest := []) ⟨hx, hb, hml, hown, hts⟩ hG hN (i := 0) (by decide) rfl rfl (c_X9_all l hl9 6) (cwV 1 hts gL_copies_X9_all rfl rfl rfl (by decide +kernel) ⟨Nat.le_of_ble_eq_true rfl, Nat.le_of_ble_eq_true rfl⟩) rfl hl.1 rfl (Nat.le_of_ble_eq_true rfl) dL_copies_231 ⟨by show _ ≤ 130; omega, by show _ ≤ 760; omega⟩ (no1 (show fAll 6 = 0 by decide)) (fun hz30 H locs hN => ?_)
        refine g_top (y := nI t) (ht) ?_
        refine lv_istore (lv' := [(12, .int (nI t)), (11, .int (if w2 = 0 then -1 else X 36 hd)), (10, .int 0), (9, .int 1), (0, .ref (ad 0)), (1, .ref (ad 43)), (2, .ref (ad 45)), (3, .ref (ad 46)), (4, .ref (ad 47)), (5, .int (if offB F (V 1 3) 4 = true then 1 else 0)), (6, .int (if unB F (8 * 4) = true then 1 else 0)), (7, .ref (ad 48)), (8, .ref (ad 49))]) hx hb dL_copies_234 hl (by decide) rfl (fun ls hl => ?_)
        refine lv_aload_n hx hb dL_copies_236 rfl (lv_at hl 4 rfl) ?_
        refine lv_iconst (v := 1) hx hb dL_copies_237 (by decide) ?_
        refine g_nVI (As := [.int 1]) (rest := []) ⟨hx, hb, hml, hown, hts⟩ hG hN (i := 0) (by decide) rfl rfl (c_X9_print l hl9 1 b hI.ok (by omega)) (cwV 1 hts gL_copies_X9_print rfl rfl rfl (by decide +kernel) ⟨Nat.le_of_ble_eq_true rfl, Nat.le_of_ble_eq_true rfl⟩) rfl hl.1 rfl (Nat.le_of_ble_eq_true rfl) dL_copies_238 ⟨by show _ ≤ 130; omega, by show _ ≤ 760; omega⟩ (no2 (fPri0 hp (by omega))) (fun hz31 H locs hN => ?_)
        refine g_top (y := 0) (by rw [xIt_1]; exact if_neg hg9) ?_
        rw [xIt_1] at hN
        dsimp only at hN
        refine lv_iload hx hb dL_copies_241 (lv_at hl 2 rfl) ?_
        refine lv_if_eq (tgt := 250) hx hb dL_copies_243 (by decide) (fun _ => ?_) (fun c32 => False.elim (by revert c32; decide))
        refine lv_iconst (v := 0) hx hb dL_copies_250 (by decide) ?_
        refine lv_icmp_ne (tgt := 258) hx hb dL_copies_251 (by decide) (fun c33 => False.elim (by revert c33; decide)) (fun _ => ?_)
        refine lv_iconst (v := 1) hx hb dL_copies_254 (by decide) ?_
        refine lv_goto (tgt := 259) hx hb dL_copies_255 (by decide) ?_
        refine lv_istore (lv' := [(13, .int 1), (12, .int (nI t)), (11, .int (if w2 = 0 then -1 else X 36 hd)), (10, .int 0), (9, .int 1), (0, .ref (ad 0)), (1, .ref (ad 43)), (2, .ref (ad 45)), (3, .ref (ad 46)), (4, .ref (ad 47)), (5, .int (if offB F (V 1 3) 4 = true then 1 else 0)), (6, .int (if unB F (8 * 4) = true then 1 else 0)), (7, .ref (ad 48)), (8, .ref (ad 49))]) hx hb dL_copies_259 hl (by decide) rfl (fun ls hl => ?_)
        refine lv_aload_n hx hb dL_copies_261 rfl (lv_at hl 8 rfl) ?_
        refine lv_iconst (v := 2) hx hb dL_copies_262 (by decide) ?_
        refine lv_dup2_11 hx hb dL_copies_263 rfl rfl ?_
        refine g_iald hx hb hG hN (i := 46) (n := 8) (j := 2) (by decide) rfl (by decide) (by omega) rfl dL_copies_264 ?_
        refine lv_iload hx hb dL_copies_265 (lv_at hl 4 rfl) ?_
        refine lv_if_eq (tgt := 274) hx hb dL_copies_267 (by decide) (fun c34 => False.elim (by revert c34; decide)) (fun _ => ?_)
        refine lv_iconst (v := 1) hx hb dL_copies_270 (by decide) ?_
        refine lv_goto (tgt := 275) hx hb dL_copies_271 (by decide) ?_
        refine lv_isub hx hb dL_copies_275 ?_
        refine g_iast hx hb hG hN (i := 46) (n := 8) (j := 2) (by decide) (fun _ => rfl) (by decide) (by omega) rfl dL_copies_276 (fun H locs hN => ?_)
        refine lv_aload_n hx hb dL_copies_277 rfl (lv_at hl 8 rfl) ?_
        refine lv_iconst (v := 3) hx hb dL_copies_278 (by decide) ?_
        refine lv_dup2_11 hx hb dL_copies_279 rfl rfl ?_
        refine g_iald hx hb hG hN (i := 46) (n := 8) (j := 3) (by decide) rfl (by decide) (by omega) rfl dL_copies_280 ?_
        refine g_top (y := ((xF X V (cEven X)) 46 3)) (by simp [gw]) ?_
        refine lv_iconst (v := 1) hx hb dL_copies_281 (by decide) ?_
        refine lv_iadd hx hb dL_copies_282 ?_
        refine g_iast hx hb hG hN (i := 46) (n := 8) (j := 3) (by decide) (fun _ => rfl) (by decide) (by omega) rfl dL_copies_283 (fun H locs hN => ?_)
        refine lv_aload_n hx hb dL_copies_284 rfl (lv_at hl 8 rfl) ?_
        refine lv_iconst (v := 4) hx hb dL_copies_285 (by decide) ?_
        refine lv_dup2_11 hx hb dL_copies_286 rfl rfl ?_
        refine g_iald hx hb hG hN (i := 46) (n := 8) (j := 4) (by decide) rfl (by decide) (by omega) rfl dL_copies_287 ?_
        refine g_top (y := ((xF X V (cEven X)) 46 4)) (by simp [gw]) ?_
        refine lv_iload hx hb dL_copies_288 (lv_at hl 3 rfl) ?_
        refine lv_if_eq (tgt := 297) hx hb dL_copies_290 (by decide) (fun _ => ?_) (fun c35 => False.elim (by revert c35; decide))
        refine lv_iconst (v := 0) hx hb dL_copies_297 (by decide) ?_
        refine lv_iadd hx hb dL_copies_298 ?_
        refine g_iast hx hb hG hN (i := 46) (n := 8) (j := 4) (by decide) (fun _ => rfl) (by decide) (by omega) rfl dL_copies_299 (fun H locs hN => ?_)
        refine lv_aload_n hx hb dL_copies_300 rfl (lv_at hl 8 rfl) ?_
        refine lv_iconst (v := 5) hx hb dL_copies_301 (by decide) ?_
        refine lv_dup2_11 hx hb dL_copies_302 rfl rfl ?_
        refine g_iald hx hb hG hN (i := 46) (n := 8) (j := 5) (by decide) rfl (by decide) (by omega) rfl dL_copies_303 ?_
        refine g_top (y := ((xF X V (cEven X)) 46 5)) (by simp [gw]) ?_
        refine lv_iload hx hb dL_copies_304 (lv_at hl 4 rfl) ?_
        refine lv_if_ne (tgt := 318) hx hb dL_copies_306 (by decide) (fun _ => ?_) (fun c36 => False.elim (by revert c36; decide))
        refine lv_iconst (v := 0) hx hb dL_copies_318 (by decide) ?_
        refine lv_iadd hx hb dL_copies_319 ?_
        refine g_iast hx hb hG hN (i := 46) (n := 8) (j := 5) (by decide) (fun _ => rfl) (by decide) (by omega) rfl dL_copies_320 (fun H locs hN => ?_)
        refine lv_aload_n hx hb dL_copies_321 rfl (lv_at hl 8 rfl) ?_
        refine lv_bipush (v := 6) hx hb dL_copies_322 (by decide) ?_
        refine lv_dup2_11 hx hb dL_copies_324 rfl rfl ?_
        refine g_iald hx hb hG hN (i := 46) (n := 8) (j := 6) (by decide) rfl (by decide) (by omega) rfl dL_copies_325 ?_
        refine g_top (y := ((xF X V (cEven X)) 46 6)) (by simp [gw]) ?_
        refine lv_iload hx hb dL_copies_326 (lv_at hl 4 rfl) ?_
        refine lv_if_ne (tgt := 345) hx hb dL_copies_328 (by decide) (fun _ => ?_) (fun c37 => False.elim (by revert c37; decide))
        refine lv_iconst (v := 0) hx hb dL_copies_345 (by decide) ?_
        refine lv_iadd hx hb dL_copies_346 ?_
        refine g_iast hx hb hG hN (i := 46) (n := 8) (j := 6) (by decide) (fun _ => rfl) (by decide) (by omega) rfl dL_copies_347 (fun H locs hN => ?_)
        by_cases hw0 : w2 = 0
        · rw [if_pos hw0] at hl
          refine lv_iload hx hb dL_copies_348 (lv_at hl 2 rfl) ?_
          refine lv_if_lt (tgt := 388) hx hb dL_copies_350 (by decide) (fun _ => ?_) (fun c38 => False.elim (by revert c38; decide))
          refine W.widen (k := (5 + 24 * 4)) (n := (26 + 144 * 4)) (by omega) (by omega) ?_
          exact J3 (cpG (xF X V (cEven X)) 1 0 0 0) (xV X V (cEven X)) _ _ ls (hcp.1 (by rw [hw5, hw0]; rfl)) (cpR_of hX hx9 hp (by omega) ht ht2 (fun a _ h46 => cpG_o h46) (cpG_at.2.2.2.1)) hN (lv_sub hl [5, 8, 9, 12, 13, 1, 0] rfl)
        · obtain ⟨q0, hq0, eq0⟩ := hL hd w2 hh2 hw2 hh4 hw5 0 (by omega)
          rw [Nat.add_zero hd, Nat.mod_eq_of_lt hh2] at eq0
          rw [if_neg hw0, eq0] at hl
          refine lv_iload hx hb dL_copies_348 (lv_at hl 2 rfl) ?_
          refine lv_if_lt (tgt := 388) hx hb dL_copies_350 (by decide) (fun c39 => absurd c39 (nI_pos (by omega))) (fun c39 => ?_)
          refine lv_aload_n hx hb dL_copies_353 rfl (lv_at hl 7 rfl) ?_
          refine lv_iload hx hb dL_copies_354 (lv_at hl 2 rfl) ?_
          refine lv_dup2_11 hx hb dL_copies_356 rfl rfl ?_
          refine g_iald hx hb hG hN (i := 45) (n := 40) (j := q0) (by decide) rfl (by decide) (by omega) rfl dL_copies_357 ?_
          refine g_top (y := ((xF X V (cEven X)) 45 q0)) (rfl) ?_
          refine lv_iload hx hb dL_copies_358 (lv_at hl 3 rfl) ?_
          refine lv_if_eq (tgt := 369) hx hb dL_copies_360 (by decide) (fun _ => ?_) (fun c40 => False.elim (by revert c40; decide))
          refine lv_iconst (v := 1) hx hb dL_copies_369 (by decide) ?_
          refine lv_iadd hx hb dL_copies_370 ?_
          refine g_iast hx hb hG hN (i := 45) (n := 40) (j := q0) (by decide) (fun _ => rfl) (by decide) (by omega) rfl dL_copies_371 (fun H locs hN => ?_)
          refine lv_aload_n hx hb dL_copies_372 rfl (lv_at hl 8 rfl) ?_
          refine lv_iconst (v := 1) hx hb dL_copies_373 (by decide) ?_
          refine lv_dup2_11 hx hb dL_copies_374 rfl rfl ?_
          refine g_iald hx hb hG hN (i := 46) (n := 8) (j := 1) (by decide) rfl (by decide) (by omega) rfl dL_copies_375 ?_
          refine g_top (y := ((xF X V (cEven X)) 46 1)) (by simp [gw]) ?_
          refine lv_iload hx hb dL_copies_376 (lv_at hl 3 rfl) ?_
          refine lv_if_eq (tgt := 385) hx hb dL_copies_378 (by decide) (fun _ => ?_) (fun c41 => False.elim (by revert c41; decide))
          refine lv_iconst (v := 0) hx hb dL_copies_385 (by decide) ?_
          refine lv_iadd hx hb dL_copies_386 ?_
          refine g_iast hx hb hG hN (i := 46) (n := 8) (j := 1) (by decide) (fun _ => rfl) (by decide) (by omega) rfl dL_copies_387 (fun H locs hN => ?_)
          refine W.widen (k := (5 + 24 * 4)) (n := (26 + 144 * 4)) (by omega) (by omega) ?_
          exact J3 (cpT (xF X V (cEven X)) (cpG (xF X V (cEven X)) 1 0 0 0) q0 1 0) (xV X V (cEven X)) _ _ ls (hcp.2 hd q0 1 0 hh2 (by omega) hh4 (fun z => hw0 ((nI_eq (b := 0) (by omega) (by decide)).mp (hw5.symm.trans z))) eq0 (if_neg hg9).symm (if_neg hg9).symm) (cpR_of hX hx9 hp (by omega) ht ht2 (fun a h45 h46 => (cpT_o h46 h45).trans (cpG_o h46)) ((cpT_46 (by decide)).trans cpG_at.2.2.2.1)) hN (lv_sub hl [5, 8, 9, 12, 13, 1, 0] rfl)
      · have hg9 : ¬ xG X V (cEven X) := fun z => hri z.2.1
        obtain ⟨hv1, hv3, hv4, hv5⟩ := jv_off (V := V) (P := cRight X (V 1 3)) (K := cEven X) hled hri
        have hcp := cp_fin (K := cEven X) hX (by omega) hp (by omega) ((xV_27 (by decide)).trans hv1).symm ((xV_27 (by decide)).trans hv3).symm ((xV_27 (by decide)).trans hv4).symm ((xV_27 (by decide)).trans hv5).symm
        rw [if_pos (Classical.not_not.mp (fun z => hri (hof.mp z)))] at hl
        refine lv_aload_n hx hb dL_copies_187 rfl (lv_at hl 3 rfl) ?_
        refine lv_iconst (v := 2) hx hb dL_copies_188 (by decide) ?_
        refine g_iald hx hb hG hN (i := 46) (n := 8) (j := 2) (by decide) rfl (by decide) (by omega) rfl dL_copies_189 ?_
        refine g_top (y := V 27 1) (hC2) ?_
        refine lv_if_le (tgt := 197) hx hb dL_copies_190 (by decide) (fun c42 => ?_) (fun c42 => absurd c42 (fun z => z (Int32.not_lt.mp hled)))
        refine lv_iconst (v := 0) hx hb dL_copies_197 (by decide) ?_
        refine lv_istore (lv' := [(9, .int 0), (0, .ref (ad 0)), (1, .ref (ad 43)), (2, .ref (ad 45)), (3, .ref (ad 46)), (4, .ref (ad 47)), (5, .int 1), (6, .int (if unB F (8 * 4) = true then 1 else 0)), (7, .ref (ad 48)), (8, .ref (ad 49))]) hx hb dL_copies_198 hl (by decide) rfl (fun ls hl => ?_)
        refine lv_iload hx hb dL_copies_200 (lv_at hl 0 rfl) ?_
        refine lv_if_ne (tgt := 219) hx hb dL_copies_202 (by decide) (fun c43 => False.elim (by revert c43; decide)) (fun _ => ?_)
        refine lv_iload hx hb dL_copies_205 (lv_at hl 6 rfl) ?_
        refine lv_if_ne (tgt := 219) hx hb dL_copies_207 (by decide) (fun _ => ?_) (fun c44 => False.elim (by revert c44; decide))
        refine lv_iconst (v := 0) hx hb dL_copies_219 (by decide) ?_
        refine lv_istore (lv' := [(10, .int 0), (9, .int 0), (0, .ref (ad 0)), (1, .ref (ad 43)), (2, .ref (ad 45)), (3, .ref (ad 46)), (4, .ref (ad 47)), (5, .int 1), (6, .int (if unB F (8 * 4) = true then 1 else 0)), (7, .ref (ad 48)), (8, .ref (ad 49))]) hx hb dL_copies_220 hl (by decide) rfl (fun ls hl => ?_)
        refine lv_aload_n hx hb dL_copies_222 rfl (lv_at hl 2 rfl) ?_
        refine g_VI (As := []) (rest := []) ⟨hx, hb, hml, hown, hts⟩ hG hN (i := 0) (by decide) rfl rfl (c_X9_next l hd w2 hh4 hh2 hw5 hw2) (cwV 0 hts gL_copies_X9_next rfl rfl rfl (by decide +kernel) ⟨Nat.le_of_ble_eq_true rfl, Nat.le_of_ble_eq_true rfl⟩) rfl hl.1 rfl (Nat.le_of_ble_eq_true rfl) dL_copies_223 ⟨by show _ ≤ 130; omega, by show _ ≤ 760; omega⟩ (fun H locs hN => ?_)
        refine lv_istore (lv' := [(11, .int (if w2 = 0 then -1 else X 36 hd)), (10, .int 0), (9, .int 0), (0, .ref (ad 0)), (1, .ref (ad 43)), (2, .ref (ad 45)), (3, .ref (ad 46)), (4, .ref (ad 47)), (5, .int 1), (6, .int (if unB F (8 * 4) = true then 1 else 0)), (7, .ref (ad 48)), (8, .ref (ad 49))]) hx hb dL_copies_226 hl (by decide) rfl (fun ls hl => ?_)
        refine lv_aload_n hx hb dL_copies_228 rfl (lv_at hl 3 rfl) ?_
        refine lv_bipush (v := 6) hx hb dL_copies_229 (by decide) ?_
        refine g_nVI (As := [.int 6]) (rest := []) ⟨hx, hb, hml, hown, hts⟩ hG hN (i := 0) (by decide) rfl rfl (c_X9_all l hl9 6) (cwV 1 hts gL_copies_X9_all rfl rfl rfl (by decide +kernel) ⟨Nat.le_of_ble_eq_true rfl, Nat.le_of_ble_eq_true rfl⟩) rfl hl.1 rfl (Nat.le_of_ble_eq_true rfl) dL_copies_231 ⟨by show _ ≤ 130; omega, by show _ ≤ 760; omega⟩ (no1 (show fAll 6 = 0 by decide)) (fun hz45 H locs hN => ?_)
        refine g_top (y := nI t) (ht) ?_
        refine lv_istore (lv' := [(12, .int (nI t)), (11, .int (if w2 = 0 then -1 else X 36 hd)), (10, .int 0), (9, .int 0), (0, .ref (ad 0)), (1, .ref (ad 43)), (2, .ref (ad 45)), (3, .ref (ad 46)), (4, .ref (ad 47)), (5, .int 1), (6, .int (if unB F (8 * 4) = true then 1 else 0)), (7, .ref (ad 48)), (8, .ref (ad 49))]) hx hb dL_copies_234 hl (by decide) rfl (fun ls hl => ?_)
        refine lv_aload_n hx hb dL_copies_236 rfl (lv_at hl 4 rfl) ?_
        refine lv_iconst (v := 1) hx hb dL_copies_237 (by decide) ?_
        refine g_nVI (As := [.int 1]) (rest := []) ⟨hx, hb, hml, hown, hts⟩ hG hN (i := 0) (by decide) rfl rfl (c_X9_print l hl9 1 b hI.ok (by omega)) (cwV 1 hts gL_copies_X9_print rfl rfl rfl (by decide +kernel) ⟨Nat.le_of_ble_eq_true rfl, Nat.le_of_ble_eq_true rfl⟩) rfl hl.1 rfl (Nat.le_of_ble_eq_true rfl) dL_copies_238 ⟨by show _ ≤ 130; omega, by show _ ≤ 760; omega⟩ (no2 (fPri0 hp (by omega))) (fun hz46 H locs hN => ?_)
        refine g_top (y := 0) (by rw [xIt_1]; exact if_neg hg9) ?_
        rw [xIt_1] at hN
        dsimp only at hN
        refine lv_iload hx hb dL_copies_241 (lv_at hl 2 rfl) ?_
        refine lv_if_eq (tgt := 250) hx hb dL_copies_243 (by decide) (fun _ => ?_) (fun c47 => False.elim (by revert c47; decide))
        refine lv_iconst (v := 0) hx hb dL_copies_250 (by decide) ?_
        refine lv_icmp_ne (tgt := 258) hx hb dL_copies_251 (by decide) (fun c48 => False.elim (by revert c48; decide)) (fun _ => ?_)
        refine lv_iconst (v := 1) hx hb dL_copies_254 (by decide) ?_
        refine lv_goto (tgt := 259) hx hb dL_copies_255 (by decide) ?_
        refine lv_istore (lv' := [(13, .int 1), (12, .int (nI t)), (11, .int (if w2 = 0 then -1 else X 36 hd)), (10, .int 0), (9, .int 0), (0, .ref (ad 0)), (1, .ref (ad 43)), (2, .ref (ad 45)), (3, .ref (ad 46)), (4, .ref (ad 47)), (5, .int 1), (6, .int (if unB F (8 * 4) = true then 1 else 0)), (7, .ref (ad 48)), (8, .ref (ad 49))]) hx hb dL_copies_259 hl (by decide) rfl (fun ls hl => ?_)
        refine lv_aload_n hx hb dL_copies_261 rfl (lv_at hl 8 rfl) ?_
        refine lv_iconst (v := 2) hx hb dL_copies_262 (by decide) ?_
        refine lv_dup2_11 hx hb dL_copies_263 rfl rfl ?_
        refine g_iald hx hb hG hN (i := 46) (n := 8) (j := 2) (by decide) rfl (by decide) (by omega) rfl dL_copies_264 ?_
        refine lv_iload hx hb dL_copies_265 (lv_at hl 4 rfl) ?_
        refine lv_if_eq (tgt := 274) hx hb dL_copies_267 (by decide) (fun _ => ?_) (fun c49 => False.elim (by revert c49; decide))
        refine lv_iconst (v := 0) hx hb dL_copies_274 (by decide) ?_
        refine lv_isub hx hb dL_copies_275 ?_
        refine g_iast hx hb hG hN (i := 46) (n := 8) (j := 2) (by decide) (fun _ => rfl) (by decide) (by omega) rfl dL_copies_276 (fun H locs hN => ?_)
        refine lv_aload_n hx hb dL_copies_277 rfl (lv_at hl 8 rfl) ?_
        refine lv_iconst (v := 3) hx hb dL_copies_278 (by decide) ?_
        refine lv_dup2_11 hx hb dL_copies_279 rfl rfl ?_
        refine g_iald hx hb hG hN (i := 46) (n := 8) (j := 3) (by decide) rfl (by decide) (by omega) rfl dL_copies_280 ?_
        refine g_top (y := ((xF X V (cEven X)) 46 3)) (by simp [gw]) ?_
        refine lv_iconst (v := 1) hx hb dL_copies_281 (by decide) ?_
        refine lv_iadd hx hb dL_copies_282 ?_
        refine g_iast hx hb hG hN (i := 46) (n := 8) (j := 3) (by decide) (fun _ => rfl) (by decide) (by omega) rfl dL_copies_283 (fun H locs hN => ?_)
        refine lv_aload_n hx hb dL_copies_284 rfl (lv_at hl 8 rfl) ?_
        refine lv_iconst (v := 4) hx hb dL_copies_285 (by decide) ?_
        refine lv_dup2_11 hx hb dL_copies_286 rfl rfl ?_
        refine g_iald hx hb hG hN (i := 46) (n := 8) (j := 4) (by decide) rfl (by decide) (by omega) rfl dL_copies_287 ?_
        refine g_top (y := ((xF X V (cEven X)) 46 4)) (by simp [gw]) ?_
        refine lv_iload hx hb dL_copies_288 (lv_at hl 3 rfl) ?_
        refine lv_if_eq (tgt := 297) hx hb dL_copies_290 (by decide) (fun _ => ?_) (fun c50 => False.elim (by revert c50; decide))
        refine lv_iconst (v := 0) hx hb dL_copies_297 (by decide) ?_
        refine lv_iadd hx hb dL_copies_298 ?_
        refine g_iast hx hb hG hN (i := 46) (n := 8) (j := 4) (by decide) (fun _ => rfl) (by decide) (by omega) rfl dL_copies_299 (fun H locs hN => ?_)
        refine lv_aload_n hx hb dL_copies_300 rfl (lv_at hl 8 rfl) ?_
        refine lv_iconst (v := 5) hx hb dL_copies_301 (by decide) ?_
        refine lv_dup2_11 hx hb dL_copies_302 rfl rfl ?_
        refine g_iald hx hb hG hN (i := 46) (n := 8) (j := 5) (by decide) rfl (by decide) (by omega) rfl dL_copies_303 ?_
        refine g_top (y := ((xF X V (cEven X)) 46 5)) (by simp [gw]) ?_
        refine lv_iload hx hb dL_copies_304 (lv_at hl 4 rfl) ?_
        refine lv_if_ne (tgt := 318) hx hb dL_copies_306 (by decide) (fun c51 => False.elim (by revert c51; decide)) (fun _ => ?_)
        refine lv_iload hx hb dL_copies_309 (lv_at hl 10 rfl) ?_
        refine lv_if_eq (tgt := 318) hx hb dL_copies_311 (by decide) (fun c52 => False.elim (by revert c52; decide)) (fun _ => ?_)
        refine lv_iconst (v := 1) hx hb dL_copies_314 (by decide) ?_
        refine lv_goto (tgt := 319) hx hb dL_copies_315 (by decide) ?_
        refine lv_iadd hx hb dL_copies_319 ?_
        refine g_iast hx hb hG hN (i := 46) (n := 8) (j := 5) (by decide) (fun _ => rfl) (by decide) (by omega) rfl dL_copies_320 (fun H locs hN => ?_)
        refine lv_aload_n hx hb dL_copies_321 rfl (lv_at hl 8 rfl) ?_
        refine lv_bipush (v := 6) hx hb dL_copies_322 (by decide) ?_
        refine lv_dup2_11 hx hb dL_copies_324 rfl rfl ?_
        refine g_iald hx hb hG hN (i := 46) (n := 8) (j := 6) (by decide) rfl (by decide) (by omega) rfl dL_copies_325 ?_
        refine g_top (y := ((xF X V (cEven X)) 46 6)) (by simp [gw]) ?_
        refine lv_iload hx hb dL_copies_326 (lv_at hl 4 rfl) ?_
        refine lv_if_ne (tgt := 345) hx hb dL_copies_328 (by decide) (fun c53 => False.elim (by revert c53; decide)) (fun _ => ?_)
        refine lv_iload hx hb dL_copies_331 (lv_at hl 10 rfl) ?_
        refine lv_if_ne (tgt := 345) hx hb dL_copies_333 (by decide) (fun _ => ?_) (fun c54 => False.elim (by revert c54; decide))
        refine lv_iconst (v := 0) hx hb dL_copies_345 (by decide) ?_
        refine lv_iadd hx hb dL_copies_346 ?_
        refine g_iast hx hb hG hN (i := 46) (n := 8) (j := 6) (by decide) (fun _ => rfl) (by decide) (by omega) rfl dL_copies_347 (fun H locs hN => ?_)
        by_cases hw0 : w2 = 0
        · rw [if_pos hw0] at hl
          refine lv_iload hx hb dL_copies_348 (lv_at hl 2 rfl) ?_
          refine lv_if_lt (tgt := 388) hx hb dL_copies_350 (by decide) (fun _ => ?_) (fun c55 => False.elim (by revert c55; decide))
          refine W.widen (k := (5 + 24 * 4)) (n := (26 + 144 * 4)) (by omega) (by omega) ?_
          exact J3 (cpG (xF X V (cEven X)) 0 0 1 0) (xV X V (cEven X)) _ _ ls (hcp.1 (by rw [hw5, hw0]; rfl)) (cpR_of hX hx9 hp (by omega) ht ht2 (fun a _ h46 => cpG_o h46) (cpG_at.2.2.2.1)) hN (lv_sub hl [5, 8, 9, 12, 13, 1, 0] rfl)
        · obtain ⟨q0, hq0, eq0⟩ := hL hd w2 hh2 hw2 hh4 hw5 0 (by omega)
          rw [Nat.add_zero hd, Nat.mod_eq_of_lt hh2] at eq0
          rw [if_neg hw0, eq0] at hl
          refine lv_iload hx hb dL_copies_348 (lv_at hl 2 rfl) ?_
          refine lv_if_lt (tgt := 388) hx hb dL_copies_350 (by decide) (fun c56 => absurd c56 (nI_pos (by omega))) (fun c56 => ?_)
          refine lv_aload_n hx hb dL_copies_353 rfl (lv_at hl 7 rfl) ?_
          refine lv_iload hx hb dL_copies_354 (lv_at hl 2 rfl) ?_
          refine lv_dup2_11 hx hb dL_copies_356 rfl rfl ?_
          refine g_iald hx hb hG hN (i := 45) (n := 40) (j := q0) (by decide) rfl (by decide) (by omega) rfl dL_copies_357 ?_
          refine g_top (y := ((xF X V (cEven X)) 45 q0)) (rfl) ?_
          refine lv_iload hx hb dL_copies_358 (lv_at hl 3 rfl) ?_
          refine lv_if_eq (tgt := 369) hx hb dL_copies_360 (by decide) (fun _ => ?_) (fun c57 => False.elim (by revert c57; decide))
          refine lv_iconst (v := 1) hx hb dL_copies_369 (by decide) ?_
          refine lv_iadd hx hb dL_copies_370 ?_
          refine g_iast hx hb hG hN (i := 45) (n := 40) (j := q0) (by decide) (fun _ => rfl) (by decide) (by omega) rfl dL_copies_371 (fun H locs hN => ?_)
          refine lv_aload_n hx hb dL_copies_372 rfl (lv_at hl 8 rfl) ?_
          refine lv_iconst (v := 1) hx hb dL_copies_373 (by decide) ?_
          refine lv_dup2_11 hx hb dL_copies_374 rfl rfl ?_
          refine g_iald hx hb hG hN (i := 46) (n := 8) (j := 1) (by decide) rfl (by decide) (by omega) rfl dL_copies_375 ?_
          refine g_top (y := ((xF X V (cEven X)) 46 1)) (by simp [gw]) ?_
          refine lv_iload hx hb dL_copies_376 (lv_at hl 3 rfl) ?_
          refine lv_if_eq (tgt := 385) hx hb dL_copies_378 (by decide) (fun _ => ?_) (fun c58 => False.elim (by revert c58; decide))
          refine lv_iconst (v := 0) hx hb dL_copies_385 (by decide) ?_
          refine lv_iadd hx hb dL_copies_386 ?_
          refine g_iast hx hb hG hN (i := 46) (n := 8) (j := 1) (by decide) (fun _ => rfl) (by decide) (by omega) rfl dL_copies_387 (fun H locs hN => ?_)
          refine W.widen (k := (5 + 24 * 4)) (n := (26 + 144 * 4)) (by omega) (by omega) ?_
          exact J3 (cpT (xF X V (cEven X)) (cpG (xF X V (cEven X)) 0 0 1 0) q0 1 0) (xV X V (cEven X)) _ _ ls (hcp.2 hd q0 1 0 hh2 (by omega) hh4 (fun z => hw0 ((nI_eq (b := 0) (by omega) (by decide)).mp (hw5.symm.trans z))) eq0 (if_neg hg9).symm (if_neg hg9).symm) (cpR_of hX hx9 hp (by omega) ht ht2 (fun a h45 h46 => (cpT_o h46 h45).trans (cpG_o h46)) ((cpT_46 (by decide)).trans cpG_at.2.2.2.1)) hN (lv_sub hl [5, 8, 9, 12, 13, 1, 0] rfl)
      · have hg9 : ¬ xG X V (cEven X) := fun z => hev z.2.2
        obtain ⟨hv1, hv3, hv4, hv5⟩ := jv_un (V := V) (P := cRight X (V 1 3)) (K := cEven X) hled hri hev
        have hcp := cp_fin (K := cEven X) hX (by omega) hp (by omega) ((xV_27 (by decide)).trans hv1).symm ((xV_27 (by decide)).trans hv3).symm ((xV_27 (by decide)).trans hv4).symm ((xV_27 (by decide)).trans hv5).symm
        rw [if_neg (hof.mpr hri)] at hl
        rw [if_pos (Classical.not_not.mp (fun z => hev (hun.mp z)))] at hl
        refine lv_aload_n hx hb dL_copies_187 rfl (lv_at hl 3 rfl) ?_
        refine lv_iconst (v := 2) hx hb dL_copies_188 (by decide) ?_
        refine g_iald hx hb hG hN (i := 46) (n := 8) (j := 2) (by decide) rfl (by decide) (by omega) rfl dL_copies_189 ?_
        refine g_top (y := V 27 1) (hC2) ?_
        refine lv_if_le (tgt := 197) hx hb dL_copies_190 (by decide) (fun c59 => ?_) (fun c59 => absurd c59 (fun z => z (Int32.not_lt.mp hled)))
        refine lv_iconst (v := 0) hx hb dL_copies_197 (by decide) ?_
        refine lv_istore (lv' := [(9, .int 0), (0, .ref (ad 0)), (1, .ref (ad 43)), (2, .ref (ad 45)), (3, .ref (ad 46)), (4, .ref (ad 47)), (5, .int 0), (6, .int 1), (7, .ref (ad 48)), (8, .ref (ad 49))]) hx hb dL_copies_198 hl (by decide) rfl (fun ls hl => ?_)
        refine lv_iload hx hb dL_copies_200 (lv_at hl 0 rfl) ?_
        refine lv_if_ne (tgt := 219) hx hb dL_copies_202 (by decide) (fun c60 => False.elim (by revert c60; decide)) (fun _ => ?_)
        refine lv_iload hx hb dL_copies_205 (lv_at hl 6 rfl) ?_
        refine lv_if_ne (tgt := 219) hx hb dL_copies_207 (by decide) (fun c61 => False.elim (by revert c61; decide)) (fun _ => ?_)
        refine lv_iload hx hb dL_copies_210 (lv_at hl 7 rfl) ?_
        refine lv_if_ne (tgt := 219) hx hb dL_copies_212 (by decide) (fun _ => ?_) (fun c62 => False.elim (by revert c62; decide))
        refine lv_iconst (v := 0) hx hb dL_copies_219 (by decide) ?_
        refine lv_istore (lv' := [(10, .int 0), (9, .int 0), (0, .ref (ad 0)), (1, .ref (ad 43)), (2, .ref (ad 45)), (3, .ref (ad 46)), (4, .ref (ad 47)), (5, .int 0), (6, .int 1), (7, .ref (ad 48)), (8, .ref (ad 49))]) hx hb dL_copies_220 hl (by decide) rfl (fun ls hl => ?_)
        refine lv_aload_n hx hb dL_copies_222 rfl (lv_at hl 2 rfl) ?_
        refine g_VI (As := []) (rest := []) ⟨hx, hb, hml, hown, hts⟩ hG hN (i := 0) (by decide) rfl rfl (c_X9_next l hd w2 hh4 hh2 hw5 hw2) (cwV 0 hts gL_copies_X9_next rfl rfl rfl (by decide +kernel) ⟨Nat.le_of_ble_eq_true rfl, Nat.le_of_ble_eq_true rfl⟩) rfl hl.1 rfl (Nat.le_of_ble_eq_true rfl) dL_copies_223 ⟨by show _ ≤ 130; omega, by show _ ≤ 760; omega⟩ (fun H locs hN => ?_)
        refine lv_istore (lv' := [(11, .int (if w2 = 0 then -1 else X 36 hd)), (10, .int 0), (9, .int 0), (0, .ref (ad 0)), (1, .ref (ad 43)), (2, .ref (ad 45)), (3, .ref (ad 46)), (4, .ref (ad 47)), (5, .int 0), (6, .int 1), (7, .ref (ad 48)), (8, .ref (ad 49))]) hx hb dL_copies_226 hl (by decide) rfl (fun ls hl => ?_)
        refine lv_aload_n hx hb dL_copies_228 rfl (lv_at hl 3 rfl) ?_
        refine lv_bipush (v := 6) hx hb dL_copies_229 (by decide) ?_
        refine g_nVI (As := [.int 6]) (rest := []) ⟨hx, hb, hml, hown, hts⟩ hG hN (i := 0) (by decide) rfl rfl (c_X9_all l hl9 6) (cwV 1 hts gL_copies_X9_all rfl rfl rfl (by decide +kernel) ⟨Nat.le_of_ble_eq_true rfl, Nat.le_of_ble_eq_true rfl⟩) rfl hl.1 rfl (Nat.le_of_ble_eq_true rfl) dL_copies_231 ⟨by show _ ≤ 130; omega, by show _ ≤ 760; omega⟩ (no1 (show fAll 6 = 0 by decide)) (fun hz63 H locs hN => ?_)
        refine g_top (y := nI t) (ht) ?_
        refine lv_istore (lv' := [(12, .int (nI t)), (11, .int (if w2 = 0 then -1 else X 36 hd)), (10, .int 0), (9, .int 0), (0, .ref (ad 0)), (1, .ref (ad 43)), (2, .ref (ad 45)), (3, .ref (ad 46)), (4, .ref (ad 47)), (5, .int 0), (6, .int 1), (7, .ref (ad 48)), (8, .ref (ad 49))]) hx hb dL_copies_234 hl (by decide) rfl (fun ls hl => ?_)
        refine lv_aload_n hx hb dL_copies_236 rfl (lv_at hl 4 rfl) ?_
        refine lv_iconst (v := 1) hx hb dL_copies_237 (by decide) ?_
        refine g_nVI (As := [.int 1]) (rest := []) ⟨hx, hb, hml, hown, hts⟩ hG hN (i := 0) (by decide) rfl rfl (c_X9_print l hl9 1 b hI.ok (by omega)) (cwV 1 hts gL_copies_X9_print rfl rfl rfl (by decide +kernel) ⟨Nat.le_of_ble_eq_true rfl, Nat.le_of_ble_eq_true rfl⟩) rfl hl.1 rfl (Nat.le_of_ble_eq_true rfl) dL_copies_238 ⟨by show _ ≤ 130; omega, by show _ ≤ 760; omega⟩ (no2 (fPri0 hp (by omega))) (fun hz64 H locs hN => ?_)
        refine g_top (y := 0) (by rw [xIt_1]; exact if_neg hg9) ?_
        rw [xIt_1] at hN
        dsimp only at hN
        refine lv_iload hx hb dL_copies_241 (lv_at hl 2 rfl) ?_
        refine lv_if_eq (tgt := 250) hx hb dL_copies_243 (by decide) (fun _ => ?_) (fun c65 => False.elim (by revert c65; decide))
        refine lv_iconst (v := 0) hx hb dL_copies_250 (by decide) ?_
        refine lv_icmp_ne (tgt := 258) hx hb dL_copies_251 (by decide) (fun c66 => False.elim (by revert c66; decide)) (fun _ => ?_)
        refine lv_iconst (v := 1) hx hb dL_copies_254 (by decide) ?_
        refine lv_goto (tgt := 259) hx hb dL_copies_255 (by decide) ?_
        refine lv_istore (lv' := [(13, .int 1), (12, .int (nI t)), (11, .int (if w2 = 0 then -1 else X 36 hd)), (10, .int 0), (9, .int 0), (0, .ref (ad 0)), (1, .ref (ad 43)), (2, .ref (ad 45)), (3, .ref (ad 46)), (4, .ref (ad 47)), (5, .int 0), (6, .int 1), (7, .ref (ad 48)), (8, .ref (ad 49))]) hx hb dL_copies_259 hl (by decide) rfl (fun ls hl => ?_)
        refine lv_aload_n hx hb dL_copies_261 rfl (lv_at hl 8 rfl) ?_
        refine lv_iconst (v := 2) hx hb dL_copies_262 (by decide) ?_
        refine lv_dup2_11 hx hb dL_copies_263 rfl rfl ?_
        refine g_iald hx hb hG hN (i := 46) (n := 8) (j := 2) (by decide) rfl (by decide) (by omega) rfl dL_copies_264 ?_
        refine lv_iload hx hb dL_copies_265 (lv_at hl 4 rfl) ?_
        refine lv_if_eq (tgt := 274) hx hb dL_copies_267 (by decide) (fun _ => ?_) (fun c67 => False.elim (by revert c67; decide))
        refine lv_iconst (v := 0) hx hb dL_copies_274 (by decide) ?_
        refine lv_isub hx hb dL_copies_275 ?_
        refine g_iast hx hb hG hN (i := 46) (n := 8) (j := 2) (by decide) (fun _ => rfl) (by decide) (by omega) rfl dL_copies_276 (fun H locs hN => ?_)
        refine lv_aload_n hx hb dL_copies_277 rfl (lv_at hl 8 rfl) ?_
        refine lv_iconst (v := 3) hx hb dL_copies_278 (by decide) ?_
        refine lv_dup2_11 hx hb dL_copies_279 rfl rfl ?_
        refine g_iald hx hb hG hN (i := 46) (n := 8) (j := 3) (by decide) rfl (by decide) (by omega) rfl dL_copies_280 ?_
        refine g_top (y := ((xF X V (cEven X)) 46 3)) (by simp [gw]) ?_
        refine lv_iconst (v := 1) hx hb dL_copies_281 (by decide) ?_
        refine lv_iadd hx hb dL_copies_282 ?_
        refine g_iast hx hb hG hN (i := 46) (n := 8) (j := 3) (by decide) (fun _ => rfl) (by decide) (by omega) rfl dL_copies_283 (fun H locs hN => ?_)
        refine lv_aload_n hx hb dL_copies_284 rfl (lv_at hl 8 rfl) ?_
        refine lv_iconst (v := 4) hx hb dL_copies_285 (by decide) ?_
        refine lv_dup2_11 hx hb dL_copies_286 rfl rfl ?_
        refine g_iald hx hb hG hN (i := 46) (n := 8) (j := 4) (by decide) rfl (by decide) (by omega) rfl dL_copies_287 ?_
        refine g_top (y := ((xF X V (cEven X)) 46 4)) (by simp [gw]) ?_
        refine lv_iload hx hb dL_copies_288 (lv_at hl 3 rfl) ?_
        refine lv_if_eq (tgt := 297) hx hb dL_copies_290 (by decide) (fun _ => ?_) (fun c68 => False.elim (by revert c68; decide))
        refine lv_iconst (v := 0) hx hb dL_copies_297 (by decide) ?_
        refine lv_iadd hx hb dL_copies_298 ?_
        refine g_iast hx hb hG hN (i := 46) (n := 8) (j := 4) (by decide) (fun _ => rfl) (by decide) (by omega) rfl dL_copies_299 (fun H locs hN => ?_)
        refine lv_aload_n hx hb dL_copies_300 rfl (lv_at hl 8 rfl) ?_
        refine lv_iconst (v := 5) hx hb dL_copies_301 (by decide) ?_
        refine lv_dup2_11 hx hb dL_copies_302 rfl rfl ?_
        refine g_iald hx hb hG hN (i := 46) (n := 8) (j := 5) (by decide) rfl (by decide) (by omega) rfl dL_copies_303 ?_
        refine g_top (y := ((xF X V (cEven X)) 46 5)) (by simp [gw]) ?_
        refine lv_iload hx hb dL_copies_304 (lv_at hl 4 rfl) ?_
        refine lv_if_ne (tgt := 318) hx hb dL_copies_306 (by decide) (fun c69 => False.elim (by revert c69; decide)) (fun _ => ?_)
        refine lv_iload hx hb dL_copies_309 (lv_at hl 10 rfl) ?_
        refine lv_if_eq (tgt := 318) hx hb dL_copies_311 (by decide) (fun _ => ?_) (fun c70 => False.elim (by revert c70; decide))
        refine lv_iconst (v := 0) hx hb dL_copies_318 (by decide) ?_
        refine lv_iadd hx hb dL_copies_319 ?_
        refine g_iast hx hb hG hN (i := 46) (n := 8) (j := 5) (by decide) (fun _ => rfl) (by decide) (by omega) rfl dL_copies_320 (fun H locs hN => ?_)
        refine lv_aload_n hx hb dL_copies_321 rfl (lv_at hl 8 rfl) ?_
        refine lv_bipush (v := 6) hx hb dL_copies_322 (by decide) ?_
        refine lv_dup2_11 hx hb dL_copies_324 rfl rfl ?_
        refine g_iald hx hb hG hN (i := 46) (n := 8) (j := 6) (by decide) rfl (by decide) (by omega) rfl dL_copies_325 ?_
        refine g_top (y := ((xF X V (cEven X)) 46 6)) (by simp [gw]) ?_
        refine lv_iload hx hb dL_copies_326 (lv_at hl 4 rfl) ?_
        refine lv_if_ne (tgt := 345) hx hb dL_copies_328 (by decide) (fun c71 => False.elim (by revert c71; decide)) (fun _ => ?_)
        refine lv_iload hx hb dL_copies_331 (lv_at hl 10 rfl) ?_
        refine lv_if_ne (tgt := 345) hx hb dL_copies_333 (by decide) (fun c72 => False.elim (by revert c72; decide)) (fun _ => ?_)
        refine lv_iload hx hb dL_copies_336 (lv_at hl 11 rfl) ?_
        refine lv_if_eq (tgt := 345) hx hb dL_copies_338 (by decide) (fun c73 => False.elim (by revert c73; decide)) (fun _ => ?_)
        refine lv_iconst (v := 1) hx hb dL_copies_341 (by decide) ?_
        refine lv_goto (tgt := 346) hx hb dL_copies_342 (by decide) ?_
        refine lv_iadd hx hb dL_copies_346 ?_
        refine g_iast hx hb hG hN (i := 46) (n := 8) (j := 6) (by decide) (fun _ => rfl) (by decide) (by omega) rfl dL_copies_347 (fun H locs hN => ?_)
        by_cases hw0 : w2 = 0
        · rw [if_pos hw0] at hl
          refine lv_iload hx hb dL_copies_348 (lv_at hl 2 rfl) ?_
          refine lv_if_lt (tgt := 388) hx hb dL_copies_350 (by decide) (fun _ => ?_) (fun c74 => False.elim (by revert c74; decide))
          refine W.widen (k := (5 + 24 * 4)) (n := (26 + 144 * 4)) (by omega) (by omega) ?_
          exact J3 (cpG (xF X V (cEven X)) 0 0 0 1) (xV X V (cEven X)) _ _ ls (hcp.1 (by rw [hw5, hw0]; rfl)) (cpR_of hX hx9 hp (by omega) ht ht2 (fun a _ h46 => cpG_o h46) (cpG_at.2.2.2.1)) hN (lv_sub hl [5, 8, 9, 12, 13, 1, 0] rfl)
        · obtain ⟨q0, hq0, eq0⟩ := hL hd w2 hh2 hw2 hh4 hw5 0 (by omega)
          rw [Nat.add_zero hd, Nat.mod_eq_of_lt hh2] at eq0
          rw [if_neg hw0, eq0] at hl
          refine lv_iload hx hb dL_copies_348 (lv_at hl 2 rfl) ?_
          refine lv_if_lt (tgt := 388) hx hb dL_copies_350 (by decide) (fun c75 => absurd c75 (nI_pos (by omega))) (fun c75 => ?_)
          refine lv_aload_n hx hb dL_copies_353 rfl (lv_at hl 7 rfl) ?_
          refine lv_iload hx hb dL_copies_354 (lv_at hl 2 rfl) ?_
          refine lv_dup2_11 hx hb dL_copies_356 rfl rfl ?_
          refine g_iald hx hb hG hN (i := 45) (n := 40) (j := q0) (by decide) rfl (by decide) (by omega) rfl dL_copies_357 ?_
          refine g_top (y := ((xF X V (cEven X)) 45 q0)) (rfl) ?_
          refine lv_iload hx hb dL_copies_358 (lv_at hl 3 rfl) ?_
          refine lv_if_eq (tgt := 369) hx hb dL_copies_360 (by decide) (fun _ => ?_) (fun c76 => False.elim (by revert c76; decide))
          refine lv_iconst (v := 1) hx hb dL_copies_369 (by decide) ?_
          refine lv_iadd hx hb dL_copies_370 ?_
          refine g_iast hx hb hG hN (i := 45) (n := 40) (j := q0) (by decide) (fun _ => rfl) (by decide) (by omega) rfl dL_copies_371 (fun H locs hN => ?_)
          refine lv_aload_n hx hb dL_copies_372 rfl (lv_at hl 8 rfl) ?_
          refine lv_iconst (v := 1) hx hb dL_copies_373 (by decide) ?_
          refine lv_dup2_11 hx hb dL_copies_374 rfl rfl ?_
          refine g_iald hx hb hG hN (i := 46) (n := 8) (j := 1) (by decide) rfl (by decide) (by omega) rfl dL_copies_375 ?_
          refine g_top (y := ((xF X V (cEven X)) 46 1)) (by simp [gw]) ?_
          refine lv_iload hx hb dL_copies_376 (lv_at hl 3 rfl) ?_
          refine lv_if_eq (tgt := 385) hx hb dL_copies_378 (by decide) (fun _ => ?_) (fun c77 => False.elim (by revert c77; decide))
          refine lv_iconst (v := 0) hx hb dL_copies_385 (by decide) ?_
          refine lv_iadd hx hb dL_copies_386 ?_
          refine g_iast hx hb hG hN (i := 46) (n := 8) (j := 1) (by decide) (fun _ => rfl) (by decide) (by omega) rfl dL_copies_387 (fun H locs hN => ?_)
          refine W.widen (k := (5 + 24 * 4)) (n := (26 + 144 * 4)) (by omega) (by omega) ?_
          exact J3 (cpT (xF X V (cEven X)) (cpG (xF X V (cEven X)) 0 0 0 1) q0 1 0) (xV X V (cEven X)) _ _ ls (hcp.2 hd q0 1 0 hh2 (by omega) hh4 (fun z => hw0 ((nI_eq (b := 0) (by omega) (by decide)).mp (hw5.symm.trans z))) eq0 (if_neg hg9).symm (if_neg hg9).symm) (cpR_of hX hx9 hp (by omega) ht ht2 (fun a h45 h46 => (cpT_o h46 h45).trans (cpG_o h46)) ((cpT_46 (by decide)).trans cpG_at.2.2.2.1)) hN (lv_sub hl [5, 8, 9, 12, 13, 1, 0] rfl)
      · have hg9 : xG X V (cEven X) := ⟨hled, hri, hev⟩
        obtain ⟨hv1, hv3, hv4, hv5⟩ := jv_good (V := V) (P := cRight X (V 1 3)) (K := cEven X) hled hri hev
        have hcp := cp_fin (K := cEven X) hX (by omega) hp (by omega) ((xV_27 (by decide)).trans hv1).symm ((xV_27 (by decide)).trans hv3).symm ((xV_27 (by decide)).trans hv4).symm ((xV_27 (by decide)).trans hv5).symm
        rw [if_neg (hof.mpr hri)] at hl
        rw [if_neg (hun.mpr hev)] at hl
        refine lv_aload_n hx hb dL_copies_187 rfl (lv_at hl 3 rfl) ?_
        refine lv_iconst (v := 2) hx hb dL_copies_188 (by decide) ?_
        refine g_iald hx hb hG hN (i := 46) (n := 8) (j := 2) (by decide) rfl (by decide) (by omega) rfl dL_copies_189 ?_
        refine g_top (y := V 27 1) (hC2) ?_
        refine lv_if_le (tgt := 197) hx hb dL_copies_190 (by decide) (fun c78 => ?_) (fun c78 => absurd c78 (fun z => z (Int32.not_lt.mp hled)))
        refine lv_iconst (v := 0) hx hb dL_copies_197 (by decide) ?_
        refine lv_istore (lv' := [(9, .int 0), (0, .ref (ad 0)), (1, .ref (ad 43)), (2, .ref (ad 45)), (3, .ref (ad 46)), (4, .ref (ad 47)), (5, .int 0), (6, .int 0), (7, .ref (ad 48)), (8, .ref (ad 49))]) hx hb dL_copies_198 hl (by decide) rfl (fun ls hl => ?_)
        refine lv_iload hx hb dL_copies_200 (lv_at hl 0 rfl) ?_
        refine lv_if_ne (tgt := 219) hx hb dL_copies_202 (by decide) (fun c79 => False.elim (by revert c79; decide)) (fun _ => ?_)
        refine lv_iload hx hb dL_copies_205 (lv_at hl 6 rfl) ?_
        refine lv_if_ne (tgt := 219) hx hb dL_copies_207 (by decide) (fun c80 => False.elim (by revert c80; decide)) (fun _ => ?_)
        refine lv_iload hx hb dL_copies_210 (lv_at hl 7 rfl) ?_
        refine lv_if_ne (tgt := 219) hx hb dL_copies_212 (by decide) (fun c81 => False.elim (by revert c81; decide)) (fun _ => ?_)
        refine lv_iconst (v := 1) hx hb dL_copies_215 (by decide) ?_
        refine lv_goto (tgt := 220) hx hb dL_copies_216 (by decide) ?_
        refine lv_istore (lv' := [(10, .int 1), (9, .int 0), (0, .ref (ad 0)), (1, .ref (ad 43)), (2, .ref (ad 45)), (3, .ref (ad 46)), (4, .ref (ad 47)), (5, .int 0), (6, .int 0), (7, .ref (ad 48)), (8, .ref (ad 49))]) hx hb dL_copies_220 hl (by decide) rfl (fun ls hl => ?_)
        refine lv_aload_n hx hb dL_copies_222 rfl (lv_at hl 2 rfl) ?_
        refine g_VI (As := []) (rest := []) ⟨hx, hb, hml, hown, hts⟩ hG hN (i := 0) (by decide) rfl rfl (c_X9_next l hd w2 hh4 hh2 hw5 hw2) (cwV 0 hts gL_copies_X9_next rfl rfl rfl (by decide +kernel) ⟨Nat.le_of_ble_eq_true rfl, Nat.le_of_ble_eq_true rfl⟩) rfl hl.1 rfl (Nat.le_of_ble_eq_true rfl) dL_copies_223 ⟨by show _ ≤ 130; omega, by show _ ≤ 760; omega⟩ (fun H locs hN => ?_)
        refine lv_istore (lv' := [(11, .int (if w2 = 0 then -1 else X 36 hd)), (10, .int 1), (9, .int 0), (0, .ref (ad 0)), (1, .ref (ad 43)), (2, .ref (ad 45)), (3, .ref (ad 46)), (4, .ref (ad 47)), (5, .int 0), (6, .int 0), (7, .ref (ad 48)), (8, .ref (ad 49))]) hx hb dL_copies_226 hl (by decide) rfl (fun ls hl => ?_)
        refine lv_aload_n hx hb dL_copies_228 rfl (lv_at hl 3 rfl) ?_
        refine lv_bipush (v := 6) hx hb dL_copies_229 (by decide) ?_
        refine g_nVI (As := [.int 6]) (rest := []) ⟨hx, hb, hml, hown, hts⟩ hG hN (i := 0) (by decide) rfl rfl (c_X9_all l hl9 6) (cwV 1 hts gL_copies_X9_all rfl rfl rfl (by decide +kernel) ⟨Nat.le_of_ble_eq_true rfl, Nat.le_of_ble_eq_true rfl⟩) rfl hl.1 rfl (Nat.le_of_ble_eq_true rfl) dL_copies_231 ⟨by show _ ≤ 130; omega, by show _ ≤ 760; omega⟩ (no1 (show fAll 6 = 0 by decide)) (fun hz82 H locs hN => ?_)
        refine g_top (y := nI t) (ht) ?_
        refine lv_istore (lv' := [(12, .int (nI t)), (11, .int (if w2 = 0 then -1 else X 36 hd)), (10, .int 1), (9, .int 0), (0, .ref (ad 0)), (1, .ref (ad 43)), (2, .ref (ad 45)), (3, .ref (ad 46)), (4, .ref (ad 47)), (5, .int 0), (6, .int 0), (7, .ref (ad 48)), (8, .ref (ad 49))]) hx hb dL_copies_234 hl (by decide) rfl (fun ls hl => ?_)
        refine lv_aload_n hx hb dL_copies_236 rfl (lv_at hl 4 rfl) ?_
        refine lv_iconst (v := 1) hx hb dL_copies_237 (by decide) ?_
        refine g_nVI (As := [.int 1]) (rest := []) ⟨hx, hb, hml, hown, hts⟩ hG hN (i := 0) (by decide) rfl rfl (c_X9_print l hl9 1 b hI.ok (by omega)) (cwV 1 hts gL_copies_X9_print rfl rfl rfl (by decide +kernel) ⟨Nat.le_of_ble_eq_true rfl, Nat.le_of_ble_eq_true rfl⟩) rfl hl.1 rfl (Nat.le_of_ble_eq_true rfl) dL_copies_238 ⟨by show _ ≤ 130; omega, by show _ ≤ 760; omega⟩ (no2 (fPri0 hp (by omega))) (fun hz83 H locs hN => ?_)
        refine g_top (y := 1) (by rw [xIt_1]; exact if_pos hg9) ?_
        rw [xIt_1] at hN
        dsimp only at hN
        refine lv_iload hx hb dL_copies_241 (lv_at hl 2 rfl) ?_
        refine lv_if_eq (tgt := 250) hx hb dL_copies_243 (by decide) (fun c84 => False.elim (by revert c84; decide)) (fun _ => ?_)
        refine lv_iconst (v := 1) hx hb dL_copies_246 (by decide) ?_
        refine lv_goto (tgt := 251) hx hb dL_copies_247 (by decide) ?_
        refine lv_icmp_ne (tgt := 258) hx hb dL_copies_251 (by decide) (fun c85 => False.elim (by revert c85; decide)) (fun _ => ?_)
        refine lv_iconst (v := 1) hx hb dL_copies_254 (by decide) ?_
        refine lv_goto (tgt := 259) hx hb dL_copies_255 (by decide) ?_
        refine lv_istore (lv' := [(13, .int 1), (12, .int (nI t)), (11, .int (if w2 = 0 then -1 else X 36 hd)), (10, .int 1), (9, .int 0), (0, .ref (ad 0)), (1, .ref (ad 43)), (2, .ref (ad 45)), (3, .ref (ad 46)), (4, .ref (ad 47)), (5, .int 0), (6, .int 0), (7, .ref (ad 48)), (8, .ref (ad 49))]) hx hb dL_copies_259 hl (by decide) rfl (fun ls hl => ?_)
        refine lv_aload_n hx hb dL_copies_261 rfl (lv_at hl 8 rfl) ?_
        refine lv_iconst (v := 2) hx hb dL_copies_262 (by decide) ?_
        refine lv_dup2_11 hx hb dL_copies_263 rfl rfl ?_
        refine g_iald hx hb hG hN (i := 46) (n := 8) (j := 2) (by decide) rfl (by decide) (by omega) rfl dL_copies_264 ?_
        refine lv_iload hx hb dL_copies_265 (lv_at hl 4 rfl) ?_
        refine lv_if_eq (tgt := 274) hx hb dL_copies_267 (by decide) (fun _ => ?_) (fun c86 => False.elim (by revert c86; decide))
        refine lv_iconst (v := 0) hx hb dL_copies_274 (by decide) ?_
        refine lv_isub hx hb dL_copies_275 ?_
        refine g_iast hx hb hG hN (i := 46) (n := 8) (j := 2) (by decide) (fun _ => rfl) (by decide) (by omega) rfl dL_copies_276 (fun H locs hN => ?_)
        refine lv_aload_n hx hb dL_copies_277 rfl (lv_at hl 8 rfl) ?_
        refine lv_iconst (v := 3) hx hb dL_copies_278 (by decide) ?_
        refine lv_dup2_11 hx hb dL_copies_279 rfl rfl ?_
        refine g_iald hx hb hG hN (i := 46) (n := 8) (j := 3) (by decide) rfl (by decide) (by omega) rfl dL_copies_280 ?_
        refine g_top (y := ((xF X V (cEven X)) 46 3)) (by simp [gw]) ?_
        refine lv_iconst (v := 1) hx hb dL_copies_281 (by decide) ?_
        refine lv_iadd hx hb dL_copies_282 ?_
        refine g_iast hx hb hG hN (i := 46) (n := 8) (j := 3) (by decide) (fun _ => rfl) (by decide) (by omega) rfl dL_copies_283 (fun H locs hN => ?_)
        refine lv_aload_n hx hb dL_copies_284 rfl (lv_at hl 8 rfl) ?_
        refine lv_iconst (v := 4) hx hb dL_copies_285 (by decide) ?_
        refine lv_dup2_11 hx hb dL_copies_286 rfl rfl ?_
        refine g_iald hx hb hG hN (i := 46) (n := 8) (j := 4) (by decide) rfl (by decide) (by omega) rfl dL_copies_287 ?_
        refine g_top (y := ((xF X V (cEven X)) 46 4)) (by simp [gw]) ?_
        refine lv_iload hx hb dL_copies_288 (lv_at hl 3 rfl) ?_
        refine lv_if_eq (tgt := 297) hx hb dL_copies_290 (by decide) (fun c87 => False.elim (by revert c87; decide)) (fun _ => ?_)
        refine lv_iconst (v := 1) hx hb dL_copies_293 (by decide) ?_
        refine lv_goto (tgt := 298) hx hb dL_copies_294 (by decide) ?_
        refine lv_iadd hx hb dL_copies_298 ?_
        refine g_iast hx hb hG hN (i := 46) (n := 8) (j := 4) (by decide) (fun _ => rfl) (by decide) (by omega) rfl dL_copies_299 (fun H locs hN => ?_)
        refine lv_aload_n hx hb dL_copies_300 rfl (lv_at hl 8 rfl) ?_
        refine lv_iconst (v := 5) hx hb dL_copies_301 (by decide) ?_
        refine lv_dup2_11 hx hb dL_copies_302 rfl rfl ?_
        refine g_iald hx hb hG hN (i := 46) (n := 8) (j := 5) (by decide) rfl (by decide) (by omega) rfl dL_copies_303 ?_
        refine g_top (y := ((xF X V (cEven X)) 46 5)) (by simp [gw]) ?_
        refine lv_iload hx hb dL_copies_304 (lv_at hl 4 rfl) ?_
        refine lv_if_ne (tgt := 318) hx hb dL_copies_306 (by decide) (fun c88 => False.elim (by revert c88; decide)) (fun _ => ?_)
        refine lv_iload hx hb dL_copies_309 (lv_at hl 10 rfl) ?_
        refine lv_if_eq (tgt := 318) hx hb dL_copies_311 (by decide) (fun _ => ?_) (fun c89 => False.elim (by revert c89; decide))
        refine lv_iconst (v := 0) hx hb dL_copies_318 (by decide) ?_
        refine lv_iadd hx hb dL_copies_319 ?_
        refine g_iast hx hb hG hN (i := 46) (n := 8) (j := 5) (by decide) (fun _ => rfl) (by decide) (by omega) rfl dL_copies_320 (fun H locs hN => ?_)
        refine lv_aload_n hx hb dL_copies_321 rfl (lv_at hl 8 rfl) ?_
        refine lv_bipush (v := 6) hx hb dL_copies_322 (by decide) ?_
        refine lv_dup2_11 hx hb dL_copies_324 rfl rfl ?_
        refine g_iald hx hb hG hN (i := 46) (n := 8) (j := 6) (by decide) rfl (by decide) (by omega) rfl dL_copies_325 ?_
        refine g_top (y := ((xF X V (cEven X)) 46 6)) (by simp [gw]) ?_
        refine lv_iload hx hb dL_copies_326 (lv_at hl 4 rfl) ?_
        refine lv_if_ne (tgt := 345) hx hb dL_copies_328 (by decide) (fun c90 => False.elim (by revert c90; decide)) (fun _ => ?_)
        refine lv_iload hx hb dL_copies_331 (lv_at hl 10 rfl) ?_
        refine lv_if_ne (tgt := 345) hx hb dL_copies_333 (by decide) (fun c91 => False.elim (by revert c91; decide)) (fun _ => ?_)
        refine lv_iload hx hb dL_copies_336 (lv_at hl 11 rfl) ?_
        refine lv_if_eq (tgt := 345) hx hb dL_copies_338 (by decide) (fun _ => ?_) (fun c92 => False.elim (by revert c92; decide))
        refine lv_iconst (v := 0) hx hb dL_copies_345 (by decide) ?_
        refine lv_iadd hx hb dL_copies_346 ?_
        refine g_iast hx hb hG hN (i := 46) (n := 8) (j := 6) (by decide) (fun _ => rfl) (by decide) (by omega) rfl dL_copies_347 (fun H locs hN => ?_)
        by_cases hw0 : w2 = 0
        · rw [if_pos hw0] at hl
          refine lv_iload hx hb dL_copies_348 (lv_at hl 2 rfl) ?_
          refine lv_if_lt (tgt := 388) hx hb dL_copies_350 (by decide) (fun _ => ?_) (fun c93 => False.elim (by revert c93; decide))
          refine W.widen (k := (5 + 24 * 4)) (n := (26 + 144 * 4)) (by omega) (by omega) ?_
          exact J3 (cpG (xF X V (cEven X)) 0 1 0 0) (xV X V (cEven X)) _ _ ls (hcp.1 (by rw [hw5, hw0]; rfl)) (cpR_of hX hx9 hp (by omega) ht ht2 (fun a _ h46 => cpG_o h46) (cpG_at.2.2.2.1)) hN (lv_sub hl [5, 8, 9, 12, 13, 1, 0] rfl)
        · obtain ⟨q0, hq0, eq0⟩ := hL hd w2 hh2 hw2 hh4 hw5 0 (by omega)
          rw [Nat.add_zero hd, Nat.mod_eq_of_lt hh2] at eq0
          rw [if_neg hw0, eq0] at hl
          refine lv_iload hx hb dL_copies_348 (lv_at hl 2 rfl) ?_
          refine lv_if_lt (tgt := 388) hx hb dL_copies_350 (by decide) (fun c94 => absurd c94 (nI_pos (by omega))) (fun c94 => ?_)
          refine lv_aload_n hx hb dL_copies_353 rfl (lv_at hl 7 rfl) ?_
          refine lv_iload hx hb dL_copies_354 (lv_at hl 2 rfl) ?_
          refine lv_dup2_11 hx hb dL_copies_356 rfl rfl ?_
          refine g_iald hx hb hG hN (i := 45) (n := 40) (j := q0) (by decide) rfl (by decide) (by omega) rfl dL_copies_357 ?_
          refine g_top (y := ((xF X V (cEven X)) 45 q0)) (rfl) ?_
          refine lv_iload hx hb dL_copies_358 (lv_at hl 3 rfl) ?_
          refine lv_if_eq (tgt := 369) hx hb dL_copies_360 (by decide) (fun c95 => False.elim (by revert c95; decide)) (fun _ => ?_)
          refine lv_sipush (v := 1001) hx hb dL_copies_363 (by decide) ?_
          refine lv_goto (tgt := 370) hx hb dL_copies_366 (by decide) ?_
          refine lv_iadd hx hb dL_copies_370 ?_
          refine g_iast hx hb hG hN (i := 45) (n := 40) (j := q0) (by decide) (fun _ => rfl) (by decide) (by omega) rfl dL_copies_371 (fun H locs hN => ?_)
          refine lv_aload_n hx hb dL_copies_372 rfl (lv_at hl 8 rfl) ?_
          refine lv_iconst (v := 1) hx hb dL_copies_373 (by decide) ?_
          refine lv_dup2_11 hx hb dL_copies_374 rfl rfl ?_
          refine g_iald hx hb hG hN (i := 46) (n := 8) (j := 1) (by decide) rfl (by decide) (by omega) rfl dL_copies_375 ?_
          refine g_top (y := ((xF X V (cEven X)) 46 1)) (by simp [gw]) ?_
          refine lv_iload hx hb dL_copies_376 (lv_at hl 3 rfl) ?_
          refine lv_if_eq (tgt := 385) hx hb dL_copies_378 (by decide) (fun c96 => False.elim (by revert c96; decide)) (fun _ => ?_)
          refine lv_iconst (v := 1) hx hb dL_copies_381 (by decide) ?_
          refine lv_goto (tgt := 386) hx hb dL_copies_382 (by decide) ?_
          refine lv_iadd hx hb dL_copies_386 ?_
          refine g_iast hx hb hG hN (i := 46) (n := 8) (j := 1) (by decide) (fun _ => rfl) (by decide) (by omega) rfl dL_copies_387 (fun H locs hN => ?_)
          refine W.widen (k := (5 + 24 * 4)) (n := (26 + 144 * 4)) (by omega) (by omega) ?_
          exact J3 (cpT (xF X V (cEven X)) (cpG (xF X V (cEven X)) 0 1 0 0) q0 1001 1) (xV X V (cEven X)) _ _ ls (hcp.2 hd q0 1001 1 hh2 (by omega) hh4 (fun z => hw0 ((nI_eq (b := 0) (by omega) (by decide)).mp (hw5.symm.trans z))) eq0 (if_pos hg9).symm (if_pos hg9).symm) (cpR_of hX hx9 hp (by omega) ht ht2 (fun a h45 h46 => (cpT_o h46 h45).trans (cpG_o h46)) ((cpT_46 (by decide)).trans cpG_at.2.2.2.1)) hN (lv_sub hl [5, 8, 9, 12, 13, 1, 0] rfl)
    | succ d9_19 ih19 =>
      intro u H locs ls hd_19 hu hN hl
      refine lv_iload hx hb dL_copies_19 (lv_at hl 9 rfl) ?_
      refine lv_iconst (v := 4) hx hb dL_copies_21 (by decide) ?_
      refine g_cN_ge (a := u) (b := 4) (tgt := 187) hx hb dL_copies_22 (by decide) rfl rfl (by omega) (by omega) (fun c97 => absurd c97 (by omega)) (fun c97 => ?_)
      refine lv_aload hx hb dL_copies_25 (lv_at hl 7 rfl) ?_
      refine lv_iload hx hb dL_copies_27 (lv_at hl 9 rfl) ?_
      refine lv_aload_n hx hb dL_copies_29 rfl (lv_at hl 0 rfl) ?_
      refine lv_iload hx hb dL_copies_30 (lv_at hl 9 rfl) ?_
      refine lv_iconst (v := 0) hx hb dL_copies_32 (by decide) ?_
      refine g_nVI (As := [.int (nI u), .int 0]) (rest := [.int (nI u), .ref (ad 48)]) ⟨hx, hb, hml, hown, hts⟩ hG hN (i := 0) (by decide) rfl rfl (c_X9_unit l hl9 (nI u) 0) (cwV 2 hts gL_copies_X9_unit rfl rfl rfl (by decide +kernel) ⟨Nat.le_of_ble_eq_true rfl, Nat.le_of_ble_eq_true rfl⟩) rfl hl.1 rfl (Nat.le_of_ble_eq_true rfl) dL_copies_33 ⟨by show _ ≤ 130; omega, by show _ ≤ 760; omega⟩ (no2 (fUni0 (u := u) (w := 0) (by omega) (by omega))) (fun hz98 H locs hN => ?_)
      refine g_top (y := F 19 u) ((rUni_0 (u := u) (by omega)).trans (by simp [gw, xyF])) ?_
      refine g_iast0 hx hb hG hN (i := 48) (n := 4) (j := u) (by decide) (fun _ => rfl) (by decide) (by omega) rfl dL_copies_36 (fun H locs hN => ?_)
      refine lv_aload hx hb dL_copies_37 (lv_at hl 8 rfl) ?_
      refine lv_iload hx hb dL_copies_39 (lv_at hl 9 rfl) ?_
      refine lv_aload_n hx hb dL_copies_41 rfl (lv_at hl 0 rfl) ?_
      refine lv_iload hx hb dL_copies_42 (lv_at hl 9 rfl) ?_
      refine lv_iconst (v := 1) hx hb dL_copies_44 (by decide) ?_
      refine g_nVI (As := [.int (nI u), .int 1]) (rest := [.int (nI u), .ref (ad 49)]) ⟨hx, hb, hml, hown, hts⟩ hG hN (i := 0) (by decide) rfl rfl (c_X9_unit l hl9 (nI u) 1) (cwV 2 hts gL_copies_X9_unit rfl rfl rfl (by decide +kernel) ⟨Nat.le_of_ble_eq_true rfl, Nat.le_of_ble_eq_true rfl⟩) rfl hl.1 rfl (Nat.le_of_ble_eq_true rfl) dL_copies_45 ⟨by show _ ≤ 130; omega, by show _ ≤ 760; omega⟩ (no2 (fUni0 (u := u) (w := 1) (by omega) (by omega))) (fun hz99 H locs hN => ?_)
      refine g_top (y := F 20 u) ((rUni_1 (u := u) (by omega)).trans (by simp [gw, xyF])) ?_
      refine g_iast0 hx hb hG hN (i := 49) (n := 4) (j := u) (by decide) (fun _ => rfl) (by decide) (by omega) rfl dL_copies_48 (fun H locs hN => ?_)
      refine lv_aload hx hb dL_copies_49 (lv_at hl 7 rfl) ?_
      refine lv_iload hx hb dL_copies_51 (lv_at hl 9 rfl) ?_
      refine g_iald0 hx hb hG hN (i := 48) (n := 4) (j := u) (by decide) rfl (by decide) (by omega) rfl dL_copies_53 ?_
      refine g_top (y := (F 19 u)) (by simp [gw]) ?_
      refine lv_aload_n hx hb dL_copies_54 rfl (lv_at hl 0 rfl) ?_
      refine lv_iconst (v := 3) hx hb dL_copies_55 (by decide) ?_
      refine lv_iconst (v := 0) hx hb dL_copies_56 (by decide) ?_
      refine g_nVI (As := [.int 3, .int 0]) (rest := [.int (F 19 u)]) ⟨hx, hb, hml, hown, hts⟩ hG hN (i := 0) (by decide) rfl rfl (c_X9_unit l hl9 3 0) (cwV 2 hts gL_copies_X9_unit rfl rfl rfl (by decide +kernel) ⟨Nat.le_of_ble_eq_true rfl, Nat.le_of_ble_eq_true rfl⟩) rfl hl.1 rfl (Nat.le_of_ble_eq_true rfl) dL_copies_57 ⟨by show _ ≤ 130; omega, by show _ ≤ 760; omega⟩ (no2 (fUni0 (u := 3) (w := 0) (by omega) (by omega))) (fun hz100 H locs hN => ?_)
      refine g_top (y := F 19 3) ((rUni_0 (u := 3) (by omega)).trans (by simp [gw, xyF])) ?_
      refine lv_isub hx hb dL_copies_60 ?_
      refine lv_istore (lv' := [(10, .int ((F 19 u) - (F 19 3))), (0, .ref (ad 0)), (1, .ref (ad 43)), (2, .ref (ad 45)), (3, .ref (ad 46)), (4, .ref (ad 47)), (5, .int (if offB F (V 1 3) u = true then 1 else 0)), (6, .int (if unB F (8 * u) = true then 1 else 0)), (7, .ref (ad 48)), (8, .ref (ad 49)), (9, .int (nI u))]) hx hb dL_copies_61 hl (by decide) rfl (fun ls hl => ?_)
      refine lv_aload hx hb dL_copies_63 (lv_at hl 9 rfl) ?_
      refine lv_iload hx hb dL_copies_65 (lv_at hl 10 rfl) ?_
      refine g_iald0 hx hb hG hN (i := 49) (n := 4) (j := u) (by decide) rfl (by decide) (by omega) rfl dL_copies_67 ?_
      refine g_top (y := (F 20 u)) (by simp [gw]) ?_
      refine lv_aload_n hx hb dL_copies_68 rfl (lv_at hl 1 rfl) ?_
      refine lv_iconst (v := 3) hx hb dL_copies_69 (by decide) ?_
      refine lv_iconst (v := 1) hx hb dL_copies_70 (by decide) ?_
      refine g_nVI (As := [.int 3, .int 1]) (rest := [.int (F 20 u)]) ⟨hx, hb, hml, hown, hts⟩ hG hN (i := 0) (by decide) rfl rfl (c_X9_unit l hl9 3 1) (cwV 2 hts gL_copies_X9_unit rfl rfl rfl (by decide +kernel) ⟨Nat.le_of_ble_eq_true rfl, Nat.le_of_ble_eq_true rfl⟩) rfl hl.1 rfl (Nat.le_of_ble_eq_true rfl) dL_copies_71 ⟨by show _ ≤ 130; omega, by show _ ≤ 760; omega⟩ (no2 (fUni0 (u := 3) (w := 1) (by omega) (by omega))) (fun hz101 H locs hN => ?_)
      refine g_top (y := F 20 3) ((rUni_1 (u := 3) (by omega)).trans (by simp [gw, xyF])) ?_
      refine lv_isub hx hb dL_copies_74 ?_
      refine lv_istore (lv' := [(11, .int ((F 20 u) - (F 20 3))), (10, .int ((F 19 u) - (F 19 3))), (0, .ref (ad 0)), (1, .ref (ad 43)), (2, .ref (ad 45)), (3, .ref (ad 46)), (4, .ref (ad 47)), (5, .int (if offB F (V 1 3) u = true then 1 else 0)), (6, .int (if unB F (8 * u) = true then 1 else 0)), (7, .ref (ad 48)), (8, .ref (ad 49)), (9, .int (nI u))]) hx hb dL_copies_75 hl (by decide) rfl (fun ls hl => ?_)
      have J102 : ∀  (H : Heap) (locs : List Loc) (ls : Array Slot), gN D ad cs s0 (xyF F (u + 1)) V 2 H locs → lv_has ls 16 [(0, .ref (ad 0)), (1, .ref (ad 43)), (2, .ref (ad 45)), (3, .ref (ad 46)), (4, .ref (ad 47)), (5, .int (if offB F (V 1 3) (u + 1) = true then 1 else 0)), (6, .int (if unB F (8 * u) = true then 1 else 0)), (7, .ref (ad 48)), (8, .ref (ad 49)), (9, .int (nI u))] → W p0 l e0 ({ frames := 8, cells := 130, slots := 760, locals := 137 } : Room) s0 m0 av9 b0 k0 c0 H locs (10 + 24 * u) (56 + 144 * u) Q9 (F0 m0 127 ls []) := by
        intro  H locs ls  hN hl
        refine lv_iconst (v := 0) hx hb dL_copies_127 (by decide) ?_
        refine lv_istore (lv' := [(12, .int 0), (0, .ref (ad 0)), (1, .ref (ad 43)), (2, .ref (ad 45)), (3, .ref (ad 46)), (4, .ref (ad 47)), (5, .int (if offB F (V 1 3) (u + 1) = true then 1 else 0)), (6, .int (if unB F (8 * u) = true then 1 else 0)), (7, .ref (ad 48)), (8, .ref (ad 49)), (9, .int (nI u))]) hx hb dL_copies_128 hl (by decide) rfl (fun ls hl => ?_)
        have L103 : ∀ (d9_130 : Nat) (q : Nat) (H : Heap) (locs : List Loc) (ls : Array Slot), 8 - q = d9_130 → (q ≤ 8) → gN D ad cs s0 (xyF F (u + 1)) V 2 H locs → lv_has ls 16 [(0, .ref (ad 0)), (1, .ref (ad 43)), (2, .ref (ad 45)), (3, .ref (ad 46)), (4, .ref (ad 47)), (5, .int (if offB F (V 1 3) (u + 1) = true then 1 else 0)), (6, .int (if unB F (8 * u + q) = true then 1 else 0)), (7, .ref (ad 48)), (8, .ref (ad 49)), (9, .int (nI u)), (12, .int (nI q))] → W p0 l e0 ({ frames := 8, cells := 130, slots := 760, locals := 137 } : Room) s0 m0 av9 b0 k0 c0 H locs (10 + 24 * u + 2 * q) (56 + 144 * u + 12 * q) Q9 (F0 m0 130 ls []) := by
          intro d9_130
          induction d9_130 with
          | zero =>
            intro q H locs ls hd_130 hq hN hl
            refine lv_iload hx hb dL_copies_130 (lv_at hl 10 rfl) ?_
            refine lv_bipush (v := 8) hx hb dL_copies_132 (by decide) ?_
            refine g_cN_ge (a := q) (b := 8) (tgt := 181) hx hb dL_copies_134 (by decide) rfl rfl (by omega) (by omega) (fun c104 => ?_) (fun c104 => absurd c104 (by omega))
            obtain rfl : q = 8 := by omega
            refine lv_iinc (v := (nI (u + 1))) (lv' := [(9, .int (nI (u + 1))), (0, .ref (ad 0)), (1, .ref (ad 43)), (2, .ref (ad 45)), (3, .ref (ad 46)), (4, .ref (ad 47)), (5, .int (if offB F (V 1 3) (u + 1) = true then 1 else 0)), (6, .int (if unB F (8 * u + 8) = true then 1 else 0)), (7, .ref (ad 48)), (8, .ref (ad 49)), (12, .int (nI 8))]) hx hb dL_copies_181 hl (k := 9) rfl (nI_1 _) (by decide) rfl (fun ls hl => ?_)
            refine lv_goto (tgt := 19) hx hb dL_copies_184 (by decide) ?_
            refine W.widen (k := (2 + 24 * (u + 1))) (n := (8 + 144 * (u + 1))) (by omega) (by omega) ?_
            exact ih19 (u + 1) _ _ ls (by omega) (by omega) hN (lv_sub hl [1, 2, 3, 4, 5, 6, 7, 8, 9, 0] rfl)
          | succ d9_130 ih130 =>
            intro q H locs ls hd_130 hq hN hl
            refine lv_iload hx hb dL_copies_130 (lv_at hl 10 rfl) ?_
            refine lv_bipush (v := 8) hx hb dL_copies_132 (by decide) ?_
            refine g_cN_ge (a := q) (b := 8) (tgt := 181) hx hb dL_copies_134 (by decide) rfl rfl (by omega) (by omega) (fun c105 => absurd c105 (by omega)) (fun c105 => ?_)
            refine lv_aload_n hx hb dL_copies_137 rfl (lv_at hl 0 rfl) ?_
            refine lv_iload hx hb dL_copies_138 (lv_at hl 9 rfl) ?_
            refine lv_iconst (v := 2) hx hb dL_copies_140 (by decide) ?_
            refine lv_iload hx hb dL_copies_141 (lv_at hl 10 rfl) ?_
            refine g_addN (a := 2) (b := q) hx hb rfl rfl dL_copies_143 ?_
            refine g_nVI (As := [.int (nI u), .int (nI (2 + q))]) (rest := []) ⟨hx, hb, hml, hown, hts⟩ hG hN (i := 0) (by decide) rfl rfl (c_X9_unit l hl9 (nI u) (nI (2 + q))) (cwV 2 hts gL_copies_X9_unit rfl rfl rfl (by decide +kernel) ⟨Nat.le_of_ble_eq_true rfl, Nat.le_of_ble_eq_true rfl⟩) rfl hl.1 rfl (Nat.le_of_ble_eq_true rfl) dL_copies_144 ⟨by show _ ≤ 130; omega, by show _ ≤ 760; omega⟩ (no2 (fUni0 (by omega) (by omega))) (fun hz106 H locs hN => ?_)
            refine g_top (y := cDens F u q) ((rUni_d (by omega) (by omega)).trans (xy_dens (by omega))) ?_
            refine lv_istore (lv' := [(13, .int (cDens F u q)), (0, .ref (ad 0)), (1, .ref (ad 43)), (2, .ref (ad 45)), (3, .ref (ad 46)), (4, .ref (ad 47)), (5, .int (if offB F (V 1 3) (u + 1) = true then 1 else 0)), (6, .int (if unB F (8 * u + q) = true then 1 else 0)), (7, .ref (ad 48)), (8, .ref (ad 49)), (9, .int (nI u)), (12, .int (nI q))]) hx hb dL_copies_147 hl (by decide) rfl (fun ls hl => ?_)
            have J107 : ∀  (H : Heap) (locs : List Loc) (ls : Array Slot), gN D ad cs s0 (xyF F (u + 1)) V 2 H locs → lv_has ls 16 [(0, .ref (ad 0)), (1, .ref (ad 43)), (2, .ref (ad 45)), (3, .ref (ad 46)), (4, .ref (ad 47)), (5, .int (if offB F (V 1 3) (u + 1) = true then 1 else 0)), (6, .int (if unB F (8 * u + q + 1) = true then 1 else 0)), (7, .ref (ad 48)), (8, .ref (ad 49)), (9, .int (nI u)), (12, .int (nI q))] → W p0 l e0 ({ frames := 8, cells := 130, slots := 760, locals := 137 } : Room) s0 m0 av9 b0 k0 c0 H locs (12 + 24 * u + 2 * q) (68 + 144 * u + 12 * q) Q9 (F0 m0 175 ls []) := by
              intro  H locs ls  hN hl
              refine lv_iinc (v := (nI (q + 1))) (lv' := [(12, .int (nI (q + 1))), (0, .ref (ad 0)), (1, .ref (ad 43)), (2, .ref (ad 45)), (3, .ref (ad 46)), (4, .ref (ad 47)), (5, .int (if offB F (V 1 3) (u + 1) = true then 1 else 0)), (6, .int (if unB F (8 * u + q + 1) = true then 1 else 0)), (7, .ref (ad 48)), (8, .ref (ad 49)), (9, .int (nI u))]) hx hb dL_copies_175 hl (k := 10) rfl (nI_1 _) (by decide) rfl (fun ls hl => ?_)
              refine lv_goto (tgt := 130) hx hb dL_copies_178 (by decide) ?_
              refine W.widen (k := (10 + 24 * u + 2 * (q + 1))) (n := (56 + 144 * u + 12 * (q + 1))) (by omega) (by omega) ?_
              exact ih130 (q + 1) _ _ ls (by omega) (by omega) hN (lv_sub hl [1, 2, 3, 4, 5, 6, 7, 8, 9, 10, 0] rfl)
            refine lv_iload hx hb dL_copies_149 (lv_at hl 7 rfl) ?_
            have J108 : ∀  (H : Heap) (locs : List Loc) (ls : Array Slot), (unB F (8 * u + q + 1) = true) → gN D ad cs s0 (xyF F (u + 1)) V 2 H locs → lv_has ls 16 [(0, .ref (ad 0)), (1, .ref (ad 43)), (2, .ref (ad 45)), (3, .ref (ad 46)), (4, .ref (ad 47)), (5, .int (if offB F (V 1 3) (u + 1) = true then 1 else 0)), (6, .int (if unB F (8 * u + q) = true then 1 else 0)), (7, .ref (ad 48)), (8, .ref (ad 49)), (9, .int (nI u)), (12, .int (nI q)), (13, .int (cDens F u q))] → W p0 l e0 ({ frames := 8, cells := 130, slots := 760, locals := 137 } : Room) s0 m0 av9 b0 k0 c0 H locs (12 + 24 * u + 2 * q) (68 + 144 * u + 12 * q) Q9 (F0 m0 168 ls []) := by
              intro  H locs ls hun9 hN hl
              refine lv_iconst (v := 1) hx hb dL_copies_168 (by decide) ?_
              refine lv_goto (tgt := 173) hx hb dL_copies_169 (by decide) ?_
              refine g_top (y := if unB F (8 * u + q + 1) = true then 1 else 0) (by rw [if_pos hun9]) ?_
              refine lv_istore (lv' := [(6, .int (if unB F (8 * u + q + 1) = true then 1 else 0)), (0, .ref (ad 0)), (1, .ref (ad 43)), (2, .ref (ad 45)), (3, .ref (ad 46)), (4, .ref (ad 47)), (5, .int (if offB F (V 1 3) (u + 1) = true then 1 else 0)), (7, .ref (ad 48)), (8, .ref (ad 49)), (9, .int (nI u)), (12, .int (nI q)), (13, .int (cDens F u q))]) hx hb dL_copies_173 hl (by decide) rfl (fun ls hl => ?_)
              refine W.widen (k := (12 + 24 * u + 2 * q)) (n := (68 + 144 * u + 12 * q)) (by omega) (by omega) ?_
              exact J107  _ _ ls  hN (lv_sub hl [1, 2, 3, 4, 5, 6, 0, 7, 8, 9, 10] rfl)
            refine g_ifb_ne (unB F (8 * u + q) = true) (tgt := 168) hx hb dL_copies_151 (by decide) rfl (fun c109 => ?_) (fun c109 => ?_)
            · refine W.widen (k := (12 + 24 * u + 2 * q)) (n := (68 + 144 * u + 12 * q)) (by omega) (by omega) ?_
              exact J108  _ _ ls (unB_l c109) hN (lv_sub hl [1, 2, 3, 4, 5, 6, 7, 8, 9, 10, 11, 0] rfl)
            · refine lv_iload hx hb dL_copies_154 (lv_at hl 0 rfl) ?_
              refine lv_bipush (v := 90) hx hb dL_copies_156 (by decide) ?_
              refine lv_icmp_lt (tgt := 168) hx hb dL_copies_158 (by decide) (fun c110 => ?_) (fun c110 => ?_)
              · refine W.widen (k := (12 + 24 * u + 2 * q)) (n := (68 + 144 * u + 12 * q)) (by omega) (by omega) ?_
                exact J108  _ _ ls (unB_r (by omega) (Or.inl c110)) hN (lv_sub hl [1, 2, 3, 4, 5, 6, 7, 8, 9, 10, 11, 0] rfl)
              · refine lv_iload hx hb dL_copies_161 (lv_at hl 0 rfl) ?_
                refine lv_bipush (v := 110) hx hb dL_copies_163 (by decide) ?_
                refine lv_icmp_le (tgt := 172) hx hb dL_copies_165 (by decide) (fun c111 => ?_) (fun c111 => ?_)
                · have hun8 : ¬ unB F (8 * u + q + 1) = true := unB_f (by omega) c109 (fun z => z.elim c110 (Int32.not_lt.mpr c111))
                  refine lv_iconst (v := 0) hx hb dL_copies_172 (by decide) ?_
                  refine g_top (y := if unB F (8 * u + q + 1) = true then 1 else 0) (by rw [if_neg hun8]) ?_
                  refine lv_istore (lv' := [(6, .int (if unB F (8 * u + q + 1) = true then 1 else 0)), (13, .int (cDens F u q)), (0, .ref (ad 0)), (1, .ref (ad 43)), (2, .ref (ad 45)), (3, .ref (ad 46)), (4, .ref (ad 47)), (5, .int (if offB F (V 1 3) (u + 1) = true then 1 else 0)), (7, .ref (ad 48)), (8, .ref (ad 49)), (9, .int (nI u)), (12, .int (nI q))]) hx hb dL_copies_173 hl (by decide) rfl (fun ls hl => ?_)
                  refine W.widen (k := (12 + 24 * u + 2 * q)) (n := (68 + 144 * u + 12 * q)) (by omega) (by omega) ?_
                  exact J107  _ _ ls  hN (lv_sub hl [2, 3, 4, 5, 6, 7, 0, 8, 9, 10, 11] rfl)
                · refine W.widen (k := (12 + 24 * u + 2 * q)) (n := (68 + 144 * u + 12 * q)) (by omega) (by omega) ?_
                  exact J108  _ _ ls (unB_r (by omega) (Or.inr (Int32.not_le.mp c111))) hN (lv_sub hl [1, 2, 3, 4, 5, 6, 7, 8, 9, 10, 11, 0] rfl)
        refine W.widen (k := (10 + 24 * u)) (n := (56 + 144 * u)) (by omega) (by omega) ?_
        exact L103 _ 0 _ _ ls (rfl) (by omega) hN (lv_sub hl [1, 2, 3, 4, 5, 6, 7, 8, 9, 10, 0] rfl)
      refine lv_iload hx hb dL_copies_77 (lv_at hl 7 rfl) ?_
      have J112 : ∀  (H : Heap) (locs : List Loc) (ls : Array Slot), (offB F (V 1 3) (u + 1) = true) → gN D ad cs s0 (gw (gw (xyF F u) 48 u (F 19 u)) 49 u (F 20 u)) V 2 H locs → lv_has ls 16 [(0, .ref (ad 0)), (1, .ref (ad 43)), (2, .ref (ad 45)), (3, .ref (ad 46)), (4, .ref (ad 47)), (5, .int (if offB F (V 1 3) u = true then 1 else 0)), (6, .int (if unB F (8 * u) = true then 1 else 0)), (7, .ref (ad 48)), (8, .ref (ad 49)), (9, .int (nI u)), (10, .int ((F 19 u) - (F 19 3))), (11, .int ((F 20 u) - (F 20 3)))] → W p0 l e0 ({ frames := 8, cells := 130, slots := 760, locals := 137 } : Room) s0 m0 av9 b0 k0 c0 H locs (10 + 24 * u) (56 + 144 * u) Q9 (F0 m0 120 ls []) := by
        intro  H locs ls hof9 hN hl
        refine lv_iconst (v := 1) hx hb dL_copies_120 (by decide) ?_
        refine lv_goto (tgt := 125) hx hb dL_copies_121 (by decide) ?_
        rw [xyF_s] at hN
        refine g_top (y := if offB F (V 1 3) (u + 1) = true then 1 else 0) (by rw [if_pos hof9]) ?_
        refine lv_istore (lv' := [(5, .int (if offB F (V 1 3) (u + 1) = true then 1 else 0)), (0, .ref (ad 0)), (1, .ref (ad 43)), (2, .ref (ad 45)), (3, .ref (ad 46)), (4, .ref (ad 47)), (6, .int (if unB F (8 * u) = true then 1 else 0)), (7, .ref (ad 48)), (8, .ref (ad 49)), (9, .int (nI u)), (10, .int ((F 19 u) - (F 19 3))), (11, .int ((F 20 u) - (F 20 3)))]) hx hb dL_copies_125 hl (by decide) rfl (fun ls hl => ?_)
        refine W.widen (k := (10 + 24 * u)) (n := (56 + 144 * u)) (by omega) (by omega) ?_
        exact J102  _ _ ls  hN (lv_sub hl [1, 2, 3, 4, 5, 0, 6, 7, 8, 9] rfl)
      refine g_ifb_ne (offB F (V 1 3) u = true) (tgt := 120) hx hb dL_copies_79 (by decide) rfl (fun c113 => ?_) (fun c113 => ?_)
      · refine W.widen (k := (10 + 24 * u)) (n := (56 + 144 * u)) (by omega) (by omega) ?_
        exact J112  _ _ ls (offB_l c113) hN (lv_sub hl [2, 3, 4, 5, 6, 7, 8, 9, 10, 11, 1, 0] rfl)
      · refine lv_iload hx hb dL_copies_82 (lv_at hl 1 rfl) ?_
        refine lv_aload_n hx hb dL_copies_84 rfl (lv_at hl 3 rfl) ?_
        refine lv_bipush (v := 7) hx hb dL_copies_85 (by decide) ?_
        refine g_iald hx hb hG hN (i := 43) (n := 9) (j := 7) (by decide) rfl (by decide) (by omega) rfl dL_copies_87 ?_
        refine g_top (y := ((xyF F u) 43 7)) (rfl) ?_
        refine g_top (y := V 1 3) (by rw [xyF_o (by decide)]; exact hP.2.2.1.2.2.2.2.1) ?_
        refine lv_icmp_gt (tgt := 120) hx hb dL_copies_88 (by decide) (fun c114 => ?_) (fun c114 => ?_)
        · refine W.widen (k := (10 + 24 * u)) (n := (56 + 144 * u)) (by omega) (by omega) ?_
          exact J112  _ _ ls (offB_r (Or.inl (gabs_gt htol c114))) hN (lv_sub hl [2, 3, 4, 5, 6, 7, 8, 9, 10, 11, 1, 0] rfl)
        · refine lv_iload hx hb dL_copies_91 (lv_at hl 1 rfl) ?_
          refine lv_ineg hx hb dL_copies_93 ?_
          refine lv_aload_n hx hb dL_copies_94 rfl (lv_at hl 3 rfl) ?_
          refine lv_bipush (v := 7) hx hb dL_copies_95 (by decide) ?_
          refine g_iald hx hb hG hN (i := 43) (n := 9) (j := 7) (by decide) rfl (by decide) (by omega) rfl dL_copies_97 ?_
          refine g_top (y := ((xyF F u) 43 7)) (rfl) ?_
          refine g_top (y := V 1 3) (by rw [xyF_o (by decide)]; exact hP.2.2.1.2.2.2.2.1) ?_
          refine lv_icmp_gt (tgt := 120) hx hb dL_copies_98 (by decide) (fun c115 => ?_) (fun c115 => ?_)
          · refine W.widen (k := (10 + 24 * u)) (n := (56 + 144 * u)) (by omega) (by omega) ?_
            exact J112  _ _ ls (offB_r (Or.inl (gabs_lt htol c115))) hN (lv_sub hl [2, 3, 4, 5, 6, 7, 8, 9, 10, 11, 1, 0] rfl)
          · refine lv_iload hx hb dL_copies_101 (lv_at hl 0 rfl) ?_
            refine lv_aload_n hx hb dL_copies_103 rfl (lv_at hl 3 rfl) ?_
            refine lv_bipush (v := 7) hx hb dL_copies_104 (by decide) ?_
            refine g_iald hx hb hG hN (i := 43) (n := 9) (j := 7) (by decide) rfl (by decide) (by omega) rfl dL_copies_106 ?_
            refine g_top (y := ((xyF F u) 43 7)) (rfl) ?_
            refine g_top (y := V 1 3) (by rw [xyF_o (by decide)]; exact hP.2.2.1.2.2.2.2.1) ?_
            refine lv_icmp_gt (tgt := 120) hx hb dL_copies_107 (by decide) (fun c116 => ?_) (fun c116 => ?_)
            · refine W.widen (k := (10 + 24 * u)) (n := (56 + 144 * u)) (by omega) (by omega) ?_
              exact J112  _ _ ls (offB_r (Or.inr (gabs_gt htol c116))) hN (lv_sub hl [2, 3, 4, 5, 6, 7, 8, 9, 10, 11, 1, 0] rfl)
            · refine lv_iload hx hb dL_copies_110 (lv_at hl 0 rfl) ?_
              refine lv_ineg hx hb dL_copies_112 ?_
              refine lv_aload_n hx hb dL_copies_113 rfl (lv_at hl 3 rfl) ?_
              refine lv_bipush (v := 7) hx hb dL_copies_114 (by decide) ?_
              refine g_iald hx hb hG hN (i := 43) (n := 9) (j := 7) (by decide) rfl (by decide) (by omega) rfl dL_copies_116 ?_
              refine g_top (y := ((xyF F u) 43 7)) (rfl) ?_
              refine g_top (y := V 1 3) (by rw [xyF_o (by decide)]; exact hP.2.2.1.2.2.2.2.1) ?_
              refine lv_icmp_le (tgt := 124) hx hb dL_copies_117 (by decide) (fun c117 => ?_) (fun c117 => ?_)
              · have hno9 : ¬ offB F (V 1 3) (u + 1) = true := offB_f c113 (fun z => z.elim (gabs_no c114 c115) (gabs_no c116 (Int32.not_lt.mpr c117)))
                refine lv_iconst (v := 0) hx hb dL_copies_124 (by decide) ?_
                rw [xyF_s] at hN
                refine g_top (y := if offB F (V 1 3) (u + 1) = true then 1 else 0) (by rw [if_neg hno9]) ?_
                refine lv_istore (lv' := [(5, .int (if offB F (V 1 3) (u + 1) = true then 1 else 0)), (11, .int ((F 20 u) - (F 20 3))), (10, .int ((F 19 u) - (F 19 3))), (0, .ref (ad 0)), (1, .ref (ad 43)), (2, .ref (ad 45)), (3, .ref (ad 46)), (4, .ref (ad 47)), (6, .int (if unB F (8 * u) = true then 1 else 0)), (7, .ref (ad 48)), (8, .ref (ad 49)), (9, .int (nI u))]) hx hb dL_copies_125 hl (by decide) rfl (fun ls hl => ?_)
                refine W.widen (k := (10 + 24 * u)) (n := (56 + 144 * u)) (by omega) (by omega) ?_
                exact J102  _ _ ls  hN (lv_sub hl [3, 4, 5, 6, 7, 0, 8, 9, 10, 11] rfl)
              · refine W.widen (k := (10 + 24 * u)) (n := (56 + 144 * u)) (by omega) (by omega) ?_
                exact J112  _ _ ls (offB_r (Or.inr (gabs_lt htol (Int32.not_le.mp c117)))) hN (lv_sub hl [2, 3, 4, 5, 6, 7, 8, 9, 10, 11, 1, 0] rfl)
  exact L1 _ 0 _ _ ls (rfl) (by omega) hN (lv_sub hl [5, 6, 7, 8, 9, 4, 3, 2, 1, 0] rfl)
