set_option maxHeartbeats 4000000 in
set_option maxRecDepth 100000 in
theorem c_X10_apply (l : Launch) {D : va_G} {ad : Nat → Nat} {cs : Nat → ClassId} {zd : Nat → Nat} {F V : gF} {o : gO} {sz : Nat}  (n : Nat) (hn : V 43 6 = nI n) (hn2 : n ≤ 60) : Met l yX10_apply wsX10_apply ({ frames := 3, cells := 0, slots := 0, locals := 69 } : Room) (gPc D ad cs zd F V o sz [.ref (ad 43)]) (gQi D ad cs sz (fun r9 u9 => u9.2.2 = o ∧ u9.2.1 43 31 = 0 ∧ r9 = (qRun (F 49) n 64 0 0) ∧ ((qFine (F 49) n 64 0) = true → sim F V u9.1 u9.2.1 (qRuF (F 49) n 64 0 (tF F, tV F V)).1 (gw (qRuF (F 49) n 64 0 (tF F, tV F V)).2 3 3 0)) ∧ ((qFine (F 49) n 64 0) = false → sim F V u9.1 u9.2.1 (tF F) (gw (tV F V) 3 3 0)))) 0 0 (gX ad sz) := by
  refine g_met (Qc := fun z0 => gQi D ad cs z0 (fun r9 u9 => u9.2.2 = o ∧ u9.2.1 43 31 = 0 ∧ r9 = (qRun (F 49) n 64 0 0) ∧ ((qFine (F 49) n 64 0) = true → sim F V u9.1 u9.2.1 (qRuF (F 49) n 64 0 (tF F, tV F V)).1 (gw (qRuF (F 49) n 64 0 (tF F, tV F V)).2 3 3 0)) ∧ ((qFine (F 49) n 64 0) = false → sim F V u9.1 u9.2.1 (tF F) (gw (tV F V) 3 3 0)))) (cc := cX10_apply) (maxL := 5) (ret := (some .int)) (own := RX10) (by decide +kernel) rfl rfl (Nat.le_of_ble_eq_true rfl) ?_
  intro p0 e0 s0 m0 b0 k0 c0 hx hb hr hts hown hlocks hml hG hN ls hl
  have hl : lv_has ls 5 [(0, .ref (ad 43))] := hl
  have hin_10 : ∀ w ∈ wsX100, w ∈ wsX10_apply := by decide +kernel
  have hk_72 := hts (.fieldLink RX10 72 "GravureHouseModel" "thrown" "I") (by decide +kernel)
  have hk_87 := hts (.fieldLink RX10 87 "GravureHouseModel" "signs" "I") (by decide +kernel)
  have hk_19 := hts (.fieldLink RX10 19 "GravureHouseModel" "rule" "[I") (by decide +kernel)
  have hk_22 := hts (.fieldLink RX10 22 "GravureHouseModel" "fresh" "[I") (by decide +kernel)
  have hk_90 := hts (.fieldLink RX10 90 "GravureHouseModel" "at" "I") (by decide +kernel)
  have hk_96 := hts (.fieldLink RX10 96 "GravureHouseModel" "words" "I") (by decide +kernel)
  refine lv_aload_n hx hb dX10_apply_0 rfl (lv_at hl 0 rfl) ?_
  refine lv_iconst (v := 0) hx hb dX10_apply_1 (by decide) ?_
  refine gp_43_31 hx hb hts hin_10 hown hG hN hk_72 dX10_apply_2 (fun H locs hN => ?_)
  refine lv_iconst (v := 0) hx hb dX10_apply_5 (by decide) ?_
  refine lv_istore_n (lv' := [(1, .int 0), (0, .ref (ad 43))]) hx hb dX10_apply_6 rfl hl (by decide) rfl (fun ls hl => ?_)
  have L1 : ∀ (d9_7 : Nat) (k : Nat) (F1 : gF) (H : Heap) (locs : List Loc) (ls : Array Slot), 9 - k = d9_7 → (k ≤ 9) → (∀ a, a ≠ 48 → F1 a = F a) → (∀ j, j < k → F1 48 j = F 47 j) → gN D ad cs s0 F1 (gw V 43 31 0) o H locs → lv_has ls 5 [(0, .ref (ad 43)), (1, .int (nI k))] → W p0 l e0 ({ frames := 3, cells := 0, slots := 0, locals := 69 } : Room) s0 m0 ([.ref (ad 43)] : List Value).toArray b0 k0 c0 H locs 0 0 (MQ b0 (gQi D ad cs s0.heap.size (fun r9 u9 => u9.2.2 = o ∧ u9.2.1 43 31 = 0 ∧ r9 = (qRun (F 49) n 64 0 0) ∧ ((qFine (F 49) n 64 0) = true → sim F V u9.1 u9.2.1 (qRuF (F 49) n 64 0 (tF F, tV F V)).1 (gw (qRuF (F 49) n 64 0 (tF F, tV F V)).2 3 3 0)) ∧ ((qFine (F 49) n 64 0) = false → sim F V u9.1 u9.2.1 (tF F) (gw (tV F V) 3 3 0)))) ([.ref (ad 43)] : List Value).toArray s0 0 0 (gX ad s0.heap.size)) (F0 m0 7 ls []) := by
    intro d9_7
    induction d9_7 with
    | zero =>
      intro k F1 H locs ls hd_7 hk hA hB hN hl
      refine lv_iload_n hx hb dX10_apply_7 rfl (lv_at hl 1 rfl) ?_
      refine lv_bipush (v := 9) hx hb dX10_apply_8 (by decide) ?_
      refine g_cN_ge (a := k) (b := 9) (tgt := 31) hx hb dX10_apply_10 (by decide) rfl rfl (by omega) (by omega) (fun c2 => ?_) (fun c2 => absurd c2 (by omega))
      have J3 : ∀ (F2 : gF) (V1 : gF) (x1 : Int32) (x2 : Int32) (H : Heap) (locs : List Loc) (ls : Array Slot), (∀ a, a ≠ 48 → F2 a = F a) → (∀ a k, (a ≠ 43 ∨ k < 31 ∨ 34 < k) → V1 a k = V a k) → (V1 43 31 = 0) → ((x2 = 0 ∧ (qFine (F 49) n 64 0) = true ∧ x1 = (qRun (F 49) n 64 0 0) ∧ qRR (F2 48) (qRuF (F 49) n 64 0 (tF F, tV F V)) ∧ qFr (tF F, tV F V) (qRuF (F 49) n 64 0 (tF F, tV F V))) ∨ (∃ q, q ≤ 63 ∧ x2 = nI (q + 1) ∧ (qRun (F 49) n 64 0 0) = -(nI (q + 1)) ∧ (qFine (F 49) n 64 0) = false)) → gN D ad cs s0 F2 V1 o H locs → lv_has ls 5 [(0, .ref (ad 43)), (1, .int x1), (2, .int x2)] → W p0 l e0 ({ frames := 3, cells := 0, slots := 0, locals := 69 } : Room) s0 m0 ([.ref (ad 43)] : List Value).toArray b0 k0 c0 H locs 0 0 (MQ b0 (gQi D ad cs s0.heap.size (fun r9 u9 => u9.2.2 = o ∧ u9.2.1 43 31 = 0 ∧ r9 = (qRun (F 49) n 64 0 0) ∧ ((qFine (F 49) n 64 0) = true → sim F V u9.1 u9.2.1 (qRuF (F 49) n 64 0 (tF F, tV F V)).1 (gw (qRuF (F 49) n 64 0 (tF F, tV F V)).2 3 3 0)) ∧ ((qFine (F 49) n 64 0) = false → sim F V u9.1 u9.2.1 (tF F) (gw (tV F V) 3 3 0)))) ([.ref (ad 43)] : List Value).toArray s0 0 0 (gX ad s0.heap.size)) (F0 m0 94 ls []) := by
        intro F2 V1 x1 x2 H locs ls hA2 hfr ht hfin hN hl
        refine lv_aload_n hx hb dX10_apply_94 rfl (lv_at hl 0 rfl) ?_
        refine lv_iconst (v := 0) hx hb dX10_apply_95 (by decide) ?_
        refine gp_43_6 hx hb hts hin_10 hown hG hN hk_87 dX10_apply_96 (fun H locs hN => ?_)
        have J4 : ∀ (F3 : gF) (H : Heap) (locs : List Loc) (ls : Array Slot), ((x2 = 0 → (∀ a, a ≠ 47 → F3 a = F2 a) ∧ ∀ j, j < 9 → F3 47 j = F2 48 j) ∧ (x2 ≠ 0 → F3 = F2)) → gN D ad cs s0 F3 (gw V1 43 6 0) o H locs → lv_has ls 5 [(0, .ref (ad 43)), (1, .int x1), (2, .int x2)] → W p0 l e0 ({ frames := 3, cells := 0, slots := 0, locals := 69 } : Room) s0 m0 ([.ref (ad 43)] : List Value).toArray b0 k0 c0 H locs 0 0 (MQ b0 (gQi D ad cs s0.heap.size (fun r9 u9 => u9.2.2 = o ∧ u9.2.1 43 31 = 0 ∧ r9 = (qRun (F 49) n 64 0 0) ∧ ((qFine (F 49) n 64 0) = true → sim F V u9.1 u9.2.1 (qRuF (F 49) n 64 0 (tF F, tV F V)).1 (gw (qRuF (F 49) n 64 0 (tF F, tV F V)).2 3 3 0)) ∧ ((qFine (F 49) n 64 0) = false → sim F V u9.1 u9.2.1 (tF F) (gw (tV F V) 3 3 0)))) ([.ref (ad 43)] : List Value).toArray s0 0 0 (gX ad s0.heap.size)) (F0 m0 129 ls []) := by
          intro F3 H locs ls hfin2 hN hl
          refine lv_iload_n hx hb dX10_apply_129 rfl (lv_at hl 2 rfl) ?_
          refine lv_if_le (tgt := 138) hx hb dX10_apply_130 (by decide) (fun c5 => ?_) (fun c5 => ?_)
          · obtain ⟨hx0, hTF, hx1, hRR, hXF⟩ := hfin.resolve_right (fun ⟨q, hq1, hq2, _⟩ => nI_nle (n := q + 1) (Nat.succ_pos q) (by omega) (by rw [← hq2]; exact c5))
            refine lv_iload_n hx hb dX10_apply_138 rfl (lv_at hl 1 rfl) ?_
            exact g_ri hx hb hr hlocks hN (⟨rfl, ht, hx1, fun _ => mAp (F2 := F3) (V3 := gw V1 43 6 0) (fun i h1 h2 j => by rw [(hfin2.1 hx0).1 i h1, hA2 i h2]) (hRR.cong (hfin2.1 hx0).2) hXF (fun a k h => by unfold gw; rw [hfr a k h]), fun z => absurd (hTF.symm.trans z) (by decide)⟩) dX10_apply_139
          · obtain ⟨q, hq1, hq2, hTR, hTF⟩ := hfin.resolve_left (fun h9 => c5 (by rw [h9.1]; exact Int32.le_refl _))
            refine lv_iload_n hx hb dX10_apply_133 rfl (lv_at hl 2 rfl) ?_
            refine lv_ineg hx hb dX10_apply_134 ?_
            refine lv_goto (tgt := 139) hx hb dX10_apply_135 (by decide) ?_
            exact g_ri hx hb hr hlocks hN (⟨rfl, ht, by rw [hTR, hq2], fun z => absurd (z.symm.trans hTF) (by decide), fun _ => by rw [hfin2.2 (fun z => nI_sn hq1 (hq2.symm.trans z))]; exact mAp (F2 := F2) (V3 := gw V1 43 6 0) (x := (tF F, tV F V)) (fun i h1 h2 j => by rw [hA2 i h2]) (by rw [hA2 47 (by decide)]; exact qRR.rf) qFr.rf (fun a k h => by unfold gw; rw [hfr a k h])⟩) dX10_apply_139
        refine lv_iconst (v := 0) hx hb dX10_apply_99 (by decide) ?_
        refine lv_istore_n (lv' := [(3, .int 0), (0, .ref (ad 43)), (1, .int x1), (2, .int x2)]) hx hb dX10_apply_100 rfl hl (by decide) rfl (fun ls hl => ?_)
        have L6 : ∀ (d9_101 : Nat) (k : Nat) (F3 : gF) (H : Heap) (locs : List Loc) (ls : Array Slot), 9 - k = d9_101 → (k ≤ 9) → (∀ a, a ≠ 47 → F3 a = F2 a) → (x2 = 0 → ∀ j, j < k → F3 47 j = F2 48 j) → (x2 = 0 ∨ k = 0 ∧ F3 = F2) → gN D ad cs s0 F3 (gw V1 43 6 0) o H locs → lv_has ls 5 [(0, .ref (ad 43)), (1, .int x1), (2, .int x2), (3, .int (nI k))] → W p0 l e0 ({ frames := 3, cells := 0, slots := 0, locals := 69 } : Room) s0 m0 ([.ref (ad 43)] : List Value).toArray b0 k0 c0 H locs 0 0 (MQ b0 (gQi D ad cs s0.heap.size (fun r9 u9 => u9.2.2 = o ∧ u9.2.1 43 31 = 0 ∧ r9 = (qRun (F 49) n 64 0 0) ∧ ((qFine (F 49) n 64 0) = true → sim F V u9.1 u9.2.1 (qRuF (F 49) n 64 0 (tF F, tV F V)).1 (gw (qRuF (F 49) n 64 0 (tF F, tV F V)).2 3 3 0)) ∧ ((qFine (F 49) n 64 0) = false → sim F V u9.1 u9.2.1 (tF F) (gw (tV F V) 3 3 0)))) ([.ref (ad 43)] : List Value).toArray s0 0 0 (gX ad s0.heap.size)) (F0 m0 101 ls []) := by
          intro d9_101
          induction d9_101 with
          | zero =>
            intro k F3 H locs ls hd_101 hk hC hD hE hN hl
            refine lv_iload_n hx hb dX10_apply_101 rfl (lv_at hl 3 rfl) ?_
            refine lv_bipush (v := 9) hx hb dX10_apply_102 (by decide) ?_
            refine g_cN_ge (a := k) (b := 9) (tgt := 129) hx hb dX10_apply_104 (by decide) rfl rfl (by omega) (by omega) (fun c7 => ?_) (fun c7 => absurd c7 (by omega))
            exact J4 F3 _ _ ls (⟨fun z => ⟨hC, fun j hj => hD z j (by omega)⟩, fun z => absurd (hE.resolve_left z).1 (by omega)⟩) hN (lv_sub hl [0, 1, 2] rfl)
          | succ d9_101 ih101 =>
            intro k F3 H locs ls hd_101 hk hC hD hE hN hl
            refine lv_iload_n hx hb dX10_apply_101 rfl (lv_at hl 3 rfl) ?_
            refine lv_bipush (v := 9) hx hb dX10_apply_102 (by decide) ?_
            refine g_cN_ge (a := k) (b := 9) (tgt := 129) hx hb dX10_apply_104 (by decide) rfl rfl (by omega) (by omega) (fun c8 => absurd c8 (by omega)) (fun c8 => ?_)
            refine lv_iload_n hx hb dX10_apply_107 rfl (lv_at hl 2 rfl) ?_
            refine lv_if_ne (tgt := 129) hx hb dX10_apply_108 (by decide) (fun c9 => ?_) (fun c9 => ?_)
            · exact J4 F3 _ _ ls (⟨fun z => absurd z c9, fun z => (hE.resolve_left z).2⟩) hN (lv_sub hl [0, 1, 2] rfl)
            · refine lv_aload_n hx hb dX10_apply_111 rfl (lv_at hl 0 rfl) ?_
              refine gf_43_3 hx hb hts hin_10 hown hG hN hk_19 dX10_apply_112 ?_
              refine lv_iload_n hx hb dX10_apply_115 rfl (lv_at hl 3 rfl) ?_
              refine lv_aload_n hx hb dX10_apply_116 rfl (lv_at hl 0 rfl) ?_
              refine gf_43_4 hx hb hts hin_10 hown hG hN hk_22 dX10_apply_117 ?_
              refine lv_iload_n hx hb dX10_apply_120 rfl (lv_at hl 3 rfl) ?_
              refine g_iald hx hb hG hN (i := 48) (n := 9) (j := k) (by decide) rfl (by decide) (by omega) rfl dX10_apply_121 ?_
              refine g_iast hx hb hG hN (i := 47) (n := 9) (j := k) (by decide) (fun _ => rfl) (by decide) (by omega) rfl dX10_apply_122 (fun H locs hN => ?_)
              refine lv_iinc (v := (nI (k + 1))) (lv' := [(3, .int (nI (k + 1))), (0, .ref (ad 43)), (1, .int x1), (2, .int x2)]) hx hb dX10_apply_123 hl (k := 3) rfl (nI_1 _) (by decide) rfl (fun ls hl => ?_)
              refine lv_goto (tgt := 101) hx hb dX10_apply_126 (by decide) ?_
              exact ih101 (k + 1) (gw F3 47 k (F3 48 k)) _ _ ls (by omega) (by omega) (fun a ha => (gw_n _ _ _ ha).trans (hC a ha)) (fun z => mCp2 hC (hD z)) (Or.inl c9) hN (lv_sub hl [1, 2, 3, 0] rfl)
        exact L6 _ 0 F2 _ _ ls (rfl) (by omega) (fun _ _ => rfl) (fun _ j hj => absurd hj (Nat.not_lt_zero j)) (Or.inr ⟨rfl, rfl⟩) hN (lv_sub hl [1, 2, 3, 0] rfl)
      refine lv_aload_n hx hb dX10_apply_31 rfl (lv_at hl 0 rfl) ?_
      refine lv_iconst (v := 0) hx hb dX10_apply_32 (by decide) ?_
      refine gp_43_32 hx hb hts hin_10 hown hG hN hk_90 dX10_apply_33 (fun H locs hN => ?_)
      refine lv_aload_n hx hb dX10_apply_36 rfl (lv_at hl 0 rfl) ?_
      refine lv_iconst (v := 0) hx hb dX10_apply_37 (by decide) ?_
      refine gp_43_34 hx hb hts hin_10 hown hG hN hk_96 dX10_apply_38 (fun H locs hN => ?_)
      refine lv_iconst (v := 0) hx hb dX10_apply_41 (by decide) ?_
      refine lv_istore_n (lv' := [(1, .int 0), (0, .ref (ad 43))]) hx hb dX10_apply_42 rfl hl (by decide) rfl (fun ls hl => ?_)
      refine lv_iconst (v := 0) hx hb dX10_apply_43 (by decide) ?_
      refine lv_istore_n (lv' := [(2, .int 0), (1, .int 0), (0, .ref (ad 43))]) hx hb dX10_apply_44 rfl hl (by decide) rfl (fun ls hl => ?_)
      have L10 : ∀ (d9_45 : Nat) (m : Nat) (p : Nat) (F2 : gF) (V1 : gF) (x1 : Int32) (x2 : Int32) (X : gF × gF) (H : Heap) (locs : List Loc) (ls : Array Slot), m = d9_45 → (∀ a, a ≠ 48 → F2 a = F a) → (∀ a k, (a ≠ 43 ∨ k < 31 ∨ 34 < k) → V1 a k = V a k) → (V1 43 31 = 0) → ((x2 = 0 ∧ p ≤ 63 ∧ 64 ≤ m + p ∧ V1 43 34 = nI p ∧ V1 43 32 = nI (qAt (F2 49) n p) ∧ qRun (F2 49) n m p x1 = (qRun (F 49) n 64 0 0) ∧ qFine (F2 49) n m p = (qFine (F 49) n 64 0) ∧ qRuF (F2 49) n m p X = (qRuF (F 49) n 64 0 (tF F, tV F V)) ∧ qRR (F2 48) X ∧ qFr (tF F, tV F V) X) ∨ (∃ q, q ≤ 63 ∧ x2 = nI (q + 1) ∧ (qRun (F 49) n 64 0 0) = -(nI (q + 1)) ∧ (qFine (F 49) n 64 0) = false)) → gN D ad cs s0 F2 V1 o H locs → lv_has ls 5 [(0, .ref (ad 43)), (1, .int x1), (2, .int x2)] → W p0 l e0 ({ frames := 3, cells := 0, slots := 0, locals := 69 } : Room) s0 m0 ([.ref (ad 43)] : List Value).toArray b0 k0 c0 H locs 0 0 (MQ b0 (gQi D ad cs s0.heap.size (fun r9 u9 => u9.2.2 = o ∧ u9.2.1 43 31 = 0 ∧ r9 = (qRun (F 49) n 64 0 0) ∧ ((qFine (F 49) n 64 0) = true → sim F V u9.1 u9.2.1 (qRuF (F 49) n 64 0 (tF F, tV F V)).1 (gw (qRuF (F 49) n 64 0 (tF F, tV F V)).2 3 3 0)) ∧ ((qFine (F 49) n 64 0) = false → sim F V u9.1 u9.2.1 (tF F) (gw (tV F V) 3 3 0)))) ([.ref (ad 43)] : List Value).toArray s0 0 0 (gX ad s0.heap.size)) (F0 m0 45 ls []) := by
        intro d9_45
        induction d9_45 with
        | zero =>
          intro m p F2 V1 x1 x2 X H locs ls hd_45 hA2 hfr ht hst hN hl
          refine lv_iload_n hx hb dX10_apply_45 rfl (lv_at hl 2 rfl) ?_
          refine lv_if_ne (tgt := 94) hx hb dX10_apply_46 (by decide) (fun c11 => ?_) (fun c11 => absurd c11 (hst.elim (fun h9 => absurd h9.2.2.1 (by have := h9.2.1; omega)) (fun ⟨q, hq1, hq2, _⟩ z => nI_sn hq1 (hq2.symm.trans z))))
          exact J3 F2 V1 x1 x2 _ _ ls (hA2) (hfr) (ht) (Or.inr (hst.resolve_left (fun h9 => absurd h9.1 c11))) hN (lv_sub hl [0, 1, 2] rfl)
        | succ d9_45 ih45 =>
          intro m p F2 V1 x1 x2 X H locs ls hd_45 hA2 hfr ht hst hN hl
          refine lv_iload_n hx hb dX10_apply_45 rfl (lv_at hl 2 rfl) ?_
          refine lv_if_ne (tgt := 94) hx hb dX10_apply_46 (by decide) (fun c12 => ?_) (fun c12 => ?_)
          · exact J3 F2 V1 x1 x2 _ _ ls (hA2) (hfr) (ht) (Or.inr (hst.resolve_left (fun h9 => absurd h9.1 c12))) hN (lv_sub hl [0, 1, 2] rfl)
          · obtain ⟨hx0, hp61, hmp, hwd, hat, hrun, hfine, hruf, hrr, hxf⟩ := hst.resolve_right (fun ⟨q, hq1, hq2, _⟩ => nI_sn hq1 (hq2.symm.trans c12))
            rw [hd_45] at hrun hfine hruf
            refine lv_aload_n hx hb dX10_apply_49 rfl (lv_at hl 0 rfl) ?_
            refine g_VI (As := []) (rest := []) ⟨hx, hb, hml, hown, hts⟩ hG hN (i := 43) (by decide) rfl rfl (c_X10_reads l n (qAt (F2 49) n p) p ((hfr 43 6 (Or.inr (Or.inl (by decide)))).trans hn) hn2 hat (qAt_b _) hwd (by omega)) (cwV 0 hts gX10_apply_X10_reads rfl rfl rfl (by decide +kernel) ⟨Nat.le_of_ble_eq_true rfl, Nat.le_of_ble_eq_true rfl⟩) rfl hl.1 rfl (Nat.le_of_ble_eq_true rfl) dX10_apply_50 ⟨Nat.le_of_ble_eq_true rfl, Nat.le_of_ble_eq_true rfl⟩ (fun H locs hN => ?_)
            refine g_ifb_eq ((qB (F2 49) n (qAt (F2 49) n p)) < (qE (F2 49) n (qB (F2 49) n (qAt (F2 49) n p)))) (tgt := 94) hx hb dX10_apply_53 (by decide) rfl (fun c13 => ?_) (fun c13 => ?_)
            · exact J3 F2 (mRd V1 p (qB (F2 49) n (qAt (F2 49) n p)) (qE (F2 49) n (qB (F2 49) n (qAt (F2 49) n p)))) x1 x2 _ _ ls (hA2) (fun a k h => (mRd_o (by omega)).trans (hfr a k h)) ((mRd_o (by decide)).trans ht) (Or.inl ⟨hx0, by rw [← hfine]; simp only [qFine]; rw [if_neg (show ¬ qHas (F2 49) n p from c13)], by rw [← hrun]; simp only [qRun]; rw [if_neg (show ¬ qHas (F2 49) n p from c13)], by rw [← hruf]; simp only [qRuF]; rw [if_neg (fun z => (show ¬ qHas (F2 49) n p from c13) z.1)]; exact hrr, by rw [← hruf]; simp only [qRuF]; rw [if_neg (fun z => (show ¬ qHas (F2 49) n p from c13) z.1)]; exact hxf⟩) hN (lv_sub hl [0, 1, 2] rfl)
            · refine lv_aload_n hx hb dX10_apply_56 rfl (lv_at hl 0 rfl) ?_
              refine gf_43_34 hx hb hts hin_10 hown hG hN hk_96 dX10_apply_57 ?_
              refine g_top (y := nI (p + 1)) (mRd_34 c13) ?_
              refine lv_istore_n (lv' := [(3, .int (nI (p + 1))), (0, .ref (ad 43)), (1, .int x1), (2, .int x2)]) hx hb dX10_apply_60 rfl hl (by decide) rfl (fun ls hl => ?_)
              refine lv_aload_n hx hb dX10_apply_61 rfl (lv_at hl 1 rfl) ?_
              refine g_VI (As := []) (rest := []) ⟨hx, hb, hml, hown, hts⟩ hG hN (i := 43) (by decide) rfl rfl (c_X10_which l (qb (F2 49) n p) (qAt (F2 49) n (p + 1)) rfl rfl qb_b.2.1 (by have := qAt_b (S := F2 49) (n := n) (p + 1); omega)) (cwV 0 hts gX10_apply_X10_which rfl rfl rfl (by decide +kernel) ⟨Nat.le_of_ble_eq_true rfl, Nat.le_of_ble_eq_true rfl⟩) rfl hl.1 rfl (Nat.le_of_ble_eq_true rfl) dX10_apply_62 ⟨Nat.le_of_ble_eq_true rfl, Nat.le_of_ble_eq_true rfl⟩ (fun H locs hN => ?_)
              refine g_top (y := (qW (F2 49) n p)) (rfl) ?_
              refine lv_istore (lv' := [(4, .int (qW (F2 49) n p)), (3, .int (nI (p + 1))), (0, .ref (ad 43)), (1, .int x1), (2, .int x2)]) hx hb dX10_apply_65 hl (by decide) rfl (fun ls hl => ?_)
              refine lv_iload hx hb dX10_apply_67 (lv_at hl 0 rfl) ?_
              refine lv_iconst (v := (-1)) hx hb dX10_apply_69 (by decide) ?_
              refine lv_icmp_eq (tgt := 86) hx hb dX10_apply_70 (by decide) (fun c14 => ?_) (fun c14 => ?_)
              · refine lv_iload_n hx hb dX10_apply_86 rfl (lv_at hl 1 rfl) ?_
                refine lv_istore_n (lv' := [(2, .int (nI (p + 1))), (4, .int (qW (F2 49) n p)), (3, .int (nI (p + 1))), (0, .ref (ad 43)), (1, .int x1)]) hx hb dX10_apply_87 rfl hl (by decide) rfl (fun ls hl => ?_)
                refine lv_iinc (v := (x1 + 1)) (lv' := [(1, .int (x1 + 1)), (2, .int (nI (p + 1))), (4, .int (qW (F2 49) n p)), (3, .int (nI (p + 1))), (0, .ref (ad 43))]) hx hb dX10_apply_88 hl (k := 4) rfl (rfl) (by decide) rfl (fun ls hl => ?_)
                refine lv_goto (tgt := 45) hx hb dX10_apply_91 (by decide) ?_
                exact ih45 d9_45 p F2 (mRd V1 p (qB (F2 49) n (qAt (F2 49) n p)) (qE (F2 49) n (qB (F2 49) n (qAt (F2 49) n p)))) (x1 + 1) (nI (p + 1)) X _ _ ls (by omega) (hA2) (fun a k h => (mRd_o (by omega)).trans (hfr a k h)) ((mRd_o (by decide)).trans ht) (Or.inr ⟨p, hp61, rfl, by rw [← hrun]; simp only [qRun]; rw [if_pos (show qHas (F2 49) n p from c13), if_neg (fun z => z.1 c14)], by rw [← hfine]; simp only [qFine]; rw [if_pos (show qHas (F2 49) n p from c13), if_neg (fun z => z.1 c14)]⟩) hN (lv_sub hl [4, 0, 1] rfl)
              · obtain ⟨wn, hwn9, hwn⟩ := qWh_n (S := F2 49) (b := qb (F2 49) n p) (m := qAt (F2 49) n (p + 1) - qb (F2 49) n p) c14
                refine lv_aload_n hx hb dX10_apply_73 rfl (lv_at hl 2 rfl) ?_
                refine lv_iload hx hb dX10_apply_74 (lv_at hl 0 rfl) ?_
                refine g_top (y := nI wn) (hwn) ?_
                refine g_Vi (As := [.int (nI wn)]) (rest := []) ⟨hx, hb, hml, hown, hts⟩ hG hN (i := 43) (by decide) rfl rfl (c_X10_lays l wn n p ((mRd_o (Or.inr (Or.inl (by decide)))).trans ((hfr 43 6 (Or.inr (Or.inl (by decide)))).trans hn)) hn2 rfl (mRd_34 c13) (by omega) hwn.symm (by omega)) (cwV 1 hts gX10_apply_X10_lays rfl rfl rfl (by decide +kernel) ⟨Nat.le_of_ble_eq_true rfl, Nat.le_of_ble_eq_true rfl⟩) rfl hl.1 rfl (Nat.le_of_ble_eq_true rfl) dX10_apply_76 ⟨Nat.le_of_ble_eq_true rfl, Nat.le_of_ble_eq_true rfl⟩ (fun r15 Fq16 Vq17 oq18 H locs hq19 hN => ?_)
                have ho9 : o = oq18 := hq19.1.symm
                subst ho9
                have hf9 := hq19.2.1
                have hr9 : (if qOk (F2 49) n p then 1 else 0) = r15 := hq19.2.2.1.symm
                subst hr9
                have hk9 := hq19.2.2.2.1
                have hn9 := hq19.2.2.2.2
                dsimp only at hf9 hk9 hn9
                refine g_ifb_eq (qOk (F2 49) n p) (tgt := 86) hx hb dX10_apply_79 (by decide) rfl (fun c20 => ?_) (fun c20 => ?_)
                · refine lv_iload_n hx hb dX10_apply_86 rfl (lv_at hl 1 rfl) ?_
                  refine lv_istore_n (lv' := [(2, .int (nI (p + 1))), (4, .int (qW (F2 49) n p)), (3, .int (nI (p + 1))), (0, .ref (ad 43)), (1, .int x1)]) hx hb dX10_apply_87 rfl hl (by decide) rfl (fun ls hl => ?_)
                  refine lv_iinc (v := (x1 + 1)) (lv' := [(1, .int (x1 + 1)), (2, .int (nI (p + 1))), (4, .int (qW (F2 49) n p)), (3, .int (nI (p + 1))), (0, .ref (ad 43))]) hx hb dX10_apply_88 hl (k := 4) rfl (rfl) (by decide) rfl (fun ls hl => ?_)
                  refine lv_goto (tgt := 45) hx hb dX10_apply_91 (by decide) ?_
                  exact ih45 d9_45 p Fq16 Vq17 (x1 + 1) (nI (p + 1)) X _ _ ls (by omega) (by rw [hn9 c20]; exact hA2) (fun a k h => (hf9 a k (by omega)).trans ((mRd_o (by omega)).trans (hfr a k h))) ((hf9 43 31 (by decide)).trans ((mRd_o (by decide)).trans ht)) (Or.inr ⟨p, hp61, rfl, by rw [← hrun]; simp only [qRun]; rw [if_pos (show qHas (F2 49) n p from c13), if_neg c20], by rw [← hfine]; simp only [qFine]; rw [if_pos (show qHas (F2 49) n p from c13), if_neg c20]⟩) hN (lv_sub hl [4, 0, 1] rfl)
                · refine lv_iconst (v := 0) hx hb dX10_apply_82 (by decide) ?_
                  refine lv_goto (tgt := 87) hx hb dX10_apply_83 (by decide) ?_
                  refine lv_istore_n (lv' := [(2, .int 0), (4, .int (qW (F2 49) n p)), (3, .int (nI (p + 1))), (0, .ref (ad 43)), (1, .int x1)]) hx hb dX10_apply_87 rfl hl (by decide) rfl (fun ls hl => ?_)
                  refine lv_iinc (v := (x1 + 1)) (lv' := [(1, .int (x1 + 1)), (2, .int 0), (4, .int (qW (F2 49) n p)), (3, .int (nI (p + 1))), (0, .ref (ad 43))]) hx hb dX10_apply_88 hl (k := 4) rfl (rfl) (by decide) rfl (fun ls hl => ?_)
                  refine lv_goto (tgt := 45) hx hb dX10_apply_91 (by decide) ?_
                  exact ih45 d9_45 (qNp (F2 49) n p + 1) Fq16 Vq17 (x1 + 1) 0 (qUp (F2 49) n p X) _ _ ls (by omega) (fun a ha => by rw [(hk9 c20).1, gw_n _ _ _ ha]; exact hA2 a ha) (fun a k h => (hf9 a k (by omega)).trans ((mRd_o (by omega)).trans (hfr a k h))) ((hf9 43 31 (by decide)).trans ((mRd_o (by decide)).trans ht)) (by rw [(hk9 c20).1, gw_n _ _ _ (show 49 ≠ 48 by decide)]; exact Or.inl ⟨rfl, by have := qW_has (show qHas (F2 49) n p from c13) hn2; have := qNp_b (S := F2 49) (n := n) (p := p); omega, by have := qNp_b (S := F2 49) (n := n) (p := p); omega, (hk9 c20).2.2, (hk9 c20).2.1, by rw [← hrun]; simp only [qRun]; rw [if_pos (show qHas (F2 49) n p from c13), if_pos c20], by rw [← hfine]; simp only [qFine]; rw [if_pos (show qHas (F2 49) n p from c13), if_pos c20], by rw [← hruf]; simp only [qRuF]; rw [if_pos (And.intro (show qHas (F2 49) n p from c13) c20)], qUp_rr hrr c20 hwn hwn9, qUp_fr hxf c20⟩) hN (lv_sub hl [4, 0, 1] rfl)
      exact L10 _ 64 0 F1 (gw (gw (gw V 43 31 0) 43 32 0) 43 34 0) 0 0 (tF F, tV F V) _ _ ls (rfl) (hA) (fun a k h => by rw [mF3 h]) (rfl) (by rw [hA 49 (by decide)]; exact Or.inl ⟨rfl, by omega, by omega, rfl, rfl, rfl, rfl, rfl, qRR.rf.cong (fun j hj => hB j (by omega)), qFr.rf⟩) hN (lv_sub hl [2, 1, 0] rfl)
    | succ d9_7 ih7 =>
      intro k F1 H locs ls hd_7 hk hA hB hN hl
      refine lv_iload_n hx hb dX10_apply_7 rfl (lv_at hl 1 rfl) ?_
      refine lv_bipush (v := 9) hx hb dX10_apply_8 (by decide) ?_
      refine g_cN_ge (a := k) (b := 9) (tgt := 31) hx hb dX10_apply_10 (by decide) rfl rfl (by omega) (by omega) (fun c21 => absurd c21 (by omega)) (fun c21 => ?_)
      refine lv_aload_n hx hb dX10_apply_13 rfl (lv_at hl 0 rfl) ?_
      refine gf_43_4 hx hb hts hin_10 hown hG hN hk_22 dX10_apply_14 ?_
      refine lv_iload_n hx hb dX10_apply_17 rfl (lv_at hl 1 rfl) ?_
      refine lv_aload_n hx hb dX10_apply_18 rfl (lv_at hl 0 rfl) ?_
      refine gf_43_3 hx hb hts hin_10 hown hG hN hk_19 dX10_apply_19 ?_
      refine lv_iload_n hx hb dX10_apply_22 rfl (lv_at hl 1 rfl) ?_
      refine g_iald hx hb hG hN (i := 47) (n := 9) (j := k) (by decide) rfl (by decide) (by omega) rfl dX10_apply_23 ?_
      refine g_iast hx hb hG hN (i := 48) (n := 9) (j := k) (by decide) (fun _ => rfl) (by decide) (by omega) rfl dX10_apply_24 (fun H locs hN => ?_)
      refine lv_iinc (v := (nI (k + 1))) (lv' := [(1, .int (nI (k + 1))), (0, .ref (ad 43))]) hx hb dX10_apply_25 hl (k := 1) rfl (nI_1 _) (by decide) rfl (fun ls hl => ?_)
      refine lv_goto (tgt := 7) hx hb dX10_apply_28 (by decide) ?_
      exact ih7 (k + 1) (gw F1 48 k (F1 47 k)) _ _ ls (by omega) (by omega) (fun a ha => (gw_n _ _ _ ha).trans (hA a ha)) (mCp hA hB) hN (lv_sub hl [1, 0] rfl)
  exact L1 _ 0 F _ _ ls (rfl) (by omega) (fun _ _ => rfl) (fun j hj => absurd hj (Nat.not_lt_zero j)) hN (lv_sub hl [1, 0] rfl)
