set_option maxHeartbeats 4000000 in
set_option maxRecDepth 100000 in
theorem c_L_jobs (l : Launch) (hl9 : l.stackTraces = false) {D : va_G} {ad : Nat → Nat} {cs : Nat → ClassId} {zd : Nat → Nat} {F V : gF} {o : gO} {sz : Nat} (n : Nat) : vx_Met l yL_jobs wsL_jobs ({ frames := 8, cells := 2, slots := 12, locals := 133 } : Room) (gPc D ad cs zd F V o sz [.ref (ad 0), .int (nI n)]) (gQi D ad cs sz (fun r9 u9 => fJob V (nI n) = 0 ∧ r9 = 0 ∧ u9 = (cBeg F (nI n).toNatClampNeg, gw (gw (gw V 33 3 (nI n)) 33 4 0) 33 5 (nI n), o))) (gXC D ad cs F V o (fun a => (a = gE1 ∧ fJob V (nI n) = 1) ∨ (a = gE2 ∧ fJob V (nI n) = 2)) sz) 2 12 (gX ad sz) := by
  refine g_metX (Qc := fun z0 => gQi D ad cs z0 (fun r9 u9 => fJob V (nI n) = 0 ∧ r9 = 0 ∧ u9 = (cBeg F (nI n).toNatClampNeg, gw (gw (gw V 33 3 (nI n)) 33 4 0) 33 5 (nI n), o))) (XC := fun z0 => gXC D ad cs F V o (fun a => (a = gE1 ∧ fJob V (nI n) = 1) ∨ (a = gE2 ∧ fJob V (nI n) = 2)) z0) (cc := cL_jobs) (maxL := 2) (ret := (some .int)) (own := RL) (by decide +kernel) rfl rfl (Nat.le_of_ble_eq_true rfl) ?_
  intro p0 e0 s0 m0 b0 k0 c0 hx hb hr hts hown hlocks hml hout hG hN ls hl
  have hl : lv_has ls 2 [(0, .ref (ad 0)), (1, .int (nI n))] := hl
  refine lv_aload_n hx hb dL_jobs_0 rfl (lv_at hl 0 rfl) ?_
  refine lv_iload_n hx hb dL_jobs_1 rfl (lv_at hl 1 rfl) ?_
  refine g_yV (As := [.int (nI n)]) (rest := []) ⟨hx, hb, hml, hown, hts⟩ hG hN (i := 0) (by decide) rfl rfl (c_X9_job l hl9 (nI n)) (cwV 1 hts gL_jobs_X9_job rfl rfl rfl (by decide +kernel) ⟨Nat.le_of_ble_eq_true rfl, Nat.le_of_ble_eq_true rfl⟩) rfl hl.1 rfl (Nat.le_of_ble_eq_true rfl) dL_jobs_2 ⟨Nat.le_of_ble_eq_true rfl, Nat.le_of_ble_eq_true rfl⟩ hout hlocks (fun _ h => h) ⟨by omega, by omega⟩ (fun hz1 H locs hN => ?_)
  refine lv_iconst (v := 0) hx hb dL_jobs_5 (by decide) ?_
  exact vx_ret <| g_ri hx hb hr hlocks hN (⟨hz1, rfl, rfl⟩) dL_jobs_6
set_option maxHeartbeats 4000000 in
set_option maxRecDepth 100000 in
theorem c_L_asks2 (l : Launch) {D : va_G} {ad : Nat → Nat} {cs : Nat → ClassId} {zd : Nat → Nat} {F V : gF} {o : gO} {sz : Nat} (hl9 : l.stackTraces = false) (N : Nat) (hN3 : V 33 3 = nI N) (hN4 : N ≤ 200) (hz35 : ∀ j, narrow .boolean (.int (F 35 j)) = .int (F 35 j)) : Met l yL_asks wsL_asks ({ frames := 8, cells := 2, slots := 12, locals := 134 } : Room) (gPc D ad cs zd F V o sz [.ref (ad 0), .int 2, .int (nI N), .int 0, .int 0]) (gQI D ad cs (-70007) F V o sz) 2 12 (gX ad sz) := by
  refine g_metW (Qc := fun z0 => gQI D ad cs (-70007) F V o z0) (cc := cL_asks) (maxL := 6) (ret := (some .int)) (hh := [(0, 63, 64, 37), (0, 63, 69, 40), (0, 63, 74, 43)]) (own := RL) (by decide +kernel) rfl rfl (Nat.le_of_ble_eq_true rfl) ?_
  intro p0 e0 s0 m0 b0 k0 c0 hx hb hr hts hown hlocks hml htab hG hN ls hl
  have hl : lv_has ls 6 [(0, .ref (ad 0)), (1, .int 2), (2, .int (nI N)), (3, .int 0), (4, .int 0)] := hl
  have hcl0 := hts (.classLink RL 37 gE0) (by decide +kernel)
  have hcl1 := hts (.classLink RL 40 gE1) (by decide +kernel)
  have hcl2 := hts (.classLink RL 43 gE2) (by decide +kernel)
  have hld_39 := hts (.constant RL 39 (-70007)) (by decide +kernel)
  refine lv_iload_n hx hb dL_asks_0 rfl (lv_at hl 1 rfl) ?_
  refine lv_if_ne (tgt := 12) hx hb dL_asks_1 (by decide) (fun _ => ?_) (fun c1 => False.elim (by revert c1; decide))
  refine lv_iload_n hx hb dL_asks_12 rfl (lv_at hl 1 rfl) ?_
  refine lv_iconst (v := 1) hx hb dL_asks_13 (by decide) ?_
  refine lv_icmp_ne (tgt := 28) hx hb dL_asks_14 (by decide) (fun _ => ?_) (fun c2 => False.elim (by revert c2; decide))
  refine lv_iload_n hx hb dL_asks_28 rfl (lv_at hl 1 rfl) ?_
  refine lv_iconst (v := 2) hx hb dL_asks_29 (by decide) ?_
  refine lv_icmp_ne (tgt := 42) hx hb dL_asks_30 (by decide) (fun c3 => False.elim (by revert c3; decide)) (fun _ => ?_)
  refine lv_aload_n hx hb dL_asks_33 rfl (lv_at hl 0 rfl) ?_
  refine lv_iload_n hx hb dL_asks_34 rfl (lv_at hl 2 rfl) ?_
  refine lv_iload_n hx hb dL_asks_35 rfl (lv_at hl 3 rfl) ?_
  refine g_tVi (As := [.int (nI N), .int 0]) (rest := []) ⟨hx, hb, hml, hown, hts⟩ hG hN (i := 0) (by decide) rfl rfl (c_X9_copy l hl9 (nI N) 0 N hN3 hN4 hz35) (cwV 2 hts gL_asks_X9_copy rfl rfl rfl (by decide +kernel) ⟨Nat.le_of_ble_eq_true rfl, Nat.le_of_ble_eq_true rfl⟩) rfl hl.1 rfl (Nat.le_of_ble_eq_true rfl) dL_asks_36 ⟨Nat.le_of_ble_eq_true rfl, Nat.le_of_ble_eq_true rfl⟩ (fun a ce q9 H locs hp9 hN hq9 hv9 hc9 => ?_) (fun rq Fq Vq oq H locs hq hN => ?_)
  · rcases hp9 with ⟨ea9, hf9⟩ | ⟨ea9, hf9⟩
    · subst ea9
      have hp8 : ∀ z9 ∈ ([] : List ExceptionTableEntry), covers z9 36 = false ∨ (z9.catchType ≠ 0 ∧ ∃ nm : String, (Cond.classLink RL z9.catchType nm).before ([.ref (ad 0), .int 2, .int (nI N), .int 0, .int 0] : List Value).toArray s0 = true ∧ va_Nc gE0 nm s0) := fun z hz => absurd hz List.not_mem_nil
      refine vx_catch (own := RL) (name := gE0) (E := gE0) hown [] (⟨0, 63, 64, 37⟩ : ExceptionTableEntry) [(⟨0, 63, 69, 40⟩ : ExceptionTableEntry), (⟨0, 63, 74, 43⟩ : ExceptionTableEntry)] (by rw [htab]; rfl) hp8 (by decide) (by decide) hcl0 (va_Nw.use rfl (hG.2.2.2.2.2.1 gE0 (by decide))) hq9 hv9 hc9 ?_
      refine lv_astore (lv' := [(5, .ref q9), (0, .ref (ad 0)), (1, .int 2), (2, .int (nI N)), (3, .int 0), (4, .int 0)]) hx hb dL_asks_64 hl (by decide) rfl (fun ls hl => ?_)
      refine lv_ldc hx hb hown hld_39 dL_asks_66 ?_
      exact g_ri hx hb hr hlocks hN (⟨rfl, rfl⟩) dL_asks_68
    · exact (show False from absurd ((fCop1 hN3).symm.trans hf9) (by decide)).elim
  · obtain ⟨hf9, hr9, hu9⟩ := hq
    subst hr9
    cases hu9
    refine lv_goto (tgt := 63) hx hb dL_asks_39 (by decide) ?_
    exact g_ri hx hb hr hlocks hN (absurd ((fCop1 hN3).symm.trans hf9) (by decide)) dL_asks_63
set_option maxHeartbeats 4000000 in
set_option maxRecDepth 100000 in
theorem c_L_asks1 (l : Launch) {D : va_G} {ad : Nat → Nat} {cs : Nat → ClassId} {zd : Nat → Nat} {F V : gF} {o : gO} {sz : Nat} (hl9 : l.stackTraces = false) (u t : Nat) (x y : Int32) (hu : u < 4) (hx9 : gRng x (-50) 50 = true) (hy9 : gRng y (-50) 50 = true) (ht : V 18 8 = nI t) (ht2 : t ≤ 20) : Met l yL_asks wsL_asks ({ frames := 8, cells := 4, slots := 24, locals := 135 } : Room) (gPc D ad cs zd F V o sz [.ref (ad 0), .int 1, .int (nI u), .int x, .int y]) (gQi D ad cs sz (fun r9 u9 => (t = 20 → r9 = -70008 ∧ u9 = (F, V, o)) ∧ (t ≠ 20 → r9 = (if V 1 4 = 0 then 0 else nI (t + 1)) ∧ u9 = (if V 1 4 = 0 then cMove F u x y else cKeep F t (nI u) x y (V 27 2 + V 1 4), if V 1 4 = 0 then V else gw V 18 8 (nI (t + 1)), o)))) 4 24 (gX ad sz) := by
  refine g_metW (Qc := fun z0 => gQi D ad cs z0 (fun r9 u9 => (t = 20 → r9 = -70008 ∧ u9 = (F, V, o)) ∧ (t ≠ 20 → r9 = (if V 1 4 = 0 then 0 else nI (t + 1)) ∧ u9 = (if V 1 4 = 0 then cMove F u x y else cKeep F t (nI u) x y (V 27 2 + V 1 4), if V 1 4 = 0 then V else gw V 18 8 (nI (t + 1)), o)))) (cc := cL_asks) (maxL := 6) (ret := (some .int)) (hh := [(0, 63, 64, 37), (0, 63, 69, 40), (0, 63, 74, 43)]) (own := RL) (by decide +kernel) rfl rfl (Nat.le_of_ble_eq_true rfl) ?_
  intro p0 e0 s0 m0 b0 k0 c0 hx hb hr hts hown hlocks hml htab hG hN ls hl
  have hl : lv_has ls 6 [(0, .ref (ad 0)), (1, .int 1), (2, .int (nI u)), (3, .int x), (4, .int y)] := hl
  have hcl0 := hts (.classLink RL 37 gE0) (by decide +kernel)
  have hcl1 := hts (.classLink RL 40 gE1) (by decide +kernel)
  have hcl2 := hts (.classLink RL 43 gE2) (by decide +kernel)
  have hld_45 := hts (.constant RL 45 (-70008)) (by decide +kernel)
  refine lv_iload_n hx hb dL_asks_0 rfl (lv_at hl 1 rfl) ?_
  refine lv_if_ne (tgt := 12) hx hb dL_asks_1 (by decide) (fun _ => ?_) (fun c1 => False.elim (by revert c1; decide))
  refine lv_iload_n hx hb dL_asks_12 rfl (lv_at hl 1 rfl) ?_
  refine lv_iconst (v := 1) hx hb dL_asks_13 (by decide) ?_
  refine lv_icmp_ne (tgt := 28) hx hb dL_asks_14 (by decide) (fun c2 => False.elim (by revert c2; decide)) (fun _ => ?_)
  refine lv_aload_n hx hb dL_asks_17 rfl (lv_at hl 0 rfl) ?_
  refine lv_iload_n hx hb dL_asks_18 rfl (lv_at hl 2 rfl) ?_
  refine lv_iload_n hx hb dL_asks_19 rfl (lv_at hl 3 rfl) ?_
  refine lv_iload hx hb dL_asks_20 (lv_at hl 4 rfl) ?_
  refine g_tVi (As := [.int (nI u), .int x, .int y]) (rest := []) ⟨hx, hb, hml, hown, hts⟩ hG hN (i := 0) (by decide) rfl rfl (c_X9_correct l hl9 (nI u) x y t ht ht2) (cwV 3 hts gL_asks_X9_correct rfl rfl rfl (by decide +kernel) ⟨Nat.le_of_ble_eq_true rfl, Nat.le_of_ble_eq_true rfl⟩) rfl hl.1 rfl (Nat.le_of_ble_eq_true rfl) dL_asks_22 ⟨Nat.le_of_ble_eq_true rfl, Nat.le_of_ble_eq_true rfl⟩ (fun a ce q9 H locs hp9 hN hq9 hv9 hc9 => ?_) (fun rq Fq Vq oq H locs hq hN => ?_)
  · rcases hp9 with ⟨ea9, hf9⟩ | ⟨ea9, hf9⟩ | ⟨ea9, hf9⟩
    · exact (show False from fCor_1 hu hx9 hy9 hf9).elim
    · exact (show False from fCor_2 hu hx9 hy9 hf9).elim
    · subst ea9
      have hp8 : ∀ z9 ∈ ([(⟨0, 63, 64, 37⟩ : ExceptionTableEntry), (⟨0, 63, 69, 40⟩ : ExceptionTableEntry)] : List ExceptionTableEntry), covers z9 22 = false ∨ (z9.catchType ≠ 0 ∧ ∃ nm : String, (Cond.classLink RL z9.catchType nm).before ([.ref (ad 0), .int 1, .int (nI u), .int x, .int y] : List Value).toArray s0 = true ∧ va_Nc gE2 nm s0) := fun z hz => by
        rcases List.mem_cons.mp hz with hz2 | hz2
        · subst hz2
          exact Or.inr ⟨by decide, gE0, hcl0, hG.2.2.2.2.2.2.1 gE2 (by decide) gE0 (by decide) (by decide)⟩
        · have hz3 := List.mem_singleton.mp hz2
          subst hz3
          exact Or.inr ⟨by decide, gE1, hcl1, hG.2.2.2.2.2.2.1 gE2 (by decide) gE1 (by decide) (by decide)⟩
      refine vx_catch (own := RL) (name := gE2) (E := gE2) hown [(⟨0, 63, 64, 37⟩ : ExceptionTableEntry), (⟨0, 63, 69, 40⟩ : ExceptionTableEntry)] (⟨0, 63, 74, 43⟩ : ExceptionTableEntry) [] (by rw [htab]; rfl) hp8 (by decide) (by decide) hcl2 (va_Nw.use rfl (hG.2.2.2.2.2.1 gE2 (by decide))) hq9 hv9 hc9 ?_
      refine lv_astore (lv' := [(5, .ref q9), (0, .ref (ad 0)), (1, .int 1), (2, .int (nI u)), (3, .int x), (4, .int y)]) hx hb dL_asks_74 hl (by decide) rfl (fun ls hl => ?_)
      refine lv_ldc hx hb hown hld_45 dL_asks_76 ?_
      exact g_ri hx hb hr hlocks hN (⟨fun _ => ⟨rfl, rfl⟩, fun z => absurd (fCor_3 hu hx9 hy9 ht ht2 hf9) z⟩) dL_asks_78
  · obtain ⟨hf9, hr9, hu9⟩ := hq
    subst hr9
    cases hu9
    refine lv_goto (tgt := 63) hx hb dL_asks_25 (by decide) ?_
    exact g_ri hx hb hr hlocks hN (⟨fun z => absurd z (fCor_0 hu hx9 hy9 ht hf9), fun _ => ⟨rfl, by rw [nI_clamp (by omega)]⟩⟩) dL_asks_63
set_option maxHeartbeats 4000000 in
set_option maxRecDepth 100000 in
theorem c_L_asks0 (l : Launch) {D : va_G} {ad : Nat → Nat} {cs : Nat → ClassId} {zd : Nat → Nat} {F V : gF} {o : gO} {sz : Nat} (hl9 : l.stackTraces = false) (n w : Nat) (h1n : 1 ≤ n) (h2n : n ≤ 40) (hw : V 33 5 = nI w) (hw2 : w ≤ 200) : Met l yL_asks wsL_asks ({ frames := 9, cells := 2, slots := 12, locals := 154 } : Room) (gPc D ad cs zd F V o sz [.ref (ad 0), .int 0, .int (nI n), .int 0, .int 0]) (gQi D ad cs sz (fun r9 u9 => (w ≠ 0 → r9 = -70008 ∧ u9 = (F, V, o)) ∧ (w = 0 → r9 = 0 ∧ u9 = (cBeg F n, gw (gw (gw V 33 3 (nI n)) 33 4 0) 33 5 (nI n), o)))) 2 12 (gX ad sz) := by
  refine g_metW (Qc := fun z0 => gQi D ad cs z0 (fun r9 u9 => (w ≠ 0 → r9 = -70008 ∧ u9 = (F, V, o)) ∧ (w = 0 → r9 = 0 ∧ u9 = (cBeg F n, gw (gw (gw V 33 3 (nI n)) 33 4 0) 33 5 (nI n), o)))) (cc := cL_asks) (maxL := 6) (ret := (some .int)) (hh := [(0, 63, 64, 37), (0, 63, 69, 40), (0, 63, 74, 43)]) (own := RL) (by decide +kernel) rfl rfl (Nat.le_of_ble_eq_true rfl) ?_
  intro p0 e0 s0 m0 b0 k0 c0 hx hb hr hts hown hlocks hml htab hG hN ls hl
  have hl : lv_has ls 6 [(0, .ref (ad 0)), (1, .int 0), (2, .int (nI n)), (3, .int 0), (4, .int 0)] := hl
  have hcl0 := hts (.classLink RL 37 gE0) (by decide +kernel)
  have hcl1 := hts (.classLink RL 40 gE1) (by decide +kernel)
  have hcl2 := hts (.classLink RL 43 gE2) (by decide +kernel)
  have hld_45 := hts (.constant RL 45 (-70008)) (by decide +kernel)
  refine lv_iload_n hx hb dL_asks_0 rfl (lv_at hl 1 rfl) ?_
  refine lv_if_ne (tgt := 12) hx hb dL_asks_1 (by decide) (fun c1 => False.elim (by revert c1; decide)) (fun _ => ?_)
  refine lv_aload_n hx hb dL_asks_4 rfl (lv_at hl 0 rfl) ?_
  refine lv_iload_n hx hb dL_asks_5 rfl (lv_at hl 2 rfl) ?_
  refine g_tSi (As := [.ref (ad 0), .int (nI n)]) (rest := []) ⟨hx, hb, hml, hown, hts⟩ hG hN (c_L_jobs l hl9 n) (va_cwS 2 hts gL_asks_L_jobs rfl rfl rfl (by decide +kernel) ⟨Nat.le_of_ble_eq_true rfl, Nat.le_of_ble_eq_true rfl⟩) rfl hl.1 rfl (Nat.le_of_ble_eq_true rfl) dL_asks_6 ⟨Nat.le_of_ble_eq_true rfl, Nat.le_of_ble_eq_true rfl⟩ (fun a ce q9 H locs hp9 hN hq9 hv9 hc9 => ?_) (fun rq Fq Vq oq H locs hq hN => ?_)
  · rcases hp9 with ⟨ea9, hf9⟩ | ⟨ea9, hf9⟩
    · exact (show False from fJob_1 h1n (by omega) hf9).elim
    · subst ea9
      have hp8 : ∀ z9 ∈ ([(⟨0, 63, 64, 37⟩ : ExceptionTableEntry), (⟨0, 63, 69, 40⟩ : ExceptionTableEntry)] : List ExceptionTableEntry), covers z9 6 = false ∨ (z9.catchType ≠ 0 ∧ ∃ nm : String, (Cond.classLink RL z9.catchType nm).before ([.ref (ad 0), .int 0, .int (nI n), .int 0, .int 0] : List Value).toArray s0 = true ∧ va_Nc gE2 nm s0) := fun z hz => by
        rcases List.mem_cons.mp hz with hz2 | hz2
        · subst hz2
          exact Or.inr ⟨by decide, gE0, hcl0, hG.2.2.2.2.2.2.1 gE2 (by decide) gE0 (by decide) (by decide)⟩
        · have hz3 := List.mem_singleton.mp hz2
          subst hz3
          exact Or.inr ⟨by decide, gE1, hcl1, hG.2.2.2.2.2.2.1 gE2 (by decide) gE1 (by decide) (by decide)⟩
      refine vx_catch (own := RL) (name := gE2) (E := gE2) hown [(⟨0, 63, 64, 37⟩ : ExceptionTableEntry), (⟨0, 63, 69, 40⟩ : ExceptionTableEntry)] (⟨0, 63, 74, 43⟩ : ExceptionTableEntry) [] (by rw [htab]; rfl) hp8 (by decide) (by decide) hcl2 (va_Nw.use rfl (hG.2.2.2.2.2.1 gE2 (by decide))) hq9 hv9 hc9 ?_
      refine lv_astore (lv' := [(5, .ref q9), (0, .ref (ad 0)), (1, .int 0), (2, .int (nI n)), (3, .int 0), (4, .int 0)]) hx hb dL_asks_74 hl (by decide) rfl (fun ls hl => ?_)
      refine lv_ldc hx hb hown hld_45 dL_asks_76 ?_
      exact g_ri hx hb hr hlocks hN (⟨fun _ => ⟨rfl, rfl⟩, fun z => absurd z (fJob_2 h1n (by omega) hw hf9)⟩) dL_asks_78
  · obtain ⟨hf9, hr9, hu9⟩ := hq
    subst hr9
    cases hu9
    refine lv_goto (tgt := 63) hx hb dL_asks_9 (by decide) ?_
    exact g_ri hx hb hr hlocks hN (⟨fun z => absurd (fJob_0 h1n (by omega) hw hw2 hf9) z, fun _ => ⟨rfl, by rw [nI_clamp (by omega)]⟩⟩) dL_asks_63
set_option maxHeartbeats 4000000 in
set_option maxRecDepth 100000 in
theorem c_L_asks3 (l : Launch) {D : va_G} {ad : Nat → Nat} {cs : Nat → ClassId} {zd : Nat → Nat} {F V : gF} {o : gO} {sz : Nat} (hl9 : l.stackTraces = false)  (h37 : V 37 1 = 0) (hz37 : narrow .boolean (.int (V 37 1)) = .int (V 37 1)) : Met l yL_asks wsL_asks ({ frames := 8, cells := 2, slots := 12, locals := 132 } : Room) (gPc D ad cs zd F V o sz [.ref (ad 0), .int 3, .int 0, .int 0, .int 0]) (gQI D ad cs (-70008) F V o sz) 2 12 (gX ad sz) := by
  refine g_metW (Qc := fun z0 => gQI D ad cs (-70008) F V o z0) (cc := cL_asks) (maxL := 6) (ret := (some .int)) (hh := [(0, 63, 64, 37), (0, 63, 69, 40), (0, 63, 74, 43)]) (own := RL) (by decide +kernel) rfl rfl (Nat.le_of_ble_eq_true rfl) ?_
  intro p0 e0 s0 m0 b0 k0 c0 hx hb hr hts hown hlocks hml htab hG hN ls hl
  have hl : lv_has ls 6 [(0, .ref (ad 0)), (1, .int 3), (2, .int 0), (3, .int 0), (4, .int 0)] := hl
  have hcl0 := hts (.classLink RL 37 gE0) (by decide +kernel)
  have hcl1 := hts (.classLink RL 40 gE1) (by decide +kernel)
  have hcl2 := hts (.classLink RL 43 gE2) (by decide +kernel)
  have hld_45 := hts (.constant RL 45 (-70008)) (by decide +kernel)
  refine lv_iload_n hx hb dL_asks_0 rfl (lv_at hl 1 rfl) ?_
  refine lv_if_ne (tgt := 12) hx hb dL_asks_1 (by decide) (fun _ => ?_) (fun c1 => False.elim (by revert c1; decide))
  refine lv_iload_n hx hb dL_asks_12 rfl (lv_at hl 1 rfl) ?_
  refine lv_iconst (v := 1) hx hb dL_asks_13 (by decide) ?_
  refine lv_icmp_ne (tgt := 28) hx hb dL_asks_14 (by decide) (fun _ => ?_) (fun c2 => False.elim (by revert c2; decide))
  refine lv_iload_n hx hb dL_asks_28 rfl (lv_at hl 1 rfl) ?_
  refine lv_iconst (v := 2) hx hb dL_asks_29 (by decide) ?_
  refine lv_icmp_ne (tgt := 42) hx hb dL_asks_30 (by decide) (fun _ => ?_) (fun c3 => False.elim (by revert c3; decide))
  refine lv_iload_n hx hb dL_asks_42 rfl (lv_at hl 1 rfl) ?_
  refine lv_iconst (v := 3) hx hb dL_asks_43 (by decide) ?_
  refine lv_icmp_ne (tgt := 55) hx hb dL_asks_44 (by decide) (fun c4 => False.elim (by revert c4; decide)) (fun _ => ?_)
  refine lv_aload_n hx hb dL_asks_47 rfl (lv_at hl 0 rfl) ?_
  refine lv_iload_n hx hb dL_asks_48 rfl (lv_at hl 2 rfl) ?_
  refine g_tVi (As := [.int 0]) (rest := []) ⟨hx, hb, hml, hown, hts⟩ hG hN (i := 0) (by decide) rfl rfl (c_X9_differs l hl9 0 hz37) (cwV 1 hts gL_asks_X9_differs rfl rfl rfl (by decide +kernel) ⟨Nat.le_of_ble_eq_true rfl, Nat.le_of_ble_eq_true rfl⟩) rfl hl.1 rfl (Nat.le_of_ble_eq_true rfl) dL_asks_49 ⟨Nat.le_of_ble_eq_true rfl, Nat.le_of_ble_eq_true rfl⟩ (fun a ce q9 H locs hp9 hN hq9 hv9 hc9 => ?_) (fun rq Fq Vq oq H locs hq hN => ?_)
  · rcases hp9 with ⟨ea9, hf9⟩ | ⟨ea9, hf9⟩
    · exact (show False from fDif_z h37 (by decide) hf9).elim
    · subst ea9
      have hp8 : ∀ z9 ∈ ([(⟨0, 63, 64, 37⟩ : ExceptionTableEntry), (⟨0, 63, 69, 40⟩ : ExceptionTableEntry)] : List ExceptionTableEntry), covers z9 49 = false ∨ (z9.catchType ≠ 0 ∧ ∃ nm : String, (Cond.classLink RL z9.catchType nm).before ([.ref (ad 0), .int 3, .int 0, .int 0, .int 0] : List Value).toArray s0 = true ∧ va_Nc gE2 nm s0) := fun z hz => by
        rcases List.mem_cons.mp hz with hz2 | hz2
        · subst hz2
          exact Or.inr ⟨by decide, gE0, hcl0, hG.2.2.2.2.2.2.1 gE2 (by decide) gE0 (by decide) (by decide)⟩
        · have hz3 := List.mem_singleton.mp hz2
          subst hz3
          exact Or.inr ⟨by decide, gE1, hcl1, hG.2.2.2.2.2.2.1 gE2 (by decide) gE1 (by decide) (by decide)⟩
      refine vx_catch (own := RL) (name := gE2) (E := gE2) hown [(⟨0, 63, 64, 37⟩ : ExceptionTableEntry), (⟨0, 63, 69, 40⟩ : ExceptionTableEntry)] (⟨0, 63, 74, 43⟩ : ExceptionTableEntry) [] (by rw [htab]; rfl) hp8 (by decide) (by decide) hcl2 (va_Nw.use rfl (hG.2.2.2.2.2.1 gE2 (by decide))) hq9 hv9 hc9 ?_
      refine lv_astore (lv' := [(5, .ref q9), (0, .ref (ad 0)), (1, .int 3), (2, .int 0), (3, .int 0), (4, .int 0)]) hx hb dL_asks_74 hl (by decide) rfl (fun ls hl => ?_)
      refine lv_ldc hx hb hown hld_45 dL_asks_76 ?_
      exact g_ri hx hb hr hlocks hN (⟨rfl, rfl⟩) dL_asks_78
  · obtain ⟨hf9, hr9, hu9⟩ := hq
    subst hr9
    cases hu9
    refine lv_goto (tgt := 63) hx hb dL_asks_52 (by decide) ?_
    exact g_ri hx hb hr hlocks hN ((fDif_z h37 (by decide) hf9).elim) dL_asks_63
set_option maxHeartbeats 4000000 in
set_option maxRecDepth 100000 in
theorem c_L_isSound (l : Launch) {D : va_G} {ad : Nat → Nat} {cs : Nat → ClassId} {zd : Nat → Nat} {F V : gF} {o : gO} {sz : Nat} (hl9 : l.stackTraces = false) (x b : Nat) (hx31 : x < 2 ^ 31) (hb9 : b ≤ 200) (hP : PI F V b) : Met l yL_isSound wsL_isSound ({ frames := 10, cells := 1200, slots := 7000, locals := 183 } : Room) (gPc D ad cs zd F V o sz [.ref (ad 0), .int (nI x), .ref (ad 43), .ref (ad 44), .ref (ad 45), .ref (ad 46)]) (gQI D ad cs 1 F V o sz) 1200 7000 (gX ad sz) := by
  refine g_met (Qc := fun z0 => gQI D ad cs 1 F V o z0) (cc := cL_isSound) (maxL := 8) (ret := (some .boolean)) (own := RL) (by decide +kernel) rfl rfl (Nat.le_of_ble_eq_true rfl) ?_
  intro p0 e0 s0 m0 b0 k0 c0 hx hb hr hts hown hlocks hml hG hN ls hl
  have hl : lv_has ls 8 [(0, .ref (ad 0)), (1, .int (nI x)), (2, .ref (ad 43)), (3, .ref (ad 44)), (4, .ref (ad 45)), (5, .ref (ad 46))] := hl
  have hld_39 := hts (.constant RL 39 (-70007)) (by decide +kernel)
  obtain ⟨hI, hB, hR, hK, hPD, N, w, ⟨hwN, hN40, hN3, hw5, hC0, hC1, hC2, hC3, hC4, hC5, hC6⟩, hT, hL⟩ := hP
  obtain ⟨t, ht2, ht⟩ := hI.t18
  obtain ⟨hd, w2, hh2, hw2, hh4, hw52, hln⟩ := hI.line
  have hww : w2 = w := (nI_eq (by omega) (by omega)).mp (hw52.symm.trans hw5)
  subst hww
  refine lv_aload_n hx hb dL_isSound_0 rfl (lv_at hl 0 rfl) ?_
  refine lv_aload_n hx hb dL_isSound_1 rfl (lv_at hl 3 rfl) ?_
  refine g_SI (As := [.ref (ad 0), .ref (ad 44)]) (rest := []) ⟨hx, hb, hml, hown, hts⟩ hG hN (c_L_areUnits l hl9 b hI hK hB.2.1) (va_cwS 2 hts gL_isSound_L_areUnits rfl rfl rfl (by decide +kernel) ⟨Nat.le_of_ble_eq_true rfl, Nat.le_of_ble_eq_true rfl⟩) rfl hl.1 rfl (Nat.le_of_ble_eq_true rfl) dL_isSound_2 ⟨Nat.le_of_ble_eq_true rfl, Nat.le_of_ble_eq_true rfl⟩ (fun H locs hN => ?_)
  refine lv_if_eq (tgt := 198) hx hb dL_isSound_5 (by decide) (fun c1 => False.elim (by revert c1; decide)) (fun _ => ?_)
  refine lv_aload_n hx hb dL_isSound_8 rfl (lv_at hl 0 rfl) ?_
  refine lv_iload_n hx hb dL_isSound_9 rfl (lv_at hl 1 rfl) ?_
  refine lv_bipush (v := 64) hx hb dL_isSound_10 (by decide) ?_
  refine g_remN (a := x) (b := 64) hx hb rfl rfl (by omega) (by omega) (by omega) dL_isSound_12 ?_
  refine lv_aload_n hx hb dL_isSound_13 rfl (lv_at hl 2 rfl) ?_
  refine g_SI (As := [.ref (ad 0), .int (nI (x % 64)), .ref (ad 43)]) (rest := []) ⟨hx, hb, hml, hown, hts⟩ hG hN (c_L_isCell l hl9 (x % 64) b (by omega) hI hR) (va_cwS 3 hts gL_isSound_L_isCell rfl rfl rfl (by decide +kernel) ⟨Nat.le_of_ble_eq_true rfl, Nat.le_of_ble_eq_true rfl⟩) rfl hl.1 rfl (Nat.le_of_ble_eq_true rfl) dL_isSound_14 ⟨Nat.le_of_ble_eq_true rfl, Nat.le_of_ble_eq_true rfl⟩ (fun H locs hN => ?_)
  refine lv_if_eq (tgt := 198) hx hb dL_isSound_17 (by decide) (fun c2 => False.elim (by revert c2; decide)) (fun _ => ?_)
  refine lv_aload_n hx hb dL_isSound_20 rfl (lv_at hl 0 rfl) ?_
  refine lv_iload_n hx hb dL_isSound_21 rfl (lv_at hl 1 rfl) ?_
  refine lv_bipush (v := 64) hx hb dL_isSound_22 (by decide) ?_
  refine g_divN (a := x) (b := 64) hx hb rfl rfl (by omega) (by omega) (by omega) dL_isSound_24 ?_
  refine lv_bipush (v := 64) hx hb dL_isSound_25 (by decide) ?_
  refine g_remN (a := x / 64) (b := 64) hx hb rfl rfl (by omega) (by omega) (by omega) dL_isSound_27 ?_
  refine lv_aload_n hx hb dL_isSound_28 rfl (lv_at hl 2 rfl) ?_
  refine g_SI (As := [.ref (ad 0), .int (nI ((x / 64) % 64)), .ref (ad 43)]) (rest := []) ⟨hx, hb, hml, hown, hts⟩ hG hN (c_L_isCell l hl9 ((x / 64) % 64) b (by omega) hI hR) (va_cwS 3 hts gL_isSound_L_isCell rfl rfl rfl (by decide +kernel) ⟨Nat.le_of_ble_eq_true rfl, Nat.le_of_ble_eq_true rfl⟩) rfl hl.1 rfl (Nat.le_of_ble_eq_true rfl) dL_isSound_29 ⟨Nat.le_of_ble_eq_true rfl, Nat.le_of_ble_eq_true rfl⟩ (fun H locs hN => ?_)
  refine lv_if_eq (tgt := 198) hx hb dL_isSound_32 (by decide) (fun c3 => False.elim (by revert c3; decide)) (fun _ => ?_)
  refine lv_aload_n hx hb dL_isSound_35 rfl (lv_at hl 0 rfl) ?_
  refine lv_iload_n hx hb dL_isSound_36 rfl (lv_at hl 1 rfl) ?_
  refine lv_bipush (v := 8) hx hb dL_isSound_37 (by decide) ?_
  refine g_remN (a := x) (b := 8) hx hb rfl rfl (by omega) (by omega) (by omega) dL_isSound_39 ?_
  refine lv_iload_n hx hb dL_isSound_40 rfl (lv_at hl 1 rfl) ?_
  refine lv_bipush (v := 8) hx hb dL_isSound_41 (by decide) ?_
  refine g_divN (a := x) (b := 8) hx hb rfl rfl (by omega) (by omega) (by omega) dL_isSound_43 ?_
  refine lv_iconst (v := 4) hx hb dL_isSound_44 (by decide) ?_
  refine g_remN (a := x / 8) (b := 4) hx hb rfl rfl (by omega) (by omega) (by omega) dL_isSound_45 ?_
  refine g_SI (As := [.ref (ad 0), .int (nI (x % 8)), .int (nI ((x / 8) % 4))]) (rest := []) ⟨hx, hb, hml, hown, hts⟩ hG hN (c_L_areDots l hl9 (x % 8) ((x / 8) % 4) b (by omega) (by omega) hI) (va_cwS 3 hts gL_isSound_L_areDots rfl rfl rfl (by decide +kernel) ⟨Nat.le_of_ble_eq_true rfl, Nat.le_of_ble_eq_true rfl⟩) rfl hl.1 rfl (Nat.le_of_ble_eq_true rfl) dL_isSound_46 ⟨Nat.le_of_ble_eq_true rfl, Nat.le_of_ble_eq_true rfl⟩ (fun H locs hN => ?_)
  refine lv_if_eq (tgt := 198) hx hb dL_isSound_49 (by decide) (fun c4 => False.elim (by revert c4; decide)) (fun _ => ?_)
  refine lv_aload_n hx hb dL_isSound_52 rfl (lv_at hl 0 rfl) ?_
  refine lv_iconst (v := 0) hx hb dL_isSound_53 (by decide) ?_
  refine g_nVI (As := [.int 0]) (rest := []) ⟨hx, hb, hml, hown, hts⟩ hG hN (i := 0) (by decide) rfl rfl (c_X9_all l hl9 0) (cwV 1 hts gL_isSound_X9_all rfl rfl rfl (by decide +kernel) ⟨Nat.le_of_ble_eq_true rfl, Nat.le_of_ble_eq_true rfl⟩) rfl hl.1 rfl (Nat.le_of_ble_eq_true rfl) dL_isSound_54 ⟨Nat.le_of_ble_eq_true rfl, Nat.le_of_ble_eq_true rfl⟩ (no1 (show fAll 0 = 0 by decide)) (fun hz5 H locs hN => ?_)
  refine g_top (y := V 27 2) (rfl) ?_
  refine lv_aload hx hb dL_isSound_57 (lv_at hl 5 rfl) ?_
  refine lv_iconst (v := 3) hx hb dL_isSound_59 (by decide) ?_
  refine g_iald hx hb hG hN (i := 46) (n := 8) (j := 3) (by decide) rfl (by decide) (by omega) rfl dL_isSound_60 ?_
  refine lv_icmp_ne (tgt := 198) hx hb dL_isSound_61 (by decide) (fun c6 => absurd c6 (fun z => z hC3.symm)) (fun c6 => ?_)
  refine lv_aload_n hx hb dL_isSound_64 rfl (lv_at hl 0 rfl) ?_
  refine lv_iconst (v := 1) hx hb dL_isSound_65 (by decide) ?_
  refine g_nVI (As := [.int 1]) (rest := []) ⟨hx, hb, hml, hown, hts⟩ hG hN (i := 0) (by decide) rfl rfl (c_X9_all l hl9 1) (cwV 1 hts gL_isSound_X9_all rfl rfl rfl (by decide +kernel) ⟨Nat.le_of_ble_eq_true rfl, Nat.le_of_ble_eq_true rfl⟩) rfl hl.1 rfl (Nat.le_of_ble_eq_true rfl) dL_isSound_66 ⟨Nat.le_of_ble_eq_true rfl, Nat.le_of_ble_eq_true rfl⟩ (no1 (show fAll 1 = 0 by decide)) (fun hz7 H locs hN => ?_)
  refine g_top (y := V 27 3) (rfl) ?_
  refine lv_aload hx hb dL_isSound_69 (lv_at hl 5 rfl) ?_
  refine lv_iconst (v := 4) hx hb dL_isSound_71 (by decide) ?_
  refine g_iald hx hb hG hN (i := 46) (n := 8) (j := 4) (by decide) rfl (by decide) (by omega) rfl dL_isSound_72 ?_
  refine lv_icmp_ne (tgt := 198) hx hb dL_isSound_73 (by decide) (fun c8 => absurd c8 (fun z => z hC4.symm)) (fun c8 => ?_)
  refine lv_aload_n hx hb dL_isSound_76 rfl (lv_at hl 0 rfl) ?_
  refine lv_iconst (v := 2) hx hb dL_isSound_77 (by decide) ?_
  refine g_nVI (As := [.int 2]) (rest := []) ⟨hx, hb, hml, hown, hts⟩ hG hN (i := 0) (by decide) rfl rfl (c_X9_all l hl9 2) (cwV 1 hts gL_isSound_X9_all rfl rfl rfl (by decide +kernel) ⟨Nat.le_of_ble_eq_true rfl, Nat.le_of_ble_eq_true rfl⟩) rfl hl.1 rfl (Nat.le_of_ble_eq_true rfl) dL_isSound_78 ⟨Nat.le_of_ble_eq_true rfl, Nat.le_of_ble_eq_true rfl⟩ (no1 (show fAll 2 = 0 by decide)) (fun hz9 H locs hN => ?_)
  refine g_top (y := V 27 2 - V 27 3) (rfl) ?_
  refine lv_aload hx hb dL_isSound_81 (lv_at hl 5 rfl) ?_
  refine lv_iconst (v := 3) hx hb dL_isSound_83 (by decide) ?_
  refine g_iald hx hb hG hN (i := 46) (n := 8) (j := 3) (by decide) rfl (by decide) (by omega) rfl dL_isSound_84 ?_
  refine lv_aload hx hb dL_isSound_85 (lv_at hl 5 rfl) ?_
  refine lv_iconst (v := 4) hx hb dL_isSound_87 (by decide) ?_
  refine g_iald hx hb hG hN (i := 46) (n := 8) (j := 4) (by decide) rfl (by decide) (by omega) rfl dL_isSound_88 ?_
  refine lv_isub hx hb dL_isSound_89 ?_
  refine lv_icmp_ne (tgt := 198) hx hb dL_isSound_90 (by decide) (fun c10 => absurd c10 (fun z => z (by rw [hC3, hC4]))) (fun c10 => ?_)
  refine lv_aload_n hx hb dL_isSound_93 rfl (lv_at hl 0 rfl) ?_
  refine lv_iconst (v := 3) hx hb dL_isSound_94 (by decide) ?_
  refine g_nVI (As := [.int 3]) (rest := []) ⟨hx, hb, hml, hown, hts⟩ hG hN (i := 0) (by decide) rfl rfl (c_X9_all l hl9 3) (cwV 1 hts gL_isSound_X9_all rfl rfl rfl (by decide +kernel) ⟨Nat.le_of_ble_eq_true rfl, Nat.le_of_ble_eq_true rfl⟩) rfl hl.1 rfl (Nat.le_of_ble_eq_true rfl) dL_isSound_95 ⟨Nat.le_of_ble_eq_true rfl, Nat.le_of_ble_eq_true rfl⟩ (no1 (show fAll 3 = 0 by decide)) (fun hz11 H locs hN => ?_)
  refine g_top (y := V 27 4) (rfl) ?_
  refine lv_aload hx hb dL_isSound_98 (lv_at hl 5 rfl) ?_
  refine lv_iconst (v := 5) hx hb dL_isSound_100 (by decide) ?_
  refine g_iald hx hb hG hN (i := 46) (n := 8) (j := 5) (by decide) rfl (by decide) (by omega) rfl dL_isSound_101 ?_
  refine lv_icmp_ne (tgt := 198) hx hb dL_isSound_102 (by decide) (fun c12 => absurd c12 (fun z => z hC5.symm)) (fun c12 => ?_)
  refine lv_aload_n hx hb dL_isSound_105 rfl (lv_at hl 0 rfl) ?_
  refine lv_iconst (v := 4) hx hb dL_isSound_106 (by decide) ?_
  refine g_nVI (As := [.int 4]) (rest := []) ⟨hx, hb, hml, hown, hts⟩ hG hN (i := 0) (by decide) rfl rfl (c_X9_all l hl9 4) (cwV 1 hts gL_isSound_X9_all rfl rfl rfl (by decide +kernel) ⟨Nat.le_of_ble_eq_true rfl, Nat.le_of_ble_eq_true rfl⟩) rfl hl.1 rfl (Nat.le_of_ble_eq_true rfl) dL_isSound_107 ⟨Nat.le_of_ble_eq_true rfl, Nat.le_of_ble_eq_true rfl⟩ (no1 (show fAll 4 = 0 by decide)) (fun hz13 H locs hN => ?_)
  refine g_top (y := V 27 5) (rfl) ?_
  refine lv_aload hx hb dL_isSound_110 (lv_at hl 5 rfl) ?_
  refine lv_bipush (v := 6) hx hb dL_isSound_112 (by decide) ?_
  refine g_iald hx hb hG hN (i := 46) (n := 8) (j := 6) (by decide) rfl (by decide) (by omega) rfl dL_isSound_114 ?_
  refine lv_icmp_ne (tgt := 198) hx hb dL_isSound_115 (by decide) (fun c14 => absurd c14 (fun z => z hC6.symm)) (fun c14 => ?_)
  refine lv_aload_n hx hb dL_isSound_118 rfl (lv_at hl 0 rfl) ?_
  refine lv_iconst (v := 5) hx hb dL_isSound_119 (by decide) ?_
  refine g_nVI (As := [.int 5]) (rest := []) ⟨hx, hb, hml, hown, hts⟩ hG hN (i := 0) (by decide) rfl rfl (c_X9_all l hl9 5) (cwV 1 hts gL_isSound_X9_all rfl rfl rfl (by decide +kernel) ⟨Nat.le_of_ble_eq_true rfl, Nat.le_of_ble_eq_true rfl⟩) rfl hl.1 rfl (Nat.le_of_ble_eq_true rfl) dL_isSound_120 ⟨Nat.le_of_ble_eq_true rfl, Nat.le_of_ble_eq_true rfl⟩ (no1 (show fAll 5 = 0 by decide)) (fun hz15 H locs hN => ?_)
  refine g_top (y := V 33 5) (rfl) ?_
  refine lv_aload hx hb dL_isSound_123 (lv_at hl 5 rfl) ?_
  refine lv_iconst (v := 0) hx hb dL_isSound_125 (by decide) ?_
  refine g_iald hx hb hG hN (i := 46) (n := 8) (j := 0) (by decide) rfl (by decide) (by omega) rfl dL_isSound_126 ?_
  refine g_top (y := nI N) (hC0) ?_
  refine lv_aload hx hb dL_isSound_127 (lv_at hl 5 rfl) ?_
  refine lv_iconst (v := 1) hx hb dL_isSound_129 (by decide) ?_
  refine g_iald hx hb hG hN (i := 46) (n := 8) (j := 1) (by decide) rfl (by decide) (by omega) rfl dL_isSound_130 ?_
  refine g_top (y := nI (N - w2)) (hC1) ?_
  refine g_subN (a := N) (b := N - w2) hx hb rfl rfl (by omega) dL_isSound_131 ?_
  refine lv_icmp_ne (tgt := 198) hx hb dL_isSound_132 (by decide) (fun c16 => absurd c16 (fun z => z (by rw [hw5]; congr 1; omega))) (fun c16 => ?_)
  refine lv_aload_n hx hb dL_isSound_135 rfl (lv_at hl 0 rfl) ?_
  refine lv_bipush (v := 6) hx hb dL_isSound_136 (by decide) ?_
  refine g_nVI (As := [.int 6]) (rest := []) ⟨hx, hb, hml, hown, hts⟩ hG hN (i := 0) (by decide) rfl rfl (c_X9_all l hl9 6) (cwV 1 hts gL_isSound_X9_all rfl rfl rfl (by decide +kernel) ⟨Nat.le_of_ble_eq_true rfl, Nat.le_of_ble_eq_true rfl⟩) rfl hl.1 rfl (Nat.le_of_ble_eq_true rfl) dL_isSound_138 ⟨Nat.le_of_ble_eq_true rfl, Nat.le_of_ble_eq_true rfl⟩ (no1 (show fAll 6 = 0 by decide)) (fun hz17 H locs hN => ?_)
  refine g_top (y := nI t) (ht) ?_
  refine lv_bipush (v := 20) hx hb dL_isSound_141 (by decide) ?_
  refine g_cN_gt (a := t) (b := 20) (tgt := 198) hx hb dL_isSound_143 (by decide) rfl rfl (by omega) (by omega) (fun c18 => absurd c18 (by omega)) (fun c18 => ?_)
  refine lv_aload_n hx hb dL_isSound_146 rfl (lv_at hl 0 rfl) ?_
  refine lv_iconst (v := 2) hx hb dL_isSound_147 (by decide) ?_
  refine lv_aload hx hb dL_isSound_148 (lv_at hl 5 rfl) ?_
  refine lv_iconst (v := 0) hx hb dL_isSound_150 (by decide) ?_
  refine g_iald hx hb hG hN (i := 46) (n := 8) (j := 0) (by decide) rfl (by decide) (by omega) rfl dL_isSound_151 ?_
  refine g_top (y := nI N) (hC0) ?_
  refine lv_iconst (v := 0) hx hb dL_isSound_152 (by decide) ?_
  refine lv_iconst (v := 0) hx hb dL_isSound_153 (by decide) ?_
  refine g_WI (As := [.ref (ad 0), .int 2, .int (nI N), .int 0, .int 0]) (rest := []) ⟨hx, hb, hml, hown, hts⟩ hG hN (c_L_asks2 l hl9 N hN3 (by omega) hI.z35) (vx_cwSW 5 hts gL_isSound_L_asks rfl rfl rfl (by decide +kernel) ⟨Nat.le_of_ble_eq_true rfl, Nat.le_of_ble_eq_true rfl⟩) rfl hl.1 rfl (Nat.le_of_ble_eq_true rfl) dL_isSound_154 ⟨Nat.le_of_ble_eq_true rfl, Nat.le_of_ble_eq_true rfl⟩ (fun H locs hN => ?_)
  refine lv_ldc hx hb hown hld_39 dL_isSound_157 ?_
  refine lv_icmp_ne (tgt := 198) hx hb dL_isSound_159 (by decide) (fun c19 => False.elim (by revert c19; decide)) (fun _ => ?_)
  refine lv_aload_n hx hb dL_isSound_162 rfl (lv_at hl 0 rfl) ?_
  refine g_VI (As := []) (rest := []) ⟨hx, hb, hml, hown, hts⟩ hG hN (i := 0) (by decide) rfl rfl (c_X9_next l hd w2 hh4 hh2 hw5 hw2) (cwV 0 hts gL_isSound_X9_next rfl rfl rfl (by decide +kernel) ⟨Nat.le_of_ble_eq_true rfl, Nat.le_of_ble_eq_true rfl⟩) rfl hl.1 rfl (Nat.le_of_ble_eq_true rfl) dL_isSound_163 ⟨Nat.le_of_ble_eq_true rfl, Nat.le_of_ble_eq_true rfl⟩ (fun H locs hN => ?_)
  refine lv_iconst (v := (-1)) hx hb dL_isSound_166 (by decide) ?_
  refine lv_icmp_ne (tgt := 174) hx hb dL_isSound_167 (by decide) (fun c20 => ?_) (fun c20 => ?_)
  · have hw0 : w2 ≠ 0 := fun z => c20 (if_pos z)
    refine lv_iconst (v := 0) hx hb dL_isSound_174 (by decide) ?_
    refine lv_aload hx hb dL_isSound_175 (lv_at hl 5 rfl) ?_
    refine lv_iconst (v := 0) hx hb dL_isSound_177 (by decide) ?_
    refine g_iald hx hb hG hN (i := 46) (n := 8) (j := 0) (by decide) rfl (by decide) (by omega) rfl dL_isSound_178 ?_
    refine g_top (y := nI N) (hC0) ?_
    refine lv_aload hx hb dL_isSound_179 (lv_at hl 5 rfl) ?_
    refine lv_iconst (v := 1) hx hb dL_isSound_181 (by decide) ?_
    refine g_iald hx hb hG hN (i := 46) (n := 8) (j := 1) (by decide) rfl (by decide) (by omega) rfl dL_isSound_182 ?_
    refine g_top (y := nI (N - w2)) (hC1) ?_
    refine g_cN_ne (a := N) (b := N - w2) (tgt := 190) hx hb dL_isSound_183 (by decide) rfl rfl (by omega) (by omega) (fun c21 => ?_) (fun c21 => absurd c21 (by omega))
    refine lv_iconst (v := 0) hx hb dL_isSound_190 (by decide) ?_
    refine lv_icmp_ne (tgt := 198) hx hb dL_isSound_191 (by decide) (fun c22 => False.elim (by revert c22; decide)) (fun _ => ?_)
    refine lv_iconst (v := 1) hx hb dL_isSound_194 (by decide) ?_
    refine lv_goto (tgt := 199) hx hb dL_isSound_195 (by decide) ?_
    refine lv_istore (lv' := [(6, .int 1), (0, .ref (ad 0)), (1, .int (nI x)), (2, .ref (ad 43)), (3, .ref (ad 44)), (4, .ref (ad 45)), (5, .ref (ad 46))]) hx hb dL_isSound_199 hl (by decide) rfl (fun ls hl => ?_)
    refine lv_iconst (v := 0) hx hb dL_isSound_201 (by decide) ?_
    refine lv_istore (lv' := [(7, .int 0), (6, .int 1), (0, .ref (ad 0)), (1, .int (nI x)), (2, .ref (ad 43)), (3, .ref (ad 44)), (4, .ref (ad 45)), (5, .ref (ad 46))]) hx hb dL_isSound_202 hl (by decide) rfl (fun ls hl => ?_)
    have L23 : ∀ (d9_204 : Nat) (j : Nat) (H : Heap) (locs : List Loc) (ls : Array Slot), N - j = d9_204 → (j ≤ N) → gN D ad cs s0 F V o H locs → lv_has ls 8 [(0, .ref (ad 0)), (1, .int (nI x)), (2, .ref (ad 43)), (3, .ref (ad 44)), (4, .ref (ad 45)), (5, .ref (ad 46)), (6, .int 1), (7, .int (nI j))] → W p0 l e0 ({ frames := 10, cells := 1200, slots := 7000, locals := 183 } : Room) s0 m0 ([.ref (ad 0), .int (nI x), .ref (ad 43), .ref (ad 44), .ref (ad 45), .ref (ad 46)] : List Value).toArray b0 k0 c0 H locs (1001 + 4 * j) (6006 + 24 * j) (MQ b0 (gQI D ad cs 1 F V o s0.heap.size) ([.ref (ad 0), .int (nI x), .ref (ad 43), .ref (ad 44), .ref (ad 45), .ref (ad 46)] : List Value).toArray s0 1200 7000 (gX ad s0.heap.size)) (F0 m0 204 ls []) := by
      intro d9_204
      induction d9_204 with
      | zero =>
        intro j H locs ls hd_204 hj hN hl
        refine lv_iload hx hb dL_isSound_204 (lv_at hl 7 rfl) ?_
        refine lv_aload hx hb dL_isSound_206 (lv_at hl 5 rfl) ?_
        refine lv_iconst (v := 0) hx hb dL_isSound_208 (by decide) ?_
        refine g_iald hx hb hG hN (i := 46) (n := 8) (j := 0) (by decide) rfl (by decide) (by omega) rfl dL_isSound_209 ?_
        refine g_top (y := nI N) (hC0) ?_
        refine g_cN_ge (a := j) (b := N) (tgt := 269) hx hb dL_isSound_210 (by decide) rfl rfl (by omega) (by omega) (fun c24 => ?_) (fun c24 => absurd c24 (by omega))
        refine lv_iload hx hb dL_isSound_269 (lv_at hl 6 rfl) ?_
        refine W.widen (k := 1200) (n := 7000) (by omega) (by omega) ?_
        exact g_rz hx hb hr hlocks (by decide) hN (⟨rfl, rfl⟩) dL_isSound_271
      | succ d9_204 ih204 =>
        intro j H locs ls hd_204 hj hN hl
        refine lv_iload hx hb dL_isSound_204 (lv_at hl 7 rfl) ?_
        refine lv_aload hx hb dL_isSound_206 (lv_at hl 5 rfl) ?_
        refine lv_iconst (v := 0) hx hb dL_isSound_208 (by decide) ?_
        refine g_iald hx hb hG hN (i := 46) (n := 8) (j := 0) (by decide) rfl (by decide) (by omega) rfl dL_isSound_209 ?_
        refine g_top (y := nI N) (hC0) ?_
        refine g_cN_ge (a := j) (b := N) (tgt := 269) hx hb dL_isSound_210 (by decide) rfl rfl (by omega) (by omega) (fun c25 => absurd c25 (by omega)) (fun c25 => ?_)
        refine lv_iload hx hb dL_isSound_213 (lv_at hl 6 rfl) ?_
        refine lv_if_eq (tgt := 269) hx hb dL_isSound_215 (by decide) (fun c26 => False.elim (by revert c26; decide)) (fun _ => ?_)
        obtain ⟨q9, g9, hq9b, hg9, e34, e35, e45⟩ := hT j (by omega)
        refine lv_aload_n hx hb dL_isSound_218 rfl (lv_at hl 0 rfl) ?_
        refine lv_iload hx hb dL_isSound_219 (lv_at hl 7 rfl) ?_
        refine lv_iconst (v := 0) hx hb dL_isSound_221 (by decide) ?_
        refine g_nVI (As := [.int (nI j), .int 0]) (rest := []) ⟨hx, hb, hml, hown, hts⟩ hG hN (i := 0) (by decide) rfl rfl (c_X9_copy l hl9 (nI j) 0 N hN3 (by omega) hI.z35) (cwV 2 hts gL_isSound_X9_copy rfl rfl rfl (by decide +kernel) ⟨Nat.le_of_ble_eq_true rfl, Nat.le_of_ble_eq_true rfl⟩) rfl hl.1 rfl (Nat.le_of_ble_eq_true rfl) dL_isSound_222 ⟨by show _ ≤ 1200; omega, by show _ ≤ 7000; omega⟩ (no2 (fCop0 hN3 (by omega) (by omega) (by decide))) (fun hz27 H locs hN => ?_)
        refine g_top (y := nI g9) (rCop_0 (by omega) hg9 e35) ?_
        refine lv_aload hx hb dL_isSound_225 (lv_at hl 4 rfl) ?_
        refine lv_iload hx hb dL_isSound_227 (lv_at hl 7 rfl) ?_
        refine g_iald hx hb hG hN (i := 45) (n := 40) (j := j) (by decide) rfl (by decide) (by omega) rfl dL_isSound_229 ?_
        refine g_top (y := nI (1000 * g9 + q9)) (e45) ?_
        refine lv_sipush (v := 1000) hx hb dL_isSound_230 (by decide) ?_
        refine g_divN (a := 1000 * g9 + q9) (b := 1000) hx hb rfl rfl (by omega) (by omega) (by omega) dL_isSound_233 ?_
        refine g_cN_ne (a := g9) (b := (1000 * g9 + q9) / 1000) (tgt := 260) hx hb dL_isSound_234 (by decide) rfl rfl (by omega) (by omega) (fun c28 => absurd c28 (by omega)) (fun c28 => ?_)
        refine lv_aload_n hx hb dL_isSound_237 rfl (lv_at hl 0 rfl) ?_
        refine lv_iload hx hb dL_isSound_238 (lv_at hl 7 rfl) ?_
        refine lv_iconst (v := 1) hx hb dL_isSound_240 (by decide) ?_
        refine g_nVI (As := [.int (nI j), .int 1]) (rest := []) ⟨hx, hb, hml, hown, hts⟩ hG hN (i := 0) (by decide) rfl rfl (c_X9_copy l hl9 (nI j) 1 N hN3 (by omega) hI.z35) (cwV 2 hts gL_isSound_X9_copy rfl rfl rfl (by decide +kernel) ⟨Nat.le_of_ble_eq_true rfl, Nat.le_of_ble_eq_true rfl⟩) rfl hl.1 rfl (Nat.le_of_ble_eq_true rfl) dL_isSound_241 ⟨by show _ ≤ 1200; omega, by show _ ≤ 7000; omega⟩ (no2 (fCop0 hN3 (by omega) (by omega) (by decide))) (fun hz29 H locs hN => ?_)
        refine g_top (y := nI q9) ((rCop_1 (by omega)).trans e34) ?_
        refine lv_aload hx hb dL_isSound_244 (lv_at hl 4 rfl) ?_
        refine lv_iload hx hb dL_isSound_246 (lv_at hl 7 rfl) ?_
        refine g_iald hx hb hG hN (i := 45) (n := 40) (j := j) (by decide) rfl (by decide) (by omega) rfl dL_isSound_248 ?_
        refine g_top (y := nI (1000 * g9 + q9)) (e45) ?_
        refine lv_sipush (v := 1000) hx hb dL_isSound_249 (by decide) ?_
        refine g_remN (a := 1000 * g9 + q9) (b := 1000) hx hb rfl rfl (by omega) (by omega) (by omega) dL_isSound_252 ?_
        refine g_cN_ne (a := q9) (b := (1000 * g9 + q9) % 1000) (tgt := 260) hx hb dL_isSound_253 (by decide) rfl rfl (by omega) (by omega) (fun c30 => absurd c30 (by omega)) (fun c30 => ?_)
        refine lv_iconst (v := 1) hx hb dL_isSound_256 (by decide) ?_
        refine lv_goto (tgt := 261) hx hb dL_isSound_257 (by decide) ?_
        refine lv_istore (lv' := [(6, .int 1), (0, .ref (ad 0)), (1, .int (nI x)), (2, .ref (ad 43)), (3, .ref (ad 44)), (4, .ref (ad 45)), (5, .ref (ad 46)), (7, .int (nI j))]) hx hb dL_isSound_261 hl (by decide) rfl (fun ls hl => ?_)
        refine lv_iinc (v := (nI (j + 1))) (lv' := [(7, .int (nI (j + 1))), (6, .int 1), (0, .ref (ad 0)), (1, .int (nI x)), (2, .ref (ad 43)), (3, .ref (ad 44)), (4, .ref (ad 45)), (5, .ref (ad 46))]) hx hb dL_isSound_263 hl (k := 7) rfl (nI_1 _) (by decide) rfl (fun ls hl => ?_)
        refine lv_goto (tgt := 204) hx hb dL_isSound_266 (by decide) ?_
        refine W.widen (k := (1001 + 4 * (j + 1))) (n := (6006 + 24 * (j + 1))) (by omega) (by omega) ?_
        exact ih204 (j + 1) _ _ ls (by omega) (by omega) hN (lv_sub hl [2, 3, 4, 5, 6, 7, 1, 0] rfl)
    exact L23 _ 0 _ _ ls (rfl) (by omega) hN (lv_sub hl [2, 3, 4, 5, 6, 7, 1, 0] rfl)
  · have hw0 : w2 = 0 := next_0 (fun z => by obtain ⟨q, q1, q2, _⟩ := hln 0 (by omega); exact ⟨q, q1, by rw [Nat.add_zero, Nat.mod_eq_of_lt hh2] at q2; exact q2⟩) c20
    refine lv_iconst (v := 1) hx hb dL_isSound_170 (by decide) ?_
    refine lv_goto (tgt := 175) hx hb dL_isSound_171 (by decide) ?_
    refine lv_aload hx hb dL_isSound_175 (lv_at hl 5 rfl) ?_
    refine lv_iconst (v := 0) hx hb dL_isSound_177 (by decide) ?_
    refine g_iald hx hb hG hN (i := 46) (n := 8) (j := 0) (by decide) rfl (by decide) (by omega) rfl dL_isSound_178 ?_
    refine g_top (y := nI N) (hC0) ?_
    refine lv_aload hx hb dL_isSound_179 (lv_at hl 5 rfl) ?_
    refine lv_iconst (v := 1) hx hb dL_isSound_181 (by decide) ?_
    refine g_iald hx hb hG hN (i := 46) (n := 8) (j := 1) (by decide) rfl (by decide) (by omega) rfl dL_isSound_182 ?_
    refine g_top (y := nI (N - w2)) (hC1) ?_
    refine g_cN_ne (a := N) (b := N - w2) (tgt := 190) hx hb dL_isSound_183 (by decide) rfl rfl (by omega) (by omega) (fun c31 => absurd c31 (by omega)) (fun c31 => ?_)
    refine lv_iconst (v := 1) hx hb dL_isSound_186 (by decide) ?_
    refine lv_goto (tgt := 191) hx hb dL_isSound_187 (by decide) ?_
    refine lv_icmp_ne (tgt := 198) hx hb dL_isSound_191 (by decide) (fun c32 => False.elim (by revert c32; decide)) (fun _ => ?_)
    refine lv_iconst (v := 1) hx hb dL_isSound_194 (by decide) ?_
    refine lv_goto (tgt := 199) hx hb dL_isSound_195 (by decide) ?_
    refine lv_istore (lv' := [(6, .int 1), (0, .ref (ad 0)), (1, .int (nI x)), (2, .ref (ad 43)), (3, .ref (ad 44)), (4, .ref (ad 45)), (5, .ref (ad 46))]) hx hb dL_isSound_199 hl (by decide) rfl (fun ls hl => ?_)
    refine lv_iconst (v := 0) hx hb dL_isSound_201 (by decide) ?_
    refine lv_istore (lv' := [(7, .int 0), (6, .int 1), (0, .ref (ad 0)), (1, .int (nI x)), (2, .ref (ad 43)), (3, .ref (ad 44)), (4, .ref (ad 45)), (5, .ref (ad 46))]) hx hb dL_isSound_202 hl (by decide) rfl (fun ls hl => ?_)
    have L33 : ∀ (d9_204 : Nat) (j : Nat) (H : Heap) (locs : List Loc) (ls : Array Slot), N - j = d9_204 → (j ≤ N) → gN D ad cs s0 F V o H locs → lv_has ls 8 [(0, .ref (ad 0)), (1, .int (nI x)), (2, .ref (ad 43)), (3, .ref (ad 44)), (4, .ref (ad 45)), (5, .ref (ad 46)), (6, .int 1), (7, .int (nI j))] → W p0 l e0 ({ frames := 10, cells := 1200, slots := 7000, locals := 183 } : Room) s0 m0 ([.ref (ad 0), .int (nI x), .ref (ad 43), .ref (ad 44), .ref (ad 45), .ref (ad 46)] : List Value).toArray b0 k0 c0 H locs (1001 + 4 * j) (6006 + 24 * j) (MQ b0 (gQI D ad cs 1 F V o s0.heap.size) ([.ref (ad 0), .int (nI x), .ref (ad 43), .ref (ad 44), .ref (ad 45), .ref (ad 46)] : List Value).toArray s0 1200 7000 (gX ad s0.heap.size)) (F0 m0 204 ls []) := by
      intro d9_204
      induction d9_204 with
      | zero =>
        intro j H locs ls hd_204 hj hN hl
        refine lv_iload hx hb dL_isSound_204 (lv_at hl 7 rfl) ?_
        refine lv_aload hx hb dL_isSound_206 (lv_at hl 5 rfl) ?_
        refine lv_iconst (v := 0) hx hb dL_isSound_208 (by decide) ?_
        refine g_iald hx hb hG hN (i := 46) (n := 8) (j := 0) (by decide) rfl (by decide) (by omega) rfl dL_isSound_209 ?_
        refine g_top (y := nI N) (hC0) ?_
        refine g_cN_ge (a := j) (b := N) (tgt := 269) hx hb dL_isSound_210 (by decide) rfl rfl (by omega) (by omega) (fun c34 => ?_) (fun c34 => absurd c34 (by omega))
        refine lv_iload hx hb dL_isSound_269 (lv_at hl 6 rfl) ?_
        refine W.widen (k := 1200) (n := 7000) (by omega) (by omega) ?_
        exact g_rz hx hb hr hlocks (by decide) hN (⟨rfl, rfl⟩) dL_isSound_271
      | succ d9_204 ih204 =>
        intro j H locs ls hd_204 hj hN hl
        refine lv_iload hx hb dL_isSound_204 (lv_at hl 7 rfl) ?_
        refine lv_aload hx hb dL_isSound_206 (lv_at hl 5 rfl) ?_
        refine lv_iconst (v := 0) hx hb dL_isSound_208 (by decide) ?_
        refine g_iald hx hb hG hN (i := 46) (n := 8) (j := 0) (by decide) rfl (by decide) (by omega) rfl dL_isSound_209 ?_
        refine g_top (y := nI N) (hC0) ?_
        refine g_cN_ge (a := j) (b := N) (tgt := 269) hx hb dL_isSound_210 (by decide) rfl rfl (by omega) (by omega) (fun c35 => absurd c35 (by omega)) (fun c35 => ?_)
        refine lv_iload hx hb dL_isSound_213 (lv_at hl 6 rfl) ?_
        refine lv_if_eq (tgt := 269) hx hb dL_isSound_215 (by decide) (fun c36 => False.elim (by revert c36; decide)) (fun _ => ?_)
        obtain ⟨q9, g9, hq9b, hg9, e34, e35, e45⟩ := hT j (by omega)
        refine lv_aload_n hx hb dL_isSound_218 rfl (lv_at hl 0 rfl) ?_
        refine lv_iload hx hb dL_isSound_219 (lv_at hl 7 rfl) ?_
        refine lv_iconst (v := 0) hx hb dL_isSound_221 (by decide) ?_
        refine g_nVI (As := [.int (nI j), .int 0]) (rest := []) ⟨hx, hb, hml, hown, hts⟩ hG hN (i := 0) (by decide) rfl rfl (c_X9_copy l hl9 (nI j) 0 N hN3 (by omega) hI.z35) (cwV 2 hts gL_isSound_X9_copy rfl rfl rfl (by decide +kernel) ⟨Nat.le_of_ble_eq_true rfl, Nat.le_of_ble_eq_true rfl⟩) rfl hl.1 rfl (Nat.le_of_ble_eq_true rfl) dL_isSound_222 ⟨by show _ ≤ 1200; omega, by show _ ≤ 7000; omega⟩ (no2 (fCop0 hN3 (by omega) (by omega) (by decide))) (fun hz37 H locs hN => ?_)
        refine g_top (y := nI g9) (rCop_0 (by omega) hg9 e35) ?_
        refine lv_aload hx hb dL_isSound_225 (lv_at hl 4 rfl) ?_
        refine lv_iload hx hb dL_isSound_227 (lv_at hl 7 rfl) ?_
        refine g_iald hx hb hG hN (i := 45) (n := 40) (j := j) (by decide) rfl (by decide) (by omega) rfl dL_isSound_229 ?_
        refine g_top (y := nI (1000 * g9 + q9)) (e45) ?_
        refine lv_sipush (v := 1000) hx hb dL_isSound_230 (by decide) ?_
        refine g_divN (a := 1000 * g9 + q9) (b := 1000) hx hb rfl rfl (by omega) (by omega) (by omega) dL_isSound_233 ?_
        refine g_cN_ne (a := g9) (b := (1000 * g9 + q9) / 1000) (tgt := 260) hx hb dL_isSound_234 (by decide) rfl rfl (by omega) (by omega) (fun c38 => absurd c38 (by omega)) (fun c38 => ?_)
        refine lv_aload_n hx hb dL_isSound_237 rfl (lv_at hl 0 rfl) ?_
        refine lv_iload hx hb dL_isSound_238 (lv_at hl 7 rfl) ?_
        refine lv_iconst (v := 1) hx hb dL_isSound_240 (by decide) ?_
        refine g_nVI (As := [.int (nI j), .int 1]) (rest := []) ⟨hx, hb, hml, hown, hts⟩ hG hN (i := 0) (by decide) rfl rfl (c_X9_copy l hl9 (nI j) 1 N hN3 (by omega) hI.z35) (cwV 2 hts gL_isSound_X9_copy rfl rfl rfl (by decide +kernel) ⟨Nat.le_of_ble_eq_true rfl, Nat.le_of_ble_eq_true rfl⟩) rfl hl.1 rfl (Nat.le_of_ble_eq_true rfl) dL_isSound_241 ⟨by show _ ≤ 1200; omega, by show _ ≤ 7000; omega⟩ (no2 (fCop0 hN3 (by omega) (by omega) (by decide))) (fun hz39 H locs hN => ?_)
        refine g_top (y := nI q9) ((rCop_1 (by omega)).trans e34) ?_
        refine lv_aload hx hb dL_isSound_244 (lv_at hl 4 rfl) ?_
        refine lv_iload hx hb dL_isSound_246 (lv_at hl 7 rfl) ?_
        refine g_iald hx hb hG hN (i := 45) (n := 40) (j := j) (by decide) rfl (by decide) (by omega) rfl dL_isSound_248 ?_
        refine g_top (y := nI (1000 * g9 + q9)) (e45) ?_
        refine lv_sipush (v := 1000) hx hb dL_isSound_249 (by decide) ?_
        refine g_remN (a := 1000 * g9 + q9) (b := 1000) hx hb rfl rfl (by omega) (by omega) (by omega) dL_isSound_252 ?_
        refine g_cN_ne (a := q9) (b := (1000 * g9 + q9) % 1000) (tgt := 260) hx hb dL_isSound_253 (by decide) rfl rfl (by omega) (by omega) (fun c40 => absurd c40 (by omega)) (fun c40 => ?_)
        refine lv_iconst (v := 1) hx hb dL_isSound_256 (by decide) ?_
        refine lv_goto (tgt := 261) hx hb dL_isSound_257 (by decide) ?_
        refine lv_istore (lv' := [(6, .int 1), (0, .ref (ad 0)), (1, .int (nI x)), (2, .ref (ad 43)), (3, .ref (ad 44)), (4, .ref (ad 45)), (5, .ref (ad 46)), (7, .int (nI j))]) hx hb dL_isSound_261 hl (by decide) rfl (fun ls hl => ?_)
        refine lv_iinc (v := (nI (j + 1))) (lv' := [(7, .int (nI (j + 1))), (6, .int 1), (0, .ref (ad 0)), (1, .int (nI x)), (2, .ref (ad 43)), (3, .ref (ad 44)), (4, .ref (ad 45)), (5, .ref (ad 46))]) hx hb dL_isSound_263 hl (k := 7) rfl (nI_1 _) (by decide) rfl (fun ls hl => ?_)
        refine lv_goto (tgt := 204) hx hb dL_isSound_266 (by decide) ?_
        refine W.widen (k := (1001 + 4 * (j + 1))) (n := (6006 + 24 * (j + 1))) (by omega) (by omega) ?_
        exact ih204 (j + 1) _ _ ls (by omega) (by omega) hN (lv_sub hl [2, 3, 4, 5, 6, 7, 1, 0] rfl)
    exact L33 _ 0 _ _ ls (rfl) (by omega) hN (lv_sub hl [2, 3, 4, 5, 6, 7, 1, 0] rfl)
