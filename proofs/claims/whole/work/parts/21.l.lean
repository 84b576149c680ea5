set_option maxHeartbeats 4000000 in
set_option maxRecDepth 100000 in
theorem c_L_colour (l : Launch) {D : va_G} {ad : Nat → Nat} {cs : Nat → ClassId} {zd : Nat → Nat} {F V : gF} {o : gO} {sz : Nat} (c x y z : Int32) (hl9 : l.stackTraces = false) : Met l yL_colour wsL_colour ({ frames := 8, cells := 4, slots := 24, locals := 136 } : Room) (gPc D ad cs zd F V o sz [.ref (ad 0), .int c, .int x, .int y, .int z]) (gQi D ad cs sz (fun r9 u9 => r9 = fCol c x y z ∧ (fCol c x y z = 0 → u9 = (gw (gw (gw F 9 c.toNatClampNeg x) 10 c.toNatClampNeg y) 11 c.toNatClampNeg z, V, o)) ∧ (fCol c x y z ≠ 0 → u9 = (F, V, o)))) 4 24 (gX ad sz) := by
  refine g_metW (Qc := fun z0 => gQi D ad cs z0 (fun r9 u9 => r9 = fCol c x y z ∧ (fCol c x y z = 0 → u9 = (gw (gw (gw F 9 c.toNatClampNeg x) 10 c.toNatClampNeg y) 11 c.toNatClampNeg z, V, o)) ∧ (fCol c x y z ≠ 0 → u9 = (F, V, o)))) (cc := cL_colour) (maxL := 6) (ret := (some .int)) (hh := [(0, 9, 12, 13), (0, 9, 16, 15)]) (own := RL) (by decide +kernel) rfl rfl (Nat.le_of_ble_eq_true rfl) ?_
  intro p0 e0 s0 m0 b0 k0 c0 hx hb hr hts hown hlocks hml htab hG hN ls hl
  have hl : lv_has ls 6 [(0, .ref (ad 0)), (1, .int c), (2, .int x), (3, .int y), (4, .int z)] := hl
  have hcl0 := hts (.classLink RL 13 gE0) (by decide +kernel)
  have hcl1 := hts (.classLink RL 15 gE1) (by decide +kernel)
  refine lv_aload_n hx hb dL_colour_0 rfl (lv_at hl 0 rfl) ?_
  refine lv_iload_n hx hb dL_colour_1 rfl (lv_at hl 1 rfl) ?_
  refine lv_iload_n hx hb dL_colour_2 rfl (lv_at hl 2 rfl) ?_
  refine lv_iload_n hx hb dL_colour_3 rfl (lv_at hl 3 rfl) ?_
  refine lv_iload hx hb dL_colour_4 (lv_at hl 4 rfl) ?_
  refine g_tVv (As := [.int c, .int x, .int y, .int z]) (rest := []) ⟨hx, hb, hml, hown, hts⟩ hG hN (i := 0) (by decide) rfl rfl (c_X9_colour l hl9 c x y z) (cwV 4 hts gL_colour_X9_colour rfl rfl rfl (by decide +kernel) ⟨Nat.le_of_ble_eq_true rfl, Nat.le_of_ble_eq_true rfl⟩) rfl hl.1 rfl (Nat.le_of_ble_eq_true rfl) dL_colour_6 ⟨Nat.le_of_ble_eq_true rfl, Nat.le_of_ble_eq_true rfl⟩ (fun a ce q9 H locs hp9 hN hq9 hv9 hc9 => ?_) (fun Fq Vq oq H locs hq hN => ?_)
  · rcases hp9 with ⟨ea9, hf9⟩ | ⟨ea9, hf9⟩
    · subst ea9
      have hp8 : ∀ z9 ∈ ([] : List ExceptionTableEntry), covers z9 6 = false ∨ (z9.catchType ≠ 0 ∧ ∃ nm : String, (Cond.classLink RL z9.catchType nm).before ([.ref (ad 0), .int c, .int x, .int y, .int z] : List Value).toArray s0 = true ∧ va_Nc gE0 nm s0) := fun z hz => absurd hz List.not_mem_nil
      refine vx_catch (own := RL) (name := gE0) (E := gE0) hown [] (⟨0, 9, 12, 13⟩ : ExceptionTableEntry) [(⟨0, 9, 16, 15⟩ : ExceptionTableEntry)] (by rw [htab]; rfl) hp8 (by decide) (by decide) hcl0 (va_Nw.use rfl (hG.2.2.2.2.2.1 gE0 (by decide))) hq9 hv9 hc9 ?_
      refine lv_astore (lv' := [(5, .ref q9), (0, .ref (ad 0)), (1, .int c), (2, .int x), (3, .int y), (4, .int z)]) hx hb dL_colour_12 hl (by decide) rfl (fun ls hl => ?_)
      refine lv_iconst (v := 1) hx hb dL_colour_14 (by decide) ?_
      exact g_ri hx hb hr hlocks hN (⟨hf9.symm, fun z => absurd (hf9.symm.trans z) (by decide), fun _ => rfl⟩) dL_colour_15
    · subst ea9
      have hp8 : ∀ z9 ∈ ([(⟨0, 9, 12, 13⟩ : ExceptionTableEntry)] : List ExceptionTableEntry), covers z9 6 = false ∨ (z9.catchType ≠ 0 ∧ ∃ nm : String, (Cond.classLink RL z9.catchType nm).before ([.ref (ad 0), .int c, .int x, .int y, .int z] : List Value).toArray s0 = true ∧ va_Nc gE1 nm s0) := fun z hz => by
        have hz2 := List.mem_singleton.mp hz
        subst hz2
        exact Or.inr ⟨by decide, gE0, hcl0, hG.2.2.2.2.2.2.1 gE1 (by decide) gE0 (by decide) (by decide)⟩
      refine vx_catch (own := RL) (name := gE1) (E := gE1) hown [(⟨0, 9, 12, 13⟩ : ExceptionTableEntry)] (⟨0, 9, 16, 15⟩ : ExceptionTableEntry) [] (by rw [htab]; rfl) hp8 (by decide) (by decide) hcl1 (va_Nw.use rfl (hG.2.2.2.2.2.1 gE1 (by decide))) hq9 hv9 hc9 ?_
      refine lv_astore (lv' := [(5, .ref q9), (0, .ref (ad 0)), (1, .int c), (2, .int x), (3, .int y), (4, .int z)]) hx hb dL_colour_16 hl (by decide) rfl (fun ls hl => ?_)
      refine lv_iconst (v := 2) hx hb dL_colour_18 (by decide) ?_
      exact g_ri hx hb hr hlocks hN (⟨hf9.symm, fun z => absurd (hf9.symm.trans z) (by decide), fun _ => rfl⟩) dL_colour_19
  · obtain ⟨hf9, hu9⟩ := hq
    cases hu9
    refine lv_goto (tgt := 20) hx hb dL_colour_9 (by decide) ?_
    refine lv_iconst (v := 0) hx hb dL_colour_20 (by decide) ?_
    exact g_ri hx hb hr hlocks hN (⟨hf9.symm, fun _ => rfl, fun z => absurd hf9 z⟩) dL_colour_21
set_option maxHeartbeats 4000000 in
set_option maxRecDepth 100000 in
theorem c_L_type (l : Launch) {D : va_G} {ad : Nat → Nat} {cs : Nat → ClassId} {zd : Nat → Nat} {F V : gF} {o : gO} {sz : Nat} (x : Int32) (hl9 : l.stackTraces = false) (n : Nat) (hn : V 3 3 = nI n) (hn2 : n ≤ 60) (hx9 : vp_nar .char x = x) : Met l yL_type wsL_type ({ frames := 7, cells := 1, slots := 6, locals := 111 } : Room) (gPc D ad cs zd F V o sz [.ref (ad 0), .int x, .ref (ad 64)]) (gQi D ad cs sz (fun r9 u9 => r9 = fTyp V x ∧ (fTyp V x = 0 → u9 = (gw F 4 n x, gw V 3 3 (nI (n + 1)), (fun _ => (nI (n + 1)).toInt64))) ∧ (fTyp V x ≠ 0 → u9 = (F, V, o)))) 1 6 (gX ad sz) := by
  refine g_metW (Qc := fun z0 => gQi D ad cs z0 (fun r9 u9 => r9 = fTyp V x ∧ (fTyp V x = 0 → u9 = (gw F 4 n x, gw V 3 3 (nI (n + 1)), (fun _ => (nI (n + 1)).toInt64))) ∧ (fTyp V x ≠ 0 → u9 = (F, V, o)))) (cc := cL_type) (maxL := 4) (ret := (some .int)) (hh := [(0, 9, 12, 15), (0, 9, 15, 21)]) (own := RL) (by decide +kernel) rfl rfl (Nat.le_of_ble_eq_true rfl) ?_
  intro p0 e0 s0 m0 b0 k0 c0 hx hb hr hts hown hlocks hml htab hG hN ls hl
  have hl : lv_has ls 4 [(0, .ref (ad 0)), (1, .int x), (2, .ref (ad 64))] := hl
  have hcl0 := hts (.classLink RL 15 gE1) (by decide +kernel)
  have hcl1 := hts (.classLink RL 21 gE2) (by decide +kernel)
  refine lv_aload_n hx hb dL_type_0 rfl (lv_at hl 2 rfl) ?_
  refine lv_iconst (v := 0) hx hb dL_type_1 (by decide) ?_
  refine lv_aload_n hx hb dL_type_2 rfl (lv_at hl 0 rfl) ?_
  refine lv_iload_n hx hb dL_type_3 rfl (lv_at hl 1 rfl) ?_
  refine g_tVi (As := [.int x]) (rest := [.int 0, .ref (ad 64)]) ⟨hx, hb, hml, hown, hts⟩ hG hN (i := 0) (by decide) rfl rfl (c_X9_type l hl9 x n hn hn2 hx9) (cwV 1 hts gL_type_X9_type rfl rfl rfl (by decide +kernel) ⟨Nat.le_of_ble_eq_true rfl, Nat.le_of_ble_eq_true rfl⟩) rfl hl.1 rfl (Nat.le_of_ble_eq_true rfl) dL_type_4 ⟨Nat.le_of_ble_eq_true rfl, Nat.le_of_ble_eq_true rfl⟩ (fun a ce q9 H locs hp9 hN hq9 hv9 hc9 => ?_) (fun rq Fq Vq oq H locs hq hN => ?_)
  · rcases hp9 with ⟨ea9, hf9⟩ | ⟨ea9, hf9⟩
    · subst ea9
      have hp8 : ∀ z9 ∈ ([] : List ExceptionTableEntry), covers z9 4 = false ∨ (z9.catchType ≠ 0 ∧ ∃ nm : String, (Cond.classLink RL z9.catchType nm).before ([.ref (ad 0), .int x, .ref (ad 64)] : List Value).toArray s0 = true ∧ va_Nc gE1 nm s0) := fun z hz => absurd hz List.not_mem_nil
      refine vx_catch (own := RL) (name := gE1) (E := gE1) hown [] (⟨0, 9, 12, 15⟩ : ExceptionTableEntry) [(⟨0, 9, 15, 21⟩ : ExceptionTableEntry)] (by rw [htab]; rfl) hp8 (by decide) (by decide) hcl0 (va_Nw.use rfl (hG.2.2.2.2.2.1 gE1 (by decide))) hq9 hv9 hc9 ?_
      refine lv_astore_n (lv' := [(3, .ref q9), (0, .ref (ad 0)), (1, .int x), (2, .ref (ad 64))]) hx hb dL_type_12 rfl hl (by decide) rfl (fun ls hl => ?_)
      refine lv_iconst (v := 1) hx hb dL_type_13 (by decide) ?_
      exact g_ri hx hb hr hlocks hN (⟨hf9.symm, fun z => absurd (hf9.symm.trans z) (by decide), fun _ => rfl⟩) dL_type_14
    · subst ea9
      have hp8 : ∀ z9 ∈ ([(⟨0, 9, 12, 15⟩ : ExceptionTableEntry)] : List ExceptionTableEntry), covers z9 4 = false ∨ (z9.catchType ≠ 0 ∧ ∃ nm : String, (Cond.classLink RL z9.catchType nm).before ([.ref (ad 0), .int x, .ref (ad 64)] : List Value).toArray s0 = true ∧ va_Nc gE2 nm s0) := fun z hz => by
        have hz2 := List.mem_singleton.mp hz
        subst hz2
        exact Or.inr ⟨by decide, gE1, hcl0, hG.2.2.2.2.2.2.1 gE2 (by decide) gE1 (by decide) (by decide)⟩
      refine vx_catch (own := RL) (name := gE2) (E := gE2) hown [(⟨0, 9, 12, 15⟩ : ExceptionTableEntry)] (⟨0, 9, 15, 21⟩ : ExceptionTableEntry) [] (by rw [htab]; rfl) hp8 (by decide) (by decide) hcl1 (va_Nw.use rfl (hG.2.2.2.2.2.1 gE2 (by decide))) hq9 hv9 hc9 ?_
      refine lv_astore_n (lv' := [(3, .ref q9), (0, .ref (ad 0)), (1, .int x), (2, .ref (ad 64))]) hx hb dL_type_15 rfl hl (by decide) rfl (fun ls hl => ?_)
      refine lv_iconst (v := 2) hx hb dL_type_16 (by decide) ?_
      exact g_ri hx hb hr hlocks hN (⟨hf9.symm, fun z => absurd (hf9.symm.trans z) (by decide), fun _ => rfl⟩) dL_type_17
  · obtain ⟨hf9, hr9, hu9⟩ := hq
    subst hr9
    cases hu9
    refine lv_i2l hx hb dL_type_7 rfl ?_
    refine g_last hx hb hG hN rfl dL_type_8 (fun H locs hN => ?_)
    refine lv_goto (tgt := 18) hx hb dL_type_9 (by decide) ?_
    refine lv_iconst (v := 0) hx hb dL_type_18 (by decide) ?_
    exact g_ri hx hb hr hlocks hN (⟨hf9.symm, fun _ => rfl, fun z => absurd hf9 z⟩) dL_type_19
set_option maxHeartbeats 4000000 in
set_option maxRecDepth 100000 in
theorem c_L_drift (l : Launch) {D : va_G} {ad : Nat → Nat} {cs : Nat → ClassId} {zd : Nat → Nat} {F V : gF} {o : gO} {sz : Nat} (u x y : Int32) (hl9 : l.stackTraces = false) : Met l yL_drift wsL_drift ({ frames := 8, cells := 3, slots := 18, locals := 135 } : Room) (gPc D ad cs zd F V o sz [.ref (ad 0), .int u, .int x, .int y]) (gQi D ad cs sz (fun r9 u9 => r9 = fDri u x y ∧ (fDri u x y = 0 → u9 = (gw (gw F 21 u.toNatClampNeg x) 22 u.toNatClampNeg y, V, o)) ∧ (fDri u x y ≠ 0 → u9 = (F, V, o)))) 3 18 (gX ad sz) := by
  refine g_metW (Qc := fun z0 => gQi D ad cs z0 (fun r9 u9 => r9 = fDri u x y ∧ (fDri u x y = 0 → u9 = (gw (gw F 21 u.toNatClampNeg x) 22 u.toNatClampNeg y, V, o)) ∧ (fDri u x y ≠ 0 → u9 = (F, V, o)))) (cc := cL_drift) (maxL := 5) (ret := (some .int)) (hh := [(0, 7, 10, 13), (0, 7, 14, 15)]) (own := RL) (by decide +kernel) rfl rfl (Nat.le_of_ble_eq_true rfl) ?_
  intro p0 e0 s0 m0 b0 k0 c0 hx hb hr hts hown hlocks hml htab hG hN ls hl
  have hl : lv_has ls 5 [(0, .ref (ad 0)), (1, .int u), (2, .int x), (3, .int y)] := hl
  have hcl0 := hts (.classLink RL 13 gE0) (by decide +kernel)
  have hcl1 := hts (.classLink RL 15 gE1) (by decide +kernel)
  refine lv_aload_n hx hb dL_drift_0 rfl (lv_at hl 0 rfl) ?_
  refine lv_iload_n hx hb dL_drift_1 rfl (lv_at hl 1 rfl) ?_
  refine lv_iload_n hx hb dL_drift_2 rfl (lv_at hl 2 rfl) ?_
  refine lv_iload_n hx hb dL_drift_3 rfl (lv_at hl 3 rfl) ?_
  refine g_tVv (As := [.int u, .int x, .int y]) (rest := []) ⟨hx, hb, hml, hown, hts⟩ hG hN (i := 0) (by decide) rfl rfl (c_X9_drift l hl9 u x y) (cwV 3 hts gL_drift_X9_drift rfl rfl rfl (by decide +kernel) ⟨Nat.le_of_ble_eq_true rfl, Nat.le_of_ble_eq_true rfl⟩) rfl hl.1 rfl (Nat.le_of_ble_eq_true rfl) dL_drift_4 ⟨Nat.le_of_ble_eq_true rfl, Nat.le_of_ble_eq_true rfl⟩ (fun a ce q9 H locs hp9 hN hq9 hv9 hc9 => ?_) (fun Fq Vq oq H locs hq hN => ?_)
  · rcases hp9 with ⟨ea9, hf9⟩ | ⟨ea9, hf9⟩
    · subst ea9
      have hp8 : ∀ z9 ∈ ([] : List ExceptionTableEntry), covers z9 4 = false ∨ (z9.catchType ≠ 0 ∧ ∃ nm : String, (Cond.classLink RL z9.catchType nm).before ([.ref (ad 0), .int u, .int x, .int y] : List Value).toArray s0 = true ∧ va_Nc gE0 nm s0) := fun z hz => absurd hz List.not_mem_nil
      refine vx_catch (own := RL) (name := gE0) (E := gE0) hown [] (⟨0, 7, 10, 13⟩ : ExceptionTableEntry) [(⟨0, 7, 14, 15⟩ : ExceptionTableEntry)] (by rw [htab]; rfl) hp8 (by decide) (by decide) hcl0 (va_Nw.use rfl (hG.2.2.2.2.2.1 gE0 (by decide))) hq9 hv9 hc9 ?_
      refine lv_astore (lv' := [(4, .ref q9), (0, .ref (ad 0)), (1, .int u), (2, .int x), (3, .int y)]) hx hb dL_drift_10 hl (by decide) rfl (fun ls hl => ?_)
      refine lv_iconst (v := 1) hx hb dL_drift_12 (by decide) ?_
      exact g_ri hx hb hr hlocks hN (⟨hf9.symm, fun z => absurd (hf9.symm.trans z) (by decide), fun _ => rfl⟩) dL_drift_13
    · subst ea9
      have hp8 : ∀ z9 ∈ ([(⟨0, 7, 10, 13⟩ : ExceptionTableEntry)] : List ExceptionTableEntry), covers z9 4 = false ∨ (z9.catchType ≠ 0 ∧ ∃ nm : String, (Cond.classLink RL z9.catchType nm).before ([.ref (ad 0), .int u, .int x, .int y] : List Value).toArray s0 = true ∧ va_Nc gE1 nm s0) := fun z hz => by
        have hz2 := List.mem_singleton.mp hz
        subst hz2
        exact Or.inr ⟨by decide, gE0, hcl0, hG.2.2.2.2.2.2.1 gE1 (by decide) gE0 (by decide) (by decide)⟩
      refine vx_catch (own := RL) (name := gE1) (E := gE1) hown [(⟨0, 7, 10, 13⟩ : ExceptionTableEntry)] (⟨0, 7, 14, 15⟩ : ExceptionTableEntry) [] (by rw [htab]; rfl) hp8 (by decide) (by decide) hcl1 (va_Nw.use rfl (hG.2.2.2.2.2.1 gE1 (by decide))) hq9 hv9 hc9 ?_
      refine lv_astore (lv' := [(4, .ref q9), (0, .ref (ad 0)), (1, .int u), (2, .int x), (3, .int y)]) hx hb dL_drift_14 hl (by decide) rfl (fun ls hl => ?_)
      refine lv_iconst (v := 2) hx hb dL_drift_16 (by decide) ?_
      exact g_ri hx hb hr hlocks hN (⟨hf9.symm, fun z => absurd (hf9.symm.trans z) (by decide), fun _ => rfl⟩) dL_drift_17
  · obtain ⟨hf9, hu9⟩ := hq
    cases hu9
    refine lv_goto (tgt := 18) hx hb dL_drift_7 (by decide) ?_
    refine lv_iconst (v := 0) hx hb dL_drift_18 (by decide) ?_
    exact g_ri hx hb hr hlocks hN (⟨hf9.symm, fun _ => rfl, fun z => absurd hf9 z⟩) dL_drift_19
set_option maxHeartbeats 4000000 in
set_option maxRecDepth 100000 in
theorem c_L_correct (l : Launch) {D : va_G} {ad : Nat → Nat} {cs : Nat → ClassId} {zd : Nat → Nat} {F V : gF} {o : gO} {sz : Nat} (u x y : Int32) (hl9 : l.stackTraces = false) (t : Nat) (ht : V 18 8 = nI t) (ht2 : t ≤ 20) : Met l yL_correct wsL_correct ({ frames := 8, cells := 4, slots := 24, locals := 135 } : Room) (gPc D ad cs zd F V o sz [.ref (ad 0), .int u, .int x, .int y, .ref (ad 64)]) (gQi D ad cs sz (fun r9 u9 => r9 = fCor V u x y ∧ (fCor V u x y = 0 → u9 = (if V 1 4 = 0 then cMove F u.toNatClampNeg x y else cKeep F t u x y (V 27 2 + V 1 4), if V 1 4 = 0 then V else gw V 18 8 (nI (t + 1)), (fun _ => ((if V 1 4 = 0 then 0 else nI (t + 1))).toInt64))) ∧ (fCor V u x y ≠ 0 → u9 = (F, V, o)))) 4 24 (gX ad sz) := by
  refine g_metW (Qc := fun z0 => gQi D ad cs z0 (fun r9 u9 => r9 = fCor V u x y ∧ (fCor V u x y = 0 → u9 = (if V 1 4 = 0 then cMove F u.toNatClampNeg x y else cKeep F t u x y (V 27 2 + V 1 4), if V 1 4 = 0 then V else gw V 18 8 (nI (t + 1)), (fun _ => ((if V 1 4 = 0 then 0 else nI (t + 1))).toInt64))) ∧ (fCor V u x y ≠ 0 → u9 = (F, V, o)))) (cc := cL_correct) (maxL := 6) (ret := (some .int)) (hh := [(0, 12, 15, 13), (0, 12, 19, 15), (0, 12, 23, 21)]) (own := RL) (by decide +kernel) rfl rfl (Nat.le_of_ble_eq_true rfl) ?_
  intro p0 e0 s0 m0 b0 k0 c0 hx hb hr hts hown hlocks hml htab hG hN ls hl
  have hl : lv_has ls 6 [(0, .ref (ad 0)), (1, .int u), (2, .int x), (3, .int y), (4, .ref (ad 64))] := hl
  have hcl0 := hts (.classLink RL 13 gE0) (by decide +kernel)
  have hcl1 := hts (.classLink RL 15 gE1) (by decide +kernel)
  have hcl2 := hts (.classLink RL 21 gE2) (by decide +kernel)
  refine lv_aload hx hb dL_correct_0 (lv_at hl 4 rfl) ?_
  refine lv_iconst (v := 0) hx hb dL_correct_2 (by decide) ?_
  refine lv_aload_n hx hb dL_correct_3 rfl (lv_at hl 0 rfl) ?_
  refine lv_iload_n hx hb dL_correct_4 rfl (lv_at hl 1 rfl) ?_
  refine lv_iload_n hx hb dL_correct_5 rfl (lv_at hl 2 rfl) ?_
  refine lv_iload_n hx hb dL_correct_6 rfl (lv_at hl 3 rfl) ?_
  refine g_tVi (As := [.int u, .int x, .int y]) (rest := [.int 0, .ref (ad 64)]) ⟨hx, hb, hml, hown, hts⟩ hG hN (i := 0) (by decide) rfl rfl (c_X9_correct l hl9 u x y t ht ht2) (cwV 3 hts gL_correct_X9_correct rfl rfl rfl (by decide +kernel) ⟨Nat.le_of_ble_eq_true rfl, Nat.le_of_ble_eq_true rfl⟩) rfl hl.1 rfl (Nat.le_of_ble_eq_true rfl) dL_correct_7 ⟨Nat.le_of_ble_eq_true rfl, Nat.le_of_ble_eq_true rfl⟩ (fun a ce q9 H locs hp9 hN hq9 hv9 hc9 => ?_) (fun rq Fq Vq oq H locs hq hN => ?_)
  · rcases hp9 with ⟨ea9, hf9⟩ | ⟨ea9, hf9⟩ | ⟨ea9, hf9⟩
    · subst ea9
      have hp8 : ∀ z9 ∈ ([] : List ExceptionTableEntry), covers z9 7 = false ∨ (z9.catchType ≠ 0 ∧ ∃ nm : String, (Cond.classLink RL z9.catchType nm).before ([.ref (ad 0), .int u, .int x, .int y, .ref (ad 64)] : List Value).toArray s0 = true ∧ va_Nc gE0 nm s0) := fun z hz => absurd hz List.not_mem_nil
      refine vx_catch (own := RL) (name := gE0) (E := gE0) hown [] (⟨0, 12, 15, 13⟩ : ExceptionTableEntry) [(⟨0, 12, 19, 15⟩ : ExceptionTableEntry), (⟨0, 12, 23, 21⟩ : ExceptionTableEntry)] (by rw [htab]; rfl) hp8 (by decide) (by decide) hcl0 (va_Nw.use rfl (hG.2.2.2.2.2.1 gE0 (by decide))) hq9 hv9 hc9 ?_
      refine lv_astore (lv' := [(5, .ref q9), (0, .ref (ad 0)), (1, .int u), (2, .int x), (3, .int y), (4, .ref (ad 64))]) hx hb dL_correct_15 hl (by decide) rfl (fun ls hl => ?_)
      refine lv_iconst (v := 1) hx hb dL_correct_17 (by decide) ?_
      exact g_ri hx hb hr hlocks hN (⟨hf9.symm, fun z => absurd (hf9.symm.trans z) (by decide), fun _ => rfl⟩) dL_correct_18
    · subst ea9
      have hp8 : ∀ z9 ∈ ([(⟨0, 12, 15, 13⟩ : ExceptionTableEntry)] : List ExceptionTableEntry), covers z9 7 = false ∨ (z9.catchType ≠ 0 ∧ ∃ nm : String, (Cond.classLink RL z9.catchType nm).before ([.ref (ad 0), .int u, .int x, .int y, .ref (ad 64)] : List Value).toArray s0 = true ∧ va_Nc gE1 nm s0) := fun z hz => by
        have hz2 := List.mem_singleton.mp hz
        subst hz2
        exact Or.inr ⟨by decide, gE0, hcl0, hG.2.2.2.2.2.2.1 gE1 (by decide) gE0 (by decide) (by decide)⟩
      refine vx_catch (own := RL) (name := gE1) (E := gE1) hown [(⟨0, 12, 15, 13⟩ : ExceptionTableEntry)] (⟨0, 12, 19, 15⟩ : ExceptionTableEntry) [(⟨0, 12, 23, 21⟩ : ExceptionTableEntry)] (by rw [htab]; rfl) hp8 (by decide) (by decide) hcl1 (va_Nw.use rfl (hG.2.2.2.2.2.1 gE1 (by decide))) hq9 hv9 hc9 ?_
      refine lv_astore (lv' := [(5, .ref q9), (0, .ref (ad 0)), (1, .int u), (2, .int x), (3, .int y), (4, .ref (ad 64))]) hx hb dL_correct_19 hl (by decide) rfl (fun ls hl => ?_)
      refine lv_iconst (v := 2) hx hb dL_correct_21 (by decide) ?_
      exact g_ri hx hb hr hlocks hN (⟨hf9.symm, fun z => absurd (hf9.symm.trans z) (by decide), fun _ => rfl⟩) dL_correct_22
    · subst ea9
      have hp8 : ∀ z9 ∈ ([(⟨0, 12, 15, 13⟩ : ExceptionTableEntry), (⟨0, 12, 19, 15⟩ : ExceptionTableEntry)] : List ExceptionTableEntry), covers z9 7 = false ∨ (z9.catchType ≠ 0 ∧ ∃ nm : String, (Cond.classLink RL z9.catchType nm).before ([.ref (ad 0), .int u, .int x, .int y, .ref (ad 64)] : List Value).toArray s0 = true ∧ va_Nc gE2 nm s0) := fun z hz => by
        rcases List.mem_cons.mp hz with hz2 | hz2
        · subst hz2
          exact Or.inr ⟨by decide, gE0, hcl0, hG.2.2.2.2.2.2.1 gE2 (by decide) gE0 (by decide) (by decide)⟩
        · have hz3 := List.mem_singleton.mp hz2
          subst hz3
          exact Or.inr ⟨by decide, gE1, hcl1, hG.2.2.2.2.2.2.1 gE2 (by decide) gE1 (by decide) (by decide)⟩
      refine vx_catch (own := RL) (name := gE2) (E := gE2) hown [(⟨0, 12, 15, 13⟩ : ExceptionTableEntry), (⟨0, 12, 19, 15⟩ : ExceptionTableEntry)] (⟨0, 12, 23, 21⟩ : ExceptionTableEntry) [] (by rw [htab]; rfl) hp8 (by decide) (by decide) hcl2 (va_Nw.use rfl (hG.2.2.2.2.2.1 gE2 (by decide))) hq9 hv9 hc9 ?_
      refine lv_astore (lv' := [(5, .ref q9), (0, .ref (ad 0)), (1, .int u), (2, .int x), (3, .int y), (4, .ref (ad 64))]) hx hb dL_correct_23 hl (by decide) rfl (fun ls hl => ?_)
      refine lv_iconst (v := 3) hx hb dL_correct_25 (by decide) ?_
      exact g_ri hx hb hr hlocks hN (⟨hf9.symm, fun z => absurd (hf9.symm.trans z) (by decide), fun _ => rfl⟩) dL_correct_26
  · obtain ⟨hf9, hr9, hu9⟩ := hq
    subst hr9
    cases hu9
    refine lv_i2l hx hb dL_correct_10 rfl ?_
    refine g_last hx hb hG hN rfl dL_correct_11 (fun H locs hN => ?_)
    refine lv_goto (tgt := 27) hx hb dL_correct_12 (by decide) ?_
    refine lv_iconst (v := 0) hx hb dL_correct_27 (by decide) ?_
    exact g_ri hx hb hr hlocks hN (⟨hf9.symm, fun _ => rfl, fun z => absurd hf9 z⟩) dL_correct_28
set_option maxHeartbeats 4000000 in
set_option maxRecDepth 100000 in
theorem c_L_key (l : Launch) {D : va_G} {ad : Nat → Nat} {cs : Nat → ClassId} {zd : Nat → Nat} {F V : gF} {o : gO} {sz : Nat} (u q x : Int32) (hl9 : l.stackTraces = false) : Met l yL_key wsL_key ({ frames := 8, cells := 3, slots := 18, locals := 135 } : Room) (gPc D ad cs zd F V o sz [.ref (ad 0), .int u, .int q, .int x, .ref (ad 64)]) (gQi D ad cs sz (fun r9 u9 => r9 = fKey u q x ∧ (fKey u q x = 0 → u9 = (gw F (29 + u.toNatClampNeg) (q.toNatClampNeg) x, V, (fun _ => (F (29 + u.toNatClampNeg) (q.toNatClampNeg)).toInt64))) ∧ (fKey u q x ≠ 0 → u9 = (F, V, o)))) 3 18 (gX ad sz) := by
  refine g_metW (Qc := fun z0 => gQi D ad cs z0 (fun r9 u9 => r9 = fKey u q x ∧ (fKey u q x = 0 → u9 = (gw F (29 + u.toNatClampNeg) (q.toNatClampNeg) x, V, (fun _ => (F (29 + u.toNatClampNeg) (q.toNatClampNeg)).toInt64))) ∧ (fKey u q x ≠ 0 → u9 = (F, V, o)))) (cc := cL_key) (maxL := 6) (ret := (some .int)) (hh := [(0, 12, 15, 13), (0, 12, 19, 15)]) (own := RL) (by decide +kernel) rfl rfl (Nat.le_of_ble_eq_true rfl) ?_
  intro p0 e0 s0 m0 b0 k0 c0 hx hb hr hts hown hlocks hml htab hG hN ls hl
  have hl : lv_has ls 6 [(0, .ref (ad 0)), (1, .int u), (2, .int q), (3, .int x), (4, .ref (ad 64))] := hl
  have hcl0 := hts (.classLink RL 13 gE0) (by decide +kernel)
  have hcl1 := hts (.classLink RL 15 gE1) (by decide +kernel)
  refine lv_aload hx hb dL_key_0 (lv_at hl 4 rfl) ?_
  refine lv_iconst (v := 0) hx hb dL_key_2 (by decide) ?_
  refine lv_aload_n hx hb dL_key_3 rfl (lv_at hl 0 rfl) ?_
  refine lv_iload_n hx hb dL_key_4 rfl (lv_at hl 1 rfl) ?_
  refine lv_iload_n hx hb dL_key_5 rfl (lv_at hl 2 rfl) ?_
  refine lv_iload_n hx hb dL_key_6 rfl (lv_at hl 3 rfl) ?_
  refine g_tVi (As := [.int u, .int q, .int x]) (rest := [.int 0, .ref (ad 64)]) ⟨hx, hb, hml, hown, hts⟩ hG hN (i := 0) (by decide) rfl rfl (c_X9_key l hl9 u q x) (cwV 3 hts gL_key_X9_key rfl rfl rfl (by decide +kernel) ⟨Nat.le_of_ble_eq_true rfl, Nat.le_of_ble_eq_true rfl⟩) rfl hl.1 rfl (Nat.le_of_ble_eq_true rfl) dL_key_7 ⟨Nat.le_of_ble_eq_true rfl, Nat.le_of_ble_eq_true rfl⟩ (fun a ce q9 H locs hp9 hN hq9 hv9 hc9 => ?_) (fun rq Fq Vq oq H locs hq hN => ?_)
  · rcases hp9 with ⟨ea9, hf9⟩ | ⟨ea9, hf9⟩
    · subst ea9
      have hp8 : ∀ z9 ∈ ([] : List ExceptionTableEntry), covers z9 7 = false ∨ (z9.catchType ≠ 0 ∧ ∃ nm : String, (Cond.classLink RL z9.catchType nm).before ([.ref (ad 0), .int u, .int q, .int x, .ref (ad 64)] : List Value).toArray s0 = true ∧ va_Nc gE0 nm s0) := fun z hz => absurd hz List.not_mem_nil
      refine vx_catch (own := RL) (name := gE0) (E := gE0) hown [] (⟨0, 12, 15, 13⟩ : ExceptionTableEntry) [(⟨0, 12, 19, 15⟩ : ExceptionTableEntry)] (by rw [htab]; rfl) hp8 (by decide) (by decide) hcl0 (va_Nw.use rfl (hG.2.2.2.2.2.1 gE0 (by decide))) hq9 hv9 hc9 ?_
      refine lv_astore (lv' := [(5, .ref q9), (0, .ref (ad 0)), (1, .int u), (2, .int q), (3, .int x), (4, .ref (ad 64))]) hx hb dL_key_15 hl (by decide) rfl (fun ls hl => ?_)
      refine lv_iconst (v := 1) hx hb dL_key_17 (by decide) ?_
      exact g_ri hx hb hr hlocks hN (⟨hf9.symm, fun z => absurd (hf9.symm.trans z) (by decide), fun _ => rfl⟩) dL_key_18
    · subst ea9
      have hp8 : ∀ z9 ∈ ([(⟨0, 12, 15, 13⟩ : ExceptionTableEntry)] : List ExceptionTableEntry), covers z9 7 = false ∨ (z9.catchType ≠ 0 ∧ ∃ nm : String, (Cond.classLink RL z9.catchType nm).before ([.ref (ad 0), .int u, .int q, .int x, .ref (ad 64)] : List Value).toArray s0 = true ∧ va_Nc gE1 nm s0) := fun z hz => by
        have hz2 := List.mem_singleton.mp hz
        subst hz2
        exact Or.inr ⟨by decide, gE0, hcl0, hG.2.2.2.2.2.2.1 gE1 (by decide) gE0 (by decide) (by decide)⟩
      refine vx_catch (own := RL) (name := gE1) (E := gE1) hown [(⟨0, 12, 15, 13⟩ : ExceptionTableEntry)] (⟨0, 12, 19, 15⟩ : ExceptionTableEntry) [] (by rw [htab]; rfl) hp8 (by decide) (by decide) hcl1 (va_Nw.use rfl (hG.2.2.2.2.2.1 gE1 (by decide))) hq9 hv9 hc9 ?_
      refine lv_astore (lv' := [(5, .ref q9), (0, .ref (ad 0)), (1, .int u), (2, .int q), (3, .int x), (4, .ref (ad 64))]) hx hb dL_key_19 hl (by decide) rfl (fun ls hl => ?_)
      refine lv_iconst (v := 2) hx hb dL_key_21 (by decide) ?_
      exact g_ri hx hb hr hlocks hN (⟨hf9.symm, fun z => absurd (hf9.symm.trans z) (by decide), fun _ => rfl⟩) dL_key_22
  · obtain ⟨hf9, hr9, hu9⟩ := hq
    subst hr9
    cases hu9
    refine lv_i2l hx hb dL_key_10 rfl ?_
    refine g_last hx hb hG hN rfl dL_key_11 (fun H locs hN => ?_)
    refine lv_goto (tgt := 23) hx hb dL_key_12 (by decide) ?_
    refine lv_iconst (v := 0) hx hb dL_key_23 (by decide) ?_
    exact g_ri hx hb hr hlocks hN (⟨hf9.symm, fun _ => rfl, fun z => absurd hf9 z⟩) dL_key_24
set_option maxHeartbeats 4000000 in
set_option maxRecDepth 100000 in
theorem c_L_job (l : Launch) {D : va_G} {ad : Nat → Nat} {cs : Nat → ClassId} {zd : Nat → Nat} {F V : gF} {o : gO} {sz : Nat} (n : Int32) (hl9 : l.stackTraces = false) : Met l yL_job wsL_job ({ frames := 8, cells := 2, slots := 12, locals := 133 } : Room) (gPc D ad cs zd F V o sz [.ref (ad 0), .int n]) (gQi D ad cs sz (fun r9 u9 => r9 = fJob V n ∧ (fJob V n = 0 → u9 = (cBeg F n.toNatClampNeg, gw (gw (gw V 33 3 n) 33 4 0) 33 5 n, o)) ∧ (fJob V n ≠ 0 → u9 = (F, V, o)))) 2 12 (gX ad sz) := by
  refine g_metW (Qc := fun z0 => gQi D ad cs z0 (fun r9 u9 => r9 = fJob V n ∧ (fJob V n = 0 → u9 = (cBeg F n.toNatClampNeg, gw (gw (gw V 33 3 n) 33 4 0) 33 5 n, o)) ∧ (fJob V n ≠ 0 → u9 = (F, V, o)))) (cc := cL_job) (maxL := 3) (ret := (some .int)) (hh := [(0, 5, 8, 15), (0, 5, 11, 21)]) (own := RL) (by decide +kernel) rfl rfl (Nat.le_of_ble_eq_true rfl) ?_
  intro p0 e0 s0 m0 b0 k0 c0 hx hb hr hts hown hlocks hml htab hG hN ls hl
  have hl : lv_has ls 3 [(0, .ref (ad 0)), (1, .int n)] := hl
  have hcl0 := hts (.classLink RL 15 gE1) (by decide +kernel)
  have hcl1 := hts (.classLink RL 21 gE2) (by decide +kernel)
  refine lv_aload_n hx hb dL_job_0 rfl (lv_at hl 0 rfl) ?_
  refine lv_iload_n hx hb dL_job_1 rfl (lv_at hl 1 rfl) ?_
  refine g_tVv (As := [.int n]) (rest := []) ⟨hx, hb, hml, hown, hts⟩ hG hN (i := 0) (by decide) rfl rfl (c_X9_job l hl9 n) (cwV 1 hts gL_job_X9_job rfl rfl rfl (by decide +kernel) ⟨Nat.le_of_ble_eq_true rfl, Nat.le_of_ble_eq_true rfl⟩) rfl hl.1 rfl (Nat.le_of_ble_eq_true rfl) dL_job_2 ⟨Nat.le_of_ble_eq_true rfl, Nat.le_of_ble_eq_true rfl⟩ (fun a ce q9 H locs hp9 hN hq9 hv9 hc9 => ?_) (fun Fq Vq oq H locs hq hN => ?_)
  · rcases hp9 with ⟨ea9, hf9⟩ | ⟨ea9, hf9⟩
    · subst ea9
      have hp8 : ∀ z9 ∈ ([] : List ExceptionTableEntry), covers z9 2 = false ∨ (z9.catchType ≠ 0 ∧ ∃ nm : String, (Cond.classLink RL z9.catchType nm).before ([.ref (ad 0), .int n] : List Value).toArray s0 = true ∧ va_Nc gE1 nm s0) := fun z hz => absurd hz List.not_mem_nil
      refine vx_catch (own := RL) (name := gE1) (E := gE1) hown [] (⟨0, 5, 8, 15⟩ : ExceptionTableEntry) [(⟨0, 5, 11, 21⟩ : ExceptionTableEntry)] (by rw [htab]; rfl) hp8 (by decide) (by decide) hcl0 (va_Nw.use rfl (hG.2.2.2.2.2.1 gE1 (by decide))) hq9 hv9 hc9 ?_
      refine lv_astore_n (lv' := [(2, .ref q9), (0, .ref (ad 0)), (1, .int n)]) hx hb dL_job_8 rfl hl (by decide) rfl (fun ls hl => ?_)
      refine lv_iconst (v := 1) hx hb dL_job_9 (by decide) ?_
      exact g_ri hx hb hr hlocks hN (⟨hf9.symm, fun z => absurd (hf9.symm.trans z) (by decide), fun _ => rfl⟩) dL_job_10
    · subst ea9
      have hp8 : ∀ z9 ∈ ([(⟨0, 5, 8, 15⟩ : ExceptionTableEntry)] : List ExceptionTableEntry), covers z9 2 = false ∨ (z9.catchType ≠ 0 ∧ ∃ nm : String, (Cond.classLink RL z9.catchType nm).before ([.ref (ad 0), .int n] : List Value).toArray s0 = true ∧ va_Nc gE2 nm s0) := fun z hz => by
        have hz2 := List.mem_singleton.mp hz
        subst hz2
        exact Or.inr ⟨by decide, gE1, hcl0, hG.2.2.2.2.2.2.1 gE2 (by decide) gE1 (by decide) (by decide)⟩
      refine vx_catch (own := RL) (name := gE2) (E := gE2) hown [(⟨0, 5, 8, 15⟩ : ExceptionTableEntry)] (⟨0, 5, 11, 21⟩ : ExceptionTableEntry) [] (by rw [htab]; rfl) hp8 (by decide) (by decide) hcl1 (va_Nw.use rfl (hG.2.2.2.2.2.1 gE2 (by decide))) hq9 hv9 hc9 ?_
      refine lv_astore_n (lv' := [(2, .ref q9), (0, .ref (ad 0)), (1, .int n)]) hx hb dL_job_11 rfl hl (by decide) rfl (fun ls hl => ?_)
      refine lv_iconst (v := 2) hx hb dL_job_12 (by decide) ?_
      exact g_ri hx hb hr hlocks hN (⟨hf9.symm, fun z => absurd (hf9.symm.trans z) (by decide), fun _ => rfl⟩) dL_job_13
  · obtain ⟨hf9, hu9⟩ := hq
    cases hu9
    refine lv_goto (tgt := 14) hx hb dL_job_5 (by decide) ?_
    refine lv_iconst (v := 0) hx hb dL_job_14 (by decide) ?_
    exact g_ri hx hb hr hlocks hN (⟨hf9.symm, fun _ => rfl, fun z => absurd hf9 z⟩) dL_job_15
set_option maxHeartbeats 4000000 in
set_option maxRecDepth 100000 in
theorem c_L_print (l : Launch) {D : va_G} {ad : Nat → Nat} {cs : Nat → ClassId} {zd : Nat → Nat} {F V : gF} {o : gO} {sz : Nat} (n : Int32) (hl9 : l.stackTraces = false) (b : Nat) (hok : cOK F V b) (hb9 : b + 100 ≤ 2 ^ 30) : Met l yL_print wsL_print ({ frames := 8, cells := 2, slots := 12, locals := 137 } : Room) (gPc D ad cs zd F V o sz [.ref (ad 0), .int n, .ref (ad 64)]) (gQi D ad cs sz (fun r9 u9 => r9 = fPri V n ∧ (fPri V n = 0 → u9 = ((xIt F V (cEven F) n.toNatClampNeg).1, (xIt F V (cEven F) n.toNatClampNeg).2.1, (fun _ => ((xIt F V (cEven F) n.toNatClampNeg).2.2).toInt64))) ∧ (fPri V n ≠ 0 → u9 = (F, V, o)))) 2 12 (gX ad sz) := by
  refine g_metW (Qc := fun z0 => gQi D ad cs z0 (fun r9 u9 => r9 = fPri V n ∧ (fPri V n = 0 → u9 = ((xIt F V (cEven F) n.toNatClampNeg).1, (xIt F V (cEven F) n.toNatClampNeg).2.1, (fun _ => ((xIt F V (cEven F) n.toNatClampNeg).2.2).toInt64))) ∧ (fPri V n ≠ 0 → u9 = (F, V, o)))) (cc := cL_print) (maxL := 4) (ret := (some .int)) (hh := [(0, 9, 12, 15), (0, 9, 15, 21)]) (own := RL) (by decide +kernel) rfl rfl (Nat.le_of_ble_eq_true rfl) ?_
  intro p0 e0 s0 m0 b0 k0 c0 hx hb hr hts hown hlocks hml htab hG hN ls hl
  have hl : lv_has ls 4 [(0, .ref (ad 0)), (1, .int n), (2, .ref (ad 64))] := hl
  have hcl0 := hts (.classLink RL 15 gE1) (by decide +kernel)
  have hcl1 := hts (.classLink RL 21 gE2) (by decide +kernel)
  refine lv_aload_n hx hb dL_print_0 rfl (lv_at hl 2 rfl) ?_
  refine lv_iconst (v := 0) hx hb dL_print_1 (by decide) ?_
  refine lv_aload_n hx hb dL_print_2 rfl (lv_at hl 0 rfl) ?_
  refine lv_iload_n hx hb dL_print_3 rfl (lv_at hl 1 rfl) ?_
  refine g_tVi (As := [.int n]) (rest := [.int 0, .ref (ad 64)]) ⟨hx, hb, hml, hown, hts⟩ hG hN (i := 0) (by decide) rfl rfl (c_X9_print l hl9 n b hok hb9) (cwV 1 hts gL_print_X9_print rfl rfl rfl (by decide +kernel) ⟨Nat.le_of_ble_eq_true rfl, Nat.le_of_ble_eq_true rfl⟩) rfl hl.1 rfl (Nat.le_of_ble_eq_true rfl) dL_print_4 ⟨Nat.le_of_ble_eq_true rfl, Nat.le_of_ble_eq_true rfl⟩ (fun a ce q9 H locs hp9 hN hq9 hv9 hc9 => ?_) (fun rq Fq Vq oq H locs hq hN => ?_)
  · rcases hp9 with ⟨ea9, hf9⟩ | ⟨ea9, hf9⟩
    · subst ea9
      have hp8 : ∀ z9 ∈ ([] : List ExceptionTableEntry), covers z9 4 = false ∨ (z9.catchType ≠ 0 ∧ ∃ nm : String, (Cond.classLink RL z9.catchType nm).before ([.ref (ad 0), .int n, .ref (ad 64)] : List Value).toArray s0 = true ∧ va_Nc gE1 nm s0) := fun z hz => absurd hz List.not_mem_nil
      refine vx_catch (own := RL) (name := gE1) (E := gE1) hown [] (⟨0, 9, 12, 15⟩ : ExceptionTableEntry) [(⟨0, 9, 15, 21⟩ : ExceptionTableEntry)] (by rw [htab]; rfl) hp8 (by decide) (by decide) hcl0 (va_Nw.use rfl (hG.2.2.2.2.2.1 gE1 (by decide))) hq9 hv9 hc9 ?_
      refine lv_astore_n (lv' := [(3, .ref q9), (0, .ref (ad 0)), (1, .int n), (2, .ref (ad 64))]) hx hb dL_print_12 rfl hl (by decide) rfl (fun ls hl => ?_)
      refine lv_iconst (v := 1) hx hb dL_print_13 (by decide) ?_
      exact g_ri hx hb hr hlocks hN (⟨hf9.symm, fun z => absurd (hf9.symm.trans z) (by decide), fun _ => rfl⟩) dL_print_14
    · subst ea9
      have hp8 : ∀ z9 ∈ ([(⟨0, 9, 12, 15⟩ : ExceptionTableEntry)] : List ExceptionTableEntry), covers z9 4 = false ∨ (z9.catchType ≠ 0 ∧ ∃ nm : String, (Cond.classLink RL z9.catchType nm).before ([.ref (ad 0), .int n, .ref (ad 64)] : List Value).toArray s0 = true ∧ va_Nc gE2 nm s0) := fun z hz => by
        have hz2 := List.mem_singleton.mp hz
        subst hz2
        exact Or.inr ⟨by decide, gE1, hcl0, hG.2.2.2.2.2.2.1 gE2 (by decide) gE1 (by decide) (by decide)⟩
      refine vx_catch (own := RL) (name := gE2) (E := gE2) hown [(⟨0, 9, 12, 15⟩ : ExceptionTableEntry)] (⟨0, 9, 15, 21⟩ : ExceptionTableEntry) [] (by rw [htab]; rfl) hp8 (by decide) (by decide) hcl1 (va_Nw.use rfl (hG.2.2.2.2.2.1 gE2 (by decide))) hq9 hv9 hc9 ?_
      refine lv_astore_n (lv' := [(3, .ref q9), (0, .ref (ad 0)), (1, .int n), (2, .ref (ad 64))]) hx hb dL_print_15 rfl hl (by decide) rfl (fun ls hl => ?_)
      refine lv_iconst (v := 2) hx hb dL_print_16 (by decide) ?_
      exact g_ri hx hb hr hlocks hN (⟨hf9.symm, fun z => absurd (hf9.symm.trans z) (by decide), fun _ => rfl⟩) dL_print_17
  · obtain ⟨hf9, hr9, hu9⟩ := hq
    subst hr9
    cases hu9
    refine lv_i2l hx hb dL_print_7 rfl ?_
    refine g_last hx hb hG hN rfl dL_print_8 (fun H locs hN => ?_)
    refine lv_goto (tgt := 18) hx hb dL_print_9 (by decide) ?_
    refine lv_iconst (v := 0) hx hb dL_print_18 (by decide) ?_
    exact g_ri hx hb hr hlocks hN (⟨hf9.symm, fun _ => rfl, fun z => absurd hf9 z⟩) dL_print_19
set_option maxHeartbeats 4000000 in
set_option maxRecDepth 100000 in
theorem c_L_differs (l : Launch) {D : va_G} {ad : Nat → Nat} {cs : Nat → ClassId} {zd : Nat → Nat} {F V : gF} {o : gO} {sz : Nat} (c : Int32) (hl9 : l.stackTraces = false) (hz37 : narrow .boolean (.int (V 37 1)) = .int (V 37 1)) : Met l yL_differs wsL_differs ({ frames := 8, cells := 2, slots := 12, locals := 132 } : Room) (gPc D ad cs zd F V o sz [.ref (ad 0), .int c, .ref (ad 64)]) (gQi D ad cs sz (fun r9 u9 => r9 = fDif V c ∧ (fDif V c = 0 → u9 = (F, V, (fun _ => (cDif F c.toNatClampNeg 4).toInt64))) ∧ (fDif V c ≠ 0 → u9 = (F, V, o)))) 2 12 (gX ad sz) := by
  refine g_metW (Qc := fun z0 => gQi D ad cs z0 (fun r9 u9 => r9 = fDif V c ∧ (fDif V c = 0 → u9 = (F, V, (fun _ => (cDif F c.toNatClampNeg 4).toInt64))) ∧ (fDif V c ≠ 0 → u9 = (F, V, o)))) (cc := cL_differs) (maxL := 4) (ret := (some .int)) (hh := [(0, 9, 12, 13), (0, 9, 15, 21)]) (own := RL) (by decide +kernel) rfl rfl (Nat.le_of_ble_eq_true rfl) ?_
  intro p0 e0 s0 m0 b0 k0 c0 hx hb hr hts hown hlocks hml htab hG hN ls hl
  have hl : lv_has ls 4 [(0, .ref (ad 0)), (1, .int c), (2, .ref (ad 64))] := hl
  have hcl0 := hts (.classLink RL 13 gE0) (by decide +kernel)
  have hcl1 := hts (.classLink RL 21 gE2) (by decide +kernel)
  refine lv_aload_n hx hb dL_differs_0 rfl (lv_at hl 2 rfl) ?_
  refine lv_iconst (v := 0) hx hb dL_differs_1 (by decide) ?_
  refine lv_aload_n hx hb dL_differs_2 rfl (lv_at hl 0 rfl) ?_
  refine lv_iload_n hx hb dL_differs_3 rfl (lv_at hl 1 rfl) ?_
  refine g_tVi (As := [.int c]) (rest := [.int 0, .ref (ad 64)]) ⟨hx, hb, hml, hown, hts⟩ hG hN (i := 0) (by decide) rfl rfl (c_X9_differs l hl9 c hz37) (cwV 1 hts gL_differs_X9_differs rfl rfl rfl (by decide +kernel) ⟨Nat.le_of_ble_eq_true rfl, Nat.le_of_ble_eq_true rfl⟩) rfl hl.1 rfl (Nat.le_of_ble_eq_true rfl) dL_differs_4 ⟨Nat.le_of_ble_eq_true rfl, Nat.le_of_ble_eq_true rfl⟩ (fun a ce q9 H locs hp9 hN hq9 hv9 hc9 => ?_) (fun rq Fq Vq oq H locs hq hN => ?_)
  · rcases hp9 with ⟨ea9, hf9⟩ | ⟨ea9, hf9⟩
    · subst ea9
      have hp8 : ∀ z9 ∈ ([] : List ExceptionTableEntry), covers z9 4 = false ∨ (z9.catchType ≠ 0 ∧ ∃ nm : String, (Cond.classLink RL z9.catchType nm).before ([.ref (ad 0), .int c, .ref (ad 64)] : List Value).toArray s0 = true ∧ va_Nc gE0 nm s0) := fun z hz => absurd hz List.not_mem_nil
      refine vx_catch (own := RL) (name := gE0) (E := gE0) hown [] (⟨0, 9, 12, 13⟩ : ExceptionTableEntry) [(⟨0, 9, 15, 21⟩ : ExceptionTableEntry)] (by rw [htab]; rfl) hp8 (by decide) (by decide) hcl0 (va_Nw.use rfl (hG.2.2.2.2.2.1 gE0 (by decide))) hq9 hv9 hc9 ?_
      refine lv_astore_n (lv' := [(3, .ref q9), (0, .ref (ad 0)), (1, .int c), (2, .ref (ad 64))]) hx hb dL_differs_12 rfl hl (by decide) rfl (fun ls hl => ?_)
      refine lv_iconst (v := 1) hx hb dL_differs_13 (by decide) ?_
      exact g_ri hx hb hr hlocks hN (⟨hf9.symm, fun z => absurd (hf9.symm.trans z) (by decide), fun _ => rfl⟩) dL_differs_14
    · subst ea9
      have hp8 : ∀ z9 ∈ ([(⟨0, 9, 12, 13⟩ : ExceptionTableEntry)] : List ExceptionTableEntry), covers z9 4 = false ∨ (z9.catchType ≠ 0 ∧ ∃ nm : String, (Cond.classLink RL z9.catchType nm).before ([.ref (ad 0), .int c, .ref (ad 64)] : List Value).toArray s0 = true ∧ va_Nc gE2 nm s0) := fun z hz => by
        have hz2 := List.mem_singleton.mp hz
        subst hz2
        exact Or.inr ⟨by decide, gE0, hcl0, hG.2.2.2.2.2.2.1 gE2 (by decide) gE0 (by decide) (by decide)⟩
      refine vx_catch (own := RL) (name := gE2) (E := gE2) hown [(⟨0, 9, 12, 13⟩ : ExceptionTableEntry)] (⟨0, 9, 15, 21⟩ : ExceptionTableEntry) [] (by rw [htab]; rfl) hp8 (by decide) (by decide) hcl1 (va_Nw.use rfl (hG.2.2.2.2.2.1 gE2 (by decide))) hq9 hv9 hc9 ?_
      refine lv_astore_n (lv' := [(3, .ref q9), (0, .ref (ad 0)), (1, .int c), (2, .ref (ad 64))]) hx hb dL_differs_15 rfl hl (by decide) rfl (fun ls hl => ?_)
      refine lv_iconst (v := 2) hx hb dL_differs_16 (by decide) ?_
      exact g_ri hx hb hr hlocks hN (⟨hf9.symm, fun z => absurd (hf9.symm.trans z) (by decide), fun _ => rfl⟩) dL_differs_17
  · obtain ⟨hf9, hr9, hu9⟩ := hq
    subst hr9
    cases hu9
    refine lv_i2l hx hb dL_differs_7 rfl ?_
    refine g_last hx hb hG hN rfl dL_differs_8 (fun H locs hN => ?_)
    refine lv_goto (tgt := 18) hx hb dL_differs_9 (by decide) ?_
    refine lv_iconst (v := 0) hx hb dL_differs_18 (by decide) ?_
    exact g_ri hx hb hr hlocks hN (⟨hf9.symm, fun _ => rfl, fun z => absurd hf9 z⟩) dL_differs_19
set_option maxHeartbeats 4000000 in
set_option maxRecDepth 100000 in
theorem c_L_claim (l : Launch) {D : va_G} {ad : Nat → Nat} {cs : Nat → ClassId} {zd : Nat → Nat} {F V : gF} {o : gO} {sz : Nat} (c : Int32) (hl9 : l.stackTraces = false) (hz37 : narrow .boolean (.int (V 37 1)) = .int (V 37 1)) : Met l yL_claim wsL_claim ({ frames := 8, cells := 2, slots := 12, locals := 132 } : Room) (gPc D ad cs zd F V o sz [.ref (ad 0), .int c, .ref (ad 64)]) (gQi D ad cs sz (fun r9 u9 => r9 = fDif V c ∧ (fDif V c = 0 → u9 = (F, V, (fun _ => (if 5 < cDif F c.toNatClampNeg 4 then 1 else 0)))) ∧ (fDif V c ≠ 0 → u9 = (F, V, o)))) 2 12 (gX ad sz) := by
  refine g_metW (Qc := fun z0 => gQi D ad cs z0 (fun r9 u9 => r9 = fDif V c ∧ (fDif V c = 0 → u9 = (F, V, (fun _ => (if 5 < cDif F c.toNatClampNeg 4 then 1 else 0)))) ∧ (fDif V c ≠ 0 → u9 = (F, V, o)))) (cc := cL_claim) (maxL := 4) (ret := (some .int)) (hh := [(0, 16, 19, 13), (0, 16, 22, 21)]) (own := RL) (by decide +kernel) rfl rfl (Nat.le_of_ble_eq_true rfl) ?_
  intro p0 e0 s0 m0 b0 k0 c0 hx hb hr hts hown hlocks hml htab hG hN ls hl
  have hl : lv_has ls 4 [(0, .ref (ad 0)), (1, .int c), (2, .ref (ad 64))] := hl
  have hcl0 := hts (.classLink RL 13 gE0) (by decide +kernel)
  have hcl1 := hts (.classLink RL 21 gE2) (by decide +kernel)
  refine lv_aload_n hx hb dL_claim_0 rfl (lv_at hl 2 rfl) ?_
  refine lv_iconst (v := 0) hx hb dL_claim_1 (by decide) ?_
  refine lv_aload_n hx hb dL_claim_2 rfl (lv_at hl 0 rfl) ?_
  refine lv_iload_n hx hb dL_claim_3 rfl (lv_at hl 1 rfl) ?_
  refine g_tVi (As := [.int c]) (rest := [.int 0, .ref (ad 64)]) ⟨hx, hb, hml, hown, hts⟩ hG hN (i := 0) (by decide) rfl rfl (c_X9_claim l hl9 c hz37) (cwV 1 hts gL_claim_X9_claim rfl rfl rfl (by decide +kernel) ⟨Nat.le_of_ble_eq_true rfl, Nat.le_of_ble_eq_true rfl⟩) rfl hl.1 rfl (Nat.le_of_ble_eq_true rfl) dL_claim_4 ⟨Nat.le_of_ble_eq_true rfl, Nat.le_of_ble_eq_true rfl⟩ (fun a ce q9 H locs hp9 hN hq9 hv9 hc9 => ?_) (fun rq Fq Vq oq H locs hq hN => ?_)
  · rcases hp9 with ⟨ea9, hf9⟩ | ⟨ea9, hf9⟩
    · subst ea9
      have hp8 : ∀ z9 ∈ ([] : List ExceptionTableEntry), covers z9 4 = false ∨ (z9.catchType ≠ 0 ∧ ∃ nm : String, (Cond.classLink RL z9.catchType nm).before ([.ref (ad 0), .int c, .ref (ad 64)] : List Value).toArray s0 = true ∧ va_Nc gE0 nm s0) := fun z hz => absurd hz List.not_mem_nil
      refine vx_catch (own := RL) (name := gE0) (E := gE0) hown [] (⟨0, 16, 19, 13⟩ : ExceptionTableEntry) [(⟨0, 16, 22, 21⟩ : ExceptionTableEntry)] (by rw [htab]; rfl) hp8 (by decide) (by decide) hcl0 (va_Nw.use rfl (hG.2.2.2.2.2.1 gE0 (by decide))) hq9 hv9 hc9 ?_
      refine lv_astore_n (lv' := [(3, .ref q9), (0, .ref (ad 0)), (1, .int c), (2, .ref (ad 64))]) hx hb dL_claim_19 rfl hl (by decide) rfl (fun ls hl => ?_)
      refine lv_iconst (v := 1) hx hb dL_claim_20 (by decide) ?_
      exact g_ri hx hb hr hlocks hN (⟨hf9.symm, fun z => absurd (hf9.symm.trans z) (by decide), fun _ => rfl⟩) dL_claim_21
    · subst ea9
      have hp8 : ∀ z9 ∈ ([(⟨0, 16, 19, 13⟩ : ExceptionTableEntry)] : List ExceptionTableEntry), covers z9 4 = false ∨ (z9.catchType ≠ 0 ∧ ∃ nm : String, (Cond.classLink RL z9.catchType nm).before ([.ref (ad 0), .int c, .ref (ad 64)] : List Value).toArray s0 = true ∧ va_Nc gE2 nm s0) := fun z hz => by
        have hz2 := List.mem_singleton.mp hz
        subst hz2
        exact Or.inr ⟨by decide, gE0, hcl0, hG.2.2.2.2.2.2.1 gE2 (by decide) gE0 (by decide) (by decide)⟩
      refine vx_catch (own := RL) (name := gE2) (E := gE2) hown [(⟨0, 16, 19, 13⟩ : ExceptionTableEntry)] (⟨0, 16, 22, 21⟩ : ExceptionTableEntry) [] (by rw [htab]; rfl) hp8 (by decide) (by decide) hcl1 (va_Nw.use rfl (hG.2.2.2.2.2.1 gE2 (by decide))) hq9 hv9 hc9 ?_
      refine lv_astore_n (lv' := [(3, .ref q9), (0, .ref (ad 0)), (1, .int c), (2, .ref (ad 64))]) hx hb dL_claim_22 rfl hl (by decide) rfl (fun ls hl => ?_)
      refine lv_iconst (v := 2) hx hb dL_claim_23 (by decide) ?_
      exact g_ri hx hb hr hlocks hN (⟨hf9.symm, fun z => absurd (hf9.symm.trans z) (by decide), fun _ => rfl⟩) dL_claim_24
  · obtain ⟨hf9, hr9, hu9⟩ := hq
    subst hr9
    cases hu9
    refine g_ifb_eq (5 < cDif F c.toNatClampNeg 4) (tgt := 14) hx hb dL_claim_7 (by decide) rfl (fun c1 => ?_) (fun c1 => ?_)
    · refine lv_lconst (v := 0) hx hb dL_claim_14 (by decide) ?_
      refine g_last hx hb hG hN rfl dL_claim_15 (fun H locs hN => ?_)
      refine lv_goto (tgt := 25) hx hb dL_claim_16 (by decide) ?_
      refine lv_iconst (v := 0) hx hb dL_claim_25 (by decide) ?_
      exact g_ri hx hb hr hlocks hN (⟨hf9.symm, fun _ => by simp [c1], fun z => absurd hf9 z⟩) dL_claim_26
    · refine lv_lconst (v := 1) hx hb dL_claim_10 (by decide) ?_
      refine lv_goto (tgt := 15) hx hb dL_claim_11 (by decide) ?_
      refine g_last hx hb hG hN rfl dL_claim_15 (fun H locs hN => ?_)
      refine lv_goto (tgt := 25) hx hb dL_claim_16 (by decide) ?_
      refine lv_iconst (v := 0) hx hb dL_claim_25 (by decide) ?_
      exact g_ri hx hb hr hlocks hN (⟨hf9.symm, fun _ => by simp [c1], fun z => absurd hf9 z⟩) dL_claim_26
set_option maxHeartbeats 4000000 in
set_option maxRecDepth 100000 in
theorem c_L_ink (l : Launch) {D : va_G} {ad : Nat → Nat} {cs : Nat → ClassId} {zd : Nat → Nat} {F V : gF} {o : gO} {sz : Nat} (c k w : Int32) (hl9 : l.stackTraces = false) (hz : narrow .boolean (.int (V 1 2)) = .int (V 1 2)) : Met l yL_ink wsL_ink ({ frames := 8, cells := 3, slots := 18, locals := 134 } : Room) (gPc D ad cs zd F V o sz [.ref (ad 0), .int c, .int k, .int w, .ref (ad 64)]) (gQi D ad cs sz (fun r9 u9 => r9 = fInk c k w ∧ (fInk c k w = 0 → u9 = (F, V, (fun _ => (rInk F V (c.toNatClampNeg) (k.toNatClampNeg) w).toInt64))) ∧ (fInk c k w ≠ 0 → u9 = (F, V, o)))) 3 18 (gX ad sz) := by
  refine g_metW (Qc := fun z0 => gQi D ad cs z0 (fun r9 u9 => r9 = fInk c k w ∧ (fInk c k w = 0 → u9 = (F, V, (fun _ => (rInk F V (c.toNatClampNeg) (k.toNatClampNeg) w).toInt64))) ∧ (fInk c k w ≠ 0 → u9 = (F, V, o)))) (cc := cL_ink) (maxL := 6) (ret := (some .int)) (hh := [(0, 12, 15, 13), (0, 12, 19, 15)]) (own := RL) (by decide +kernel) rfl rfl (Nat.le_of_ble_eq_true rfl) ?_
  intro p0 e0 s0 m0 b0 k0 c0 hx hb hr hts hown hlocks hml htab hG hN ls hl
  have hl : lv_has ls 6 [(0, .ref (ad 0)), (1, .int c), (2, .int k), (3, .int w), (4, .ref (ad 64))] := hl
  have hcl0 := hts (.classLink RL 13 gE0) (by decide +kernel)
  have hcl1 := hts (.classLink RL 15 gE1) (by decide +kernel)
  refine lv_aload hx hb dL_ink_0 (lv_at hl 4 rfl) ?_
  refine lv_iconst (v := 0) hx hb dL_ink_2 (by decide) ?_
  refine lv_aload_n hx hb dL_ink_3 rfl (lv_at hl 0 rfl) ?_
  refine lv_iload_n hx hb dL_ink_4 rfl (lv_at hl 1 rfl) ?_
  refine lv_iload_n hx hb dL_ink_5 rfl (lv_at hl 2 rfl) ?_
  refine lv_iload_n hx hb dL_ink_6 rfl (lv_at hl 3 rfl) ?_
  refine g_tVi (As := [.int c, .int k, .int w]) (rest := [.int 0, .ref (ad 64)]) ⟨hx, hb, hml, hown, hts⟩ hG hN (i := 0) (by decide) rfl rfl (c_X9_ink l hl9 c k w hz) (cwV 3 hts gL_ink_X9_ink rfl rfl rfl (by decide +kernel) ⟨Nat.le_of_ble_eq_true rfl, Nat.le_of_ble_eq_true rfl⟩) rfl hl.1 rfl (Nat.le_of_ble_eq_true rfl) dL_ink_7 ⟨Nat.le_of_ble_eq_true rfl, Nat.le_of_ble_eq_true rfl⟩ (fun a ce q9 H locs hp9 hN hq9 hv9 hc9 => ?_) (fun rq Fq Vq oq H locs hq hN => ?_)
  · rcases hp9 with ⟨ea9, hf9⟩ | ⟨ea9, hf9⟩
    · subst ea9
      have hp8 : ∀ z9 ∈ ([] : List ExceptionTableEntry), covers z9 7 = false ∨ (z9.catchType ≠ 0 ∧ ∃ nm : String, (Cond.classLink RL z9.catchType nm).before ([.ref (ad 0), .int c, .int k, .int w, .ref (ad 64)] : List Value).toArray s0 = true ∧ va_Nc gE0 nm s0) := fun z hz => absurd hz List.not_mem_nil
      refine vx_catch (own := RL) (name := gE0) (E := gE0) hown [] (⟨0, 12, 15, 13⟩ : ExceptionTableEntry) [(⟨0, 12, 19, 15⟩ : ExceptionTableEntry)] (by rw [htab]; rfl) hp8 (by decide) (by decide) hcl0 (va_Nw.use rfl (hG.2.2.2.2.2.1 gE0 (by decide))) hq9 hv9 hc9 ?_
      refine lv_astore (lv' := [(5, .ref q9), (0, .ref (ad 0)), (1, .int c), (2, .int k), (3, .int w), (4, .ref (ad 64))]) hx hb dL_ink_15 hl (by decide) rfl (fun ls hl => ?_)
      refine lv_iconst (v := 1) hx hb dL_ink_17 (by decide) ?_
      exact g_ri hx hb hr hlocks hN (⟨hf9.symm, fun z => absurd (hf9.symm.trans z) (by decide), fun _ => rfl⟩) dL_ink_18
    · subst ea9
      have hp8 : ∀ z9 ∈ ([(⟨0, 12, 15, 13⟩ : ExceptionTableEntry)] : List ExceptionTableEntry), covers z9 7 = false ∨ (z9.catchType ≠ 0 ∧ ∃ nm : String, (Cond.classLink RL z9.catchType nm).before ([.ref (ad 0), .int c, .int k, .int w, .ref (ad 64)] : List Value).toArray s0 = true ∧ va_Nc gE1 nm s0) := fun z hz => by
        have hz2 := List.mem_singleton.mp hz
        subst hz2
        exact Or.inr ⟨by decide, gE0, hcl0, hG.2.2.2.2.2.2.1 gE1 (by decide) gE0 (by decide) (by decide)⟩
      refine vx_catch (own := RL) (name := gE1) (E := gE1) hown [(⟨0, 12, 15, 13⟩ : ExceptionTableEntry)] (⟨0, 12, 19, 15⟩ : ExceptionTableEntry) [] (by rw [htab]; rfl) hp8 (by decide) (by decide) hcl1 (va_Nw.use rfl (hG.2.2.2.2.2.1 gE1 (by decide))) hq9 hv9 hc9 ?_
      refine lv_astore (lv' := [(5, .ref q9), (0, .ref (ad 0)), (1, .int c), (2, .int k), (3, .int w), (4, .ref (ad 64))]) hx hb dL_ink_19 hl (by decide) rfl (fun ls hl => ?_)
      refine lv_iconst (v := 2) hx hb dL_ink_21 (by decide) ?_
      exact g_ri hx hb hr hlocks hN (⟨hf9.symm, fun z => absurd (hf9.symm.trans z) (by decide), fun _ => rfl⟩) dL_ink_22
  · obtain ⟨hf9, hr9, hu9⟩ := hq
    subst hr9
    cases hu9
    refine lv_i2l hx hb dL_ink_10 rfl ?_
    refine g_last hx hb hG hN rfl dL_ink_11 (fun H locs hN => ?_)
    refine lv_goto (tgt := 23) hx hb dL_ink_12 (by decide) ?_
    refine lv_iconst (v := 0) hx hb dL_ink_23 (by decide) ?_
    exact g_ri hx hb hr hlocks hN (⟨hf9.symm, fun _ => rfl, fun z => absurd hf9 z⟩) dL_ink_24
set_option maxHeartbeats 4000000 in
set_option maxRecDepth 100000 in
theorem c_L_dot (l : Launch) {D : va_G} {ad : Nat → Nat} {cs : Nat → ClassId} {zd : Nat → Nat} {F V : gF} {o : gO} {sz : Nat} (c k : Int32) (hl9 : l.stackTraces = false) : Met l yL_dot wsL_dot ({ frames := 8, cells := 2, slots := 12, locals := 133 } : Room) (gPc D ad cs zd F V o sz [.ref (ad 0), .int c, .int k, .ref (ad 64)]) (gQi D ad cs sz (fun r9 u9 => r9 = fDot c k ∧ (fDot c k = 0 → u9 = (F, V, (fun _ => (if (cDot1 F (k.toNatClampNeg) (c.toNatClampNeg - c.toNatClampNeg % 8) (c.toNatClampNeg % 8 + 1)).2 = true then 1 else 0)))) ∧ (fDot c k ≠ 0 → u9 = (F, V, o)))) 2 12 (gX ad sz) := by
  refine g_metW (Qc := fun z0 => gQi D ad cs z0 (fun r9 u9 => r9 = fDot c k ∧ (fDot c k = 0 → u9 = (F, V, (fun _ => (if (cDot1 F (k.toNatClampNeg) (c.toNatClampNeg - c.toNatClampNeg % 8) (c.toNatClampNeg % 8 + 1)).2 = true then 1 else 0)))) ∧ (fDot c k ≠ 0 → u9 = (F, V, o)))) (cc := cL_dot) (maxL := 5) (ret := (some .int)) (hh := [(0, 17, 20, 13)]) (own := RL) (by decide +kernel) rfl rfl (Nat.le_of_ble_eq_true rfl) ?_
  intro p0 e0 s0 m0 b0 k0 c0 hx hb hr hts hown hlocks hml htab hG hN ls hl
  have hl : lv_has ls 5 [(0, .ref (ad 0)), (1, .int c), (2, .int k), (3, .ref (ad 64))] := hl
  have hcl0 := hts (.classLink RL 13 gE0) (by decide +kernel)
  refine lv_aload_n hx hb dL_dot_0 rfl (lv_at hl 3 rfl) ?_
  refine lv_iconst (v := 0) hx hb dL_dot_1 (by decide) ?_
  refine lv_aload_n hx hb dL_dot_2 rfl (lv_at hl 0 rfl) ?_
  refine lv_iload_n hx hb dL_dot_3 rfl (lv_at hl 1 rfl) ?_
  refine lv_iload_n hx hb dL_dot_4 rfl (lv_at hl 2 rfl) ?_
  refine g_tVi (As := [.int c, .int k]) (rest := [.int 0, .ref (ad 64)]) ⟨hx, hb, hml, hown, hts⟩ hG hN (i := 0) (by decide) rfl rfl (c_X9_dot l hl9 c k) (cwV 2 hts gL_dot_X9_dot rfl rfl rfl (by decide +kernel) ⟨Nat.le_of_ble_eq_true rfl, Nat.le_of_ble_eq_true rfl⟩) rfl hl.1 rfl (Nat.le_of_ble_eq_true rfl) dL_dot_5 ⟨Nat.le_of_ble_eq_true rfl, Nat.le_of_ble_eq_true rfl⟩ (fun a ce q9 H locs hp9 hN hq9 hv9 hc9 => ?_) (fun rq Fq Vq oq H locs hq hN => ?_)
  · rcases hp9 with ⟨ea9, hf9⟩
    · subst ea9
      have hp8 : ∀ z9 ∈ ([] : List ExceptionTableEntry), covers z9 5 = false ∨ (z9.catchType ≠ 0 ∧ ∃ nm : String, (Cond.classLink RL z9.catchType nm).before ([.ref (ad 0), .int c, .int k, .ref (ad 64)] : List Value).toArray s0 = true ∧ va_Nc gE0 nm s0) := fun z hz => absurd hz List.not_mem_nil
      refine vx_catch (own := RL) (name := gE0) (E := gE0) hown [] (⟨0, 17, 20, 13⟩ : ExceptionTableEntry) [] (by rw [htab]; rfl) hp8 (by decide) (by decide) hcl0 (va_Nw.use rfl (hG.2.2.2.2.2.1 gE0 (by decide))) hq9 hv9 hc9 ?_
      refine lv_astore (lv' := [(4, .ref q9), (0, .ref (ad 0)), (1, .int c), (2, .int k), (3, .ref (ad 64))]) hx hb dL_dot_20 hl (by decide) rfl (fun ls hl => ?_)
      refine lv_iconst (v := 1) hx hb dL_dot_22 (by decide) ?_
      exact g_ri hx hb hr hlocks hN (⟨hf9.symm, fun z => absurd (hf9.symm.trans z) (by decide), fun _ => rfl⟩) dL_dot_23
  · obtain ⟨hf9, hr9, hu9⟩ := hq
    subst hr9
    cases hu9
    refine g_ifb_eq ((cDot1 F (k.toNatClampNeg) (c.toNatClampNeg - c.toNatClampNeg % 8) (c.toNatClampNeg % 8 + 1)).2 = true) (tgt := 15) hx hb dL_dot_8 (by decide) rfl (fun c1 => ?_) (fun c1 => ?_)
    · refine lv_lconst (v := 0) hx hb dL_dot_15 (by decide) ?_
      refine g_last hx hb hG hN rfl dL_dot_16 (fun H locs hN => ?_)
      refine lv_goto (tgt := 24) hx hb dL_dot_17 (by decide) ?_
      refine lv_iconst (v := 0) hx hb dL_dot_24 (by decide) ?_
      exact g_ri hx hb hr hlocks hN (⟨hf9.symm, fun _ => by simp [c1], fun z => absurd hf9 z⟩) dL_dot_25
    · refine lv_lconst (v := 1) hx hb dL_dot_11 (by decide) ?_
      refine lv_goto (tgt := 16) hx hb dL_dot_12 (by decide) ?_
      refine g_last hx hb hG hN rfl dL_dot_16 (fun H locs hN => ?_)
      refine lv_goto (tgt := 24) hx hb dL_dot_17 (by decide) ?_
      refine lv_iconst (v := 0) hx hb dL_dot_24 (by decide) ?_
      exact g_ri hx hb hr hlocks hN (⟨hf9.symm, fun _ => by simp [c1], fun z => absurd hf9 z⟩) dL_dot_25
set_option maxHeartbeats 4000000 in
set_option maxRecDepth 100000 in
theorem c_L_unit (l : Launch) {D : va_G} {ad : Nat → Nat} {cs : Nat → ClassId} {zd : Nat → Nat} {F V : gF} {o : gO} {sz : Nat} (u w : Int32) (hl9 : l.stackTraces = false) : Met l yL_unit wsL_unit ({ frames := 8, cells := 2, slots := 12, locals := 134 } : Room) (gPc D ad cs zd F V o sz [.ref (ad 0), .int u, .int w, .ref (ad 64)]) (gQi D ad cs sz (fun r9 u9 => r9 = fUni u w ∧ (fUni u w = 0 → u9 = (F, V, (fun _ => (rUni F (u.toNatClampNeg) (w.toNatClampNeg)).toInt64))) ∧ (fUni u w ≠ 0 → u9 = (F, V, o)))) 2 12 (gX ad sz) := by
  refine g_metW (Qc := fun z0 => gQi D ad cs z0 (fun r9 u9 => r9 = fUni u w ∧ (fUni u w = 0 → u9 = (F, V, (fun _ => (rUni F (u.toNatClampNeg) (w.toNatClampNeg)).toInt64))) ∧ (fUni u w ≠ 0 → u9 = (F, V, o)))) (cc := cL_unit) (maxL := 5) (ret := (some .int)) (hh := [(0, 10, 13, 13), (0, 10, 17, 15)]) (own := RL) (by decide +kernel) rfl rfl (Nat.le_of_ble_eq_true rfl) ?_
  intro p0 e0 s0 m0 b0 k0 c0 hx hb hr hts hown hlocks hml htab hG hN ls hl
  have hl : lv_has ls 5 [(0, .ref (ad 0)), (1, .int u), (2, .int w), (3, .ref (ad 64))] := hl
  have hcl0 := hts (.classLink RL 13 gE0) (by decide +kernel)
  have hcl1 := hts (.classLink RL 15 gE1) (by decide +kernel)
  refine lv_aload_n hx hb dL_unit_0 rfl (lv_at hl 3 rfl) ?_
  refine lv_iconst (v := 0) hx hb dL_unit_1 (by decide) ?_
  refine lv_aload_n hx hb dL_unit_2 rfl (lv_at hl 0 rfl) ?_
  refine lv_iload_n hx hb dL_unit_3 rfl (lv_at hl 1 rfl) ?_
  refine lv_iload_n hx hb dL_unit_4 rfl (lv_at hl 2 rfl) ?_
  refine g_tVi (As := [.int u, .int w]) (rest := [.int 0, .ref (ad 64)]) ⟨hx, hb, hml, hown, hts⟩ hG hN (i := 0) (by decide) rfl rfl (c_X9_unit l hl9 u w) (cwV 2 hts gL_unit_X9_unit rfl rfl rfl (by decide +kernel) ⟨Nat.le_of_ble_eq_true rfl, Nat.le_of_ble_eq_true rfl⟩) rfl hl.1 rfl (Nat.le_of_ble_eq_true rfl) dL_unit_5 ⟨Nat.le_of_ble_eq_true rfl, Nat.le_of_ble_eq_true rfl⟩ (fun a ce q9 H locs hp9 hN hq9 hv9 hc9 => ?_) (fun rq Fq Vq oq H locs hq hN => ?_)
  · rcases hp9 with ⟨ea9, hf9⟩ | ⟨ea9, hf9⟩
    · subst ea9
      have hp8 : ∀ z9 ∈ ([] : List ExceptionTableEntry), covers z9 5 = false ∨ (z9.catchType ≠ 0 ∧ ∃ nm : String, (Cond.classLink RL z9.catchType nm).before ([.ref (ad 0), .int u, .int w, .ref (ad 64)] : List Value).toArray s0 = true ∧ va_Nc gE0 nm s0) := fun z hz => absurd hz List.not_mem_nil
      refine vx_catch (own := RL) (name := gE0) (E := gE0) hown [] (⟨0, 10, 13, 13⟩ : ExceptionTableEntry) [(⟨0, 10, 17, 15⟩ : ExceptionTableEntry)] (by rw [htab]; rfl) hp8 (by decide) (by decide) hcl0 (va_Nw.use rfl (hG.2.2.2.2.2.1 gE0 (by decide))) hq9 hv9 hc9 ?_
      refine lv_astore (lv' := [(4, .ref q9), (0, .ref (ad 0)), (1, .int u), (2, .int w), (3, .ref (ad 64))]) hx hb dL_unit_13 hl (by decide) rfl (fun ls hl => ?_)
      refine lv_iconst (v := 1) hx hb dL_unit_15 (by decide) ?_
      exact g_ri hx hb hr hlocks hN (⟨hf9.symm, fun z => absurd (hf9.symm.trans z) (by decide), fun _ => rfl⟩) dL_unit_16
    · subst ea9
      have hp8 : ∀ z9 ∈ ([(⟨0, 10, 13, 13⟩ : ExceptionTableEntry)] : List ExceptionTableEntry), covers z9 5 = false ∨ (z9.catchType ≠ 0 ∧ ∃ nm : String, (Cond.classLink RL z9.catchType nm).before ([.ref (ad 0), .int u, .int w, .ref (ad 64)] : List Value).toArray s0 = true ∧ va_Nc gE1 nm s0) := fun z hz => by
        have hz2 := List.mem_singleton.mp hz
        subst hz2
        exact Or.inr ⟨by decide, gE0, hcl0, hG.2.2.2.2.2.2.1 gE1 (by decide) gE0 (by decide) (by decide)⟩
      refine vx_catch (own := RL) (name := gE1) (E := gE1) hown [(⟨0, 10, 13, 13⟩ : ExceptionTableEntry)] (⟨0, 10, 17, 15⟩ : ExceptionTableEntry) [] (by rw [htab]; rfl) hp8 (by decide) (by decide) hcl1 (va_Nw.use rfl (hG.2.2.2.2.2.1 gE1 (by decide))) hq9 hv9 hc9 ?_
      refine lv_astore (lv' := [(4, .ref q9), (0, .ref (ad 0)), (1, .int u), (2, .int w), (3, .ref (ad 64))]) hx hb dL_unit_17 hl (by decide) rfl (fun ls hl => ?_)
      refine lv_iconst (v := 2) hx hb dL_unit_19 (by decide) ?_
      exact g_ri hx hb hr hlocks hN (⟨hf9.symm, fun z => absurd (hf9.symm.trans z) (by decide), fun _ => rfl⟩) dL_unit_20
  · obtain ⟨hf9, hr9, hu9⟩ := hq
    subst hr9
    cases hu9
    refine lv_i2l hx hb dL_unit_8 rfl ?_
    refine g_last hx hb hG hN rfl dL_unit_9 (fun H locs hN => ?_)
    refine lv_goto (tgt := 21) hx hb dL_unit_10 (by decide) ?_
    refine lv_iconst (v := 0) hx hb dL_unit_21 (by decide) ?_
    exact g_ri hx hb hr hlocks hN (⟨hf9.symm, fun _ => rfl, fun z => absurd hf9 z⟩) dL_unit_22
set_option maxHeartbeats 4000000 in
set_option maxRecDepth 100000 in
theorem c_L_copy (l : Launch) {D : va_G} {ad : Nat → Nat} {cs : Nat → ClassId} {zd : Nat → Nat} {F V : gF} {o : gO} {sz : Nat} (j w : Int32) (hl9 : l.stackTraces = false) (N : Nat) (hN3 : V 33 3 = nI N) (hN4 : N ≤ 200) (hz35 : ∀ j, narrow .boolean (.int (F 35 j)) = .int (F 35 j)) : Met l yL_copy wsL_copy ({ frames := 8, cells := 2, slots := 12, locals := 134 } : Room) (gPc D ad cs zd F V o sz [.ref (ad 0), .int j, .int w, .ref (ad 64)]) (gQi D ad cs sz (fun r9 u9 => r9 = fCop V j w ∧ (fCop V j w = 0 → u9 = (F, V, (fun _ => (rCop F j.toNatClampNeg w.toNatClampNeg).toInt64))) ∧ (fCop V j w ≠ 0 → u9 = (F, V, o)))) 2 12 (gX ad sz) := by
  refine g_metW (Qc := fun z0 => gQi D ad cs z0 (fun r9 u9 => r9 = fCop V j w ∧ (fCop V j w = 0 → u9 = (F, V, (fun _ => (rCop F j.toNatClampNeg w.toNatClampNeg).toInt64))) ∧ (fCop V j w ≠ 0 → u9 = (F, V, o)))) (cc := cL_copy) (maxL := 5) (ret := (some .int)) (hh := [(0, 10, 13, 13), (0, 10, 17, 15)]) (own := RL) (by decide +kernel) rfl rfl (Nat.le_of_ble_eq_true rfl) ?_
  intro p0 e0 s0 m0 b0 k0 c0 hx hb hr hts hown hlocks hml htab hG hN ls hl
  have hl : lv_has ls 5 [(0, .ref (ad 0)), (1, .int j), (2, .int w), (3, .ref (ad 64))] := hl
  have hcl0 := hts (.classLink RL 13 gE0) (by decide +kernel)
  have hcl1 := hts (.classLink RL 15 gE1) (by decide +kernel)
  refine lv_aload_n hx hb dL_copy_0 rfl (lv_at hl 3 rfl) ?_
  refine lv_iconst (v := 0) hx hb dL_copy_1 (by decide) ?_
  refine lv_aload_n hx hb dL_copy_2 rfl (lv_at hl 0 rfl) ?_
  refine lv_iload_n hx hb dL_copy_3 rfl (lv_at hl 1 rfl) ?_
  refine lv_iload_n hx hb dL_copy_4 rfl (lv_at hl 2 rfl) ?_
  refine g_tVi (As := [.int j, .int w]) (rest := [.int 0, .ref (ad 64)]) ⟨hx, hb, hml, hown, hts⟩ hG hN (i := 0) (by decide) rfl rfl (c_X9_copy l hl9 j w N hN3 hN4 hz35) (cwV 2 hts gL_copy_X9_copy rfl rfl rfl (by decide +kernel) ⟨Nat.le_of_ble_eq_true rfl, Nat.le_of_ble_eq_true rfl⟩) rfl hl.1 rfl (Nat.le_of_ble_eq_true rfl) dL_copy_5 ⟨Nat.le_of_ble_eq_true rfl, Nat.le_of_ble_eq_true rfl⟩ (fun a ce q9 H locs hp9 hN hq9 hv9 hc9 => ?_) (fun rq Fq Vq oq H locs hq hN => ?_)
  · rcases hp9 with ⟨ea9, hf9⟩ | ⟨ea9, hf9⟩
    · subst ea9
      have hp8 : ∀ z9 ∈ ([] : List ExceptionTableEntry), covers z9 5 = false ∨ (z9.catchType ≠ 0 ∧ ∃ nm : String, (Cond.classLink RL z9.catchType nm).before ([.ref (ad 0), .int j, .int w, .ref (ad 64)] : List Value).toArray s0 = true ∧ va_Nc gE0 nm s0) := fun z hz => absurd hz List.not_mem_nil
      refine vx_catch (own := RL) (name := gE0) (E := gE0) hown [] (⟨0, 10, 13, 13⟩ : ExceptionTableEntry) [(⟨0, 10, 17, 15⟩ : ExceptionTableEntry)] (by rw [htab]; rfl) hp8 (by decide) (by decide) hcl0 (va_Nw.use rfl (hG.2.2.2.2.2.1 gE0 (by decide))) hq9 hv9 hc9 ?_
      refine lv_astore (lv' := [(4, .ref q9), (0, .ref (ad 0)), (1, .int j), (2, .int w), (3, .ref (ad 64))]) hx hb dL_copy_13 hl (by decide) rfl (fun ls hl => ?_)
      refine lv_iconst (v := 1) hx hb dL_copy_15 (by decide) ?_
      exact g_ri hx hb hr hlocks hN (⟨hf9.symm, fun z => absurd (hf9.symm.trans z) (by decide), fun _ => rfl⟩) dL_copy_16
    · subst ea9
      have hp8 : ∀ z9 ∈ ([(⟨0, 10, 13, 13⟩ : ExceptionTableEntry)] : List ExceptionTableEntry), covers z9 5 = false ∨ (z9.catchType ≠ 0 ∧ ∃ nm : String, (Cond.classLink RL z9.catchType nm).before ([.ref (ad 0), .int j, .int w, .ref (ad 64)] : List Value).toArray s0 = true ∧ va_Nc gE1 nm s0) := fun z hz => by
        have hz2 := List.mem_singleton.mp hz
        subst hz2
        exact Or.inr ⟨by decide, gE0, hcl0, hG.2.2.2.2.2.2.1 gE1 (by decide) gE0 (by decide) (by decide)⟩
      refine vx_catch (own := RL) (name := gE1) (E := gE1) hown [(⟨0, 10, 13, 13⟩ : ExceptionTableEntry)] (⟨0, 10, 17, 15⟩ : ExceptionTableEntry) [] (by rw [htab]; rfl) hp8 (by decide) (by decide) hcl1 (va_Nw.use rfl (hG.2.2.2.2.2.1 gE1 (by decide))) hq9 hv9 hc9 ?_
      refine lv_astore (lv' := [(4, .ref q9), (0, .ref (ad 0)), (1, .int j), (2, .int w), (3, .ref (ad 64))]) hx hb dL_copy_17 hl (by decide) rfl (fun ls hl => ?_)
      refine lv_iconst (v := 2) hx hb dL_copy_19 (by decide) ?_
      exact g_ri hx hb hr hlocks hN (⟨hf9.symm, fun z => absurd (hf9.symm.trans z) (by decide), fun _ => rfl⟩) dL_copy_20
  · obtain ⟨hf9, hr9, hu9⟩ := hq
    subst hr9
    cases hu9
    refine lv_i2l hx hb dL_copy_8 rfl ?_
    refine g_last hx hb hG hN rfl dL_copy_9 (fun H locs hN => ?_)
    refine lv_goto (tgt := 21) hx hb dL_copy_10 (by decide) ?_
    refine lv_iconst (v := 0) hx hb dL_copy_21 (by decide) ?_
    exact g_ri hx hb hr hlocks hN (⟨hf9.symm, fun _ => rfl, fun z => absurd hf9 z⟩) dL_copy_22
set_option maxHeartbeats 4000000 in
set_option maxRecDepth 100000 in
theorem c_L_all (l : Launch) {D : va_G} {ad : Nat → Nat} {cs : Nat → ClassId} {zd : Nat → Nat} {F V : gF} {o : gO} {sz : Nat} (w : Int32) (hl9 : l.stackTraces = false) : Met l yL_all wsL_all ({ frames := 7, cells := 1, slots := 6, locals := 111 } : Room) (gPc D ad cs zd F V o sz [.ref (ad 0), .int w, .ref (ad 64)]) (gQi D ad cs sz (fun r9 u9 => r9 = fAll w ∧ (fAll w = 0 → u9 = (F, V, (fun _ => (rAll V w).toInt64))) ∧ (fAll w ≠ 0 → u9 = (F, V, o)))) 1 6 (gX ad sz) := by
  refine g_metW (Qc := fun z0 => gQi D ad cs z0 (fun r9 u9 => r9 = fAll w ∧ (fAll w = 0 → u9 = (F, V, (fun _ => (rAll V w).toInt64))) ∧ (fAll w ≠ 0 → u9 = (F, V, o)))) (cc := cL_all) (maxL := 4) (ret := (some .int)) (hh := [(0, 9, 12, 15)]) (own := RL) (by decide +kernel) rfl rfl (Nat.le_of_ble_eq_true rfl) ?_
  intro p0 e0 s0 m0 b0 k0 c0 hx hb hr hts hown hlocks hml htab hG hN ls hl
  have hl : lv_has ls 4 [(0, .ref (ad 0)), (1, .int w), (2, .ref (ad 64))] := hl
  have hcl0 := hts (.classLink RL 15 gE1) (by decide +kernel)
  refine lv_aload_n hx hb dL_all_0 rfl (lv_at hl 2 rfl) ?_
  refine lv_iconst (v := 0) hx hb dL_all_1 (by decide) ?_
  refine lv_aload_n hx hb dL_all_2 rfl (lv_at hl 0 rfl) ?_
  refine lv_iload_n hx hb dL_all_3 rfl (lv_at hl 1 rfl) ?_
  refine g_tVi (As := [.int w]) (rest := [.int 0, .ref (ad 64)]) ⟨hx, hb, hml, hown, hts⟩ hG hN (i := 0) (by decide) rfl rfl (c_X9_all l hl9 w) (cwV 1 hts gL_all_X9_all rfl rfl rfl (by decide +kernel) ⟨Nat.le_of_ble_eq_true rfl, Nat.le_of_ble_eq_true rfl⟩) rfl hl.1 rfl (Nat.le_of_ble_eq_true rfl) dL_all_4 ⟨Nat.le_of_ble_eq_true rfl, Nat.le_of_ble_eq_true rfl⟩ (fun a ce q9 H locs hp9 hN hq9 hv9 hc9 => ?_) (fun rq Fq Vq oq H locs hq hN => ?_)
  · rcases hp9 with ⟨ea9, hf9⟩
    · subst ea9
      have hp8 : ∀ z9 ∈ ([] : List ExceptionTableEntry), covers z9 4 = false ∨ (z9.catchType ≠ 0 ∧ ∃ nm : String, (Cond.classLink RL z9.catchType nm).before ([.ref (ad 0), .int w, .ref (ad 64)] : List Value).toArray s0 = true ∧ va_Nc gE1 nm s0) := fun z hz => absurd hz List.not_mem_nil
      refine vx_catch (own := RL) (name := gE1) (E := gE1) hown [] (⟨0, 9, 12, 15⟩ : ExceptionTableEntry) [] (by rw [htab]; rfl) hp8 (by decide) (by decide) hcl0 (va_Nw.use rfl (hG.2.2.2.2.2.1 gE1 (by decide))) hq9 hv9 hc9 ?_
      refine lv_astore_n (lv' := [(3, .ref q9), (0, .ref (ad 0)), (1, .int w), (2, .ref (ad 64))]) hx hb dL_all_12 rfl hl (by decide) rfl (fun ls hl => ?_)
      refine lv_iconst (v := 1) hx hb dL_all_13 (by decide) ?_
      exact g_ri hx hb hr hlocks hN (⟨hf9.symm, fun z => absurd (hf9.symm.trans z) (by decide), fun _ => rfl⟩) dL_all_14
  · obtain ⟨hf9, hr9, hu9⟩ := hq
    subst hr9
    cases hu9
    refine lv_i2l hx hb dL_all_7 rfl ?_
    refine g_last hx hb hG hN rfl dL_all_8 (fun H locs hN => ?_)
    refine lv_goto (tgt := 15) hx hb dL_all_9 (by decide) ?_
    refine lv_iconst (v := 0) hx hb dL_all_15 (by decide) ?_
    exact g_ri hx hb hr hlocks hN (⟨hf9.symm, fun _ => rfl, fun z => absurd hf9 z⟩) dL_all_16
