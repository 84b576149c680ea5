def gTx (i : Nat) : Nat := [56, 62, 65, 68, 71, 74].getD i 0
abbrev gFlt : List Cond := flatC (Jvm.Cond.and given_1 narrow_1)
def gAt : Term := .static RX6 "ALL" "[LGravureHouse$RuleWord;"
set_option maxRecDepth 100000 in
theorem gs_1 : ∀ i, i < 6 → Cond.laysStatic RX6 (gNm.getD i "") gRd ∈ lw_tbl := by decide +kernel
set_option maxRecDepth 100000 in
theorem gs_2 : ∀ i, i < 6 → Cond.exactly (.static RX6 (gNm.getD i "") gRd) RX6 ∈ gFlt := by decide +kernel
set_option maxRecDepth 100000 in
theorem gs_3 : ∀ q ∈ gFl, ∀ i, i < 6 → Cond.eq (.field (.static RX6 (gNm.getD i "") gRd) q.1 q.2.1 q.2.2.1) (.int (q.2.2.2.getD i 0)) ∈ gFlt := by decide +kernel
set_option maxRecDepth 100000 in
theorem gs_4 : ∀ i, i < 6 → ∀ j, j < 6 → i ≠ j → Cond.not (.eq (.static RX6 (gNm.getD i "") gRd) (.static RX6 (gNm.getD j "") gRd)) ∈ gFlt ∨ Cond.not (.eq (.static RX6 (gNm.getD j "") gRd) (.static RX6 (gNm.getD i "") gRd)) ∈ gFlt := by decide +kernel
set_option maxRecDepth 100000 in
theorem gs_5 : ∀ i, i < 6 → Cond.exactly (.string RX6 (gTx i)) "java/lang/String" ∈ gFlt := by decide +kernel
set_option maxRecDepth 100000 in
theorem gs_6 : ∀ i, i < 6 → Cond.eq (.field (.string RX6 (gTx i)) "java/lang/String" "coder" "B") (.int 0) ∈ gFlt := by decide +kernel
set_option maxRecDepth 100000 in
theorem gs_7 : ∀ i, i < 6 → Cond.arrayOf (.field (.string RX6 (gTx i)) "java/lang/String" "value" "[B") .byte ∈ gFlt := by decide +kernel
set_option maxRecDepth 100000 in
theorem gs_8 : ∀ i, i < 6 → Cond.eq (.length (.field (.string RX6 (gTx i)) "java/lang/String" "value" "[B")) (.int (Int32.ofNat (gLen.getD i 0))) ∈ gFlt := by decide +kernel
set_option maxRecDepth 100000 in
theorem gs_9 : ∀ i, i < 6 → ∀ j, j < gLen.getD i 0 → Cond.eq (.elem (.field (.string RX6 (gTx i)) "java/lang/String" "value" "[B") (.int (Int32.ofNat j))) (.int ((gByt.getD i []).getD j 0)) ∈ gFlt := by decide +kernel
set_option maxRecDepth 100000 in
theorem gs_10 : ∀ i, i < 6 → ∀ j, j < 6 → i ≠ j → Cond.not (.eq (.string RX6 (gTx i)) (.string RX6 (gTx j))) ∈ gFlt ∨ Cond.not (.eq (.string RX6 (gTx j)) (.string RX6 (gTx i))) ∈ gFlt := by decide +kernel
set_option maxRecDepth 100000 in
theorem gs_11 : ∀ i, i < 6 → Cond.eq (.field (.static RX6 (gNm.getD i "") gRd) RX6 "text" "Ljava/lang/String;") (.string RX6 (gTx i)) ∈ gFlt := by decide +kernel
set_option maxRecDepth 100000 in
theorem gs_12 : ∀ i, i < 6 → Cond.eq (.elem gAt (.int (Int32.ofNat i))) (.static RX6 (gNm.getD i "") gRd) ∈ gFlt := by decide +kernel
set_option maxRecDepth 100000 in
theorem gs_13 : ∀ q ∈ gMsg, Cond.exactly (.string RX9 q.1) "java/lang/String" ∈ gFlt ∧ Cond.stringRef RX9 q.1 q.2 ∈ lw_tbl := by decide +kernel
set_option maxRecDepth 100000 in
theorem gs_14 : ∀ q ∈ gNl, Cond.fieldLinkNest RX8 q.1 RX6 q.2.1 q.2.2 "GravureHouse" ∈ lw_tbl := by decide +kernel
set_option maxRecDepth 100000 in
theorem gs_15 : ∀ a ∈ gEx, Cond.castable a a ∈ lw_tbl := by decide +kernel
set_option maxRecDepth 100000 in
theorem gs_16 : ∀ a ∈ gEx, ∀ b ∈ gEx, a ≠ b → Cond.not (.castable a b) ∈ gFlt := by decide +kernel
set_option maxRecDepth 100000 in
theorem gs_17 : ∀ a ∈ gDc, Cond.declares (Bundle.initS a) ∈ lw_tbl := by decide +kernel
set_option maxRecDepth 100000 in
theorem gs_18 : Cond.isRef (.static Bundle.tN "UNASSIGNED_STACK" Bundle.steD) ∈ gFlt ∧ Cond.isRef (.static Bundle.tN "SUPPRESSED_SENTINEL" Bundle.listD) ∈ gFlt ∧ Cond.laysStatic Bundle.tN "UNASSIGNED_STACK" Bundle.steD ∈ lw_tbl ∧ Cond.laysStatic Bundle.tN "SUPPRESSED_SENTINEL" Bundle.listD ∈ lw_tbl ∧ Cond.initialized Bundle.tN ∈ lw_tbl := by decide +kernel
set_option maxRecDepth 100000 in
theorem gs_19 : Cond.arrayOf gAt (.object RX6) ∈ gFlt ∧ Cond.eq (.length gAt) (.int 6) ∈ gFlt ∧ Cond.laysStatic RX6 "ALL" "[LGravureHouse$RuleWord;" ∈ lw_tbl ∧ Cond.initialized RX6 ∈ lw_tbl := by decide +kernel
set_option maxRecDepth 100000 in
theorem gs_20 : Cond.eq (.static "java/lang/String" "COMPACT_STRINGS" "Z") (.int 1) ∈ gFlt ∧ Cond.laysStatic "java/lang/String" "COMPACT_STRINGS" "Z" ∈ lw_tbl ∧ Cond.initialized "java/lang/String" ∈ lw_tbl ∧ Cond.isRef (.static "jdk/internal/util/Preconditions" "SIOOBE_FORMATTER" "Ljava/util/function/BiFunction;") ∈ gFlt ∧ Cond.laysStatic "jdk/internal/util/Preconditions" "SIOOBE_FORMATTER" "Ljava/util/function/BiFunction;" ∈ lw_tbl ∧ Cond.initialized "jdk/internal/util/Preconditions" ∈ lw_tbl := by decide +kernel
set_option maxRecDepth 100000 in
theorem gs_start {s : State} {a0 : Array Value} {A : Nat → Prop} (hts : ∀ w ∈ lw_tbl, w.before a0 s = true) (hgv : (Jvm.Cond.and given_1 narrow_1).before a0 s = true) (hA : ∀ a : Nat, a < s.heap.size → ¬ A a) : ∃ zd : Nat → Nat, gZ zd A s s.heap ∧ gM zd s := by
  have hf := flat_of_before _ hgv
  have w1 := fun i hi => hts _ (gs_1 i hi)
  obtain ⟨ad, hEn, hev⟩ := va_Enof2 (E := RX6) (d := gRd) (nm := gNm) (F := gFl) (A := A) (s := s) (args := a0) (fun i hi => hts _ (gs_1 i hi)) (hts _ gs_19.2.2.2) (fun i hi => hf _ (gs_2 i hi)) (fun q hq i hi => hf _ (gs_3 q hq i hi)) (fun i j hi hj hij => (gs_4 i hi j hj hij).elim (fun h => Or.inl (hf _ h)) (fun h => Or.inr (hf _ h))) hA
  obtain ⟨adK, adV, hS, hSe⟩ := vk_Sof (s := s) (args := a0) (N := 6) (tm := fun i => .string RX6 (gTx i)) (len := gLen) (byt := gByt) (A := A) (by decide) (fun i hi => hf _ (gs_5 i hi)) (fun i hi => hf _ (gs_6 i hi)) (fun i hi => hf _ (gs_7 i hi)) (fun i hi => hf _ (gs_8 i hi)) (fun i hi j hj => hf _ (gs_9 i hi j hj)) (fun i j hi hj hij => (gs_10 i hi j hj hij).elim (fun h => Or.inl (hf _ h)) (fun h => Or.inr (hf _ h))) hA
  obtain ⟨t, ht, hT⟩ := va_Tof (s := s) (args := a0) (tm := gAt) (ty := .object RX6) (N := 6) (f := fun j => .ref (ad j)) (A := A) (by decide) (hf _ gs_19.1) (va_eqt (hf _ gs_19.2.1)) (fun j hj => va_eqv (hf _ (gs_12 j hj)) (hev j hj)) hA
  have hEf := va_Efof (N := 6) (E := RX6) (d0 := gRd) (o := RX6) (n := "text") (d := "Ljava/lang/String;") (nm := gNm) (v := fun i => .ref (adK i)) (tm := fun i => .string RX6 (gTx i)) (ad := ad) hev (fun i hi => hf _ (gs_11 i hi)) hSe hA
  have h0 : ∀ k : Nat, ∃ a : Nat, (∃ tx, (k, tx) ∈ gMsg) → (Term.string RX9 k).eval a0 s none [] s = some (.ref a) := by
    intro k
    by_cases hk : ∃ tx, (k, tx) ∈ gMsg
    · obtain ⟨tx, hk⟩ := hk
      obtain ⟨a, _, _, _, q1, _⟩ := Cond.exactly_spec (hf _ (gs_13 _ hk).1)
      exact ⟨a, fun _ => q1⟩
    · exact ⟨0, fun h => absurd h hk⟩
  obtain ⟨ms, hms⟩ := Classical.axiomOfChoice h0
  obtain ⟨zd, z0, z1, z2, z3, z4⟩ : ∃ zd : Nat → Nat, (∀ i, i < 6 → zd i = ad i) ∧ (∀ i, i < 6 → zd (10 + i) = adK i) ∧ (∀ i, i < 6 → zd (20 + i) = adV i) ∧ zd 30 = t ∧ ∀ k, zd (100 + k) = ms k := by
    refine ⟨fun i => if i < 6 then ad i else if i < 20 then adK (i - 10) else if i < 30 then adV (i - 20) else if i = 30 then t else ms (i - 100), fun i hi => if_pos hi, fun i hi => ?_, fun i hi => ?_, rfl, fun k => ?_⟩
    · show (if 10 + i < 6 then ad (10 + i) else if 10 + i < 20 then adK (10 + i - 10) else _) = _
      rw [if_neg (by omega), if_pos (by omega), Nat.add_sub_cancel_left]
    · show (if 20 + i < 6 then ad (20 + i) else if 20 + i < 20 then adK (20 + i - 10) else if 20 + i < 30 then adV (20 + i - 20) else _) = _
      rw [if_neg (by omega), if_neg (by omega), if_pos (by omega), Nat.add_sub_cancel_left]
    · show (if 100 + k < 6 then ad (100 + k) else if 100 + k < 20 then adK (100 + k - 10) else if 100 + k < 30 then adV (100 + k - 20) else if 100 + k = 30 then t else ms (100 + k - 100)) = _
      rw [if_neg (by omega), if_neg (by omega), if_neg (by omega), if_neg (by omega), Nat.add_sub_cancel_left]
  refine ⟨zd, ⟨⟨vx_Zqof (hts _ gs_18.2.2.1) (hts _ gs_18.2.2.2.2) (hf _ gs_18.1) hA, vx_Zqof (hts _ gs_18.2.2.2.1) (hts _ gs_18.2.2.2.2) (hf _ gs_18.2.1) hA, ⟨fun i hi => ?_, fun i j hi hj e => ?_⟩⟩, ⟨?_, ?_, fun i hi => ?_⟩, ⟨⟨fun i hi => ?_, fun i j hi hj e => ?_⟩, va_Zof (hts _ gs_20.2.1) (hts _ gs_20.2.2.1) (va_eqi (hf _ gs_20.1)) hA, va_Zqof (hts _ gs_20.2.2.2.2.1) (hts _ gs_20.2.2.2.2.2) (hf _ gs_20.2.2.2.1) hA⟩⟩, ⟨fun q hq => ?_, fun q hq => va_Nw.of rfl (hts _ (gs_14 q hq)), fun a ha => va_Nw.of rfl (hts _ (gs_15 a ha)), fun a ha b hb hab => va_Nc.of (hf _ (gs_16 a ha b hb hab)), fun a ha => va_Nw.of rfl (hts _ (gs_17 a ha))⟩⟩
  · rw [z0 i hi]
    exact hEn.1 i hi
  · rw [z0 i hi, z0 j hj] at e
    exact hEn.2 i j hi hj e
  · rw [z3]
    exact va_Zref (hts _ gs_19.2.2.1) (hts _ gs_19.2.2.2) ht hA
  · rw [z3]
    obtain ⟨cell, q1, q2, q3, q4, q5, q6, q7⟩ := hT
    exact ⟨cell, q1, q2, q3, q4, q5, fun j hj => by
      show cell.slots[j]? = some (Value.ref (zd j))
      rw [z0 j hj]
      exact q6 j hj, q7⟩
  · show va_OF RX6 "text" "Ljava/lang/String;" (Value.ref (zd (10 + i))) (zd i) A s s.heap
    rw [z0 i hi, z1 i hi]
    exact hEf i hi
  · dsimp only
    rw [z1 i hi, z2 i hi]
    exact hS.1 i hi
  · dsimp only at e
    rw [z1 i hi, z1 j hj] at e
    exact hS.2 i j hi hj e
  · rw [z4]
    exact vk_R.of (A := a0) (hts _ (gs_13 q hq).2) (hms q.1 ⟨q.2, hq⟩)
