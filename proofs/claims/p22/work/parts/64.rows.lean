/-! methods that begin with no house: draw, house -/
theorem b_met {l : Launch} {y : MethodName} {ws ws2 : List Cond} {rm : Room} {mc ms : Nat} {cc : ByteArray} {maxL : Nat} {ret : Option FieldType} {av : List Value} {own : String} {B : State → Prop} {Q : Array Value → State → Outcome → State → Prop} {A : Nat → Prop}
    (hy : plainName y.cls = true) (hw : ws = Cond.code y cc maxL ret :: ws2) (ho : y.cls = own) (hlen : (lg_sl av).length ≤ maxL)
    (body : ∀ (p : Program) (e : Env) (s : State) (m : MethodId) (below : List Frame) (meth : Method) (c : Code), p.tables.exec = Jvm.exec → c.code = cc → meth.sig.returnType = ret → (∀ w ∈ ws, w.before av.toArray s = true) → s.vm.findClass own = some m.cls → meth.locks = false → c.maxLocals = maxL → B s → ∀ ls : Array Slot, lv_has ls maxL (lv_args 0 av) →
      W p l e rm s m av.toArray below meth c s.heap [] 0 0 (MQ below Q av.toArray s mc ms A) (F0 m 0 ls [])) : Met l y ws rm (va_Pc av B) Q mc ms A := by
  refine Met.ofW (cc := cc) (maxL := maxL) (ret := ret) hy hw ?_
  intro p e s m args below meth c s₁ B hml hv
  obtain ⟨rfl, hB⟩ := hv
  subst ho
  have hl := lv_entry av (n := maxL) hlen
  rw [lg_entry_eq]
  exact body p e s m below meth c B.exec B.bytes B.returns (atoms_spec (ws := ws) B.pre) (findClass_of_methodNamed B.named) B.notSynchronized hml hB _ hl
abbrev dPc (b L : Nat) (xs : Nat → Int32) (sz : Nat) (av : List Value) : Array Value → State → Prop := va_Pc av (fun U => U.heap.size = sz ∧ va_X b L xs U U.heap)
abbrev dQi (P : Int32 → Prop) (sz : Nat) : Array Value → State → Outcome → State → Prop := va_Qi (fun r (_ : Unit) => P r) (fun _ _ => True) (fun q => sz ≤ q)
theorem d_blind {b L : Nat} {xs : Nat → Int32} {sz : Nat} {av : List Value} : FrameBlind (dPc b L xs sz av) := by
  intro a U g mk q
  obtain ⟨q0, q1, q2⟩ := q
  exact ⟨q0, q1, va_X.moved (u := U) (U := U.calling g mk a) (Vm.Alike.refl U.vm) q2⟩
theorem and_pos (v : Int32) : ∃ w, w < 2 ^ 31 ∧ v &&& 2147483647 = nI w := by
  have hm : (v &&& 2147483647).toBitVec.msb = false := by
    rw [Int32.toBitVec_and, BitVec.msb_and]
    show (_ && false) = false
    exact Bool.and_false _
  have h0 : ¬ (v &&& 2147483647) < 0 := by
    intro z
    rw [Int32.lt_iff_toInt_lt] at z
    have h1 : (v &&& 2147483647).toInt = (v &&& 2147483647).toBitVec.toInt := rfl
    have h2 : (v &&& 2147483647).toBitVec.msb = decide ((v &&& 2147483647).toBitVec.toInt < 0) := BitVec.msb_eq_toInt
    rw [hm] at h2
    have h3 : ¬ (v &&& 2147483647).toBitVec.toInt < 0 := of_decide_eq_false h2.symm
    have h4 : (0 : Int32).toInt = 0 := by decide
    omega
  obtain ⟨w, hw, e⟩ := nI_of h0
  exact ⟨w, hw, e⟩
section DRAW
variable {p0 : Program} {l : Launch} {e0 : Env} {R0 : Room} {s0 : State} {m0 : MethodId} {a0 : Array Value} {b0 : List Frame} {k0 : Method} {c0 : Code} {ls : Array Slot}
theorem draw_end {b L k most sz cells slots : Nat} {xs : Nat → Int32} {x : Int32} {mc ms : Nat} (hx : p0.tables.exec = Jvm.exec) (hb : c0.code = cL_draw) (hr : k0.sig.returnType = some .int) (hlocks : k0.locks = false) (hown : s0.vm.findClass RL = some m0.cls) (hk9 : (Cond.constant RL 9 2147483647).before a0 s0 = true) (hm : 0 < most) (hm2 : most < 2 ^ 31) (hl : lv_has ls 4 [(0, .ref b), (1, .int (nI k)), (2, .int (nI most))]) : W p0 l e0 R0 s0 m0 a0 b0 k0 c0 s0.heap [] 0 0 (MQ b0 (dQi (fun r => ∃ v, v < most ∧ r = nI v) s0.heap.size) a0 s0 0 0 (fun q => s0.heap.size ≤ q)) (F0 m0 23 ls [.int x]) := by
  refine lv_istore_n (lv' := [(3, .int x), (0, .ref b), (1, .int (nI k)), (2, .int (nI most))]) hx hb dL_draw_23 rfl hl (by decide) rfl (fun ls hl => ?_)
  refine lv_iload_n hx hb dL_draw_24 rfl (lv_at hl 0 rfl) ?_
  refine lv_ldc hx hb hown hk9 dL_draw_25 ?_
  refine lv_iand hx hb dL_draw_27 ?_
  obtain ⟨w, hw, ew⟩ := and_pos x
  refine g_top (y := nI w) ew ?_
  refine lv_iload_n hx hb dL_draw_28 rfl (lv_at hl 3 rfl) ?_
  refine g_remN (a := w) (b := most) hx hb rfl rfl hw hm hm2 dL_draw_29 ?_
  exact W.iret (v := nI (w % most)) hx hb hr (fun t ht _ => ⟨⟨nI (w % most), (), rfl, ⟨w % most, Nat.mod_lt _ hm, rfl⟩, trivial⟩, va_S.rf.F ht⟩) (fun _ h => by cases h) dL_draw_30 hlocks
end DRAW
set_option maxHeartbeats 4000000 in
set_option maxRecDepth 100000 in
theorem c_L_draw (l : Launch) {b L sz : Nat} {xs : Nat → Int32} (k most : Nat) (hbs : b < sz) (hL : L ≤ 260) (hk : k < 2 ^ 31) (hm : 0 < most) (hm2 : most < 2 ^ 31) : Met l yL_draw wsL_draw ({ frames := 0, cells := 0, slots := 0, locals := 0 } : Room) (dPc b L xs sz [.ref b, .int (nI k), .int (nI most)]) (dQi (fun r => ∃ v, v < most ∧ r = nI v) sz) 0 0 (fun q => sz ≤ q) := by
  refine b_met (cc := cL_draw) (maxL := 4) (ret := some .int) (own := RL) (by decide +kernel) rfl rfl (Nat.le_of_ble_eq_true rfl) ?_
  intro p0 e0 s0 m0 b0 k0 c0 hx hb hr hts hown hlocks hml hB ls hl
  obtain ⟨hsz, hX⟩ := hB
  subst hsz
  have hl : lv_has ls 4 [(0, .ref b), (1, .int (nI k)), (2, .int (nI most))] := hl
  have hk7 := hts (.constant RL 7 969664465) (by decide +kernel)
  have hk8 := hts (.constant RL 8 799519187) (by decide +kernel)
  have hk9 := hts (.constant RL 9 2147483647) (by decide +kernel)
  have hbA : ¬ (fun q : Nat => s0.heap.size ≤ q) b := Nat.not_le.mpr hbs
  refine lv_iload_n hx hb dL_draw_0 rfl (lv_at hl 1 rfl) ?_
  refine lv_aload_n hx hb dL_draw_1 rfl (lv_at hl 0 rfl) ?_
  refine va_slen (A := fun q => s0.heap.size ≤ q) hx hb hX hbs hbA va_S.rf dL_draw_2 ?_
  refine g_cN_ge (a := k) (b := L) (tgt := 12) hx hb dL_draw_3 (by decide) rfl rfl hk (by omega) (fun c1 => ?_) (fun c1 => ?_)
  · refine lv_ldc hx hb hown hk7 dL_draw_12 ?_
    refine lv_iload_n hx hb dL_draw_14 rfl (lv_at hl 1 rfl) ?_
    refine lv_sipush (v := 1019) hx hb dL_draw_15 (by decide) ?_
    refine lv_iadd hx hb dL_draw_18 ?_
    refine lv_imul hx hb dL_draw_19 ?_
    refine lv_ldc hx hb hown hk8 dL_draw_20 ?_
    refine lv_iadd hx hb dL_draw_22 ?_
    exact draw_end (xs := xs) (L := L) (sz := 0) (cells := 0) (slots := 0) (mc := 0) (ms := 0) hx hb hr hlocks hown hk9 hm hm2 hl
  · refine lv_aload_n hx hb dL_draw_6 rfl (lv_at hl 0 rfl) ?_
    refine lv_iload_n hx hb dL_draw_7 rfl (lv_at hl 1 rfl) ?_
    refine va_sld (A := fun q => s0.heap.size ≤ q) hx hb hX hbs hbA va_S.rf (vp_in_nI c1 (by omega)) dL_draw_8 ?_
    refine lv_goto (tgt := 23) hx hb dL_draw_9 (by decide) ?_
    exact draw_end (xs := xs) (L := L) (sz := 0) (cells := 0) (slots := 0) (mc := 0) (ms := 0) hx hb hr hlocks hown hk9 hm hm2 hl
section GH
variable {p : Program} {l : Launch} {e : Env} {R : Room} {s : State} {m : MethodId} {args : Array Value} {below : List Frame} {meth : Method} {c : Code} {H : Heap} {locs : List Loc} {cells slots : Nat} {Q : State → Prop}
variable {cc : ByteArray} {pc : Nat} {ls : Array Slot} {rest st0 : List Value} {D : va_G} {ad : Nat → Nat} {cs : Nat → ClassId} {zd : Nat → Nat} {F V : gF} {o : gO}
/-- a call that changes nothing of the world -/
theorem g_draw {y : MethodName} {bytes : ByteArray} {maxL nL mc ms n index b L : Nat} {xs : Nat → Int32} {ret : Option FieldType} {ws : List Cond} {rm : Room} {Ts : List Cond} {own : String} {As : List Value} {P : Int32 → Prop}
    (S : CallFix p m c cc nL s args Ts own) (hX : va_X b L xs s s.heap) (hbs : b < s.heap.size) (hbA : ¬ gX ad s.heap.size b) (hN : gN D ad cs s F V o H locs) (hM : Met l y ws rm (dPc b L xs H.size As) (dQi P H.size) mc ms (fun q => H.size ≤ q)) (cw : CallB R s args own index y bytes maxL ret ws rm mc ms n ∧ (Cond.static y).before args s = true) (hn : As.length = n) (hsz : ls.size = nL) (hst : st0 = As.reverse ++ rest) (hw : (rest.map fun v => v.category).sum ≤ 8) (hdg : decode cc pc = .ok (.invokestatic index, 3)) (hf : cells + mc ≤ R.cells ∧ slots + ms ≤ R.slots)
    (kk : ∀ (r : Int32) (H1 : Heap) (locs1 : List Loc), P r → gN D ad cs s F V o H1 locs1 → W p l e R s m args below meth c H1 locs1 (cells + mc) (slots + ms) Q (F0 m (pc + 3) ls (.int r :: rest))) : W p l e R s m args below meth c H locs cells slots Q (F0 m pc ls st0) :=
  va_calli (va_runS (As := As) (rest := rest) S hM cw ⟨d_blind, fun U hU hW => ⟨rfl, by rw [hU], by rw [hU]; exact va_X.moved hW.alike (hX.kept (hN.2.2.1 b hbs hbA))⟩⟩ rfl hn hsz hst (lv_room hw) hdg hf) hN.2 (fun q _ h => Or.inr (Nat.le_trans hN.2.1 h)) (fun q h => Or.inr (Nat.le_trans hN.2.1 h)) (fun r u t H1 locs1 ht _ hp hB _ hk1 hS => kk r H1 locs1 hp ⟨hN.1.kept (fun k q hk => hk1 q.1 ((hN.1 k q hk).lt) (Nat.not_le.mpr ((hN.1 k q hk).lt))), hS⟩)
end GH
/-- other addresses for the places that hold no cell -/
theorem gN.junk {D : va_G} {ad : Nat → Nat} {cs : Nat → ClassId} {zd : Nat → Nat} {s : State} {F V : gF} {H : Heap} {locs : List Loc} (hlo : ∀ i, 48 ≤ i → s.heap.size ≤ ad i) (hG : gG D ad cs zd s) (hN : gN D ad cs s F V 0 H locs) : ∃ ad2 : Nat → Nat, (∀ i, i < 48 → ad2 i = ad i) ∧ (∀ i, 48 ≤ i → H.size ≤ ad2 i) ∧ (∀ q, gX ad2 s.heap.size q → gX ad s.heap.size q) ∧ gG D ad2 cs zd s ∧ gN D ad2 cs s F V 0 H locs := by
  have l0 : ∀ k, k < 48 → ad k < H.size := fun k hk => (hN.1 k _ (gW_at ad cs F V 0 hk)).lt
  have h48 : ∀ i, i < 48 → (fun i => if i < 48 then ad i else H.size + i) i = ad i := fun i hi => if_pos hi
  have e50 : ∀ i, 48 ≤ i → (fun i => if i < 48 then ad i else H.size + i) i = H.size + i := fun i hi => if_neg (by omega)
  have hsz := hN.2.1
  have hsub : ∀ q, gX (fun i => if i < 48 then ad i else H.size + i) s.heap.size q → gX ad s.heap.size q := fun q hq => by
    rcases hq with ⟨i, rfl⟩ | hq
    · by_cases c1 : i < 48
      · rw [h48 i c1]
        exact Or.inl ⟨i, rfl⟩
      · rw [e50 i (by omega)]
        exact Or.inr (by omega)
    · exact Or.inr hq
  have hsup : ∀ q, gX ad s.heap.size q → gX (fun i => if i < 48 then ad i else H.size + i) s.heap.size q := fun q hq => by
    rcases hq with ⟨i, rfl⟩ | hq
    · by_cases c1 : i < 48
      · exact Or.inl ⟨i, (h48 i c1).symm⟩
      · exact Or.inr (hlo i (by omega))
    · exact Or.inr hq
  refine ⟨fun i => if i < 48 then ad i else H.size + i, h48, fun i hi => by rw [e50 i hi]; omega, hsub, ⟨hG.1, fun i j hij => ?_, hG.2.2.1.narrow hsub, hG.2.2.2⟩, fun k q hk => ?_, va_Sm hN.2 hsup⟩
  · by_cases c1 : i < 48
    · rw [h48 i c1] at hij
      have := l0 i c1
      by_cases c2 : j < 48
      · rw [h48 j c2] at hij
        exact hG.2.1 i j hij
      · rw [e50 j (by omega)] at hij
        omega
    · rw [e50 i (by omega)] at hij
      by_cases c2 : j < 48
      · rw [h48 j c2] at hij
        have := l0 j c2
        omega
      · rw [e50 j (by omega)] at hij
        omega
  · obtain ⟨h1, _⟩ := gW_lt hk
    have h1b : k < 48 := h1
    rw [gW_at _ cs F V 0 h1b] at hk
    cases hk
    have h2 := hN.1 k _ (gW_at ad cs F V 0 h1b)
    rw [gC_ad (ad := ad) h48 cs 0 0 _ _ h1b, if_pos h1b]
    exact h2
