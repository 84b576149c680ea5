abbrev gXC (D : va_G) (ad : Nat → Nat) (cs : Nat → ClassId) (F V : gF) (o : gO) (px : String → Prop) (sz : Nat) : String → State → State → Prop := vx_X (S := Unit) (fun _ => True) (fun a _ t => px a ∧ gB D ad cs (F, V, o) t) (gX ad sz)
theorem gX_old {ad : Nat → Nat} {cs : Nat → ClassId} {D : va_G} {F V : gF} {o : gO} {s t : State} {H : Heap} {locs : List Loc} (hN : gN D ad cs s F V o H locs) (h1 : H.size ≤ t.heap.size) (h2 : ∀ q : Nat, q < H.size → t.heap[q]? = H[q]?) : gB D ad cs (F, V, o) t ∧ va_F (gX ad s.heap.size) s t := by
  refine ⟨hN.1.kept (fun k q hk => h2 q.1 ((hN.1 k q hk).lt)), Nat.le_trans hN.2.1 h1, fun q h3 h4 => ?_⟩
  rw [h2 q (Nat.lt_of_lt_of_le h3 hN.2.1)]
  exact hN.2.2.1 q h3 h4
theorem g_flags {l : Launch} (h : l.flags = flags0) : l.stackTraces = false := by
  unfold Launch.stackTraces
  rw [h]
  decide +kernel
section GRX
variable {p : Program} {l : Launch} {e : Env} {R : Room} {s : State} {m : MethodId} {args : Array Value} {below : List Frame} {meth : Method} {c : Code} {H : Heap} {locs : List Loc} {cells slots : Nat} {Q : State → Prop}
variable {cc : ByteArray} {pc : Nat} {ls : Array Slot} {rest st0 : List Value} {D : va_G} {ad : Nat → Nat} {cs : Nat → ClassId} {zd : Nat → Nat} {F V : gF} {o : gO}
/-- new X(text), thrown -/
theorem g_throw (hx : p.tables.exec = Jvm.exec) (hb : c.code = cc) (hl9 : l.stackTraces = false) {cls text : String} {ik ix ic mc ms : Nat} {Qc : Array Value → State → Outcome → State → Prop} {px : String → Prop} (hown : s.vm.findClass RX9 = some m.cls) (hcls : Bundle.fit cls = true)
    (hk : (Cond.classLink RX9 ik cls).before args s = true) (hini : (Cond.initialized cls).before args s = true) (hmsg : (ix, text) ∈ gMsg) (hG : gG D ad cs zd s) (hN : gN D ad cs s F V o H locs)
    (hat : ∀ w ∈ (vx_atS RX9 ic cls ["java/lang/RuntimeException", "java/lang/Exception"]).filter goodWord, w.before args s = true) (hbt : ∀ w ∈ (vx_atS RX9 ic cls ["java/lang/RuntimeException", "java/lang/Exception"]).filter (fun w => !goodWord w), w ∈ Cond.castable cls cls :: gDc.map (fun a => Cond.declares (Bundle.initS a))) (hcx : cls ∈ gEx)
    (hgood : ∀ w ∈ Cond.classLink RX9 ik cls :: Cond.initialized cls :: vx_atS RX9 ic cls ["java/lang/RuntimeException", "java/lang/Exception"], vx_ot w = true)
    (hsize : ls.size = c.maxLocals) (d0 : decode cc pc = .ok (.new ik, 3)) (d3 : decode cc (pc + 3) = .ok (.dup, 1)) (d4 : decode cc (pc + 4) = .ok (.ldc ix, 2)) (d6 : decode cc (pc + 6) = .ok (.invokespecial ic, 3)) (d9 : decode cc (pc + 9) = .ok (.athrow, 1))
    (hout : ∀ x ∈ c.exceptionTable.toList, False) (hR : 5 < R.frames ∧ 90 ≤ R.locals ∧ cells + 1 ≤ R.cells ∧ slots + 6 ≤ R.slots) (hrest : (rest.map fun v => v.category).sum ≤ 8) (hlocks : meth.locks = false) (hp : px cls) (hc : cells + 1 ≤ mc) (hs : slots + 6 ≤ ms) :
    W p l e R s m args below meth c H locs cells slots (vx_MQ below Qc (gXC D ad cs F V o px s.heap.size) args s mc ms (gX ad s.heap.size)) (F0 m pc ls rest) := by
  obtain ⟨h1, h2, h3, h4⟩ := hR
  refine vx_throwS (names := ["java/lang/RuntimeException", "java/lang/Exception"]) (text := text) (is := ix) (sa := zd (100 + ix)) (A := gX ad s.heap.size) hx hb hl9 hown hcls (by decide) hk hini (hG.2.2.2.1 _ hmsg) ?_ hgood hG.2.2.1.1.1 hG.2.2.1.1.2.1 hN.2 hsize d0 d3 d4 d6 d9 (fun x hx9 => (hout x hx9).elim) h1 (by show _ + 82 ≤ _; omega) h3 h4 hlocks (fun t _ h5 h6 => ?_) hN.2.2.2 hc hs
  · intro w hw
    by_cases hg : goodWord w = true
    · exact hat w (List.mem_filter.mpr ⟨hw, hg⟩)
    · rcases List.mem_cons.mp (hbt w (List.mem_filter.mpr ⟨hw, by simp [hg]⟩)) with h5 | h5
      · rw [h5]
        exact va_Nw.use rfl (hG.2.2.2.2.2.1 _ hcx)
      · obtain ⟨a, ha, rfl⟩ := List.mem_map.mp h5
        exact va_Nw.use rfl (hG.2.2.2.2.2.2.2 a ha)
  · obtain ⟨g1, g2⟩ := gX_old hN h5 h6
    exact ⟨(), trivial, ⟨hp, g1⟩, g2⟩
/-- calls that may throw; what is thrown goes on -/
theorem g_xS {y : MethodName} {bytes : ByteArray} {maxL nL mc ms n index mcY msY : Nat} {ret : Option FieldType} {ws : List Cond} {rm : Room} {Ts : List Cond} {own : String} {As : List Value} {post : gS → Prop} {px pxY : String → Prop} {Qc : Array Value → State → Outcome → State → Prop}
    (S : CallFix p m c cc nL s args Ts own) (hG : gG D ad cs zd s) (hN : gN D ad cs s F V o H locs) (hM : vx_Met l y ws rm (gPc D ad cs zd F V o H.size As) (gQv D ad cs H.size post) (gXC D ad cs F V o pxY H.size) mcY msY (gX ad H.size)) (cw : CallB R s args own index y bytes maxL ret ws rm mcY msY n ∧ (Cond.static y).before args s = true) (hn : As.length = n) (hsz : ls.size = nL) (hst : st0 = As.reverse ++ rest) (hw : (rest.map fun v => v.category).sum ≤ 8) (hdg : decode cc pc = .ok (.invokestatic index, 3)) (hf : cells + mcY ≤ R.cells ∧ slots + msY ≤ R.slots)
    (hout : ∀ x ∈ c.exceptionTable.toList, False) (hlocks : meth.locks = false) (hpx : ∀ a, pxY a → px a) (hcs : cells + mcY ≤ mc ∧ slots + msY ≤ ms)
    (kk : ∀ (F2 V2 : gF) (o2 : gO) (H1 : Heap) (locs1 : List Loc), post (F2, V2, o2) → gN D ad cs s F2 V2 o2 H1 locs1 → W p l e R s m args below meth c H1 locs1 (cells + mcY) (slots + msY) (vx_MQ below Qc (gXC D ad cs F V o px s.heap.size) args s mc ms (gX ad s.heap.size)) (F0 m (pc + 3) ls rest)) :
    W p l e R s m args below meth c H locs cells slots (vx_MQ below Qc (gXC D ad cs F V o px s.heap.size) args s mc ms (gX ad s.heap.size)) (F0 m pc ls st0) := by
  refine vx_callv (vx_runS (As := As) (rest := rest) S hM cw ⟨g_blind, fun U hU hW => ⟨rfl, hG.heap hN U hU hW⟩⟩ rfl hn hsz hst (lv_room hw) hdg hf) hN.2 (fun q _ h => gX_mono hN.2.1 q h) (gX_mono hN.2.1) (fun q _ h => gX_mono hN.2.1 q h) ?_ (fun u t H1 locs1 ht _ hp hB _ _ hS => kk u.1 u.2.1 u.2.2 H1 locs1 hp (gN.next ht hB hS rfl))
  intro a ce q9 u t H1 locs1 ht hvm _ hB hz hk hS hq hv hcl
  refine vx_out (fun x hx9 => (hout x hx9).elim) hlocks hq hv hcl (fun t2 ht2 _ => ?_) hS.2.2 hcs.1 hcs.2
  refine ⟨(), trivial, ⟨hpx _ hB.1, ?_⟩, hS.F ht2⟩
  have hB2 := hB.2
  unfold gB at hB2 ⊢
  rw [ht2, ← ht]
  exact hB2
theorem g_xV {y : MethodName} {bytes : ByteArray} {maxL nL mc ms n index mcY msY ci N i : Nat} {ret : Option FieldType} {ws : List Cond} {rm : Room} {Ts : List Cond} {own C : String} {T : u_T} {As : List Value} {fs : List Value} {post : gS → Prop} {px pxY : String → Prop} {Qc : Array Value → State → Outcome → State → Prop}
    (S : CallFix p m c cc nL s args Ts own) (hG : gG D ad cs zd s) (hN : gN D ad cs s F V o H locs) (hi : i < 48) (he : gC ad cs o (F i) (V i) i = .inr (ci, fs)) (hc : vwCl[ci]? = some (C, T, N)) (hM : vx_Met l y ws rm (gPc D ad cs zd F V o H.size (.ref (ad i) :: As)) (gQv D ad cs H.size post) (gXC D ad cs F V o pxY H.size) mcY msY (gX ad H.size)) (cw : CallW R s args own C index y bytes maxL ret ws rm mcY msY n) (hn : As.length = n) (hsz : ls.size = nL) (hst : st0 = As.reverse ++ .ref (ad i) :: rest) (hw : (rest.map fun v => v.category).sum ≤ 8) (hdg : decode cc pc = .ok (.invokevirtual index, 3)) (hf : cells + mcY ≤ R.cells ∧ slots + msY ≤ R.slots)
    (hout : ∀ x ∈ c.exceptionTable.toList, False) (hlocks : meth.locks = false) (hpx : ∀ a, pxY a → px a) (hcs : cells + mcY ≤ mc ∧ slots + msY ≤ ms)
    (kk : ∀ (F2 V2 : gF) (o2 : gO) (H1 : Heap) (locs1 : List Loc), post (F2, V2, o2) → gN D ad cs s F2 V2 o2 H1 locs1 → W p l e R s m args below meth c H1 locs1 (cells + mcY) (slots + msY) (vx_MQ below Qc (gXC D ad cs F V o px s.heap.size) args s mc ms (gX ad s.heap.size)) (F0 m (pc + 3) ls rest)) :
    W p l e R s m args below meth c H locs cells slots (vx_MQ below Qc (gXC D ad cs F V o px s.heap.size) args s mc ms (gX ad s.heap.size)) (F0 m pc ls st0) := by
  refine vx_callv (vx_runV (As := As) (rest := rest) S hM cw ⟨g_blind, va_recv hG.1 hN.1 hc ((gW_at ad cs F V o hi).trans (by rw [he])), fun U hU hW => ⟨rfl, hG.heap hN U hU hW⟩⟩ rfl hn hsz hst (lv_room hw) hdg hf) hN.2 (fun q _ h => gX_mono hN.2.1 q h) (gX_mono hN.2.1) (fun q _ h => gX_mono hN.2.1 q h) ?_ (fun u t H1 locs1 ht _ hp hB _ _ hS => kk u.1 u.2.1 u.2.2 H1 locs1 hp (gN.next ht hB hS rfl))
  intro a ce q9 u t H1 locs1 ht hvm _ hB hz hk hS hq hv hcl
  refine vx_out (fun x hx9 => (hout x hx9).elim) hlocks hq hv hcl (fun t2 ht2 _ => ?_) hS.2.2 hcs.1 hcs.2
  refine ⟨(), trivial, ⟨hpx _ hB.1, ?_⟩, hS.F ht2⟩
  have hB2 := hB.2
  unfold gB at hB2 ⊢
  rw [ht2, ← ht]
  exact hB2
/-- a call from a method with a table: each thing thrown goes to kx -/
theorem g_tVi {y : MethodName} {bytes : ByteArray} {maxL nL n index mcY msY ci N i : Nat} {ret : Option FieldType} {ws : List Cond} {rm : Room} {Ts : List Cond} {own C : String} {T : u_T} {As : List Value} {fs : List Value} {post : Int32 → gS → Prop} {pxY : String → Prop}
    (S : CallFix p m c cc nL s args Ts own) (hG : gG D ad cs zd s) (hN : gN D ad cs s F V o H locs) (hi : i < 48) (he : gC ad cs o (F i) (V i) i = .inr (ci, fs)) (hc : vwCl[ci]? = some (C, T, N)) (hM : vx_Met l y ws rm (gPc D ad cs zd F V o H.size (.ref (ad i) :: As)) (gQi D ad cs H.size post) (gXC D ad cs F V o pxY H.size) mcY msY (gX ad H.size)) (cw : CallW R s args own C index y bytes maxL ret ws rm mcY msY n) (hn : As.length = n) (hsz : ls.size = nL) (hst : st0 = As.reverse ++ .ref (ad i) :: rest) (hw : (rest.map fun v => v.category).sum ≤ 8) (hdg : decode cc pc = .ok (.invokevirtual index, 3)) (hf : cells + mcY ≤ R.cells ∧ slots + msY ≤ R.slots)
    (kx : ∀ (a : String) (ce : Cell) (q9 : Addr) (H1 : Heap) (locs1 : List Loc), pxY a → gN D ad cs s F V o H1 locs1 → H1[q9]? = some ce → ce.vm = .none → s.vm.findClass a = some ce.cls → vx_W p l e R s m args below meth c H1 locs1 (cells + mcY) (slots + msY) Q (F0 m pc ls rest) q9)
    (kk : ∀ (r : Int32) (F2 V2 : gF) (o2 : gO) (H1 : Heap) (locs1 : List Loc), post r (F2, V2, o2) → gN D ad cs s F2 V2 o2 H1 locs1 → W p l e R s m args below meth c H1 locs1 (cells + mcY) (slots + msY) Q (F0 m (pc + 3) ls (.int r :: rest))) : W p l e R s m args below meth c H locs cells slots Q (F0 m pc ls st0) :=
  vx_calli (vx_runV (As := As) (rest := rest) S hM cw ⟨g_blind, va_recv hG.1 hN.1 hc ((gW_at ad cs F V o hi).trans (by rw [he])), fun U hU hW => ⟨rfl, hG.heap hN U hU hW⟩⟩ rfl hn hsz hst (lv_room hw) hdg hf) hN.2 (fun q _ h => gX_mono hN.2.1 q h) (gX_mono hN.2.1) (fun q _ h => gX_mono hN.2.1 q h) (fun a ce q9 u t H1 locs1 ht _ _ hB _ _ hS hq hv hcl => kx a ce q9 H1 locs1 hB.1 (gN.next ht hB.2 hS rfl) hq hv hcl) (fun r u t H1 locs1 ht _ hp hB _ _ hS => kk r u.1 u.2.1 u.2.2 H1 locs1 hp (gN.next ht hB hS rfl))
theorem g_tVv {y : MethodName} {bytes : ByteArray} {maxL nL n index mcY msY ci N i : Nat} {ret : Option FieldType} {ws : List Cond} {rm : Room} {Ts : List Cond} {own C : String} {T : u_T} {As : List Value} {fs : List Value} {post : gS → Prop} {pxY : String → Prop}
    (S : CallFix p m c cc nL s args Ts own) (hG : gG D ad cs zd s) (hN : gN D ad cs s F V o H locs) (hi : i < 48) (he : gC ad cs o (F i) (V i) i = .inr (ci, fs)) (hc : vwCl[ci]? = some (C, T, N)) (hM : vx_Met l y ws rm (gPc D ad cs zd F V o H.size (.ref (ad i) :: As)) (gQv D ad cs H.size post) (gXC D ad cs F V o pxY H.size) mcY msY (gX ad H.size)) (cw : CallW R s args own C index y bytes maxL ret ws rm mcY msY n) (hn : As.length = n) (hsz : ls.size = nL) (hst : st0 = As.reverse ++ .ref (ad i) :: rest) (hw : (rest.map fun v => v.category).sum ≤ 8) (hdg : decode cc pc = .ok (.invokevirtual index, 3)) (hf : cells + mcY ≤ R.cells ∧ slots + msY ≤ R.slots)
    (kx : ∀ (a : String) (ce : Cell) (q9 : Addr) (H1 : Heap) (locs1 : List Loc), pxY a → gN D ad cs s F V o H1 locs1 → H1[q9]? = some ce → ce.vm = .none → s.vm.findClass a = some ce.cls → vx_W p l e R s m args below meth c H1 locs1 (cells + mcY) (slots + msY) Q (F0 m pc ls rest) q9)
    (kk : ∀ (F2 V2 : gF) (o2 : gO) (H1 : Heap) (locs1 : List Loc), post (F2, V2, o2) → gN D ad cs s F2 V2 o2 H1 locs1 → W p l e R s m args below meth c H1 locs1 (cells + mcY) (slots + msY) Q (F0 m (pc + 3) ls rest)) : W p l e R s m args below meth c H locs cells slots Q (F0 m pc ls st0) :=
  vx_callv (vx_runV (As := As) (rest := rest) S hM cw ⟨g_blind, va_recv hG.1 hN.1 hc ((gW_at ad cs F V o hi).trans (by rw [he])), fun U hU hW => ⟨rfl, hG.heap hN U hU hW⟩⟩ rfl hn hsz hst (lv_room hw) hdg hf) hN.2 (fun q _ h => gX_mono hN.2.1 q h) (gX_mono hN.2.1) (fun q _ h => gX_mono hN.2.1 q h) (fun a ce q9 u t H1 locs1 ht _ _ hB _ _ hS hq hv hcl => kx a ce q9 H1 locs1 hB.1 (gN.next ht hB.2 hS rfl) hq hv hcl) (fun u t H1 locs1 ht _ hp hB _ _ hS => kk u.1 u.2.1 u.2.2 H1 locs1 hp (gN.next ht hB hS rfl))
/-- the law's calls of its own methods with tables -/
theorem g_WI {y : MethodName} {bytes : ByteArray} {maxL nL mc ms n index : Nat} {ret : Option FieldType} {hh : List (Nat × Nat × Nat × Nat)} {ws : List Cond} {rm : Room} {Ts : List Cond} {own : String} {As : List Value} {r0 : Int32} {F2 V2 : gF} {o2 : gO}
    (S : CallFix p m c cc nL s args Ts own) (hG : gG D ad cs zd s) (hN : gN D ad cs s F V o H locs) (hM : Met l y ws rm (gPc D ad cs zd F V o H.size As) (gQI D ad cs r0 F2 V2 o2 H.size) mc ms (gX ad H.size)) (cw : vx_CSW R s args own index y bytes maxL ret hh ws rm mc ms n) (hn : As.length = n) (hsz : ls.size = nL) (hst : st0 = As.reverse ++ rest) (hw : (rest.map fun v => v.category).sum ≤ 8) (hdg : decode cc pc = .ok (.invokestatic index, 3)) (hf : cells + mc ≤ R.cells ∧ slots + ms ≤ R.slots)
    (kk : ∀ (H1 : Heap) (locs1 : List Loc), gN D ad cs s F2 V2 o2 H1 locs1 → W p l e R s m args below meth c H1 locs1 (cells + mc) (slots + ms) Q (F0 m (pc + 3) ls (.int r0 :: rest))) : W p l e R s m args below meth c H locs cells slots Q (F0 m pc ls st0) :=
  va_calli (vx_runSW (As := As) (rest := rest) S hM cw ⟨g_blind, fun U hU hW => ⟨rfl, hG.heap hN U hU hW⟩⟩ rfl hn hsz hst (lv_room hw) hdg hf) hN.2 (fun q _ h => gX_mono hN.2.1 q h) (gX_mono hN.2.1) (fun r u t H1 locs1 ht _ hp hB _ _ hS => by
    obtain ⟨h1, h2⟩ := hp
    subst h1
    exact kk H1 locs1 (gN.next ht hB hS h2))
end GRX
theorem g_metX {l : Launch} {y : MethodName} {ws ws2 : List Cond} {rm : Room} {mc ms : Nat} {cc : ByteArray} {maxL : Nat} {ret : Option FieldType} {D : va_G} {ad : Nat → Nat} {cs : Nat → ClassId} {zd : Nat → Nat} {F V : gF} {o : gO} {av : List Value} {sz : Nat} {own : String} {Qc : Nat → Array Value → State → Outcome → State → Prop} {XC : Nat → String → State → State → Prop}
    (hy : plainName y.cls = true) (hw : ws = Cond.code y cc maxL ret :: ws2) (ho : y.cls = own) (hlen : (lg_sl av).length ≤ maxL)
    (body : ∀ (p : Program) (e : Env) (s : State) (m : MethodId) (below : List Frame) (meth : Method) (c : Code), p.tables.exec = Jvm.exec → c.code = cc → meth.sig.returnType = ret → (∀ w ∈ ws, w.before av.toArray s = true) → s.vm.findClass own = some m.cls → meth.locks = false → c.maxLocals = maxL → (∀ x ∈ c.exceptionTable.toList, False) → gG D ad cs zd s → gN D ad cs s F V o s.heap [] → ∀ ls : Array Slot, lv_has ls maxL (lv_args 0 av) →
      W p l e rm s m av.toArray below meth c s.heap [] 0 0 (vx_MQ below (Qc s.heap.size) (XC s.heap.size) av.toArray s mc ms (gX ad s.heap.size)) (F0 m 0 ls [])) : vx_Met l y ws rm (gPc D ad cs zd F V o sz av) (Qc sz) (XC sz) mc ms (gX ad sz) := by
  refine vx_ofW (cc := cc) (maxL := maxL) (ret := ret) hy hw ?_
  intro p e s m args below meth c s₁ B hml htab hv
  obtain ⟨rfl, hsz, hP, hG⟩ := hv
  subst hsz
  subst ho
  have hl := lv_entry av (n := maxL) hlen
  rw [lg_entry_eq]
  exact body p e s m below meth c B.exec B.bytes B.returns (atoms_spec (ws := ws) B.pre) (findClass_of_methodNamed B.named) B.notSynchronized hml htab hG (gN.rf hP) _ hl
theorem g_metW {l : Launch} {y : MethodName} {ws ws2 : List Cond} {rm : Room} {mc ms : Nat} {cc : ByteArray} {maxL : Nat} {ret : Option FieldType} {hh : List (Nat × Nat × Nat × Nat)} {D : va_G} {ad : Nat → Nat} {cs : Nat → ClassId} {zd : Nat → Nat} {F V : gF} {o : gO} {av : List Value} {sz : Nat} {own : String} {Qc : Nat → Array Value → State → Outcome → State → Prop}
    (hy : plainName y.cls = true) (hw : ws = Cond.codeWith y cc maxL ret hh :: ws2) (ho : y.cls = own) (hlen : (lg_sl av).length ≤ maxL)
    (body : ∀ (p : Program) (e : Env) (s : State) (m : MethodId) (below : List Frame) (meth : Method) (c : Code), p.tables.exec = Jvm.exec → c.code = cc → meth.sig.returnType = ret → (∀ w ∈ ws, w.before av.toArray s = true) → s.vm.findClass own = some m.cls → meth.locks = false → c.maxLocals = maxL → c.exceptionTable.toList = tableOf hh → gG D ad cs zd s → gN D ad cs s F V o s.heap [] → ∀ ls : Array Slot, lv_has ls maxL (lv_args 0 av) →
      W p l e rm s m av.toArray below meth c s.heap [] 0 0 (MQ below (Qc s.heap.size) av.toArray s mc ms (gX ad s.heap.size)) (F0 m 0 ls [])) : Met l y ws rm (gPc D ad cs zd F V o sz av) (Qc sz) mc ms (gX ad sz) := by
  refine va_MetW (cc := cc) (maxL := maxL) (ret := ret) (hh := hh) hy hw ?_
  intro p e s m args below meth c s₁ B hml hv
  obtain ⟨rfl, hsz, hP, hG⟩ := hv
  subst hsz
  subst ho
  have hl := lv_entry av (n := maxL) hlen
  rw [lg_entry_eq]
  have hts := atoms_spec (ws := ws) B.pre
  exact body p e s m below meth c B.exec B.bytes B.returns hts (findClass_of_methodNamed B.named) B.notSynchronized hml (vx_table (x := y) B (hts _ (by rw [hw]; exact List.mem_cons_self))) hG (gN.rf hP) _ hl
