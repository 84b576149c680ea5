theorem e_len : ∀ i, i < 6 → (nI (gLen.getD i 0)) >>> ((0 : Int32) &&& 31) = nI (gLen.getD i 0) := by decide
theorem e_lenb : ∀ i, i < 6 → gLen.getD i 0 ≤ 9 := by decide
theorem e_ch : ∀ i, i < 6 → ∀ j, j < gLen.getD i 0 → ((((gByt.getD i []).getD j 0) &&& 255).toUInt32 % 65536).toInt32 = (gByt.getD i []).getD j 0 := by decide
theorem e_chn : ∀ i, i < 6 → ∀ j, j < gLen.getD i 0 → narrow .char (.int ((gByt.getD i []).getD j 0)) = .int ((gByt.getD i []).getD j 0) := by decide
section GS
variable {p : Program} {l : Launch} {e : Env} {R : Room} {s : State} {m : MethodId} {args : Array Value} {below : List Frame} {meth : Method} {c : Code} {H : Heap} {locs : List Loc} {cells slots : Nat} {Q : State → Prop}
variable {cc : ByteArray} {pc : Nat} {ls : Array Slot} {rest st0 : List Value} {D : va_G} {ad : Nat → Nat} {cs : Nat → ClassId} {zd : Nat → Nat} {F V : gF} {o : gO}
theorem g_sfv {own : String} {index : Nat} (hx : p.tables.exec = Jvm.exec) (hb : c.code = cc) (hown : s.vm.findClass own = some m.cls) (hG : gG D ad cs zd s) (hN : gN D ad cs s F V o H locs) {i : Nat} (hi : i < 6) (hlink : (Cond.fieldLink own index "java/lang/String" "value" "[B").before args s = true) (hdg : decode cc pc = .ok (.getfield index, 3))
    (kk : W p l e R s m args below meth c H locs cells slots Q (F0 m (pc + 3) ls (.ref (zd (20 + i)) :: rest))) : W p l e R s m args below meth c H locs cells slots Q (F0 m pc ls (.ref (zd (10 + i)) :: rest)) := by
  obtain ⟨cf, k, fi, f, cell, h1, h2, h3, h4, h5, h6⟩ := ((hG.2.2.1.2.2.1.1 i hi).2.2.1).kept hN.2.2.1
  exact W.getf hx hb hown hlink h1 h2 h3 h4 (v := .ref (zd (20 + i))) h5 rfl rfl hdg kk
theorem g_sfc {own : String} {index : Nat} (hx : p.tables.exec = Jvm.exec) (hb : c.code = cc) (hown : s.vm.findClass own = some m.cls) (hG : gG D ad cs zd s) (hN : gN D ad cs s F V o H locs) {i : Nat} (hi : i < 6) (hlink : (Cond.fieldLink own index "java/lang/String" "coder" "B").before args s = true) (hdg : decode cc pc = .ok (.getfield index, 3))
    (kk : W p l e R s m args below meth c H locs cells slots Q (F0 m (pc + 3) ls (.int 0 :: rest))) : W p l e R s m args below meth c H locs cells slots Q (F0 m pc ls (.ref (zd (10 + i)) :: rest)) := by
  obtain ⟨cf, k, fi, f, cell, h1, h2, h3, h4, h5, h6⟩ := ((hG.2.2.1.2.2.1.1 i hi).2.1).kept hN.2.2.1
  exact W.getf hx hb hown hlink h1 h2 h3 h4 (v := .int 0) h5 rfl rfl hdg kk
theorem g_sln (hx : p.tables.exec = Jvm.exec) (hb : c.code = cc) (hG : gG D ad cs zd s) (hN : gN D ad cs s F V o H locs) {i : Nat} (hi : i < 6) (hdg : decode cc pc = .ok (.arraylength, 1))
    (kk : W p l e R s m args below meth c H locs cells slots Q (F0 m (pc + 1) ls (.int (nI (gLen.getD i 0)) :: rest))) : W p l e R s m args below meth c H locs cells slots Q (F0 m pc ls (.ref (zd (20 + i)) :: rest)) :=
  va_tlen hx hb ((hG.2.2.1.2.2.1.1 i hi).2.2.2) hN.2 (v := nI (gLen.getD i 0)) rfl hdg kk
theorem g_sbl (hx : p.tables.exec = Jvm.exec) (hb : c.code = cc) (hG : gG D ad cs zd s) (hN : gN D ad cs s F V o H locs) {i j : Nat} (hi : i < 6) (hj : j < gLen.getD i 0) (hdg : decode cc pc = .ok (.baload, 1))
    (kk : W p l e R s m args below meth c H locs cells slots Q (F0 m (pc + 1) ls (.int ((gByt.getD i []).getD j 0) :: rest))) : W p l e R s m args below meth c H locs cells slots Q (F0 m pc ls (.int (nI j) :: .ref (zd (20 + i)) :: rest)) :=
  va_tb hx hb ((hG.2.2.1.2.2.1.1 i hi).2.2.2) hN.2 (i := nI j) (vp_in_nI hj (by have := e_lenb i hi; omega)) (v := .int ((gByt.getD i []).getD j 0)) (by rw [nI_clamp (by have := e_lenb i hi; omega)]) hdg kk
theorem g_scs {own : String} {index : Nat} (hx : p.tables.exec = Jvm.exec) (hb : c.code = cc) (hown : s.vm.findClass own = some m.cls) (hG : gG D ad cs zd s) (hN : gN D ad cs s F V o H locs) (hlink : (Cond.fieldLink own index "java/lang/String" "COMPACT_STRINGS" "Z").before args s = true) (hdg : decode cc pc = .ok (.getstatic index, 3))
    (kk : W p l e R s m args below meth c H locs cells slots Q (F0 m (pc + 3) ls (.int 1 :: rest))) : W p l e R s m args below meth c H locs cells slots Q (F0 m pc ls rest) :=
  va_gets hx hb hG.2.2.1.2.2.2.1 hN.2 hown hlink (fun _ h => h) hdg kk
theorem g_KI {y : MethodName} {bytes : ByteArray} {maxL nL mc ms n index i : Nat} {ret : Option FieldType} {ws : List Cond} {rm : Room} {Ts : List Cond} {own : String} {As : List Value} {r0 : Int32} {F2 V2 : gF} {o2 : gO}
    (S : CallFix p m c cc nL s args Ts own) (hG : gG D ad cs zd s) (hN : gN D ad cs s F V o H locs) (hi : i < 6) (hM : Met l y ws rm (gPc D ad cs zd F V o H.size (.ref (zd (10 + i)) :: As)) (gQI D ad cs r0 F2 V2 o2 H.size) mc ms (gX ad H.size)) (cw : CallW R s args own "java/lang/String" index y bytes maxL ret ws rm mc ms n) (hn : As.length = n) (hsz : ls.size = nL) (hst : st0 = As.reverse ++ .ref (zd (10 + i)) :: rest) (hw : (rest.map fun v => v.category).sum ≤ 8) (hdg : decode cc pc = .ok (.invokevirtual index, 3)) (hf : cells + mc ≤ R.cells ∧ slots + ms ≤ R.slots)
    (kk : ∀ (H1 : Heap) (locs1 : List Loc), gN D ad cs s F2 V2 o2 H1 locs1 → W p l e R s m args below meth c H1 locs1 (cells + mc) (slots + ms) Q (F0 m (pc + 3) ls (.int r0 :: rest))) : W p l e R s m args below meth c H locs cells slots Q (F0 m pc ls st0) :=
  va_calli (va_runV (As := As) (rest := rest) S hM cw ⟨g_blind, vk_recv hG.2.2.1.2.2.1 hi hN.2, fun U hU hW => ⟨rfl, hG.heap hN U hU hW⟩⟩ rfl hn hsz hst (lv_room hw) hdg hf) hN.2 (fun q _ h => gX_mono hN.2.1 q h) (gX_mono hN.2.1) (fun r u t H1 locs1 ht _ hp hB _ _ hS => by
    obtain ⟨h1, h2⟩ := hp
    subst h1
    exact kk H1 locs1 (gN.next ht hB hS h2))
theorem g_SV {y : MethodName} {bytes : ByteArray} {maxL nL mc ms n index : Nat} {ret : Option FieldType} {ws : List Cond} {rm : Room} {Ts : List Cond} {own : String} {As : List Value} {F2 V2 : gF} {o2 : gO}
    (S : CallFix p m c cc nL s args Ts own) (hG : gG D ad cs zd s) (hN : gN D ad cs s F V o H locs) (hM : Met l y ws rm (gPc D ad cs zd F V o H.size As) (gQV D ad cs F2 V2 o2 H.size) mc ms (gX ad H.size)) (cw : CallB R s args own index y bytes maxL ret ws rm mc ms n ∧ (Cond.static y).before args s = true) (hn : As.length = n) (hsz : ls.size = nL) (hst : st0 = As.reverse ++ rest) (hw : (rest.map fun v => v.category).sum ≤ 8) (hdg : decode cc pc = .ok (.invokestatic index, 3)) (hf : cells + mc ≤ R.cells ∧ slots + ms ≤ R.slots)
    (kk : ∀ (H1 : Heap) (locs1 : List Loc), gN D ad cs s F2 V2 o2 H1 locs1 → W p l e R s m args below meth c H1 locs1 (cells + mc) (slots + ms) Q (F0 m (pc + 3) ls rest)) : W p l e R s m args below meth c H locs cells slots Q (F0 m pc ls st0) :=
  va_callv (va_runS (As := As) (rest := rest) S hM cw ⟨g_blind, fun U hU hW => ⟨rfl, hG.heap hN U hU hW⟩⟩ rfl hn hsz hst (lv_room hw) hdg hf) hN.2 (fun q _ h => gX_mono hN.2.1 q h) (gX_mono hN.2.1) (fun u t H1 locs1 ht _ hp hB _ _ hS => kk H1 locs1 (gN.next ht hB hS hp))
end GS
