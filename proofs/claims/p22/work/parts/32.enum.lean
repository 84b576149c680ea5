section GE
variable {p : Program} {l : Launch} {e : Env} {R : Room} {s : State} {m : MethodId} {args : Array Value} {below : List Frame} {meth : Method} {c : Code} {H : Heap} {locs : List Loc} {cells slots : Nat} {Q : State → Prop}
variable {cc : ByteArray} {pc : Nat} {ls : Array Slot} {rest st0 : List Value} {D : va_G} {ad : Nat → Nat} {cs : Nat → ClassId} {zd : Nat → Nat} {F V : gF} {o : gO}
theorem g_est {own : String} (hx : p.tables.exec = Jvm.exec) (hb : c.code = cc) (hown : s.vm.findClass own = some m.cls) (hG : gG D ad cs zd s) (hN : gN D ad cs s F V o H locs) {index i : Nat} (hi : i < 6) (hlink : (Cond.fieldLink own index RX6 (gNm.getD i "") gRd).before args s = true) (hdg : decode cc pc = .ok (.getstatic index, 3))
    (kk : W p l e R s m args below meth c H locs cells slots Q (F0 m (pc + 3) ls (.ref (zd i) :: rest))) : W p l e R s m args below meth c H locs cells slots Q (F0 m pc ls rest) :=
  va_gets hx hb (hG.2.2.1.1.2.2.1 i hi).1 hN.2 hown hlink (fun _ h => h) hdg kk
theorem g_efn (hx : p.tables.exec = Jvm.exec) (hb : c.code = cc) (hown : s.vm.findClass RX8 = some m.cls) (hG : gG D ad cs zd s) (hN : gN D ad cs s F V o H locs) {index i : Nat} {q : String × String × String × List Int32} (hi : i < 6) (hq : q ∈ gFl) (hq1 : q.1 = RX6) (hn : (index, q.2.1, q.2.2.1) ∈ gNl) (hdg : decode cc pc = .ok (.getfield index, 3))
    (kk : W p l e R s m args below meth c H locs cells slots Q (F0 m (pc + 3) ls (.int (q.2.2.2.getD i 0) :: rest))) : W p l e R s m args below meth c H locs cells slots Q (F0 m pc ls (.ref (zd i) :: rest)) := by
  obtain ⟨cf, k, fi, f, cell, h1, h2, h3, h4, h5, h6⟩ := ((hG.2.2.1.1.2.2.1 i hi).2.2 q hq).kept hN.2.2.1
  rw [hq1] at h1
  exact va_Wgetf hx hb hown (va_Nw.use rfl (hG.2.2.2.2.1 _ hn)) h1 h2 h3 h4 (v := .int (q.2.2.2.getD i 0)) h5 rfl rfl hdg kk
theorem g_etx (hx : p.tables.exec = Jvm.exec) (hb : c.code = cc) (hown : s.vm.findClass RX8 = some m.cls) (hG : gG D ad cs zd s) (hN : gN D ad cs s F V o H locs) {i : Nat} (hi : i < 6) (hdg : decode cc pc = .ok (.getfield 92, 3))
    (kk : W p l e R s m args below meth c H locs cells slots Q (F0 m (pc + 3) ls (.ref (zd (10 + i)) :: rest))) : W p l e R s m args below meth c H locs cells slots Q (F0 m pc ls (.ref (zd i) :: rest)) := by
  obtain ⟨cf, k, fi, f, cell, h1, h2, h3, h4, h5, h6⟩ := (hG.2.2.1.2.1.2.2 i hi).kept hN.2.2.1
  exact va_Wgetf hx hb hown (va_Nw.use rfl (hG.2.2.2.2.1 (92, "text", "Ljava/lang/String;") (by decide))) h1 h2 h3 h4 (v := .ref (zd (10 + i))) h5 rfl rfl hdg kk
theorem g_eal (hx : p.tables.exec = Jvm.exec) (hb : c.code = cc) (hown : s.vm.findClass RX8 = some m.cls) (hG : gG D ad cs zd s) (hN : gN D ad cs s F V o H locs) (hdg : decode cc pc = .ok (.getstatic 88, 3))
    (kk : W p l e R s m args below meth c H locs cells slots Q (F0 m (pc + 3) ls (.ref (zd 30) :: rest))) : W p l e R s m args below meth c H locs cells slots Q (F0 m pc ls rest) :=
  va_getsN hx hb hG.2.2.1.2.1.1 hN.2 hown (va_Nw.use rfl (hG.2.2.2.2.1 (88, "ALL", "[LGravureHouse$RuleWord;") (by decide))) (fun _ h => h) hdg kk
theorem g_eln (hx : p.tables.exec = Jvm.exec) (hb : c.code = cc) (hG : gG D ad cs zd s) (hN : gN D ad cs s F V o H locs) (hdg : decode cc pc = .ok (.arraylength, 1))
    (kk : W p l e R s m args below meth c H locs cells slots Q (F0 m (pc + 1) ls (.int (nI 6) :: rest))) : W p l e R s m args below meth c H locs cells slots Q (F0 m pc ls (.ref (zd 30) :: rest)) :=
  va_tlen hx hb hG.2.2.1.2.1.2.1 hN.2 (v := nI 6) rfl hdg kk
theorem g_eaa (hx : p.tables.exec = Jvm.exec) (hb : c.code = cc) (hG : gG D ad cs zd s) (hN : gN D ad cs s F V o H locs) {j : Nat} (hj : j < 6) (hdg : decode cc pc = .ok (.aaload, 1))
    (kk : W p l e R s m args below meth c H locs cells slots Q (F0 m (pc + 1) ls (.ref (zd j) :: rest))) : W p l e R s m args below meth c H locs cells slots Q (F0 m pc ls (.int (nI j) :: .ref (zd 30) :: rest)) :=
  vb_tq hx hb hG.2.2.1.2.1.2.1 hN.2 (i := nI j) (vp_in_nI hj (by decide)) (v := .ref (zd j)) (by rw [nI_clamp (by omega)]) hdg kk
theorem g_eac (hx : p.tables.exec = Jvm.exec) (hb : c.code = cc) (hG : gG D ad cs zd s) {i j : Nat} (hi : i < 6) (hj : j < 6) {off : Int} {tgt : Nat} (hdg : decode cc pc = .ok (.if_acmp .ne off, 3)) (ht : (pc : Int) + off = (tgt : Int))
    (kt : i ≠ j → W p l e R s m args below meth c H locs cells slots Q (F0 m tgt ls rest)) (kf : i = j → W p l e R s m args below meth c H locs cells slots Q (F0 m (pc + 3) ls rest)) : W p l e R s m args below meth c H locs cells slots Q (F0 m pc ls (.ref (zd j) :: .ref (zd i) :: rest)) :=
  lv_acmp_ne (rx := some (zd i)) (ry := some (zd j)) hx hb hdg ht (fun h => kt (fun z => h (by rw [z]))) (fun h => kf (hG.2.2.1.1.2.2.2 i j hi hj (Option.some.inj h)))
/-- a call that gives a constant or null -/
theorem g_Ve {y : MethodName} {bytes : ByteArray} {maxL nL mc ms n index ci N i : Nat} {ret : Option FieldType} {ws : List Cond} {rm : Room} {Ts : List Cond} {own C : String} {T : u_T} {As : List Value} {fs : List Value} {r0 : Option Nat}
    (S : CallFix p m c cc nL s args Ts own) (hG : gG D ad cs zd s) (hN : gN D ad cs s F V o H locs) (hi : i < 48) (he : gC ad cs o (F i) (V i) i = .inr (ci, fs)) (hc : vwCl[ci]? = some (C, T, N)) (hM : Met l y ws rm (gPc D ad cs zd F V o H.size (.ref (ad i) :: As)) (va_Qe zd (fun r u => r = r0 ∧ u = (F, V, o)) (gB D ad cs) (gX ad H.size)) mc ms (gX ad H.size)) (cw : CallW R s args own C index y bytes maxL ret ws rm mc ms n) (hn : As.length = n) (hsz : ls.size = nL) (hst : st0 = As.reverse ++ .ref (ad i) :: rest) (hw : (rest.map fun v => v.category).sum ≤ 8) (hdg : decode cc pc = .ok (.invokevirtual index, 3)) (hf : cells + mc ≤ R.cells ∧ slots + ms ≤ R.slots)
    (kk : ∀ (H1 : Heap) (locs1 : List Loc), gN D ad cs s F V o H1 locs1 → W p l e R s m args below meth c H1 locs1 (cells + mc) (slots + ms) Q (F0 m (pc + 3) ls (va_re zd r0 :: rest))) : W p l e R s m args below meth c H locs cells slots Q (F0 m pc ls st0) :=
  va_calle (va_runV (As := As) (rest := rest) S hM cw ⟨g_blind, va_recv hG.1 hN.1 hc ((gW_at ad cs F V o hi).trans (by rw [he])), fun U hU hW => ⟨rfl, hG.heap hN U hU hW⟩⟩ rfl hn hsz hst (lv_room hw) hdg hf) hN.2 (fun q _ h => gX_mono hN.2.1 q h) (gX_mono hN.2.1) (fun r u t H1 locs1 ht _ hp hB _ _ hS => by
    obtain ⟨h1, h2⟩ := hp
    subst h1
    exact kk H1 locs1 (gN.next ht hB hS h2))
theorem g_re {post : Option Nat → gS → Prop} {r : Option Nat} {n : String} (hx : p.tables.exec = Jvm.exec) (hb : c.code = cc) (hr : meth.sig.returnType = some (.object n)) (hlocks : meth.locks = false) (hN : gN D ad cs s F V o H locs) (hp : post r (F, V, o)) (hdg : decode cc pc = .ok (.areturn, 1)) : W p l e R s m args below meth c H locs cells slots (MQ below (va_Qe zd post (gB D ad cs) (gX ad s.heap.size)) args s cells slots (gX ad s.heap.size)) (F0 m pc ls [va_re zd r]) :=
  W.aret (v := va_re zd r) hx hb hr (Or.inl ⟨n, rfl⟩) (va_re_or zd r) (fun t ht _ => ⟨⟨r, (F, V, o), rfl, hp, by show va_P D vwCl _ t.heap; rw [ht]; exact hN.1⟩, hN.2.F ht⟩) hN.2.2.2 hdg hlocks
end GE
