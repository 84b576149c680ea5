section GR
variable {p : Program} {l : Launch} {e : Env} {R : Room} {s : State} {m : MethodId} {args : Array Value} {below : List Frame} {meth : Method} {c : Code} {H : Heap} {locs : List Loc} {cells slots : Nat} {Q : State → Prop}
variable {cc : ByteArray} {pc : Nat} {ls : Array Slot} {rest st0 : List Value} {D : va_G} {ad : Nat → Nat} {cs : Nat → ClassId} {zd : Nat → Nat} {F V : gF} {o : gO}
theorem g_get (hx : p.tables.exec = Jvm.exec) (hb : c.code = cc) {own C : String} {T : u_T} {N ci index : Nat} {Ts : List Cond} (hts : ∀ w ∈ Ts, w.before args s = true) (hin : ∀ w ∈ u_ws C T N, w ∈ Ts) (hown : s.vm.findClass own = some m.cls) (hG : gG D ad cs zd s) (hN : gN D ad cs s F V o H locs) {i : Nat} (hi : i < 48) {fs : List Value} (he : gC ad cs o (F i) (V i) i = .inr (ci, fs)) (hc : vwCl[ci]? = some (C, T, N)) (k : Nat) (hk : k < N) {ref : String} (hlink : (Cond.fieldLink own index ref (T k).2.1 (T k).2.2.1).before args s = true) (hsame : ∀ x, s.fieldFound? (T k).1 (T k).2.1 (T k).2.2.1 = some x → s.fieldFound? ref (T k).2.1 (T k).2.2.1 = some x) {v : Value} (hv : fs[k]? = some v) (hdg : decode cc pc = .ok (.getfield index, 3))
    (kk : W p l e R s m args below meth c H locs cells slots Q (F0 m (pc + 3) ls (v :: rest))) : W p l e R s m args below meth c H locs cells slots Q (F0 m pc ls (.ref (ad i) :: rest)) :=
  va_get hx hb hts hin hown hG.1 hN.1 i ((gW_at ad cs F V o hi).trans (by rw [he])) hc k hk hlink hsame hv hdg kk
theorem g_put (hx : p.tables.exec = Jvm.exec) (hb : c.code = cc) {own C : String} {T : u_T} {N ci index : Nat} {Ts : List Cond} (hts : ∀ w ∈ Ts, w.before args s = true) (hin : ∀ w ∈ u_ws C T N, w ∈ Ts) (ty0 : Nat → FieldType) (hty : ∀ k, k < N → parseFieldDescriptor (T k).2.2.1 = some (ty0 k)) (hnm : ∀ a, a < N → ∀ b, b < N → a ≠ b → (T a).2.1 ≠ (T b).2.1) (hown : s.vm.findClass own = some m.cls) (hG : gG D ad cs zd s) (hN : gN D ad cs s F V o H locs) {i : Nat} (hi : i < 48) {fs : List Value} (he : gC ad cs o (F i) (V i) i = .inr (ci, fs)) (hc : vwCl[ci]? = some (C, T, N)) (k : Nat) (hk : k < N) {ref : String} (hlink : (Cond.fieldLink own index ref (T k).2.1 (T k).2.2.1).before args s = true) (hsame : ∀ x, s.fieldFound? (T k).1 (T k).2.1 (T k).2.2.1 = some x → s.fieldFound? ref (T k).2.1 (T k).2.2.1 = some x) (hfin : (T k).2.2.2 = false) {ty : FieldType} {x : Int32} (hd : parseFieldDescriptor (T k).2.2.1 = some ty) (hn : narrow ty (.int x) = .int x) (hfit : fits ty (.int x) = true) (hl : k < fs.length) (he2 : gC ad cs o (F i) (gw V i k x i) i = .inr (ci, fs.set k (.int x)))
    (hdg : decode cc pc = .ok (.putfield index, 3)) (kk : ∀ (H1 : Heap) (locs1 : List Loc), gN D ad cs s F (gw V i k x) o H1 locs1 → W p l e R s m args below meth c H1 locs1 cells slots Q (F0 m (pc + 3) ls rest)) : W p l e R s m args below meth c H locs cells slots Q (F0 m pc ls (.int x :: .ref (ad i) :: rest)) := by
  refine va_put hx hb hts hin ty0 hty hnm hown hG.1 hN.1 (gD hG.2.1) hN.2 i ((gW_at ad cs F V o hi).trans (by rw [he])) hc k hk hlink hsame hfin hd hn hfit hl hdg (fun H1 locs1 hP _ hS => kk H1 locs1 ⟨?_, hS⟩)
  rw [gW_set (F2 := F) (V2 := gw V i k x) (gI48 hi) (he2) (fun j hj => by rw [gw_n V _ _ hj])] at hP
  exact hP
theorem g_iald (hx : p.tables.exec = Jvm.exec) (hb : c.code = cc) (hG : gG D ad cs zd s) (hN : gN D ad cs s F V o H locs) {i n j : Nat} (hi : i < 48) (he : gC ad cs o (F i) (V i) i = .inl (cs 0, n, .inl (F i))) (hn : n < 2 ^ 31) (hj : j < n) {x : Int32} (hxj : x = nI j) (hdg : decode cc pc = .ok (.iaload, 1))
    (kk : W p l e R s m args below meth c H locs cells slots Q (F0 m (pc + 1) ls (.int (F i j) :: rest))) : W p l e R s m args below meth c H locs cells slots Q (F0 m pc ls (.int x :: .ref (ad i) :: rest)) := by
  subst hxj
  refine va_iald hx hb hG.1 hN.1 i 0 ((gW_at ad cs F V o hi).trans (by rw [he])) rfl (vp_in_nI hj hn) hdg ?_
  rw [nI_clamp (Nat.lt_trans hj hn)]
  exact kk
theorem g_cald (hx : p.tables.exec = Jvm.exec) (hb : c.code = cc) (hG : gG D ad cs zd s) (hN : gN D ad cs s F V o H locs) {i n j : Nat} (hi : i < 48) (he : gC ad cs o (F i) (V i) i = .inl (cs 1, n, .inl (F i))) (hn : n < 2 ^ 31) (hj : j < n) {x : Int32} (hxj : x = nI j) (hdg : decode cc pc = .ok (.caload, 1))
    (kk : W p l e R s m args below meth c H locs cells slots Q (F0 m (pc + 1) ls (.int (F i j) :: rest))) : W p l e R s m args below meth c H locs cells slots Q (F0 m pc ls (.int x :: .ref (ad i) :: rest)) := by
  subst hxj
  refine va_cald hx hb hG.1 hN.1 i 1 ((gW_at ad cs F V o hi).trans (by rw [he])) rfl (vp_in_nI hj hn) hdg ?_
  rw [nI_clamp (Nat.lt_trans hj hn)]
  exact kk
theorem g_zald (hx : p.tables.exec = Jvm.exec) (hb : c.code = cc) (hG : gG D ad cs zd s) (hN : gN D ad cs s F V o H locs) {i n j : Nat} (hi : i < 48) (he : gC ad cs o (F i) (V i) i = .inl (cs 2, n, .inl (F i))) (hn : n < 2 ^ 31) (hj : j < n) {x : Int32} (hxj : x = nI j) (hdg : decode cc pc = .ok (.baload, 1))
    (kk : W p l e R s m args below meth c H locs cells slots Q (F0 m (pc + 1) ls (.int (F i j) :: rest))) : W p l e R s m args below meth c H locs cells slots Q (F0 m pc ls (.int x :: .ref (ad i) :: rest)) := by
  subst hxj
  refine va_zald hx hb hG.1 hN.1 i 2 ((gW_at ad cs F V o hi).trans (by rw [he])) rfl (vp_in_nI hj hn) hdg ?_
  rw [nI_clamp (Nat.lt_trans hj hn)]
  exact kk
theorem g_iast (hx : p.tables.exec = Jvm.exec) (hb : c.code = cc) (hG : gG D ad cs zd s) (hN : gN D ad cs s F V o H locs) {i n j : Nat} (hi : i < 48) (he : ∀ f : Nat → Int32, gC ad cs o f (V i) i = .inl (cs 0, n, .inl f)) (hn : n < 2 ^ 31) (hj : j < n) {x y : Int32} (hxj : x = nI j) (hdg : decode cc pc = .ok (.iastore, 1))
    (kk : ∀ (H1 : Heap) (locs1 : List Loc), gN D ad cs s (gw F i j y) V o H1 locs1 → W p l e R s m args below meth c H1 locs1 cells slots Q (F0 m (pc + 1) ls rest)) : W p l e R s m args below meth c H locs cells slots Q (F0 m pc ls (.int y :: .int x :: .ref (ad i) :: rest)) := by
  subst hxj
  refine va_iast hx hb hG.1 hN.1 (gD hG.2.1) hN.2 i 0 ((gW_at ad cs F V o hi).trans (by rw [he])) rfl (vp_in_nI hj hn) hdg (fun H1 locs1 hP _ hS => kk H1 locs1 ⟨?_, hS⟩)
  rw [nI_clamp (Nat.lt_trans hj hn), ← gw_s F i j y, gW_set (F2 := gw F i j y) (V2 := V) (gI48 hi) (he _) (fun q hq => by rw [gw_n F _ _ hq])] at hP
  exact hP
theorem g_zast (hx : p.tables.exec = Jvm.exec) (hb : c.code = cc) (hG : gG D ad cs zd s) (hN : gN D ad cs s F V o H locs) {i n j : Nat} (hi : i < 48) (he : ∀ f : Nat → Int32, gC ad cs o f (V i) i = .inl (cs 2, n, .inl f)) (hn : n < 2 ^ 31) (hj : j < n) {x y : Int32} (hxj : x = nI j) (hy : vp_nar .boolean y = y) (hdg : decode cc pc = .ok (.bastore, 1))
    (kk : ∀ (H1 : Heap) (locs1 : List Loc), gN D ad cs s (gw F i j y) V o H1 locs1 → W p l e R s m args below meth c H1 locs1 cells slots Q (F0 m (pc + 1) ls rest)) : W p l e R s m args below meth c H locs cells slots Q (F0 m pc ls (.int y :: .int x :: .ref (ad i) :: rest)) := by
  subst hxj
  refine va_zast hx hb hG.1 hN.1 (gD hG.2.1) hN.2 i 2 ((gW_at ad cs F V o hi).trans (by rw [he])) rfl (vp_in_nI hj hn) hdg (fun H1 locs1 hP _ hS => kk H1 locs1 ⟨?_, hS⟩)
  rw [hy, nI_clamp (Nat.lt_trans hj hn), ← gw_s F i j y, gW_set (F2 := gw F i j y) (V2 := V) (gI48 hi) (he _) (fun q hq => by rw [gw_n F _ _ hq])] at hP
  exact hP
theorem g_cast (hx : p.tables.exec = Jvm.exec) (hb : c.code = cc) (hG : gG D ad cs zd s) (hN : gN D ad cs s F V o H locs) {i n j : Nat} (hi : i < 48) (he : ∀ f : Nat → Int32, gC ad cs o f (V i) i = .inl (cs 1, n, .inl f)) (hn : n < 2 ^ 31) (hj : j < n) {x y : Int32} (hxj : x = nI j) (hy : vp_nar .char y = y) (hdg : decode cc pc = .ok (.castore, 1))
    (kk : ∀ (H1 : Heap) (locs1 : List Loc), gN D ad cs s (gw F i j y) V o H1 locs1 → W p l e R s m args below meth c H1 locs1 cells slots Q (F0 m (pc + 1) ls rest)) : W p l e R s m args below meth c H locs cells slots Q (F0 m pc ls (.int y :: .int x :: .ref (ad i) :: rest)) := by
  subst hxj
  refine va_cast hx hb hG.1 hN.1 (gD hG.2.1) hN.2 i 1 ((gW_at ad cs F V o hi).trans (by rw [he])) rfl (vp_in_nI hj hn) hdg (fun H1 locs1 hP _ hS => kk H1 locs1 ⟨?_, hS⟩)
  rw [hy, nI_clamp (Nat.lt_trans hj hn), ← gw_s F i j y, gW_set (F2 := gw F i j y) (V2 := V) (gI48 hi) (he _) (fun q hq => by rw [gw_n F _ _ hq])] at hP
  exact hP
theorem g_iald0 (hx : p.tables.exec = Jvm.exec) (hb : c.code = cc) (hG : gG D ad cs zd s) (hN : gN D ad cs s F V o H locs) {i n j : Nat} (hi : i < 48 + o) (he : gC ad cs o (F i) (V i) i = .inl (cs 0, n, .inl (F i))) (hn : n < 2 ^ 31) (hj : j < n) {x : Int32} (hxj : x = nI j) (hdg : decode cc pc = .ok (.iaload, 1))
    (kk : W p l e R s m args below meth c H locs cells slots Q (F0 m (pc + 1) ls (.int (F i j) :: rest))) : W p l e R s m args below meth c H locs cells slots Q (F0 m pc ls (.int x :: .ref (ad i) :: rest)) := by
  subst hxj
  refine va_iald hx hb hG.1 hN.1 i 0 ((gW_at0 ad cs F V o hi).trans (by rw [he])) rfl (vp_in_nI hj hn) hdg ?_
  rw [nI_clamp (Nat.lt_trans hj hn)]
  exact kk
theorem g_iast0 (hx : p.tables.exec = Jvm.exec) (hb : c.code = cc) (hG : gG D ad cs zd s) (hN : gN D ad cs s F V o H locs) {i n j : Nat} (hi : i < 48 + o) (he : ∀ f : Nat → Int32, gC ad cs o f (V i) i = .inl (cs 0, n, .inl f)) (hn : n < 2 ^ 31) (hj : j < n) {x y : Int32} (hxj : x = nI j) (hdg : decode cc pc = .ok (.iastore, 1))
    (kk : ∀ (H1 : Heap) (locs1 : List Loc), gN D ad cs s (gw F i j y) V o H1 locs1 → W p l e R s m args below meth c H1 locs1 cells slots Q (F0 m (pc + 1) ls rest)) : W p l e R s m args below meth c H locs cells slots Q (F0 m pc ls (.int y :: .int x :: .ref (ad i) :: rest)) := by
  subst hxj
  refine va_iast hx hb hG.1 hN.1 (gD hG.2.1) hN.2 i 0 ((gW_at0 ad cs F V o hi).trans (by rw [he])) rfl (vp_in_nI hj hn) hdg (fun H1 locs1 hP _ hS => kk H1 locs1 ⟨?_, hS⟩)
  rw [nI_clamp (Nat.lt_trans hj hn), ← gw_s F i j y, gW_set (F2 := gw F i j y) (V2 := V) hi (he _) (fun q hq => by rw [gw_n F _ _ hq])] at hP
  exact hP
theorem g_alen (hx : p.tables.exec = Jvm.exec) (hb : c.code = cc) (hG : gG D ad cs zd s) (hN : gN D ad cs s F V o H locs) {i n : Nat} (hi : i < 48) {t0 : Nat} {ty : FieldType} {x : vp_A} {cA : ClassId} (he : gC ad cs o (F i) (V i) i = .inl (cA, x)) (ht : (gTy cs)[t0]? = some (cA, ty)) (hn : x.1 = n) (hdg : decode cc pc = .ok (.arraylength, 1))
    (kk : W p l e R s m args below meth c H locs cells slots Q (F0 m (pc + 1) ls (.int (nI n) :: rest))) : W p l e R s m args below meth c H locs cells slots Q (F0 m pc ls (.ref (ad i) :: rest)) := by
  subst hn
  exact va_alen hx hb hG.1 hN.1 i t0 ((gW_at ad cs F V o hi).trans (by rw [he])) ht rfl hdg kk
theorem g_aald (hx : p.tables.exec = Jvm.exec) (hb : c.code = cc) (hG : gG D ad cs zd s) (hN : gN D ad cs s F V o H locs) {i n j b : Nat} (hi : i < 48) (he : gC ad cs o (F i) (V i) i = .inl (cs 4, n, .inr (.inr (.inr (.inr (fun j => if j < n then some (ad (b + j)) else none)))))) (hn : n < 2 ^ 31) (hj : j < n) {x : Int32} (hxj : x = nI j) (hdg : decode cc pc = .ok (.aaload, 1))
    (kk : W p l e R s m args below meth c H locs cells slots Q (F0 m (pc + 1) ls (.ref (ad (b + j)) :: rest))) : W p l e R s m args below meth c H locs cells slots Q (F0 m pc ls (.int x :: .ref (ad i) :: rest)) := by
  subst hxj
  have hP : va_at D vwCl (ad i, gC ad cs o (F i) (V i) i) H := hN.1 i _ (gW_at ad cs F V o hi)
  rw [he] at hP
  have hK := (hG.1.2 3 (cs 4, .array .int) rfl).1
  refine W.aald (v := .ref (ad (b + j))) (ty := .array .int) hx hb hP (hK n _) rfl (fun q => by cases q) (by show ¬ (_ ∨ (arrV _ _ _).slots.size ≤ _); rw [arrV_size]; exact vp_in_nI hj hn) ?_ rfl rfl hdg kk
  show (arrV _ _ _).slots[_]? = _
  rw [nI_clamp (Nat.lt_trans hj hn), arrV_read _ _ hj]
  simp [hj, va_rf]
/-- rows with numbers -/
theorem g_addN (hx : p.tables.exec = Jvm.exec) (hb : c.code = cc) {a b : Nat} {x y : Int32} (ha : x = nI a) (hb2 : y = nI b) (hdg : decode cc pc = .ok (.iadd, 1)) (kk : W p l e R s m args below meth c H locs cells slots Q (F0 m (pc + 1) ls (.int (nI (a + b)) :: rest))) : W p l e R s m args below meth c H locs cells slots Q (F0 m pc ls (.int y :: .int x :: rest)) := by
  subst ha; subst hb2
  refine lv_iadd hx hb hdg ?_
  rw [nI_add]
  exact kk
theorem g_subN (hx : p.tables.exec = Jvm.exec) (hb : c.code = cc) {a b : Nat} {x y : Int32} (ha : x = nI a) (hb2 : y = nI b) (h : b ≤ a) (hdg : decode cc pc = .ok (.isub, 1)) (kk : W p l e R s m args below meth c H locs cells slots Q (F0 m (pc + 1) ls (.int (nI (a - b)) :: rest))) : W p l e R s m args below meth c H locs cells slots Q (F0 m pc ls (.int y :: .int x :: rest)) := by
  subst ha; subst hb2
  refine lv_isub hx hb hdg ?_
  rw [pk_sub h]
  exact kk
theorem g_mulN (hx : p.tables.exec = Jvm.exec) (hb : c.code = cc) {a b : Nat} {x y : Int32} (ha : x = nI a) (hb2 : y = nI b) (hdg : decode cc pc = .ok (.imul, 1)) (kk : W p l e R s m args below meth c H locs cells slots Q (F0 m (pc + 1) ls (.int (nI (a * b)) :: rest))) : W p l e R s m args below meth c H locs cells slots Q (F0 m pc ls (.int y :: .int x :: rest)) := by
  subst ha; subst hb2
  refine lv_imul hx hb hdg ?_
  rw [pk_mul]
  exact kk
theorem g_divN (hx : p.tables.exec = Jvm.exec) (hb : c.code = cc) {a b : Nat} {x y : Int32} (ha : x = nI a) (hb2 : y = nI b) (h1 : a < 2 ^ 31) (h0 : 0 < b) (h2 : b < 2 ^ 31) (hdg : decode cc pc = .ok (.idiv, 1)) (kk : W p l e R s m args below meth c H locs cells slots Q (F0 m (pc + 1) ls (.int (nI (a / b)) :: rest))) : W p l e R s m args below meth c H locs cells slots Q (F0 m pc ls (.int y :: .int x :: rest)) := by
  subst ha; subst hb2
  refine lv_idiv hx hb hdg (nI_ne0 h0 h2) ?_
  rw [pk_div h1 h0 h2]
  exact kk
theorem g_remN (hx : p.tables.exec = Jvm.exec) (hb : c.code = cc) {a b : Nat} {x y : Int32} (ha : x = nI a) (hb2 : y = nI b) (h1 : a < 2 ^ 31) (h0 : 0 < b) (h2 : b < 2 ^ 31) (hdg : decode cc pc = .ok (.irem, 1)) (kk : W p l e R s m args below meth c H locs cells slots Q (F0 m (pc + 1) ls (.int (nI (a % b)) :: rest))) : W p l e R s m args below meth c H locs cells slots Q (F0 m pc ls (.int y :: .int x :: rest)) := by
  subst ha; subst hb2
  refine lv_irem hx hb hdg (nI_ne0 h0 h2) ?_
  rw [pk_rem h1 h0 h2]
  exact kk
theorem g_top {x y : Int32} (h : x = y) (kk : W p l e R s m args below meth c H locs cells slots Q (F0 m pc ls (.int y :: rest))) : W p l e R s m args below meth c H locs cells slots Q (F0 m pc ls (.int x :: rest)) := by
  subst h
  exact kk
/-- a call of a method with a contract: an int, or nothing -/
theorem g_Vi {y : MethodName} {bytes : ByteArray} {maxL nL mc ms n index ci N i : Nat} {ret : Option FieldType} {ws : List Cond} {rm : Room} {Ts : List Cond} {own C : String} {T : u_T} {As : List Value} {fs : List Value} {post : Int32 → gS → Prop}
    (S : CallFix p m c cc nL s args Ts own) (hG : gG D ad cs zd s) (hN : gN D ad cs s F V o H locs) (hi : i < 48) (he : gC ad cs o (F i) (V i) i = .inr (ci, fs)) (hc : vwCl[ci]? = some (C, T, N)) (hM : Met l y ws rm (gPc D ad cs zd F V o H.size (.ref (ad i) :: As)) (gQi D ad cs H.size post) mc ms (gX ad H.size)) (cw : CallW R s args own C index y bytes maxL ret ws rm mc ms n) (hn : As.length = n) (hsz : ls.size = nL) (hst : st0 = As.reverse ++ .ref (ad i) :: rest) (hw : (rest.map fun v => v.category).sum ≤ 8) (hdg : decode cc pc = .ok (.invokevirtual index, 3)) (hf : cells + mc ≤ R.cells ∧ slots + ms ≤ R.slots)
    (kk : ∀ (r : Int32) (F2 V2 : gF) (o2 : gO) (H1 : Heap) (locs1 : List Loc), post r (F2, V2, o2) → gN D ad cs s F2 V2 o2 H1 locs1 → W p l e R s m args below meth c H1 locs1 (cells + mc) (slots + ms) Q (F0 m (pc + 3) ls (.int r :: rest))) : W p l e R s m args below meth c H locs cells slots Q (F0 m pc ls st0) :=
  va_calli (va_runV (As := As) (rest := rest) S hM cw ⟨g_blind, va_recv hG.1 hN.1 hc ((gW_at ad cs F V o hi).trans (by rw [he])), fun U hU hW => ⟨rfl, hG.heap hN U hU hW⟩⟩ rfl hn hsz hst (lv_room hw) hdg hf) hN.2 (fun q _ h => gX_mono hN.2.1 q h) (gX_mono hN.2.1) (fun r u t H1 locs1 ht _ hp hB _ _ hS => kk r u.1 u.2.1 u.2.2 H1 locs1 hp (gN.next ht hB hS rfl))
theorem g_Vv {y : MethodName} {bytes : ByteArray} {maxL nL mc ms n index ci N i : Nat} {ret : Option FieldType} {ws : List Cond} {rm : Room} {Ts : List Cond} {own C : String} {T : u_T} {As : List Value} {fs : List Value} {post : gS → Prop}
    (S : CallFix p m c cc nL s args Ts own) (hG : gG D ad cs zd s) (hN : gN D ad cs s F V o H locs) (hi : i < 48) (he : gC ad cs o (F i) (V i) i = .inr (ci, fs)) (hc : vwCl[ci]? = some (C, T, N)) (hM : Met l y ws rm (gPc D ad cs zd F V o H.size (.ref (ad i) :: As)) (gQv D ad cs H.size post) mc ms (gX ad H.size)) (cw : CallW R s args own C index y bytes maxL ret ws rm mc ms n) (hn : As.length = n) (hsz : ls.size = nL) (hst : st0 = As.reverse ++ .ref (ad i) :: rest) (hw : (rest.map fun v => v.category).sum ≤ 8) (hdg : decode cc pc = .ok (.invokevirtual index, 3)) (hf : cells + mc ≤ R.cells ∧ slots + ms ≤ R.slots)
    (kk : ∀ (F2 V2 : gF) (o2 : gO) (H1 : Heap) (locs1 : List Loc), post (F2, V2, o2) → gN D ad cs s F2 V2 o2 H1 locs1 → W p l e R s m args below meth c H1 locs1 (cells + mc) (slots + ms) Q (F0 m (pc + 3) ls rest)) : W p l e R s m args below meth c H locs cells slots Q (F0 m pc ls st0) :=
  va_callv (va_runV (As := As) (rest := rest) S hM cw ⟨g_blind, va_recv hG.1 hN.1 hc ((gW_at ad cs F V o hi).trans (by rw [he])), fun U hU hW => ⟨rfl, hG.heap hN U hU hW⟩⟩ rfl hn hsz hst (lv_room hw) hdg hf) hN.2 (fun q _ h => gX_mono hN.2.1 q h) (gX_mono hN.2.1) (fun u t H1 locs1 ht _ hp hB _ _ hS => kk u.1 u.2.1 u.2.2 H1 locs1 hp (gN.next ht hB hS rfl))
theorem g_Si {y : MethodName} {bytes : ByteArray} {maxL nL mc ms n index : Nat} {ret : Option FieldType} {ws : List Cond} {rm : Room} {Ts : List Cond} {own : String} {As : List Value} {post : Int32 → gS → Prop}
    (S : CallFix p m c cc nL s args Ts own) (hG : gG D ad cs zd s) (hN : gN D ad cs s F V o H locs) (hM : Met l y ws rm (gPc D ad cs zd F V o H.size As) (gQi D ad cs H.size post) mc ms (gX ad H.size)) (cw : CallB R s args own index y bytes maxL ret ws rm mc ms n ∧ (Cond.static y).before args s = true) (hn : As.length = n) (hsz : ls.size = nL) (hst : st0 = As.reverse ++ rest) (hw : (rest.map fun v => v.category).sum ≤ 8) (hdg : decode cc pc = .ok (.invokestatic index, 3)) (hf : cells + mc ≤ R.cells ∧ slots + ms ≤ R.slots)
    (kk : ∀ (r : Int32) (F2 V2 : gF) (o2 : gO) (H1 : Heap) (locs1 : List Loc), post r (F2, V2, o2) → gN D ad cs s F2 V2 o2 H1 locs1 → W p l e R s m args below meth c H1 locs1 (cells + mc) (slots + ms) Q (F0 m (pc + 3) ls (.int r :: rest))) : W p l e R s m args below meth c H locs cells slots Q (F0 m pc ls st0) :=
  va_calli (va_runS (As := As) (rest := rest) S hM cw ⟨g_blind, fun U hU hW => ⟨rfl, hG.heap hN U hU hW⟩⟩ rfl hn hsz hst (lv_room hw) hdg hf) hN.2 (fun q _ h => gX_mono hN.2.1 q h) (gX_mono hN.2.1) (fun r u t H1 locs1 ht _ hp hB _ _ hS => kk r u.1 u.2.1 u.2.2 H1 locs1 hp (gN.next ht hB hS rfl))
theorem g_VI {y : MethodName} {bytes : ByteArray} {maxL nL mc ms n index ci N i : Nat} {ret : Option FieldType} {ws : List Cond} {rm : Room} {Ts : List Cond} {own C : String} {T : u_T} {As : List Value} {fs : List Value} {r0 : Int32} {F2 V2 : gF} {o2 : gO}
    (S : CallFix p m c cc nL s args Ts own) (hG : gG D ad cs zd s) (hN : gN D ad cs s F V o H locs) (hi : i < 48) (he : gC ad cs o (F i) (V i) i = .inr (ci, fs)) (hc : vwCl[ci]? = some (C, T, N)) (hM : Met l y ws rm (gPc D ad cs zd F V o H.size (.ref (ad i) :: As)) (gQI D ad cs r0 F2 V2 o2 H.size) mc ms (gX ad H.size)) (cw : CallW R s args own C index y bytes maxL ret ws rm mc ms n) (hn : As.length = n) (hsz : ls.size = nL) (hst : st0 = As.reverse ++ .ref (ad i) :: rest) (hw : (rest.map fun v => v.category).sum ≤ 8) (hdg : decode cc pc = .ok (.invokevirtual index, 3)) (hf : cells + mc ≤ R.cells ∧ slots + ms ≤ R.slots)
    (kk : ∀ (H1 : Heap) (locs1 : List Loc), gN D ad cs s F2 V2 o2 H1 locs1 → W p l e R s m args below meth c H1 locs1 (cells + mc) (slots + ms) Q (F0 m (pc + 3) ls (.int r0 :: rest))) : W p l e R s m args below meth c H locs cells slots Q (F0 m pc ls st0) :=
  g_Vi S hG hN hi he hc hM cw hn hsz hst hw hdg hf (fun r F3 V3 o3 H1 locs1 hp hN1 => by
    obtain ⟨h1, h2⟩ := hp
    cases h1
    cases h2
    exact kk H1 locs1 hN1)
theorem g_VV {y : MethodName} {bytes : ByteArray} {maxL nL mc ms n index ci N i : Nat} {ret : Option FieldType} {ws : List Cond} {rm : Room} {Ts : List Cond} {own C : String} {T : u_T} {As : List Value} {fs : List Value} {F2 V2 : gF} {o2 : gO}
    (S : CallFix p m c cc nL s args Ts own) (hG : gG D ad cs zd s) (hN : gN D ad cs s F V o H locs) (hi : i < 48) (he : gC ad cs o (F i) (V i) i = .inr (ci, fs)) (hc : vwCl[ci]? = some (C, T, N)) (hM : Met l y ws rm (gPc D ad cs zd F V o H.size (.ref (ad i) :: As)) (gQV D ad cs F2 V2 o2 H.size) mc ms (gX ad H.size)) (cw : CallW R s args own C index y bytes maxL ret ws rm mc ms n) (hn : As.length = n) (hsz : ls.size = nL) (hst : st0 = As.reverse ++ .ref (ad i) :: rest) (hw : (rest.map fun v => v.category).sum ≤ 8) (hdg : decode cc pc = .ok (.invokevirtual index, 3)) (hf : cells + mc ≤ R.cells ∧ slots + ms ≤ R.slots)
    (kk : ∀ (H1 : Heap) (locs1 : List Loc), gN D ad cs s F2 V2 o2 H1 locs1 → W p l e R s m args below meth c H1 locs1 (cells + mc) (slots + ms) Q (F0 m (pc + 3) ls rest)) : W p l e R s m args below meth c H locs cells slots Q (F0 m pc ls st0) :=
  g_Vv S hG hN hi he hc hM cw hn hsz hst hw hdg hf (fun F3 V3 o3 H1 locs1 hp hN1 => by
    cases hp
    exact kk H1 locs1 hN1)
theorem g_SI {y : MethodName} {bytes : ByteArray} {maxL nL mc ms n index : Nat} {ret : Option FieldType} {ws : List Cond} {rm : Room} {Ts : List Cond} {own : String} {As : List Value} {r0 : Int32} {F2 V2 : gF} {o2 : gO}
    (S : CallFix p m c cc nL s args Ts own) (hG : gG D ad cs zd s) (hN : gN D ad cs s F V o H locs) (hM : Met l y ws rm (gPc D ad cs zd F V o H.size As) (gQI D ad cs r0 F2 V2 o2 H.size) mc ms (gX ad H.size)) (cw : CallB R s args own index y bytes maxL ret ws rm mc ms n ∧ (Cond.static y).before args s = true) (hn : As.length = n) (hsz : ls.size = nL) (hst : st0 = As.reverse ++ rest) (hw : (rest.map fun v => v.category).sum ≤ 8) (hdg : decode cc pc = .ok (.invokestatic index, 3)) (hf : cells + mc ≤ R.cells ∧ slots + ms ≤ R.slots)
    (kk : ∀ (H1 : Heap) (locs1 : List Loc), gN D ad cs s F2 V2 o2 H1 locs1 → W p l e R s m args below meth c H1 locs1 (cells + mc) (slots + ms) Q (F0 m (pc + 3) ls (.int r0 :: rest))) : W p l e R s m args below meth c H locs cells slots Q (F0 m pc ls st0) :=
  g_Si S hG hN hM cw hn hsz hst hw hdg hf (fun r F3 V3 o3 H1 locs1 hp hN1 => by
    obtain ⟨h1, h2⟩ := hp
    cases h1
    cases h2
    exact kk H1 locs1 hN1)
/-- ends -/
theorem g_ri {post : Int32 → gS → Prop} {v : Int32} (hx : p.tables.exec = Jvm.exec) (hb : c.code = cc) (hr : meth.sig.returnType = some .int) (hlocks : meth.locks = false) (hN : gN D ad cs s F V o H locs) (hp : post v (F, V, o)) (hdg : decode cc pc = .ok (.ireturn, 1)) : W p l e R s m args below meth c H locs cells slots (MQ below (gQi D ad cs s.heap.size post) args s cells slots (gX ad s.heap.size)) (F0 m pc ls [.int v]) :=
  W.iret (v := v) hx hb hr (fun t ht _ => ⟨⟨v, (F, V, o), rfl, hp, by show va_P D vwCl _ t.heap; rw [ht]; exact hN.1⟩, hN.2.F ht⟩) hN.2.2.2 hdg hlocks
theorem g_rz {post : Int32 → gS → Prop} {v : Int32} {ty : FieldType} (hx : p.tables.exec = Jvm.exec) (hb : c.code = cc) (hr : meth.sig.returnType = some ty) (hlocks : meth.locks = false) (hn : narrow ty (.int v) = .int v) (hN : gN D ad cs s F V o H locs) (hp : post v (F, V, o)) (hdg : decode cc pc = .ok (.ireturn, 1)) : W p l e R s m args below meth c H locs cells slots (MQ below (gQi D ad cs s.heap.size post) args s cells slots (gX ad s.heap.size)) (F0 m pc ls [.int v]) :=
  W.zret (v := v) hx hb hr hn (fun t ht _ => ⟨⟨v, (F, V, o), rfl, hp, by show va_P D vwCl _ t.heap; rw [ht]; exact hN.1⟩, hN.2.F ht⟩) hN.2.2.2 hdg hlocks
theorem g_rv {post : gS → Prop} (hx : p.tables.exec = Jvm.exec) (hb : c.code = cc) (hr : meth.sig.returnType = none) (hlocks : meth.locks = false) (hN : gN D ad cs s F V o H locs) (hp : post (F, V, o)) (hdg : decode cc pc = .ok (.return_, 1)) : W p l e R s m args below meth c H locs cells slots (MQ below (gQv D ad cs s.heap.size post) args s cells slots (gX ad s.heap.size)) (F0 m pc ls []) :=
  W.vret hx hb hr (fun t ht _ => ⟨⟨(F, V, o), rfl, hp, by show va_P D vwCl _ t.heap; rw [ht]; exact hN.1⟩, hN.2.F ht⟩) hN.2.2.2 hdg hlocks
end GR
/-- a method's proof, from its entry -/
theorem g_met {l : Launch} {y : MethodName} {ws ws2 : List Cond} {rm : Room} {mc ms : Nat} {cc : ByteArray} {maxL : Nat} {ret : Option FieldType} {D : va_G} {ad : Nat → Nat} {cs : Nat → ClassId} {zd : Nat → Nat} {F V : gF} {o : gO} {av : List Value} {sz : Nat} {own : String} {Qc : Nat → Array Value → State → Outcome → State → Prop}
    (hy : plainName y.cls = true) (hw : ws = Cond.code y cc maxL ret :: ws2) (ho : y.cls = own) (hlen : (lg_sl av).length ≤ maxL)
    (body : ∀ (p : Program) (e : Env) (s : State) (m : MethodId) (below : List Frame) (meth : Method) (c : Code), p.tables.exec = Jvm.exec → c.code = cc → meth.sig.returnType = ret → (∀ w ∈ ws, w.before av.toArray s = true) → s.vm.findClass own = some m.cls → meth.locks = false → c.maxLocals = maxL → gG D ad cs zd s → gN D ad cs s F V o s.heap [] → ∀ ls : Array Slot, lv_has ls maxL (lv_args 0 av) →
      W p l e rm s m av.toArray below meth c s.heap [] 0 0 (MQ below (Qc s.heap.size) av.toArray s mc ms (gX ad s.heap.size)) (F0 m 0 ls [])) : Met l y ws rm (gPc D ad cs zd F V o sz av) (Qc sz) mc ms (gX ad sz) := by
  refine Met.ofW (cc := cc) (maxL := maxL) (ret := ret) hy hw ?_
  intro p e s m args below meth c s₁ B hml hv
  obtain ⟨rfl, hsz, hP, hG⟩ := hv
  subst hsz
  subst ho
  have hl := lv_entry av (n := maxL) hlen
  rw [lg_entry_eq]
  exact body p e s m below meth c B.exec B.bytes B.returns (atoms_spec (ws := ws) B.pre) (findClass_of_methodNamed B.named) B.notSynchronized hml hG (gN.rf hP) _ hl
