/-! constructors: a world as a list, that grows -/
def kAO (U : State) : Prop := (Cond.arrayOver (.array .int)).before #[] U = true
theorem kAO.use {A : Array Value} {U : State} (h : kAO U) : (Cond.arrayOver (.array .int)).before A U = true := h
theorem kAO.of {A : Array Value} {U : State} (h : (Cond.arrayOver (.array .int)).before A U = true) : kAO U := h
theorem kAO.moved {u U : State} (hvm : u.vm.Alike U.vm) (h : kAO u) : kAO U := by
  have h2 : (Cond.arrayOver (.array .int)).before #[] (u.setVm U.vm) = true := (Cond.arrayOver_setVmC (args := #[]) hvm (.array .int)).trans h
  unfold kAO
  first
    | exact h2
    | (simp only [Cond.before, Cond.holds, Cond.value] at h2 ⊢; exact h2)
def kG (D : va_G) (cs : Nat → ClassId) (U : State) : Prop := va_K D vwCl (gTy cs) U ∧ kAO U
theorem kG.moved {D : va_G} {cs : Nat → ClassId} {u U : State} (hvm : u.vm.Alike U.vm) (h : kG D cs u) : kG D cs U := ⟨va_K.moved hvm h.1, h.2.moved hvm⟩
def kN (D : va_G) (A : Nat → Prop) (H0 : Heap) (ws : va_W) (H : Heap) (locs : List Loc) : Prop := va_P D vwCl ws H ∧ va_D A ws ∧ va_S A H0 H locs
abbrev kPc (D : va_G) (cs : Nat → ClassId) (av : List Value) (sz : Nat) (ws : va_W) : Array Value → State → Prop := va_Pc av (fun U => U.heap.size = sz ∧ va_P D vwCl ws U.heap ∧ va_D (fun _ => True) ws ∧ kG D cs U)
abbrev kQv {S : Type} (D : va_G) (A : Nat → Prop) (w1 : S → va_W) : Array Value → State → Outcome → State → Prop := va_Qv (fun _ : S => True) (fun r t => va_P D vwCl (w1 r) t.heap ∧ va_D A (w1 r)) A
theorem k_blind {D : va_G} {cs : Nat → ClassId} {sz : Nat} {av : List Value} {ws : va_W} : FrameBlind (kPc D cs av sz ws) := by
  intro a U g mk q
  obtain ⟨q0, q1, q2, q3, q4⟩ := q
  exact ⟨q0, q1, q2, q3, kG.moved (u := U) (U := U.calling g mk a) (Vm.Alike.refl U.vm) q4⟩
def kf (v : Int32) (n : Nat) : Nat → Int32 := fun b => if b < n then v else 0
theorem kf0 (v : Int32) : kf v 0 = fun _ => 0 := funext (fun b => if_neg (Nat.not_lt_zero b))
theorem kf_upd (v : Int32) (n : Nat) : upd (kf v n) n v = kf v (n + 1) := by
  funext b
  unfold upd kf
  by_cases h : b = n
  · rw [if_pos h, if_pos (by omega)]
  · rw [if_neg h]
    by_cases h2 : b < n
    · rw [if_pos h2, if_pos (by omega)]
    · rw [if_neg h2, if_neg (by omega)]
def kr (n : Nat) : Nat → Int32 := fun b => if b = 0 then 50 else if b = 1 then 300 else if 3 ≤ b ∧ b < 3 + n then 20 else 0
theorem kr0 : upd (upd (fun _ => 0) 0 50) 1 300 = kr 0 := by
  funext b
  unfold upd kr
  by_cases h : b = 1
  · subst h
    rfl
  · by_cases h2 : b = 0
    · subst h2
      rfl
    · rw [if_neg h, if_neg h2, if_neg h2, if_neg h, if_neg (by omega)]
theorem kr_upd {n : Nat} (hn : n < 4) : upd (kr n) (3 + n) 20 = kr (n + 1) := by
  funext b
  unfold upd kr
  by_cases h : b = 3 + n
  · rw [if_pos h, if_neg (by omega), if_neg (by omega), if_pos (by omega)]
  · rw [if_neg h]
    by_cases h0 : b = 0
    · rw [if_pos h0, if_pos h0]
    · rw [if_neg h0, if_neg h0]
      by_cases h1 : b = 1
      · rw [if_pos h1, if_pos h1]
      · rw [if_neg h1, if_neg h1]
        by_cases h2 : 3 ≤ b ∧ b < 3 + n
        · rw [if_pos h2, if_pos (by omega)]
        · rw [if_neg h2, if_neg (by omega)]
section KR
variable {p : Program} {l : Launch} {e : Env} {R : Room} {s : State} {m : MethodId} {args : Array Value} {below : List Frame} {meth : Method} {c : Code} {H : Heap} {locs : List Loc} {cells slots : Nat} {Q : State → Prop}
variable {cc : ByteArray} {pc : Nat} {ls : Array Slot} {rest st0 : List Value} {D : va_G} {cs : Nat → ClassId} {A : Nat → Prop} {H0 : Heap} {ws ws2 : va_W}
theorem k_ra {k : Nat} {cT cA : ClassId} {ty : FieldType} (hG : kG D cs s) (hT : (gTy cs)[k]? = some (cT, ty)) (hra : ∀ c, va_RA s c ty → s.vm.findClass ("[" ++ ty.toString) = some c) (K : va_K D vwCl (gTy cs ++ [(cA, ty)]) s) : cA = cT := by
  have e1 := hra _ (K.2 (gTy cs).length (cA, ty) (by simp)).2
  have e2 := hra _ (hG.1.2 k _ hT).2
  exact Option.some.inj (e1.symm.trans e2)
theorem k_newa (hx : p.tables.exec = Jvm.exec) (hb : c.code = cc) {atype : ArrayType} {ty : FieldType} (hty : newarray.typeOf atype = ty) (harr : (Cond.arrayClass (newarray.typeOf atype)).before args s = true) (hG : kG D cs s) (hN : kN D A H0 ws H locs) (hA : ∀ q, H0.size ≤ q → A q) (k : Nat) {cT : ClassId} (hT : (gTy cs)[k]? = some (cT, ty)) (hra : ∀ c, va_RA s c ty → s.vm.findClass ("[" ++ ty.toString) = some c) {n : Int32} {N' : Nat} {a0 : vp_A} (ha : ∀ cA : ClassId, vp_cell cA a0 = arrV cA N' (fun _ => defaultValue ty)) (hn : ¬ n < 0) (hN' : n.toNatClampNeg = N') (hbytes : N' * componentBytes ty ≤ 536870912) (hcells : cells + 1 ≤ R.cells) (hslots : slots + N' ≤ R.slots) (hdg : decode cc pc = .ok (.newarray atype, 2))
    (kk : ∀ (q : Nat) (H1 : Heap), kN D A H0 (ws ++ [(q, .inl (cT, a0))]) H1 locs → W p l e R s m args below meth c H1 locs (cells + 1) (slots + N') Q (F0 m (pc + 2) ls (.ref q :: rest))) : W p l e R s m args below meth c H locs cells slots Q (F0 m pc ls (.int n :: rest)) :=
  va_newa hx hb harr hty hG.1 hN.1 hN.2.1 hN.2.2 hA ha hn hN' hbytes hcells hslots hdg (fun q cA H1 K hP hD hS => by
    have e := k_ra hG hT hra K
    subst e
    exact kk q H1 ⟨hP, hD, hS⟩)
theorem k_putF (hx : p.tables.exec = Jvm.exec) (hb : c.code = cc) {own C : String} {T : u_T} {N ci index : Nat} {Ts : List Cond} (hts : ∀ w ∈ Ts, w.before args s = true) (hin : ∀ w ∈ u_ws C T N, w ∈ Ts) (ty0 : Nat → FieldType) (hty : ∀ k, k < N → parseFieldDescriptor (T k).2.2.1 = some (ty0 k)) (hnm : ∀ a, a < N → ∀ b, b < N → a ≠ b → (T a).2.1 ≠ (T b).2.1) (hown : s.vm.findClass own = some m.cls) (hG : kG D cs s) (hN : kN D A H0 ws H locs) (q0 : Nat) {a : Nat} {fs : List Value} (he : ws[q0]? = some (a, .inr (ci, fs))) (hc : vwCl[ci]? = some (C, T, N)) (k : Nat) (hk : k < N) (hlink : (Cond.fieldLink own index C (T k).2.1 (T k).2.2.1).before args s = true) (hC : (T k).1 = C) (hfin : (T k).2.2.2 = true) (hin2 : meth.name = "<init>") (hdecl : (T k).1 = own) {ty : FieldType} {v : Value} (hd : parseFieldDescriptor (T k).2.2.1 = some ty) (hn : narrow ty v = v) (hfit : fits ty v = true) (hl : k < fs.length) (hw : ws.set q0 (a, .inr (ci, fs.set k v)) = ws2)
    (hdg : decode cc pc = .ok (.putfield index, 3)) (kk : ∀ (H1 : Heap) (locs1 : List Loc), kN D A H0 ws2 H1 locs1 → W p l e R s m args below meth c H1 locs1 cells slots Q (F0 m (pc + 3) ls rest)) : W p l e R s m args below meth c H locs cells slots Q (F0 m pc ls (v :: .ref a :: rest)) := by
  subst hw
  exact va_putF hx hb hts hin ty0 hty hnm hown hG.1 hN.1 hN.2.1 hN.2.2 q0 he hc k hk hlink (fun x h => by rw [hC] at h; exact h) hfin hin2 hdecl hd hn hfit hl hdg (fun H1 locs1 hP hD hS => kk H1 locs1 ⟨hP, hD, hS⟩)
theorem k_put (hx : p.tables.exec = Jvm.exec) (hb : c.code = cc) {own C : String} {T : u_T} {N ci index : Nat} {Ts : List Cond} (hts : ∀ w ∈ Ts, w.before args s = true) (hin : ∀ w ∈ u_ws C T N, w ∈ Ts) (ty0 : Nat → FieldType) (hty : ∀ k, k < N → parseFieldDescriptor (T k).2.2.1 = some (ty0 k)) (hnm : ∀ a, a < N → ∀ b, b < N → a ≠ b → (T a).2.1 ≠ (T b).2.1) (hown : s.vm.findClass own = some m.cls) (hG : kG D cs s) (hN : kN D A H0 ws H locs) (q0 : Nat) {a : Nat} {fs : List Value} (he : ws[q0]? = some (a, .inr (ci, fs))) (hc : vwCl[ci]? = some (C, T, N)) (k : Nat) (hk : k < N) (hlink : (Cond.fieldLink own index C (T k).2.1 (T k).2.2.1).before args s = true) (hC : (T k).1 = C) (hfin : (T k).2.2.2 = false) {ty : FieldType} {v : Value} (hd : parseFieldDescriptor (T k).2.2.1 = some ty) (hn : narrow ty v = v) (hfit : fits ty v = true) (hl : k < fs.length) (hw : ws.set q0 (a, .inr (ci, fs.set k v)) = ws2)
    (hdg : decode cc pc = .ok (.putfield index, 3)) (kk : ∀ (H1 : Heap) (locs1 : List Loc), kN D A H0 ws2 H1 locs1 → W p l e R s m args below meth c H1 locs1 cells slots Q (F0 m (pc + 3) ls rest)) : W p l e R s m args below meth c H locs cells slots Q (F0 m pc ls (v :: .ref a :: rest)) := by
  subst hw
  exact va_put hx hb hts hin ty0 hty hnm hown hG.1 hN.1 hN.2.1 hN.2.2 q0 he hc k hk hlink (fun x h => by rw [hC] at h; exact h) hfin hd hn hfit hl hdg (fun H1 locs1 hP hD hS => kk H1 locs1 ⟨hP, hD, hS⟩)
theorem k_get (hx : p.tables.exec = Jvm.exec) (hb : c.code = cc) {own C : String} {T : u_T} {N ci index : Nat} {Ts : List Cond} (hts : ∀ w ∈ Ts, w.before args s = true) (hin : ∀ w ∈ u_ws C T N, w ∈ Ts) (hown : s.vm.findClass own = some m.cls) (hG : kG D cs s) (hN : kN D A H0 ws H locs) (q0 : Nat) {a : Nat} {fs : List Value} (he : ws[q0]? = some (a, .inr (ci, fs))) (hc : vwCl[ci]? = some (C, T, N)) (k : Nat) (hk : k < N) (hlink : (Cond.fieldLink own index C (T k).2.1 (T k).2.2.1).before args s = true) (hC : (T k).1 = C) {v : Value} (hv : fs[k]? = some v) (hdg : decode cc pc = .ok (.getfield index, 3))
    (kk : W p l e R s m args below meth c H locs cells slots Q (F0 m (pc + 3) ls (v :: rest))) : W p l e R s m args below meth c H locs cells slots Q (F0 m pc ls (.ref a :: rest)) :=
  va_get hx hb hts hin hown hG.1 hN.1 q0 he hc k hk hlink (fun x h => by rw [hC] at h; exact h) hv hdg kk
theorem k_iast (hx : p.tables.exec = Jvm.exec) (hb : c.code = cc) (hG : kG D cs s) (hN : kN D A H0 ws H locs) (q0 : Nat) {a n j : Nat} {f g : Nat → Int32} (he : ws[q0]? = some (a, .inl (cs 0, n, .inl f))) {i x : Int32} (hi : i = nI j) (hj : j < n) (hn : n < 2 ^ 31) (hg : upd f j x = g) (hw : ws.set q0 (a, .inl (cs 0, n, .inl g)) = ws2) (hdg : decode cc pc = .ok (.iastore, 1))
    (kk : ∀ (H1 : Heap) (locs1 : List Loc), kN D A H0 ws2 H1 locs1 → W p l e R s m args below meth c H1 locs1 cells slots Q (F0 m (pc + 1) ls rest)) : W p l e R s m args below meth c H locs cells slots Q (F0 m pc ls (.int x :: .int i :: .ref a :: rest)) := by
  subst hi hg hw
  refine va_iast hx hb hG.1 hN.1 hN.2.1 hN.2.2 q0 0 he rfl (vp_in_nI hj hn) hdg (fun H1 locs1 hP hD hS => kk H1 locs1 ?_)
  rw [nI_clamp (Nat.lt_trans hj hn)] at hP hD
  exact ⟨hP, hD, hS⟩
abbrev kO (n : Nat) (r : Nat → Nat) : vp_A := (n, .inr (.inr (.inr (.inr (fun i => if i < n then some (r i) else none)))))
theorem k_aald (hx : p.tables.exec = Jvm.exec) (hb : c.code = cc) (hG : kG D cs s) (hN : kN D A H0 ws H locs) (q0 : Nat) {a n j : Nat} {r : Nat → Nat} (he : ws[q0]? = some (a, .inl (cs 4, kO n r))) (hn : n < 2 ^ 31) (hj : j < n) {x : Int32} (hxj : x = nI j) (hdg : decode cc pc = .ok (.aaload, 1))
    (kk : W p l e R s m args below meth c H locs cells slots Q (F0 m (pc + 1) ls (.ref (r j) :: rest))) : W p l e R s m args below meth c H locs cells slots Q (F0 m pc ls (.int x :: .ref a :: rest)) := by
  subst hxj
  have hP : va_at D vwCl (a, .inl (cs 4, kO n r)) H := hN.1 q0 _ he
  have hK := (hG.1.2 3 (cs 4, .array .int) rfl).1
  refine W.aald (v := .ref (r j)) (ty := .array .int) hx hb hP (hK n _) rfl (fun q => by cases q) (by show ¬ (_ ∨ (arrV _ _ _).slots.size ≤ _); rw [arrV_size]; exact vp_in_nI hj hn) ?_ rfl rfl hdg kk
  show (arrV _ _ _).slots[_]? = _
  rw [nI_clamp (Nat.lt_trans hj hn), arrV_read _ _ hj]
  simp [hj, va_rf]
theorem k_rows {L : List Nat} {f : Nat → va_E} {v : va_E} : va_pl L (vr_up f L v) = L.map (fun a => (a, v)) := List.map_congr_left (fun a ha => by rw [vr_up_in ha])
theorem k_mna (hx : p.tables.exec = Jvm.exec) (hb : c.code = cc) {own : String} {index : Nat} (hown : s.vm.findClass own = some m.cls) (hclink : (Cond.classLink own index "[[I").before args s = true) (harr : (Cond.arrayClass .int).before args s = true) (hG : kG D cs s) (hN : kN D A H0 ws H locs) (hA : ∀ q, H0.size ≤ q → A q) {n k : Int32} {N' K' : Nat} (hn : ¬ n < 0) (hk : ¬ k < 0) (hN' : n.toNatClampNeg = N') (hM : k.toNatClampNeg = K') (hb1 : N' * 4 ≤ 536870912) (hb2 : K' * 4 ≤ 536870912) (hcells : cells + (1 + N') ≤ R.cells) (hslots : slots + (N' + N' * K') ≤ R.slots) (hdg : decode cc pc = .ok (.multianewarray index 2, 4))
    (kk : ∀ (q : Nat) (r : Nat → Nat) (H1 : Heap), kN D A H0 ((ws ++ [(q, .inl (cs 4, kO N' r))]) ++ (List.range N').map (fun i => (r i, .inl (cs 0, K', .inl (fun _ => 0))))) H1 locs → W p l e R s m args below meth c H1 locs (cells + 1 + N') (slots + N' + N' * K') Q (F0 m (pc + 4) ls (.ref q :: rest))) : W p l e R s m args below meth c H locs cells slots Q (F0 m pc ls (.int k :: .int n :: rest)) := by
  have e0 : ∀ f : Nat → va_E, ws ++ va_pl [] f = ws := fun f => List.append_nil ws
  refine va_mna (X := ws) (L := []) (f := fun _ => .inr (0, [])) (z := (K', .inl (fun _ => 0))) (cy := cs 0) hx hb hown hclink hG.2.use harr (hG.1.2 0 _ rfl).2 hG.1 (by rw [e0]; exact hN.1) (by rw [e0]; exact hN.2.1) hN.2.2 hA hn hk hN' hM hb1 hb2 (by omega) rfl rfl hcells hslots (fun _ => ?_) hdg (fun q r cA H1 _ _ K hP hD hS => ?_)
  · show ({ cls := _, slots := Array.replicate K' (.int 0), vm := .none } : Cell) = _
    rw [arrV_new]
    rfl
  · have e := k_ra hG (k := 3) rfl (fun _ h => h) K
    subst e
    rw [List.nil_append, k_rows, List.map_map] at hP hD
    exact kk q r H1 ⟨hP, hD, hS⟩
theorem k_callI {y : MethodName} {bytes : ByteArray} {maxL nL mc ms n index b : Nat} {wsy : List Cond} {rm : Room} {Ts : List Cond} {own : String} {As : List Value} {Sx : Type} {wc wr : va_W} {w1 : Sx → va_W}
    (S : CallFix p m c cc nL s args Ts own) (hG : kG D cs s) (hN : kN D A H0 ws H locs) (hA : ∀ q, H0.size ≤ q → A q) (isC isR : List Nat) (hndC : va_nd isC = true) (hC : isC.map (fun i => ws[i]?) = wc.map some) (hR : isR.map (fun i => ws[i]?) = wr.map some) (hn : va_nd isR = true) (hdis : ∀ i ∈ isR, i ∉ isC) (hM : Met l y wsy rm (kPc D cs (.ref b :: As) H.size wc) (kQv D (va_A wc H.size) w1) mc ms (va_A wc H.size)) (cw : CallB R s args own index y bytes maxL none wsy rm mc ms n ∧ y.name = "<init>" ∧ (Cond.instanceMethod y).before args s = true) (hn2 : As.length = n) (hsz : ls.size = nL) (hst : st0 = As.reverse ++ .ref b :: rest) (hw : (rest.map fun v => v.category).sum ≤ 8) (hdg : decode cc pc = .ok (.invokespecial index, 3)) (hf : cells + mc ≤ R.cells ∧ slots + ms ≤ R.slots)
    (kk : ∀ (r : Sx) (H1 : Heap) (locs1 : List Loc), kN D A H0 (wr ++ w1 r) H1 locs1 → W p l e R s m args below meth c H1 locs1 (cells + mc) (slots + ms) Q (F0 m (pc + 3) ls rest)) : W p l e R s m args below meth c H locs cells slots Q (F0 m pc ls st0) := by
  have hDc : va_D A wc := hN.2.1.sub isC hndC hC
  have hPc : va_P D vwCl wc H := fun k q hq => by
    have h1 : (isC.map (fun i => ws[i]?))[k]? = some (some q) := by rw [hC, List.getElem?_map, hq]; rfl
    rw [List.getElem?_map] at h1
    cases hi : isC[k]? with
    | none => rw [hi] at h1; cases h1
    | some i => rw [hi] at h1; exact hN.1 i q (Option.some.inj h1)
  have hFc := va_free (wc := wc) hN.2.1 hN.2.2 hA isC hC
  refine va_callv (va_runI (As := As) (rest := rest) S hM cw ⟨k_blind, fun U hU hW => ⟨rfl, by rw [hU], by rw [hU]; exact hPc, hDc.weaken (fun _ _ _ _ => trivial), kG.moved hW.alike hG⟩⟩ rfl hn2 hsz hst (lv_room hw) hdg hf) hN.2.2 (fun q _ h => hFc q h) hFc (fun r t H1 locs1 ht _ _ hB _ hk1 hS => ?_)
  obtain ⟨hP1, hD1⟩ := hB
  rw [ht] at hP1
  obtain ⟨hP, hD⟩ := va_join hN.1 hN.2.1 isC isR hC hR hn hdis hk1 hFc hP1 hD1
  exact kk r H1 locs1 ⟨hP, hD, hS⟩
theorem k_callV {y : MethodName} {bytes : ByteArray} {maxL nL mc ms n index b ci N : Nat} {wsy : List Cond} {rm : Room} {Ts : List Cond} {own C : String} {T : u_T} {fs As : List Value} {Sx : Type} {wc wr : va_W} {w1 : Sx → va_W}
    (S : CallFix p m c cc nL s args Ts own) (hG : kG D cs s) (hN : kN D A H0 ws H locs) (hA : ∀ q, H0.size ≤ q → A q) (q0 : Nat) (he : ws[q0]? = some (b, .inr (ci, fs))) (hc : vwCl[ci]? = some (C, T, N)) (isC isR : List Nat) (hndC : va_nd isC = true) (hC : isC.map (fun i => ws[i]?) = wc.map some) (hR : isR.map (fun i => ws[i]?) = wr.map some) (hn : va_nd isR = true) (hdis : ∀ i ∈ isR, i ∉ isC) (hM : Met l y wsy rm (kPc D cs (.ref b :: As) H.size wc) (kQv D (va_A wc H.size) w1) mc ms (va_A wc H.size)) (cw : CallW R s args own C index y bytes maxL none wsy rm mc ms n) (hn2 : As.length = n) (hsz : ls.size = nL) (hst : st0 = As.reverse ++ .ref b :: rest) (hw : (rest.map fun v => v.category).sum ≤ 8) (hdg : decode cc pc = .ok (.invokevirtual index, 3)) (hf : cells + mc ≤ R.cells ∧ slots + ms ≤ R.slots)
    (kk : ∀ (r : Sx) (H1 : Heap) (locs1 : List Loc), kN D A H0 (wr ++ w1 r) H1 locs1 → W p l e R s m args below meth c H1 locs1 (cells + mc) (slots + ms) Q (F0 m (pc + 3) ls rest)) : W p l e R s m args below meth c H locs cells slots Q (F0 m pc ls st0) := by
  have hDc : va_D A wc := hN.2.1.sub isC hndC hC
  have hPc : va_P D vwCl wc H := fun k q hq => by
    have h1 : (isC.map (fun i => ws[i]?))[k]? = some (some q) := by rw [hC, List.getElem?_map, hq]; rfl
    rw [List.getElem?_map] at h1
    cases hi : isC[k]? with
    | none => rw [hi] at h1; cases h1
    | some i => rw [hi] at h1; exact hN.1 i q (Option.some.inj h1)
  have hFc := va_free (wc := wc) hN.2.1 hN.2.2 hA isC hC
  refine va_callv (va_runV (As := As) (rest := rest) S hM cw ⟨k_blind, va_recv hG.1 hN.1 hc he, fun U hU hW => ⟨rfl, by rw [hU], by rw [hU]; exact hPc, hDc.weaken (fun _ _ _ _ => trivial), kG.moved hW.alike hG⟩⟩ rfl hn2 hsz hst (lv_room hw) hdg hf) hN.2.2 (fun q _ h => hFc q h) hFc (fun r t H1 locs1 ht _ _ hB _ hk1 hS => ?_)
  obtain ⟨hP1, hD1⟩ := hB
  rw [ht] at hP1
  obtain ⟨hP, hD⟩ := va_join hN.1 hN.2.1 isC isR hC hR hn hdis hk1 hFc hP1 hD1
  exact kk r H1 locs1 ⟨hP, hD, hS⟩
theorem k_rv {Sx : Type} {w1 : Sx → va_W} (hx : p.tables.exec = Jvm.exec) (hb : c.code = cc) (hr : meth.sig.returnType = none) (hlocks : meth.locks = false) (r : Sx) (hN : kN D A s.heap (w1 r) H locs) (hdg : decode cc pc = .ok (.return_, 1)) : W p l e R s m args below meth c H locs cells slots (MQ below (kQv D A w1) args s cells slots A) (F0 m pc ls []) :=
  W.vret hx hb hr (fun t ht _ => ⟨⟨r, rfl, trivial, by rw [ht]; exact hN.1, hN.2.1⟩, hN.2.2.F ht⟩) hN.2.2.2.2 hdg hlocks
end KR
theorem k_met {l : Launch} {y : MethodName} {ws ws2 : List Cond} {rm : Room} {mc ms : Nat} {cc : ByteArray} {maxL : Nat} {D : va_G} {cs : Nat → ClassId} {av : List Value} {sz : Nat} {own : String} {Sx : Type} {wc : va_W} {w1 : Sx → va_W}
    (hy : plainName y.cls = true) (hw : ws = Cond.code y cc maxL none :: ws2) (ho : y.cls = own) (hlen : (lg_sl av).length ≤ maxL)
    (body : ∀ (p : Program) (e : Env) (s : State) (m : MethodId) (below : List Frame) (meth : Method) (c : Code), p.tables.exec = Jvm.exec → c.code = cc → meth.sig.returnType = none → (∀ w ∈ ws, w.before av.toArray s = true) → s.vm.findClass own = some m.cls → meth.locks = false → c.maxLocals = maxL → meth.name = y.name → kG D cs s → kN D (va_A wc s.heap.size) s.heap wc s.heap [] → ∀ ls : Array Slot, lv_has ls maxL (lv_args 0 av) →
      W p l e rm s m av.toArray below meth c s.heap [] 0 0 (MQ below (kQv D (va_A wc s.heap.size) w1) av.toArray s mc ms (va_A wc s.heap.size)) (F0 m 0 ls [])) : Met l y ws rm (kPc D cs av sz wc) (kQv D (va_A wc sz) w1) mc ms (va_A wc sz) := by
  refine Met.ofW (cc := cc) (maxL := maxL) (ret := none) hy hw ?_
  intro p e s m args below meth c s₁ B hml hv
  obtain ⟨rfl, hsz, hP, hD, hG⟩ := hv
  subst hsz
  subst ho
  have hl := lv_entry av (n := maxL) hlen
  rw [lg_entry_eq]
  exact body p e s m below meth c B.exec B.bytes B.returns (atoms_spec (ws := ws) B.pre) (findClass_of_methodNamed B.named) B.notSynchronized hml (name_of_methodNamed B.named B.method).1 hG ⟨hP, hD.self, va_S.rf⟩ _ hl
