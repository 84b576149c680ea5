def gu {α : Type} (F : Nat → α) (i : Nat) (x : α) : Nat → α := fun j => if j = i then x else F j
theorem gu_s {α : Type} (F : Nat → α) (i : Nat) (x : α) : gu F i x i = x := if_pos rfl
theorem gu_n {α : Type} (F : Nat → α) {i j : Nat} (x : α) (h : j ≠ i) : gu F i x j = F j := if_neg h
abbrev gF : Type := Nat → Nat → Int32
def gw (F : gF) (i k : Nat) (x : Int32) : gF := fun a b => if a = i then (if b = k then x else F a b) else F a b
theorem gw_s (F : gF) (i k : Nat) (x : Int32) : gw F i k x i = upd (F i) k x := by
  funext b
  simp [gw, upd]
theorem gw_n (F : gF) {i a : Nat} (k : Nat) (x : Int32) (h : a ≠ i) : gw F i k x a = F a := by
  funext b
  simp [gw, h]
theorem gw_ss (F : gF) (i k : Nat) (x : Int32) : gw F i k x i k = x := by simp [gw]
theorem gw_sn (F : gF) {i k b : Nat} (x : Int32) (h : b ≠ k) : gw F i k x i b = F i b := by simp [gw, h]
abbrev gO : Type := Nat
abbrev gS : Type := gF × gF × gO
def gC (ad : Nat → Nat) (cs : Nat → ClassId) (_o : gO) (f v : Nat → Int32) (i : Nat) : va_E := match i with
  | 0 => .inr (8, [.ref (ad 1), .ref (ad 3), .ref (ad 7), .ref (ad 12), .ref (ad 18), .ref (ad 27), .ref (ad 33), .ref (ad 37)])
  | 1 => .inr (6, [.int (v 0), .int (v 1), .int (v 2), .int (v 3), .int (v 4), .ref (ad 2)])
  | 2 => .inl (cs 0, 4, .inl f)
  | 3 => .inr (7, [.ref (ad 4), .ref (ad 5), .ref (ad 6), .int (v 3), .int (v 4)])
  | 4 => .inl (cs 1, 60, .inl f)
  | 5 => .inl (cs 0, 60, .inl f)
  | 6 => .inl (cs 0, 60, .inl f)
  | 7 => .inr (1, [.ref (ad 8)])
  | 8 => .inl (cs 4, 3, .inr (.inr (.inr (.inr (fun j => if j < 3 then some (ad (9 + j)) else none)))))
  | 9 => .inl (cs 0, 64, .inl f)
  | 10 => .inl (cs 0, 64, .inl f)
  | 11 => .inl (cs 0, 64, .inl f)
  | 12 => .inr (2, [.ref (ad 13)])
  | 13 => .inl (cs 4, 4, .inr (.inr (.inr (.inr (fun j => if j < 4 then some (ad (14 + j)) else none)))))
  | 14 => .inl (cs 0, 64, .inl f)
  | 15 => .inl (cs 0, 64, .inl f)
  | 16 => .inl (cs 0, 64, .inl f)
  | 17 => .inl (cs 0, 64, .inl f)
  | 18 => .inr (5, [.ref (ad 19), .ref (ad 20), .ref (ad 21), .ref (ad 22), .ref (ad 23), .ref (ad 24), .ref (ad 25), .ref (ad 26), .int (v 8)])
  | 19 => .inl (cs 0, 4, .inl f)
  | 20 => .inl (cs 0, 4, .inl f)
  | 21 => .inl (cs 0, 4, .inl f)
  | 22 => .inl (cs 0, 4, .inl f)
  | 23 => .inl (cs 0, 20, .inl f)
  | 24 => .inl (cs 0, 20, .inl f)
  | 25 => .inl (cs 0, 20, .inl f)
  | 26 => .inl (cs 0, 20, .inl f)
  | 27 => .inr (3, [.ref (ad 28), .int (v 1), .int (v 2), .int (v 3), .int (v 4), .int (v 5)])
  | 28 => .inl (cs 4, 4, .inr (.inr (.inr (.inr (fun j => if j < 4 then some (ad (29 + j)) else none)))))
  | 29 => .inl (cs 0, 8, .inl f)
  | 30 => .inl (cs 0, 8, .inl f)
  | 31 => .inl (cs 0, 8, .inl f)
  | 32 => .inl (cs 0, 8, .inl f)
  | 33 => .inr (0, [.ref (ad 34), .ref (ad 35), .ref (ad 36), .int (v 3), .int (v 4), .int (v 5)])
  | 34 => .inl (cs 0, 200, .inl f)
  | 35 => .inl (cs 2, 200, .inl f)
  | 36 => .inl (cs 0, 200, .inl f)
  | 37 => .inr (4, [.ref (ad 38), .int (v 1)])
  | 38 => .inl (cs 4, 4, .inr (.inr (.inr (.inr (fun j => if j < 4 then some (ad (39 + j)) else none)))))
  | 39 => .inl (cs 0, 64, .inl f)
  | 40 => .inl (cs 0, 64, .inl f)
  | 41 => .inl (cs 0, 64, .inl f)
  | 42 => .inl (cs 0, 64, .inl f)
  | 43 => .inl (cs 0, 9, .inl f)
  | 44 => .inl (cs 0, 32, .inl f)
  | 45 => .inl (cs 0, 40, .inl f)
  | 46 => .inl (cs 0, 8, .inl f)
  | 47 => .inl (cs 0, 8, .inl f)
  | 48 => .inl (cs 0, 4, .inl f)
  | 49 => .inl (cs 0, 4, .inl f)
  | _ => .inr (0, [])
/-- the world has 48 cells, and o more -/
def gW (ad : Nat → Nat) (cs : Nat → ClassId) (F V : gF) (o : gO) : va_W := (List.range (48 + o)).map (fun i => (ad i, gC ad cs o (F i) (V i) i))
theorem gI48 {i o : Nat} (h : i < 48) : i < 48 + o := Nat.lt_of_lt_of_le h (Nat.le_add_right 48 o)
theorem gW_at0 (ad : Nat → Nat) (cs : Nat → ClassId) (F V : gF) (o : gO) {i : Nat} (hi : i < 48 + o) : (gW ad cs F V o)[i]? = some (ad i, gC ad cs o (F i) (V i) i) := by
  unfold gW
  rw [List.getElem?_map, List.getElem?_range hi]
  rfl
theorem gW_at (ad : Nat → Nat) (cs : Nat → ClassId) (F V : gF) (o : gO) {i : Nat} (hi : i < 48) : (gW ad cs F V o)[i]? = some (ad i, gC ad cs o (F i) (V i) i) := gW_at0 ad cs F V o (gI48 hi)
theorem gW_len (ad : Nat → Nat) (cs : Nat → ClassId) (F V : gF) (o : gO) : (gW ad cs F V o).length = 48 + o := by
  unfold gW
  rw [List.length_map, List.length_range]
theorem gW_lt {ad : Nat → Nat} {cs : Nat → ClassId} {F V : gF} {o : gO} {k : Nat} {q : Nat × va_E} (h : (gW ad cs F V o)[k]? = some q) : k < 48 + o ∧ q.1 = ad k := by
  have hk : k < 48 + o := by
    have := (List.getElem?_eq_some_iff.mp h).1
    rw [gW_len] at this
    exact this
  rw [gW_at0 ad cs F V o hk] at h
  cases h
  exact ⟨hk, rfl⟩
theorem gW_set {ad : Nat → Nat} {cs : Nat → ClassId} {F V F2 V2 : gF} {o : gO} {i : Nat} (hi : i < 48 + o) {e : va_E} (he : gC ad cs o (F2 i) (V2 i) i = e) (hr : ∀ j, j ≠ i → gC ad cs o (F2 j) (V2 j) j = gC ad cs o (F j) (V j) j) : (gW ad cs F V o).set i (ad i, e) = gW ad cs F2 V2 o := by
  apply List.ext_getElem?
  intro j
  by_cases hj : j < 48 + o
  · rw [gW_at0 ad cs F2 V2 o hj]
    by_cases hji : j = i
    · subst hji
      rw [List.getElem?_set_self (by rw [gW_len]; exact hj), he]
    · rw [List.getElem?_set_ne (Ne.symm hji), gW_at0 ad cs F V o hj, hr j hji]
  · rw [List.getElem?_eq_none (by rw [List.length_set, gW_len]; omega), List.getElem?_eq_none (by rw [gW_len]; omega)]
def gX (ad : Nat → Nat) (sz : Nat) : Nat → Prop := fun q => (∃ i, q = ad i) ∨ sz ≤ q
def gJ (ad : Nat → Nat) : Prop := ∀ i j, ad i = ad j → i = j
def gTy (cs : Nat → ClassId) : List (ClassId × FieldType) := [(cs 0, .int), (cs 1, .char), (cs 2, .boolean), (cs 4, .array .int)]
theorem gD {ad : Nat → Nat} {cs : Nat → ClassId} {F V : gF} {o : gO} {sz : Nat} (hJ : gJ ad) : va_D (gX ad sz) (gW ad cs F V o) := by
  refine ⟨fun i j p q hi hj hpq => ?_, fun k q hk => ?_⟩
  · obtain ⟨h1, h2⟩ := gW_lt hi
    obtain ⟨h3, h4⟩ := gW_lt hj
    exact hJ i j (by rw [← h2, ← h4]; exact hpq)
  · obtain ⟨h1, h2⟩ := gW_lt hk
    exact Or.inl ⟨k, h2⟩
theorem gX_mono {ad : Nat → Nat} {a b : Nat} (h : a ≤ b) : ∀ q, gX ad b q → gX ad a q := fun q hq => hq.elim (fun h1 => Or.inl h1) (fun h1 => Or.inr (Nat.le_trans h h1))
def gRd : String := "LGravureHouse$RuleWord;"
def gNm : List String := ["SHARE", "LIMIT", "TRAP", "GAIN", "TOLERANCE", "DELAY"]
def gFl : List (String × String × String × List Int32) := [(RX6, "numbers", "I", [1, 1, 1, 2, 1, 1]), (RX6, "least", "I", [0, 100, 0, 0, 0, 0]), (RX6, "most", "I", [100, 400, 1, 40, 9, 50])]
def gLen : List Nat := [5, 5, 4, 4, 9, 5]
def gByt : List (List Int32) := [[98, 108, 97, 99, 107], [108, 105, 109, 105, 116], [116, 114, 97, 112], [103, 97, 105, 110], [116, 111, 108, 101, 114, 97, 110, 99, 101], [100, 101, 108, 97, 121]]
def gMsg : List (Nat × String) := [(83, "neither a small letter nor a figure nor a blank"), (94, "no more signs can be typed"), (116, "too many corrections are to come"), (141, "the job ahead is not done"), (147, "too many copies"), (194, "nothing that can be asked of an ink"), (232, "no such sum"), (236, "no such cell, ink, unit, column or copy"), (239, "out of range"), (244, "no proof")]
def gZ1 (zd : Nat → Nat) (A : Nat → Prop) (U : State) (H : Heap) : Prop := vx_Zq Bundle.tN "UNASSIGNED_STACK" Bundle.steD A U H ∧ vx_Zq Bundle.tN "SUPPRESSED_SENTINEL" Bundle.listD A U H ∧ va_Ec RX6 RX6 gRd gNm gFl zd A U H
def gZ2 (zd : Nat → Nat) (A : Nat → Prop) (U : State) (H : Heap) : Prop := va_Z RX6 "ALL" "[LGravureHouse$RuleWord;" (.ref (zd 30)) A U H ∧ va_T (.object RX6) (zd 30) 6 (fun j => .ref (zd j)) A U H ∧ va_Ef 6 RX6 "text" "Ljava/lang/String;" (fun i => .ref (zd (10 + i))) zd A U H
def gZ3 (zd : Nat → Nat) (A : Nat → Prop) (U : State) (H : Heap) : Prop := vk_S 6 gLen gByt (fun i => zd (10 + i)) (fun i => zd (20 + i)) A U H ∧ va_Z "java/lang/String" "COMPACT_STRINGS" "Z" (.int 1) A U H ∧ va_Zq "jdk/internal/util/Preconditions" "SIOOBE_FORMATTER" "Ljava/util/function/BiFunction;" A U H
def gZ (zd : Nat → Nat) (A : Nat → Prop) (U : State) (H : Heap) : Prop := gZ1 zd A U H ∧ gZ2 zd A U H ∧ gZ3 zd A U H
theorem gZ.moved {zd : Nat → Nat} {A : Nat → Prop} {u U : State} {H : Heap} (hvm : u.vm.Alike U.vm) (h : gZ zd A u H) : gZ zd A U H :=
  ⟨⟨vx_Zq.moved hvm h.1.1, vx_Zq.moved hvm h.1.2.1, va_Ec.moved hvm h.1.2.2⟩, ⟨va_Z.moved hvm h.2.1.1, va_T.moved hvm h.2.1.2.1, va_Ef.moved hvm h.2.1.2.2⟩, ⟨vk_S.moved hvm h.2.2.1, va_Z.moved hvm h.2.2.2.1, va_Zq.moved hvm h.2.2.2.2⟩⟩
theorem gZ.kept {zd : Nat → Nat} {A : Nat → Prop} {U : State} {H H1 : Heap} (h : gZ zd A U H) (hq : ∀ a : Nat, a < H.size → ¬ A a → H1[a]? = H[a]?) : gZ zd A U H1 :=
  ⟨⟨h.1.1.kept hq, h.1.2.1.kept hq, h.1.2.2.kept hq⟩, ⟨h.2.1.1.kept hq, h.2.1.2.1.kept hq, h.2.1.2.2.kept hq⟩, ⟨h.2.2.1.kept hq, h.2.2.2.1.kept hq, h.2.2.2.2.kept hq⟩⟩
theorem gZ.narrow {zd : Nat → Nat} {A B : Nat → Prop} {U : State} {H : Heap} (h : gZ zd A U H) (hAB : ∀ q, B q → A q) : gZ zd B U H :=
  ⟨⟨h.1.1.narrow hAB, h.1.2.1.narrow hAB, h.1.2.2.narrow hAB⟩, ⟨h.2.1.1.narrow hAB, h.2.1.2.1.narrow hAB, h.2.1.2.2.narrow hAB⟩, ⟨h.2.2.1.narrow hAB, h.2.2.2.1.narrow hAB, h.2.2.2.2.narrow hAB⟩⟩
def gNl : List (Nat × String × String) := [(88, "ALL", "[LGravureHouse$RuleWord;"), (92, "text", "Ljava/lang/String;"), (56, "numbers", "I"), (82, "least", "I"), (85, "most", "I")]
def gE0 : String := "java/lang/IndexOutOfBoundsException"
def gE1 : String := "java/lang/IllegalArgumentException"
def gE2 : String := "java/lang/IllegalStateException"
def gEx : List String := [gE0, gE1, gE2]
def gDc : List String := ["java/lang/RuntimeException", "java/lang/Exception", "java/lang/Throwable"]
def gM (zd : Nat → Nat) (U : State) : Prop := (∀ q ∈ gMsg, vk_R RX9 q.1 q.2 (zd (100 + q.1)) U) ∧ (∀ q ∈ gNl, va_Nw (.fieldLinkNest RX8 q.1 RX6 q.2.1 q.2.2 "GravureHouse") U) ∧ (∀ a ∈ gEx, va_Nw (.castable a a) U) ∧ (∀ a ∈ gEx, ∀ b ∈ gEx, a ≠ b → va_Nc a b U) ∧ (∀ a ∈ gDc, va_Nw (.declares (Bundle.initS a)) U)
theorem gM.warm {zd : Nat → Nat} {s U : State} (hW : s.WarmedH U.vm) (h : gM zd s) : gM zd U := ⟨fun q hq => vk_R.warm hW (h.1 q hq), fun q hq => va_Nw.warmF hW (h.2.1 q hq), fun a ha => va_Nw.warmC hW (h.2.2.1 a ha), fun a ha b hb hab => va_Nc.moved hW.alike (h.2.2.2.1 a ha b hb hab), fun a ha => va_Nw.warmD hW (h.2.2.2.2 a ha)⟩
theorem gM.same {zd : Nat → Nat} {u U : State} (hv : U.vm = u.vm) (h : gM zd u) : gM zd U := ⟨fun q hq => vk_R.same hv (h.1 q hq), fun q hq => va_Nw.same rfl hv.symm (h.2.1 q hq), fun a ha => va_Nw.same rfl hv.symm (h.2.2.1 a ha), fun a ha b hb hab => va_Nc.moved (u := u) (U := U) (by rw [hv]; exact Vm.Alike.refl _) (h.2.2.2.1 a ha b hb hab), fun a ha => va_Nw.same rfl hv.symm (h.2.2.2.2 a ha)⟩
def gG (D : va_G) (ad : Nat → Nat) (cs : Nat → ClassId) (zd : Nat → Nat) (s : State) : Prop := va_K D vwCl (gTy cs) s ∧ gJ ad ∧ gZ zd (gX ad s.heap.size) s s.heap ∧ gM zd s
def gN (D : va_G) (ad : Nat → Nat) (cs : Nat → ClassId) (s : State) (F V : gF) (o : gO) (H : Heap) (locs : List Loc) : Prop := va_P D vwCl (gW ad cs F V o) H ∧ va_S (gX ad s.heap.size) s.heap H locs
abbrev gPc (D : va_G) (ad : Nat → Nat) (cs : Nat → ClassId) (zd : Nat → Nat) (F V : gF) (o : gO) (sz : Nat) (av : List Value) : Array Value → State → Prop := va_Pc av (fun U => U.heap.size = sz ∧ va_P D vwCl (gW ad cs F V o) U.heap ∧ gG D ad cs zd U)
def gB (D : va_G) (ad : Nat → Nat) (cs : Nat → ClassId) (u : gS) (t : State) : Prop := va_P D vwCl (gW ad cs u.1 u.2.1 u.2.2) t.heap
abbrev gQi (D : va_G) (ad : Nat → Nat) (cs : Nat → ClassId) (sz : Nat) (post : Int32 → gS → Prop) : Array Value → State → Outcome → State → Prop := va_Qi post (gB D ad cs) (gX ad sz)
abbrev gQv (D : va_G) (ad : Nat → Nat) (cs : Nat → ClassId) (sz : Nat) (post : gS → Prop) : Array Value → State → Outcome → State → Prop := va_Qv post (gB D ad cs) (gX ad sz)
abbrev gQI (D : va_G) (ad : Nat → Nat) (cs : Nat → ClassId) (r0 : Int32) (F V : gF) (o : gO) (sz : Nat) : Array Value → State → Outcome → State → Prop := gQi D ad cs sz (fun r u => r = r0 ∧ u = (F, V, o))
abbrev gQV (D : va_G) (ad : Nat → Nat) (cs : Nat → ClassId) (F V : gF) (o : gO) (sz : Nat) : Array Value → State → Outcome → State → Prop := gQv D ad cs sz (fun u => u = (F, V, o))
theorem gG.heap {D : va_G} {ad : Nat → Nat} {cs : Nat → ClassId} {zd : Nat → Nat} {s : State} {F V : gF} {o : gO} {H : Heap} {locs : List Loc} (hG : gG D ad cs zd s) (hN : gN D ad cs s F V o H locs) : ∀ U : State, U.heap = H → s.WarmedH U.vm → U.heap.size = H.size ∧ va_P D vwCl (gW ad cs F V o) U.heap ∧ gG D ad cs zd U := by
  intro U hU hW
  subst hU
  exact ⟨rfl, hN.1, va_K.moved hW.alike hG.1, hG.2.1, gZ.narrow (gZ.kept (gZ.moved hW.alike hG.2.2.1) hN.2.2.1) (gX_mono hN.2.1), gM.warm hW hG.2.2.2⟩
theorem g_blind {D : va_G} {ad : Nat → Nat} {cs : Nat → ClassId} {zd : Nat → Nat} {F V : gF} {o : gO} {sz : Nat} {av : List Value} : FrameBlind (gPc D ad cs zd F V o sz av) := by
  intro a U g mk q
  obtain ⟨q0, q1, q2, q3, q4, q5, q6⟩ := q
  exact ⟨q0, q1, q2, va_K.moved (u := U) (U := U.calling g mk a) (Vm.Alike.refl U.vm) q3, q4, gZ.moved (u := U) (U := U.calling g mk a) (Vm.Alike.refl U.vm) q5, gM.same (u := U) (U := U.calling g mk a) rfl q6⟩
theorem gN.rf {D : va_G} {ad : Nat → Nat} {cs : Nat → ClassId} {s : State} {F V : gF} {o : gO} (h : va_P D vwCl (gW ad cs F V o) s.heap) : gN D ad cs s F V o s.heap [] := ⟨h, va_S.rf⟩
theorem gN.next {D : va_G} {ad : Nat → Nat} {cs : Nat → ClassId} {s t : State} {F V : gF} {o : gO} {u : gS} {H1 : Heap} {locs1 : List Loc} (ht : t.heap = H1) (hB : gB D ad cs u t) (hS : va_S (gX ad s.heap.size) s.heap H1 locs1) (hu : u = (F, V, o)) : gN D ad cs s F V o H1 locs1 := by
  subst hu
  subst ht
  exact ⟨hB, hS⟩
