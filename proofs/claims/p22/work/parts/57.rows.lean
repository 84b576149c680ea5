theorem va_Sm {A B : Nat → Prop} {H0 H : Heap} {locs : List Loc} (h : va_S A H0 H locs) (hAB : ∀ q, A q → B q) : va_S B H0 H locs := ⟨h.1, fun q h1 h2 => h.2.1 q h1 (fun z => h2 (hAB q z)), fun x hx => hAB _ (h.2.2 x hx)⟩
section GR7
variable {p : Program} {l : Launch} {e : Env} {R : Room} {s : State} {m : MethodId} {args : Array Value} {below : List Frame} {meth : Method} {c : Code} {H : Heap} {locs : List Loc} {cells slots : Nat} {Q : State → Prop}
variable {cc : ByteArray} {pc : Nat} {ls : Array Slot} {rest st0 : List Value} {D : va_G} {cs : Nat → ClassId} {A : Nat → Prop} {H0 : Heap} {ws : va_W}
theorem g_ra {k : Nat} {cT cA : ClassId} {ty : FieldType} (hK : va_K D vwCl (gTy cs) s) (hT : (gTy cs)[k]? = some (cT, ty)) (hra : ∀ c, va_RA s c ty → s.vm.findClass ("[" ++ ty.toString) = some c) (K : va_K D vwCl (gTy cs ++ [(cA, ty)]) s) : cA = cT := by
  have e1 := hra _ (K.2 (gTy cs).length (cA, ty) (by simp)).2
  have e2 := hra _ (hK.2 k _ hT).2
  exact Option.some.inj (e1.symm.trans e2)
/-- new int[n], behind a list of cells -/
theorem g_newa (hx : p.tables.exec = Jvm.exec) (hb : c.code = cc) (harr : (Cond.arrayClass .int).before args s = true) (hK : va_K D vwCl (gTy cs) s) (hP : va_P D vwCl ws H) (hD : va_D A ws) (hS : va_S A H0 H locs) (hA : ∀ q, H0.size ≤ q → A q) {n : Int32} {N' : Nat} (hn : ¬ n < 0) (hN' : n.toNatClampNeg = N') (hbytes : N' * 4 ≤ 536870912) (hcells : cells + 1 ≤ R.cells) (hslots : slots + N' ≤ R.slots) (hdg : decode cc pc = .ok (.newarray .int, 2))
    (kk : ∀ (q : Nat) (H1 : Heap), va_P D vwCl (ws ++ [(q, .inl (cs 0, N', .inl (fun _ => 0)))]) H1 → va_D A (ws ++ [(q, .inl (cs 0, N', .inl (fun _ => 0)))]) → va_S A H0 H1 locs → W p l e R s m args below meth c H1 locs (cells + 1) (slots + N') Q (F0 m (pc + 2) ls (.ref q :: rest))) : W p l e R s m args below meth c H locs cells slots Q (F0 m pc ls (.int n :: rest)) :=
  va_newa (atype := .int) (ty := .int) (a0 := (N', .inl (fun _ => 0))) hx hb harr rfl hK hP hD hS hA (fun _ => rfl) hn hN' hbytes hcells hslots hdg (fun q cA H1 K hP1 hD1 hS1 => by
    have e := g_ra (k := 0) hK rfl (fun _ h => h) K
    subst e
    exact kk q H1 hP1 hD1 hS1)
end GR7
theorem gC_ad {ad ad2 : Nat → Nat} (h : ∀ i, i < 48 → ad2 i = ad i) (cs : Nat → ClassId) (o o2 : gO) (f v : Nat → Int32) {i : Nat} (hi : i < 48) : gC ad2 cs o2 f v i = gC ad cs o f v i := by
  have e8 : (fun j => if j < 3 then some (ad2 (9 + j)) else none) = (fun j => if j < 3 then some (ad (9 + j)) else none) := funext fun j => by
    by_cases c : j < 3
    · rw [if_pos c, if_pos c, h _ (by omega)]
    · rw [if_neg c, if_neg c]
  have e13 : (fun j => if j < 4 then some (ad2 (14 + j)) else none) = (fun j => if j < 4 then some (ad (14 + j)) else none) := funext fun j => by
    by_cases c : j < 4
    · rw [if_pos c, if_pos c, h _ (by omega)]
    · rw [if_neg c, if_neg c]
  have e28 : (fun j => if j < 4 then some (ad2 (29 + j)) else none) = (fun j => if j < 4 then some (ad (29 + j)) else none) := funext fun j => by
    by_cases c : j < 4
    · rw [if_pos c, if_pos c, h _ (by omega)]
    · rw [if_neg c, if_neg c]
  have e38 : (fun j => if j < 4 then some (ad2 (39 + j)) else none) = (fun j => if j < 4 then some (ad (39 + j)) else none) := funext fun j => by
    by_cases c : j < 4
    · rw [if_pos c, if_pos c, h _ (by omega)]
    · rw [if_neg c, if_neg c]
  unfold gC
  split <;> first | rfl | (simp only [e8, e13, e28, e38]) | (simp only [h 1 (by decide), h 2 (by decide), h 3 (by decide), h 4 (by decide), h 5 (by decide), h 6 (by decide), h 7 (by decide), h 8 (by decide), h 12 (by decide), h 13 (by decide), h 18 (by decide), h 19 (by decide), h 20 (by decide), h 21 (by decide), h 22 (by decide), h 23 (by decide), h 24 (by decide), h 25 (by decide), h 26 (by decide), h 27 (by decide), h 28 (by decide), h 33 (by decide), h 34 (by decide), h 35 (by decide), h 36 (by decide), h 37 (by decide), h 38 (by decide)])
/-- the world with two cells more, back to that of 48 -/
theorem gN.back {D : va_G} {ad ad2 : Nat → Nat} {cs : Nat → ClassId} {s : State} {F V : gF} {o : gO} {H : Heap} {locs : List Loc} (h48 : ∀ i, i < 48 → ad2 i = ad i) (hsub : ∀ q, gX ad2 s.heap.size q → gX ad s.heap.size q) (hN : gN D ad2 cs s F V o H locs) : gN D ad cs s F V 0 H locs := by
  refine ⟨fun k q hk => ?_, va_Sm hN.2 hsub⟩
  obtain ⟨h1, _⟩ := gW_lt hk
  have h1b : k < 48 := h1
  rw [gW_at ad cs F V 0 h1b] at hk
  cases hk
  have h2 := hN.1 k _ (gW_at ad2 cs F V o h1b)
  rw [gC_ad h48 cs 0 o (F k) (V k) h1b, h48 k h1b] at h2
  exact h2
def F9 (F : gF) : gF := fun a b => if a = 48 ∨ a = 49 then 0 else F a b
theorem F9_o {F : gF} {a : Nat} (h : a < 48) : F9 F a = F a := funext fun b => if_neg (by omega)
def ad9 (ad : Nat → Nat) (q1 q2 M : Nat) : Nat → Nat := fun i => if i < 48 then ad i else if i = 48 then q1 else if i = 49 then q2 else M + i
theorem gN.grow {D : va_G} {ad : Nat → Nat} {cs : Nat → ClassId} {zd : Nat → Nat} {s : State} {F V : gF} {H : Heap} {locs : List Loc} {q1 q2 : Nat} (hj : ∀ i, 48 ≤ i → s.heap.size ≤ ad i) (hG : gG D ad cs zd s) (hP : va_P D vwCl ((gW ad cs F V 0 ++ [(q1, .inl (cs 0, 4, .inl (fun _ => 0)))]) ++ [(q2, .inl (cs 0, 4, .inl (fun _ => 0)))]) H) (hD : va_D (gX ad s.heap.size) ((gW ad cs F V 0 ++ [(q1, .inl (cs 0, 4, .inl (fun _ => 0)))]) ++ [(q2, .inl (cs 0, 4, .inl (fun _ => 0)))])) (hS : va_S (gX ad s.heap.size) s.heap H locs) : ∃ ad2 : Nat → Nat, (∀ i, i < 48 → ad2 i = ad i) ∧ (∀ q, gX ad2 s.heap.size q → gX ad s.heap.size q) ∧ ad2 48 = q1 ∧ ad2 49 = q2 ∧ gG D ad2 cs zd s ∧ gN D ad2 cs s (F9 F) V 2 H locs := by
  have len : (gW ad cs F V 0).length = 48 := gW_len ad cs F V 0
  have at1 : ∀ k, k < 48 → ((gW ad cs F V 0 ++ [(q1, .inl (cs 0, 4, .inl (fun _ => 0)))]) ++ [(q2, .inl (cs 0, 4, .inl (fun _ => 0)))])[k]? = some (ad k, gC ad cs 0 (F k) (V k) k) := fun k hk => by
    rw [List.append_assoc, List.getElem?_append_left (by rw [len]; exact hk)]
    exact gW_at ad cs F V 0 hk
  have at2 : ((gW ad cs F V 0 ++ [(q1, .inl (cs 0, 4, .inl (fun _ => 0)))]) ++ [(q2, .inl (cs 0, 4, .inl (fun _ => 0)))])[48]? = some (q1, .inl (cs 0, 4, .inl (fun _ => 0))) := by
    rw [List.append_assoc, List.getElem?_append_right (by rw [len]; omega), len]
    rfl
  have at3 : ((gW ad cs F V 0 ++ [(q1, .inl (cs 0, 4, .inl (fun _ => 0)))]) ++ [(q2, .inl (cs 0, 4, .inl (fun _ => 0)))])[49]? = some (q2, .inl (cs 0, 4, .inl (fun _ => 0))) := by
    rw [List.append_assoc, List.getElem?_append_right (by rw [len]; omega), len]
    rfl
  have l1 : q1 < H.size := (hP 48 _ at2).lt
  have l2 : q2 < H.size := (hP 49 _ at3).lt
  have l0 : ∀ k, k < 48 → ad k < H.size := fun k hk => (hP k _ (at1 k hk)).lt
  have n1 : ∀ k, k < 48 → ad k ≠ q1 := fun k hk z => by
    have := hD.1 k 48 _ _ (at1 k hk) at2 z
    omega
  have n2 : ∀ k, k < 48 → ad k ≠ q2 := fun k hk z => by
    have := hD.1 k 49 _ _ (at1 k hk) at3 z
    omega
  have n3 : q1 ≠ q2 := fun z => by
    have := hD.1 48 49 _ _ at2 at3 z
    omega
  have h48 : ∀ i, i < 48 → ad9 ad q1 q2 H.size i = ad i := fun i hi => if_pos hi
  have e48 : ad9 ad q1 q2 H.size 48 = q1 := rfl
  have e49 : ad9 ad q1 q2 H.size 49 = q2 := rfl
  have e50 : ∀ i, 50 ≤ i → ad9 ad q1 q2 H.size i = H.size + i := fun i hi => by
    unfold ad9
    rw [if_neg (by omega), if_neg (by omega), if_neg (by omega)]
  have hsub : ∀ q, gX (ad9 ad q1 q2 H.size) s.heap.size q → gX ad s.heap.size q := fun q hq => by
    rcases hq with ⟨i, rfl⟩ | hq
    · by_cases c1 : i < 48
      · rw [h48 i c1]
        exact Or.inl ⟨i, rfl⟩
      · by_cases c2 : i = 48
        · subst c2
          exact hD.2 48 _ at2
        · by_cases c3 : i = 49
          · subst c3
            exact hD.2 49 _ at3
          · rw [e50 i (by omega)]
            have := hS.1
            exact Or.inr (by omega)
    · exact Or.inr hq
  have hJ : gJ (ad9 ad q1 q2 H.size) := by
    intro i j hij
    by_cases c1 : i < 48
    · rw [h48 i c1] at hij
      have b1 := l0 i c1
      by_cases d1 : j < 48
      · rw [h48 j d1] at hij
        exact hG.2.1 i j hij
      · by_cases d2 : j = 48
        · subst d2
          exact absurd hij (n1 i c1)
        · by_cases d3 : j = 49
          · subst d3
            exact absurd hij (n2 i c1)
          · rw [e50 j (by omega)] at hij
            omega
    · by_cases c2 : i = 48
      · subst c2
        rw [e48] at hij
        by_cases d1 : j < 48
        · rw [h48 j d1] at hij
          exact absurd hij.symm (n1 j d1)
        · by_cases d2 : j = 48
          · exact d2.symm
          · by_cases d3 : j = 49
            · subst d3
              exact absurd hij n3
            · rw [e50 j (by omega)] at hij
              omega
      · by_cases c3 : i = 49
        · subst c3
          rw [e49] at hij
          by_cases d1 : j < 48
          · rw [h48 j d1] at hij
            exact absurd hij.symm (n2 j d1)
          · by_cases d2 : j = 48
            · subst d2
              exact absurd hij.symm n3
            · by_cases d3 : j = 49
              · exact d3.symm
              · rw [e50 j (by omega)] at hij
                omega
        · rw [e50 i (by omega)] at hij
          by_cases d1 : j < 48
          · rw [h48 j d1] at hij
            have := l0 j d1
            omega
          · by_cases d2 : j = 48
            · subst d2
              rw [e48] at hij
              omega
            · by_cases d3 : j = 49
              · subst d3
                rw [e49] at hij
                omega
              · rw [e50 j (by omega)] at hij
                omega
  have hsup : ∀ q, gX ad s.heap.size q → gX (ad9 ad q1 q2 H.size) s.heap.size q := fun q hq => by
    rcases hq with ⟨i, rfl⟩ | hq
    · by_cases c1 : i < 48
      · exact Or.inl ⟨i, (h48 i c1).symm⟩
      · exact Or.inr (hj i (by omega))
    · exact Or.inr hq
  refine ⟨ad9 ad q1 q2 H.size, h48, hsub, e48, e49, ⟨hG.1, hJ, hG.2.2.1.narrow hsub, hG.2.2.2⟩, fun k q hk => ?_, va_Sm hS hsup⟩
  obtain ⟨h1, _⟩ := gW_lt hk
  rw [gW_at0 (ad9 ad q1 q2 H.size) cs (F9 F) V 2 h1] at hk
  cases hk
  by_cases c1 : k < 48
  · rw [h48 k c1, gC_ad h48 cs 0 2 _ _ c1, F9_o c1]
    exact hP k _ (at1 k c1)
  · have c2 : k = 48 ∨ k = 49 := by omega
    rcases c2 with rfl | rfl
    · exact hP 48 _ at2
    · exact hP 49 _ at3
theorem g_metZ {l : Launch} {y : MethodName} {ws ws2 : List Cond} {rm : Room} {mc ms : Nat} {cc : ByteArray} {maxL : Nat} {ret : Option FieldType} {D : va_G} {ad : Nat → Nat} {cs : Nat → ClassId} {zd : Nat → Nat} {F V : gF} {o : gO} {av : List Value} {sz : Nat} {own : String} {Qc : Nat → Array Value → State → Outcome → State → Prop}
    (hy : plainName y.cls = true) (hw : ws = Cond.code y cc maxL ret :: ws2) (ho : y.cls = own) (hlen : (lg_sl av).length ≤ maxL)
    (body : ∀ (p : Program) (e : Env) (s : State) (m : MethodId) (below : List Frame) (meth : Method) (c : Code), p.tables.exec = Jvm.exec → c.code = cc → meth.sig.returnType = ret → (∀ w ∈ ws, w.before av.toArray s = true) → s.vm.findClass own = some m.cls → meth.locks = false → c.maxLocals = maxL → gG D ad cs zd s → gN D ad cs s F V o s.heap [] → s.heap.size = sz → ∀ ls : Array Slot, lv_has ls maxL (lv_args 0 av) →
      W p l e rm s m av.toArray below meth c s.heap [] 0 0 (MQ below (Qc s.heap.size) av.toArray s mc ms (gX ad s.heap.size)) (F0 m 0 ls [])) : Met l y ws rm (gPc D ad cs zd F V o sz av) (Qc sz) mc ms (gX ad sz) := by
  refine Met.ofW (cc := cc) (maxL := maxL) (ret := ret) hy hw ?_
  intro p e s m args below meth c s₁ B hml hv
  obtain ⟨rfl, hsz, hP, hG⟩ := hv
  subst hsz
  subst ho
  have hl := lv_entry av (n := maxL) hlen
  rw [lg_entry_eq]
  exact body p e s m below meth c B.exec B.bytes B.returns (atoms_spec (ws := ws) B.pre) (findClass_of_methodNamed B.named) B.notSynchronized hml hG (gN.rf hP) rfl _ hl
