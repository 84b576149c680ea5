/-! THE CLAIM OUT OF ONE WALK OF THE LAW'S BODY. Your part is whole_start (and what it stands on); all else here is the same for every law, but numbers. -/
def R_law : String := "GravureHouseLaw"
def lw_P (b : Addr) (xs : List Int32) (args : Array Value) (s : State) : Prop := args = #[.ref b] ∧ s.IntsAt b xs ∧ xs.length ≤ 2560 ∧ (Jvm.Cond.and given_1 narrow_1).before args s = true
def lw_Q (_ : Array Value) (s : State) (o : Outcome) (t : State) : Prop := o = .returned (some (.int 1)) ∧ Framed s o t [] 601024 7293034
def lw_Z (below : List Frame) (a : Array Value) (s : State) : State → Prop := fun t => ∃ o, t.status = .running ∧ Ended t below o ∧ lw_Q a s o t
/-- the law's own end, with 1 on the stack, nothing written that was there before, its room as the claim has it -/
theorem lw_ret {p : Program} {l : Launch} {e : Env} {s : State} {m : MethodId} {below : List Frame} {meth : Method} {c : Code} {b : Nat} (hx : p.tables.exec = Jvm.exec) (hb : c.code = code) (hr : meth.sig.returnType = ret) (hlocks : meth.locks = false) {pc : Nat} {H : Heap} {ls : Array Slot} (hdg : decode code pc = .ok (.ireturn, 1)) : W p l e room_1 s m #[Value.ref b] below meth c H [] 601024 7293034 (lw_Z below #[Value.ref b] s) (F0 m pc ls [.int 1]) := by
  intro T hT X
  obtain ⟨fs, hret, hrun, hended, hW, hframe⟩ := X.leave (v := some (.int 1)) (hlocks := hlocks) (fun h => by rw [hr] at h; cases h)
  have hmeth' : T.vm.method? m = some meth := X.method'
  refine ⟨T.setFrames fs, ?_, .returned (some (.int 1)), hrun, hended, rfl, ⟨_, rfl⟩, hW, hframe⟩
  jvm_step X.here [X.here.top, hx, hb, hdg, hmeth', hr, ret, narrow_b1]
  (try refine ⟨rfl, ?_⟩); (try refine ⟨rfl, ?_⟩)
  first | (intro acts; rw [hret _ acts rfl rfl rfl]) | rw [hret _ _ rfl rfl rfl]
  exact Steps.refl _
/-- what holds at the law's entry: the machine, the code, the tables' words (any of lw_tbl by 'hts w (by decide +kernel)'), the script of L ints xs at the cell b, what the Statement gives of the start (any of its parts by flat_of_before) -/
def lw_At (p : Program) (s : State) (m : MethodId) (meth : Method) (c : Code) (b L : Nat) (xs : Nat → Int32) : Prop :=
  p.tables.exec = Jvm.exec ∧ c.code = code ∧ meth.sig.returnType = ret ∧ c.maxLocals = 7 ∧ s.vm.findClass R_law = some m.cls ∧ (∀ w ∈ lw_tbl, w.before #[Value.ref b] s = true) ∧ va_X b L xs s s.heap ∧ b < s.heap.size ∧ meth.locks = false ∧ (Jvm.Cond.and given_1 narrow_1).before #[Value.ref b] s = true
def F01 : gF := fun a => match a with
  | 2 => kf 20 4
  | 9 => kf 100 64
  | 10 => kf 100 64
  | 11 => kf 100 64
  | 29 => kf 50 8
  | 30 => kf 50 8
  | 31 => kf 50 8
  | 32 => kf 50 8
  | 44 => kf 100 64
  | 45 => kf 100 64
  | 46 => kf 100 64
  | 55 => kf 50 32
  | 47 => upd (upd (kr 4) 7 2) 8 10
  | _ => fun _ => 0
theorem F01_eq : F01 = F00 := by
  funext a b
  by_cases hd : a = 2 ∨ a = 9 ∨ a = 10 ∨ a = 11 ∨ a = 29 ∨ a = 30 ∨ a = 31 ∨ a = 32 ∨ a = 44 ∨ a = 45 ∨ a = 46 ∨ a = 55 ∨ a = 47
  · rcases hd with rfl | rfl | rfl | rfl | rfl | rfl | rfl | rfl | rfl | rfl | rfl | rfl | rfl
    · show kf 20 4 b = _
      simp [F00, kf]
    · show kf 100 64 b = _
      simp [F00, kf]
    · show kf 100 64 b = _
      simp [F00, kf]
    · show kf 100 64 b = _
      simp [F00, kf]
    · show kf 50 8 b = _
      simp [F00, kf]
    · show kf 50 8 b = _
      simp [F00, kf]
    · show kf 50 8 b = _
      simp [F00, kf]
    · show kf 50 8 b = _
      simp [F00, kf]
    · show kf 100 64 b = _
      simp [F00, kf]
    · show kf 100 64 b = _
      simp [F00, kf]
    · show kf 100 64 b = _
      simp [F00, kf]
    · show kf 50 32 b = _
      simp [F00, kf]
    · show upd (upd (kr 4) 7 2) 8 10 b = _
      unfold upd kr
      by_cases h : b < 9
      · have hd : b = 0 ∨ b = 1 ∨ b = 2 ∨ b = 3 ∨ b = 4 ∨ b = 5 ∨ b = 6 ∨ b = 7 ∨ b = 8 := by omega
        rcases hd with rfl | rfl | rfl | rfl | rfl | rfl | rfl | rfl | rfl <;> rfl
      · rw [if_neg (by omega), if_neg (by omega), if_neg (by omega), if_neg (by omega), if_neg (by omega)]
        unfold F00
        rw [if_neg (by omega), if_neg (by omega), if_neg (by omega), if_neg (by omega), if_neg (by omega), if_pos rfl, if_neg (by omega), if_neg (by omega), if_neg (by omega), if_neg (by omega), if_neg (by omega)]
  · have e1 : F01 a b = 0 := by
      unfold F01
      split <;> first | rfl | (exfalso; omega)
    have e2 : F00 a b = 0 := by
      unfold F00
      rw [if_neg (by omega), if_neg (by omega), if_neg (by omega), if_neg (by omega), if_neg (by omega), if_neg (by omega)]
    rw [e1, e2]
theorem kO_congr {n : Nat} {r g : Nat → Nat} (h : ∀ i, i < n → r i = g i) : kO n r = kO n g := by
  unfold kO
  congr 5
  funext i
  by_cases hi : i < n
  · rw [if_pos hi, if_pos hi, h i hi]
  · rw [if_neg hi, if_neg hi]
theorem va_arr {s : State} {args : Array Value} {ty : FieldType} (h : (Cond.arrayClass ty).before args s = true) (hra : ∀ c, s.vm.findClass ("[" ++ ty.toString) = some c → va_RA s c ty) : ∃ cA, ArrOfT s cA ty ∧ va_RA s cA ty := by
  obtain ⟨cA, kA, comp, h1, h2, h3⟩ := Cond.arrayClass_spec h
  refine ⟨cA, fun n z => ⟨fun k h => ?_, kA, h2, comp, h3⟩, hra cA h1⟩
  cases h

set_option maxHeartbeats 4000000 in
set_option maxRecDepth 100000 in
theorem lw_world {D : va_G} {cs : Nat → ClassId} {q0 q8 q17 : Nat} {r4 : Nat → Nat → Nat} {r12 : Nat → Nat} {A : Nat → Prop} {H0 H : Heap} {locs : List Loc} (hN : kN D A H0 ((kX9 cs q0 r4 ++ kX10 cs q8 r12) ++ [(q17, .inl (cs 3, 1, .inr (.inl (fun _ => 0))))]) H locs) : ∃ ad : Nat → Nat, ad 0 = q0 ∧ ad 43 = q8 ∧ ad 64 = q17 ∧ kN D A H0 (gW ad cs F00 V00 (fun _ => 0)) H locs := by
  refine ⟨fun i => ([q0, (r4 0 0), (r4 0 1), (r4 1 0), (r4 1 1), (r4 1 2), (r4 1 3), (r4 2 0), (r4 2 1), (r4 2 2), (r4 2 3), (r4 2 4), (r4 3 0), (r4 3 1), (r4 3 2), (r4 3 3), (r4 3 4), (r4 3 5), (r4 4 0), (r4 4 1), (r4 4 2), (r4 4 3), (r4 4 4), (r4 4 5), (r4 4 6), (r4 4 7), (r4 4 8), (r4 5 0), (r4 5 1), (r4 5 2), (r4 5 3), (r4 5 4), (r4 5 5), (r4 6 0), (r4 6 1), (r4 6 2), (r4 6 3), (r4 7 0), (r4 7 1), (r4 7 2), (r4 7 3), (r4 7 4), (r4 7 5), q8, (r12 0), (r12 1), (r12 2), (r12 3), (r12 4), (r12 5), (r12 6), (r12 7), (r12 8), (r12 9), (r12 10), (r12 11), (r12 12), (r12 13), (r12 14), (r12 15), (r12 16), (r12 17), (r12 18), (r12 19), q17] : List Nat).getD i 0, rfl, rfl, rfl, ?_⟩
  have hN : kN D A H0 [(q0, .inr (8, [.ref (r4 0 0), .ref (r4 1 0), .ref (r4 2 0), .ref (r4 3 0), .ref (r4 4 0), .ref (r4 5 0), .ref (r4 6 0), .ref (r4 7 0)])), ((r4 0 0), .inr (6, [.int 50, .int 300, .int 0, .int 2, .int 10, .ref (r4 0 1)])), ((r4 0 1), .inl (cs 0, 4, .inl (kf 20 4))), ((r4 1 0), .inr (7, [.ref (r4 1 1), .ref (r4 1 2), .ref (r4 1 3), .int 0, .int 0])), ((r4 1 1), .inl (cs 1, 60, .inl (fun _ => 0))), ((r4 1 2), .inl (cs 0, 60, .inl (fun _ => 0))), ((r4 1 3), .inl (cs 0, 60, .inl (fun _ => 0))), ((r4 2 0), .inr (1, [.ref (r4 2 1)])), ((r4 2 1), .inl (cs 4, kO 3 (fun i => r4 2 (i + 1 + 1)))), ((r4 2 2), .inl (cs 0, 64, .inl (kf 100 64))), ((r4 2 3), .inl (cs 0, 64, .inl (kf 100 64))), ((r4 2 4), .inl (cs 0, 64, .inl (kf 100 64))), ((r4 3 0), .inr (2, [.ref (r4 3 1)])), ((r4 3 1), .inl (cs 4, kO 4 (fun i => r4 3 (i + 1 + 1)))), ((r4 3 2), .inl (cs 0, 64, .inl (fun _ => 0))), ((r4 3 3), .inl (cs 0, 64, .inl (fun _ => 0))), ((r4 3 4), .inl (cs 0, 64, .inl (fun _ => 0))), ((r4 3 5), .inl (cs 0, 64, .inl (fun _ => 0))), ((r4 4 0), .inr (5, [.ref (r4 4 1), .ref (r4 4 2), .ref (r4 4 3), .ref (r4 4 4), .ref (r4 4 5), .ref (r4 4 6), .ref (r4 4 7), .ref (r4 4 8), .int 0])), ((r4 4 1), .inl (cs 0, 4, .inl (fun _ => 0))), ((r4 4 2), .inl (cs 0, 4, .inl (fun _ => 0))), ((r4 4 3), .inl (cs 0, 4, .inl (fun _ => 0))), ((r4 4 4), .inl (cs 0, 4, .inl (fun _ => 0))), ((r4 4 5), .inl (cs 0, 20, .inl (fun _ => 0))), ((r4 4 6), .inl (cs 0, 20, .inl (fun _ => 0))), ((r4 4 7), .inl (cs 0, 20, .inl (fun _ => 0))), ((r4 4 8), .inl (cs 0, 20, .inl (fun _ => 0))), ((r4 5 0), .inr (3, [.ref (r4 5 1), .int 0, .int 0, .int 0, .int 0, .int 0])), ((r4 5 1), .inl (cs 4, kO 4 (fun i => r4 5 (i + 1 + 1)))), ((r4 5 2), .inl (cs 0, 8, .inl (kf 50 8))), ((r4 5 3), .inl (cs 0, 8, .inl (kf 50 8))), ((r4 5 4), .inl (cs 0, 8, .inl (kf 50 8))), ((r4 5 5), .inl (cs 0, 8, .inl (kf 50 8))), ((r4 6 0), .inr (0, [.ref (r4 6 1), .ref (r4 6 2), .ref (r4 6 3), .int 0, .int 0, .int 0])), ((r4 6 1), .inl (cs 0, 200, .inl (fun _ => 0))), ((r4 6 2), .inl (cs 2, 200, .inl (fun _ => 0))), ((r4 6 3), .inl (cs 0, 200, .inl (fun _ => 0))), ((r4 7 0), .inr (4, [.ref (r4 7 1), .int 0])), ((r4 7 1), .inl (cs 4, kO 4 (fun i => r4 7 (i + 1 + 1)))), ((r4 7 2), .inl (cs 0, 64, .inl (fun _ => 0))), ((r4 7 3), .inl (cs 0, 64, .inl (fun _ => 0))), ((r4 7 4), .inl (cs 0, 64, .inl (fun _ => 0))), ((r4 7 5), .inl (cs 0, 64, .inl (fun _ => 0))), (q8, .inr (9, [.ref (r12 0), .ref (r12 1), .ref (r12 2), .ref (r12 3), .ref (r12 4), .ref (r12 5), .int 0, .ref (r12 6), .ref (r12 7), .ref (r12 8), .ref (r12 9), .ref (r12 10), .ref (r12 11), .int 0, .ref (r12 12), .ref (r12 13), .ref (r12 14), .ref (r12 15), .int 0, .int 0, .ref (r12 16), .ref (r12 17), .ref (r12 18), .int 0, .int 0, .int 0, .int 0, .int 0, .int 0, .int 0, .ref (r12 19), .int 0, .int 0, .int 0, .int 0])), ((r12 0), .inl (cs 0, 64, .inl (kf 100 64))), ((r12 1), .inl (cs 0, 64, .inl (kf 100 64))), ((r12 2), .inl (cs 0, 64, .inl (kf 100 64))), ((r12 3), .inl (cs 0, 9, .inl (upd (upd (kr 4) 7 2) 8 10))), ((r12 4), .inl (cs 0, 9, .inl (fun _ => 0))), ((r12 5), .inl (cs 1, 60, .inl (fun _ => 0))), ((r12 6), .inl (cs 0, 256, .inl (fun _ => 0))), ((r12 7), .inl (cs 0, 4, .inl (fun _ => 0))), ((r12 8), .inl (cs 0, 4, .inl (fun _ => 0))), ((r12 9), .inl (cs 0, 4, .inl (fun _ => 0))), ((r12 10), .inl (cs 0, 4, .inl (fun _ => 0))), ((r12 11), .inl (cs 0, 32, .inl (kf 50 32))), ((r12 12), .inl (cs 0, 20, .inl (fun _ => 0))), ((r12 13), .inl (cs 0, 20, .inl (fun _ => 0))), ((r12 14), .inl (cs 0, 20, .inl (fun _ => 0))), ((r12 15), .inl (cs 0, 20, .inl (fun _ => 0))), ((r12 16), .inl (cs 2, 200, .inl (fun _ => 0))), ((r12 17), .inl (cs 0, 200, .inl (fun _ => 0))), ((r12 18), .inl (cs 0, 200, .inl (fun _ => 0))), ((r12 19), .inl (cs 0, 256, .inl (fun _ => 0))), (q17, .inl (cs 3, 1, .inr (.inl (fun _ => 0))))] H locs := hN
  have o8 : kO 3 (fun i => r4 2 (i + 1 + 1)) = kO 3 (fun j => ([q0, (r4 0 0), (r4 0 1), (r4 1 0), (r4 1 1), (r4 1 2), (r4 1 3), (r4 2 0), (r4 2 1), (r4 2 2), (r4 2 3), (r4 2 4), (r4 3 0), (r4 3 1), (r4 3 2), (r4 3 3), (r4 3 4), (r4 3 5), (r4 4 0), (r4 4 1), (r4 4 2), (r4 4 3), (r4 4 4), (r4 4 5), (r4 4 6), (r4 4 7), (r4 4 8), (r4 5 0), (r4 5 1), (r4 5 2), (r4 5 3), (r4 5 4), (r4 5 5), (r4 6 0), (r4 6 1), (r4 6 2), (r4 6 3), (r4 7 0), (r4 7 1), (r4 7 2), (r4 7 3), (r4 7 4), (r4 7 5), q8, (r12 0), (r12 1), (r12 2), (r12 3), (r12 4), (r12 5), (r12 6), (r12 7), (r12 8), (r12 9), (r12 10), (r12 11), (r12 12), (r12 13), (r12 14), (r12 15), (r12 16), (r12 17), (r12 18), (r12 19), q17] : List Nat).getD (9 + j) 0) := kO_congr (fun i hi => by
    rcases (show i = 0 ∨ i = 1 ∨ i = 2 by omega) with rfl | rfl | rfl <;> rfl)
  have o13 : kO 4 (fun i => r4 3 (i + 1 + 1)) = kO 4 (fun j => ([q0, (r4 0 0), (r4 0 1), (r4 1 0), (r4 1 1), (r4 1 2), (r4 1 3), (r4 2 0), (r4 2 1), (r4 2 2), (r4 2 3), (r4 2 4), (r4 3 0), (r4 3 1), (r4 3 2), (r4 3 3), (r4 3 4), (r4 3 5), (r4 4 0), (r4 4 1), (r4 4 2), (r4 4 3), (r4 4 4), (r4 4 5), (r4 4 6), (r4 4 7), (r4 4 8), (r4 5 0), (r4 5 1), (r4 5 2), (r4 5 3), (r4 5 4), (r4 5 5), (r4 6 0), (r4 6 1), (r4 6 2), (r4 6 3), (r4 7 0), (r4 7 1), (r4 7 2), (r4 7 3), (r4 7 4), (r4 7 5), q8, (r12 0), (r12 1), (r12 2), (r12 3), (r12 4), (r12 5), (r12 6), (r12 7), (r12 8), (r12 9), (r12 10), (r12 11), (r12 12), (r12 13), (r12 14), (r12 15), (r12 16), (r12 17), (r12 18), (r12 19), q17] : List Nat).getD (14 + j) 0) := kO_congr (fun i hi => by
    rcases (show i = 0 ∨ i = 1 ∨ i = 2 ∨ i = 3 by omega) with rfl | rfl | rfl | rfl <;> rfl)
  have o28 : kO 4 (fun i => r4 5 (i + 1 + 1)) = kO 4 (fun j => ([q0, (r4 0 0), (r4 0 1), (r4 1 0), (r4 1 1), (r4 1 2), (r4 1 3), (r4 2 0), (r4 2 1), (r4 2 2), (r4 2 3), (r4 2 4), (r4 3 0), (r4 3 1), (r4 3 2), (r4 3 3), (r4 3 4), (r4 3 5), (r4 4 0), (r4 4 1), (r4 4 2), (r4 4 3), (r4 4 4), (r4 4 5), (r4 4 6), (r4 4 7), (r4 4 8), (r4 5 0), (r4 5 1), (r4 5 2), (r4 5 3), (r4 5 4), (r4 5 5), (r4 6 0), (r4 6 1), (r4 6 2), (r4 6 3), (r4 7 0), (r4 7 1), (r4 7 2), (r4 7 3), (r4 7 4), (r4 7 5), q8, (r12 0), (r12 1), (r12 2), (r12 3), (r12 4), (r12 5), (r12 6), (r12 7), (r12 8), (r12 9), (r12 10), (r12 11), (r12 12), (r12 13), (r12 14), (r12 15), (r12 16), (r12 17), (r12 18), (r12 19), q17] : List Nat).getD (29 + j) 0) := kO_congr (fun i hi => by
    rcases (show i = 0 ∨ i = 1 ∨ i = 2 ∨ i = 3 by omega) with rfl | rfl | rfl | rfl <;> rfl)
  have o38 : kO 4 (fun i => r4 7 (i + 1 + 1)) = kO 4 (fun j => ([q0, (r4 0 0), (r4 0 1), (r4 1 0), (r4 1 1), (r4 1 2), (r4 1 3), (r4 2 0), (r4 2 1), (r4 2 2), (r4 2 3), (r4 2 4), (r4 3 0), (r4 3 1), (r4 3 2), (r4 3 3), (r4 3 4), (r4 3 5), (r4 4 0), (r4 4 1), (r4 4 2), (r4 4 3), (r4 4 4), (r4 4 5), (r4 4 6), (r4 4 7), (r4 4 8), (r4 5 0), (r4 5 1), (r4 5 2), (r4 5 3), (r4 5 4), (r4 5 5), (r4 6 0), (r4 6 1), (r4 6 2), (r4 6 3), (r4 7 0), (r4 7 1), (r4 7 2), (r4 7 3), (r4 7 4), (r4 7 5), q8, (r12 0), (r12 1), (r12 2), (r12 3), (r12 4), (r12 5), (r12 6), (r12 7), (r12 8), (r12 9), (r12 10), (r12 11), (r12 12), (r12 13), (r12 14), (r12 15), (r12 16), (r12 17), (r12 18), (r12 19), q17] : List Nat).getD (39 + j) 0) := kO_congr (fun i hi => by
    rcases (show i = 0 ∨ i = 1 ∨ i = 2 ∨ i = 3 by omega) with rfl | rfl | rfl | rfl <;> rfl)
  rw [o8, o13, o28, o38] at hN
  rw [← F01_eq]
  exact hN
set_option maxHeartbeats 4000000 in
set_option maxRecDepth 100000 in
theorem whole_start {p : Program} {e : Env} {s : State} {m : MethodId} {below : List Frame} {meth : Method} {c : Code} (l : Launch) (hflags : l.flags = flags0) {b L : Nat} {xs : Nat → Int32} (hL : L ≤ 2560) (C0 : lw_At p s m meth c b L xs) : W p l e room_1 s m #[Value.ref b] below meth c s.heap [] 0 0 (lw_Z below #[Value.ref b] s) (entryFrame m ([Value.ref b] : List Value).toArray 7) := by
  obtain ⟨hx, hb, hr, hml, hown, hts0, hX, hbl, hlocks, hgv⟩ := id C0
  have hts : ∀ w ∈ wsL_law, w.before #[Value.ref b] s = true := fun w hw => hts0 w (wsL_law_in w hw)
  have hown : s.vm.findClass RL = some m.cls := hown
  have hl9 : l.stackTraces = false := g_flags hflags
  have hA : ∀ q : Nat, s.heap.size ≤ q → (fun q : Nat => s.heap.size ≤ q) q := fun _ h => h
  obtain ⟨c0, iS0, hKn0⟩ := u_known (C := RX0) (T := TX0) (N := 6) (n := 6) hts0 inX0 (hts0 (.instantiable RX0 6) (by decide +kernel))
  obtain ⟨c1, iS1, hKn1⟩ := u_known (C := RX1) (T := TX1) (N := 1) (n := 1) hts0 inX1 (hts0 (.instantiable RX1 1) (by decide +kernel))
  obtain ⟨c2, iS2, hKn2⟩ := u_known (C := RX2) (T := TX2) (N := 1) (n := 1) hts0 inX2 (hts0 (.instantiable RX2 1) (by decide +kernel))
  obtain ⟨c3, iS3, hKn3⟩ := u_known (C := RX3) (T := TX3) (N := 6) (n := 6) hts0 inX3 (hts0 (.instantiable RX3 6) (by decide +kernel))
  obtain ⟨c4, iS4, hKn4⟩ := u_known (C := RX4) (T := TX4) (N := 2) (n := 2) hts0 inX4 (hts0 (.instantiable RX4 2) (by decide +kernel))
  obtain ⟨c5, iS5, hKn5⟩ := u_known (C := RX5) (T := TX5) (N := 9) (n := 9) hts0 inX5 (hts0 (.instantiable RX5 9) (by decide +kernel))
  obtain ⟨c7, iS7, hKn7⟩ := u_known (C := RX7) (T := TX7) (N := 6) (n := 6) hts0 inX7 (hts0 (.instantiable RX7 6) (by decide +kernel))
  obtain ⟨c8, iS8, hKn8⟩ := u_known (C := RX8) (T := TX8) (N := 5) (n := 5) hts0 inX8 (hts0 (.instantiable RX8 5) (by decide +kernel))
  obtain ⟨c9, iS9, hKn9⟩ := u_known (C := RX9) (T := TX9) (N := 8) (n := 8) hts0 inX9 (hts0 (.instantiable RX9 8) (by decide +kernel))
  obtain ⟨c10, iS10, hKn10⟩ := u_known (C := RX10) (T := TX10) (N := 35) (n := 35) hts0 inX10 (hts0 (.instantiable RX10 35) (by decide +kernel))
  obtain ⟨D, hKc⟩ : ∃ D : va_G, ∀ (k : Nat) (q : vw_C), vwCl[k]? = some q → u_Kn s q.1 q.2.1 q.2.2 (D.1 k) (D.2 k) := by
    refine ⟨(fun k => match k with | 0 => c0 | 1 => c1 | 2 => c2 | 3 => c3 | 4 => c4 | 5 => c5 | 6 => c7 | 7 => c8 | 8 => c9 | 9 => c10 | _ => c0, fun k => match k with | 0 => iS0 | 1 => iS1 | 2 => iS2 | 3 => iS3 | 4 => iS4 | 5 => iS5 | 6 => iS7 | 7 => iS8 | 8 => iS9 | 9 => iS10 | _ => iS0), ?_⟩
    intro k q hq
    match k, hq with
    | 0, hq => cases hq; exact hKn0
    | 1, hq => cases hq; exact hKn1
    | 2, hq => cases hq; exact hKn2
    | 3, hq => cases hq; exact hKn3
    | 4, hq => cases hq; exact hKn4
    | 5, hq => cases hq; exact hKn5
    | 6, hq => cases hq; exact hKn7
    | 7, hq => cases hq; exact hKn8
    | 8, hq => cases hq; exact hKn9
    | 9, hq => cases hq; exact hKn10
    | k + 10, hq => simp [vwCl] at hq
  obtain ⟨t0, hAr0⟩ := va_arr (ty := .int) (hts0 (.arrayClass .int) (by decide +kernel)) (fun _ h => h)
  obtain ⟨t1, hAr1⟩ := va_arr (ty := .char) (hts0 (.arrayClass .char) (by decide +kernel)) (fun _ h => h)
  obtain ⟨t2, hAr2⟩ := va_arr (ty := .boolean) (hts0 (.arrayClass .boolean) (by decide +kernel)) (fun _ h => h)
  obtain ⟨t3, hAr3⟩ := va_arr (ty := .long) (hts0 (.arrayClass .long) (by decide +kernel)) (fun _ h => h)
  have hov := hts0 (.arrayOver (.array .int)) (by decide +kernel)
  obtain ⟨t4, hAr4⟩ : ∃ cA, ArrOfT s cA (.array .int) ∧ va_RA s cA (.array .int) := by
    obtain ⟨comp, cA, kA, h1, h2, h3, h4⟩ := Cond.arrayOver_specA hov
    refine ⟨cA, fun n z => ⟨fun k h => ?_, kA, h2, comp, h3⟩, h4⟩
    cases h
  obtain ⟨cs, hK⟩ : ∃ cs : Nat → ClassId, va_K D vwCl (gTy cs) s := by
    refine ⟨fun k => match k with | 0 => t0 | 1 => t1 | 2 => t2 | 3 => t3 | _ => t4, hKc, fun k q hq => ?_⟩
    match k, hq with
    | 0, hq => cases hq; exact hAr0
    | 1, hq => cases hq; exact hAr1
    | 2, hq => cases hq; exact hAr2
    | 3, hq => cases hq; exact hAr3
    | 4, hq => cases hq; exact hAr4
    | k + 5, hq => simp [gTy] at hq
  have hG : kG D cs s := ⟨hK, kAO.of hov⟩
  have hN : kN D (fun q : Nat => s.heap.size ≤ q) s.heap [] s.heap [] := ⟨fun k q h => by simp at h, ⟨fun i j p q h => by simp at h, fun k q h => by simp at h⟩, va_S.rf⟩
  have hl := lv_entry ([.ref b]) (n := 7) (Nat.le_of_ble_eq_true rfl)
  rw [lg_entry_eq]
  generalize (lg_sl ([.ref b]) ++ List.replicate (7 - (lg_sl ([.ref b])).length) Slot.unset).toArray = ls at hl ⊢
  have hl : lv_has ls 7 [(0, .ref b)] := hl
  have hin9 : ∀ w ∈ wsX90, w ∈ wsL_law := inlX9
  have hin10 : ∀ w ∈ wsX100, w ∈ wsL_law := inlX10
  refine va_new (ci := 8) (fs := [.null, .null, .null, .null, .null, .null, .null, .null]) (C := RX9) (T := TX9) (N := 8) hx hb hts hin9 tyX9 tyX9_ok hown (hts (.classLink RL 8 RX9) (by decide +kernel)) (hts (.instantiable RX9 8) (by decide +kernel)) (hts (.initialized RX9) (by decide +kernel)) hG.1 hN.1 hN.2.1 hN.2.2 hA rfl dfX9 (Nat.le_of_ble_eq_true rfl) (Nat.le_of_ble_eq_true rfl) dL_law_0 (fun q0 H hP hD hS => ?_)
  have hN : kN D (fun q : Nat => s.heap.size ≤ q) s.heap [(q0, .inr (8, [.null, .null, .null, .null, .null, .null, .null, .null]))] H _ := ⟨hP, hD, hS⟩
  refine lv_dup hx hb dL_law_3 rfl ?_
  refine k_callI (As := []) (rest := [.ref q0]) (wc := [(q0, .inr (8, [.null, .null, .null, .null, .null, .null, .null, .null]))]) (wr := []) ⟨hx, hb, hml, hown, hts⟩ hG hN hA [0] [] (by decide) rfl rfl (by decide) (by decide) (c_X9_init l) (cwI 0 hts gL_law_X9_init rfl rfl rfl (hts (.initialized RX9) (by decide +kernel)) (hts (.methodLink RL 66 yX9_init) (by decide +kernel)) (hts (.instanceMethod yX9_init) (by decide +kernel)) rfl (by decide +kernel) ⟨Nat.le_of_ble_eq_true rfl, Nat.le_of_ble_eq_true rfl⟩) rfl hl.1 rfl (Nat.le_of_ble_eq_true rfl) dL_law_4 ⟨Nat.le_of_ble_eq_true rfl, Nat.le_of_ble_eq_true rfl⟩ (fun r4 H locs hN => ?_)
  refine W.widen (k := 43) (n := 1675) (Nat.le_of_ble_eq_true rfl) (Nat.le_of_ble_eq_true rfl) ?_
  have hN : kN D (fun q : Nat => s.heap.size ≤ q) s.heap (kX9 cs q0 r4) H locs := hN
  refine lv_astore_n (lv' := [(1, .ref q0), (0, .ref b)]) hx hb dL_law_7 rfl hl (by decide) rfl (fun ls hl => ?_)
  refine va_new (ci := 9) (fs := [.null, .null, .null, .null, .null, .null, .int 0, .null, .null, .null, .null, .null, .null, .int 0, .null, .null, .null, .null, .int 0, .int 0, .null, .null, .null, .int 0, .int 0, .int 0, .int 0, .int 0, .int 0, .int 0, .null, .int 0, .int 0, .int 0, .int 0]) (C := RX10) (T := TX10) (N := 35) hx hb hts hin10 tyX10 tyX10_ok hown (hts (.classLink RL 67 RX10) (by decide +kernel)) (hts (.instantiable RX10 35) (by decide +kernel)) (hts (.initialized RX10) (by decide +kernel)) hG.1 hN.1 hN.2.1 hN.2.2 hA rfl dfX10 (Nat.le_of_ble_eq_true rfl) (Nat.le_of_ble_eq_true rfl) dL_law_8 (fun q8 H hP hD hS => ?_)
  have hN : kN D (fun q : Nat => s.heap.size ≤ q) s.heap (kX9 cs q0 r4 ++ [(q8, .inr (9, [.null, .null, .null, .null, .null, .null, .int 0, .null, .null, .null, .null, .null, .null, .int 0, .null, .null, .null, .null, .int 0, .int 0, .null, .null, .null, .int 0, .int 0, .int 0, .int 0, .int 0, .int 0, .int 0, .null, .int 0, .int 0, .int 0, .int 0]))]) H _ := ⟨hP, hD, hS⟩
  refine lv_dup hx hb dL_law_11 rfl ?_
  refine k_callI (As := []) (rest := [.ref q8]) (wc := [(q8, .inr (9, [.null, .null, .null, .null, .null, .null, .int 0, .null, .null, .null, .null, .null, .null, .int 0, .null, .null, .null, .null, .int 0, .int 0, .null, .null, .null, .int 0, .int 0, .int 0, .int 0, .int 0, .int 0, .int 0, .null, .int 0, .int 0, .int 0, .int 0]))]) (wr := (kX9 cs q0 r4)) ⟨hx, hb, hml, hown, hts⟩ hG hN hA [43] [0, 1, 2, 3, 4, 5, 6, 7, 8, 9, 10, 11, 12, 13, 14, 15, 16, 17, 18, 19, 20, 21, 22, 23, 24, 25, 26, 27, 28, 29, 30, 31, 32, 33, 34, 35, 36, 37, 38, 39, 40, 41, 42] (by decide) rfl rfl (by decide) (by decide) (c_X10_init l) (cwI 0 hts gL_law_X10_init rfl rfl rfl (hts (.initialized RX10) (by decide +kernel)) (hts (.methodLink RL 69 yX10_init) (by decide +kernel)) (hts (.instanceMethod yX10_init) (by decide +kernel)) rfl (by decide +kernel) ⟨Nat.le_of_ble_eq_true rfl, Nat.le_of_ble_eq_true rfl⟩) rfl hl.1 rfl (Nat.le_of_ble_eq_true rfl) dL_law_12 ⟨Nat.le_of_ble_eq_true rfl, Nat.le_of_ble_eq_true rfl⟩ (fun r12 H locs hN => ?_)
  refine W.widen (k := 64) (n := 3220) (Nat.le_of_ble_eq_true rfl) (Nat.le_of_ble_eq_true rfl) ?_
  refine lv_astore_n (lv' := [(2, .ref q8), (1, .ref q0), (0, .ref b)]) hx hb dL_law_15 rfl hl (by decide) rfl (fun ls hl => ?_)
  refine lv_iconst (v := 1) hx hb dL_law_16 (by decide) ?_
  refine k_newa (atype := .long) (ty := .long) (N' := 1) (a0 := (1, .inr (.inl (fun _ => 0)))) hx hb rfl (hts (.arrayClass .long) (by decide +kernel)) hG hN hA 3 rfl (fun _ h => h) (fun _ => rfl) (by decide) rfl (Nat.le_of_ble_eq_true rfl) (Nat.le_of_ble_eq_true rfl) (Nat.le_of_ble_eq_true rfl) dL_law_17 (fun q17 H hN => ?_)
  refine lv_astore_n (lv' := [(3, .ref q17), (2, .ref q8), (1, .ref q0), (0, .ref b)]) hx hb dL_law_19 rfl hl (by decide) rfl (fun ls hl => ?_)
  refine lv_iconst (v := 0) hx hb dL_law_20 (by decide) ?_
  refine lv_istore (lv' := [(4, .int 0), (3, .ref q17), (2, .ref q8), (1, .ref q0), (0, .ref b)]) hx hb dL_law_21 hl (by decide) rfl (fun ls hl => ?_)
  obtain ⟨ad, e0, e43, e64, hW⟩ := lw_world hN
  subst e0 e43 e64
  have hJ : gJ ad := fun i j hi hj e => hW.2.1.1 i j _ _ (gW_at ad cs F00 V00 (fun _ => 0) hi) (gW_at ad cs F00 V00 (fun _ => 0) hj) e
  have hlo : ∀ i, i < 65 → s.heap.size ≤ ad i := fun i hi => hW.2.1.2 i _ (gW_at ad cs F00 V00 (fun _ => 0) hi)
  have hgx : ∀ q, gX ad s.heap.size q → s.heap.size ≤ q := fun q h => h.elim (fun ⟨i, hi, e⟩ => by rw [e]; exact hlo i hi) (fun h => h)
  obtain ⟨zd, hZ, hM⟩ := gs_start (A := gX ad s.heap.size) hts0 hgv (fun a ha h => absurd (hgx a h) (Nat.not_le.mpr ha))
  have hGG : gG D ad cs zd s := ⟨hK, hJ, hZ, hM⟩
  have hNN : gN D ad cs s F00 V00 (fun _ => 0) H locs := ⟨hW.1, hW.2.2.1, fun q h1 _ => hW.2.2.2.1 q h1 (Nat.not_le.mpr h1), fun x hx => Or.inr (hW.2.2.2.2 x hx)⟩
  have E : lwE p l s m #[Value.ref b] c D ad cs zd b L xs := ⟨hx, hb, hml, hts, hown, hX, hbl, fun h => absurd (hgx b h) (Nat.not_le.mpr hbl), hl9, hGG⟩
  refine W.widen (k := 65 + 4 * 0) (n := 3221 + 24 * 0) (Nat.le_of_ble_eq_true rfl) (Nat.le_of_ble_eq_true rfl) ?_
  refine law_loop (cz := 65) (sz := 3221) E hL (Nat.le_of_ble_eq_true rfl) (Nat.le_of_ble_eq_true rfl) (fun H locs ls cells slots F V o hc hs hN => ?_) 513 0 F00 V00 (fun _ => 0) H _ ls rfl (Nat.zero_le L) LI_00 hNN (lv_sub hl [4, 3, 2, 1, 0] rfl)
  refine lv_iconst (v := 1) hx hb dL_law_1107 (by decide) ?_
  refine va_forget (fun q hq => hgx _ (hN.2.2.2 q hq)) ?_
  refine W.widen (k := 601024) (n := 7293034) (Nat.le_trans hc (Nat.le_of_ble_eq_true rfl)) (Nat.le_trans hs (Nat.le_of_ble_eq_true rfl)) ?_
  exact lw_ret hx hb hr hlocks dL_law_1108
set_option maxHeartbeats 4000000 in
theorem lw_walk (l : Launch) (hflags : l.flags = flags0) (b : Addr) (xs : List Int32) : MetFree l x (headSpec (Jvm.Cond.code x code maxLocals ret :: tables_1) room_1) (lw_P b xs) (fun _ _ _ _ _ => True) lw_Q := by
  refine MetFree.of_bodyS (code := code) (maxLocals := maxLocals) (ret := ret) (by decide) ?_ ?_
  · intro args s m h hn
    obtain ⟨meth, c, h1, h2, h3, h4, h5, h6, -, -⟩ := Cond.code_spec hn (atoms_spec (ws := Jvm.Cond.code x code maxLocals ret :: tables_1) h _ List.mem_cons_self)
    exact ⟨meth, c, h1, h2, h3, h4, h5, h6⟩
  · intro p e s m args below meth c s₁ B hml0 hP _
    obtain ⟨rfl, hx, hbd, hgv⟩ := hP
    obtain ⟨scr, harrAt, hlist, hof, hsmall⟩ := hx
    obtain ⟨hcb, hkn, -, -⟩ := State.arrayAt?_spec harrAt
    have hown : s.vm.findClass R_law = some m.cls := findClass_of_methodNamed B.named
    have hts0 : ∀ c ∈ (Jvm.Cond.code x code maxLocals ret :: tables_1), c.before #[Value.ref b] s = true := atoms_spec (ws := Jvm.Cond.code x code maxLocals ret :: tables_1) B.pre
    have hts : ∀ w ∈ lw_tbl, w.before #[Value.ref b] s = true := k2_hts_sels lw_privs (fun w hw => hts0 w (List.mem_cons_of_mem _ hw)) lw_privs_ok
    have hml : c.maxLocals = 7 := B.maxLocals_eq (hts0 _ List.mem_cons_self)
    have X₀ : Stand p l e room_1 s m #[Value.ref b] below meth c s₁ [] 0 0 := Stand.of_body B
    have hh0 : s₁.heap = s.heap := by rw [B.state]; rfl
    have hsz : scr.slots.size = xs.length := by rw [← Array.length_toList, hlist, List.length_map]
    have hval : ∀ j : Nat, j < xs.length → scr.slots[j]? = some (.int (xs.getD j 0)) := fun j hj => by
      rw [← Array.getElem?_toList, hlist]
      simp [hj]
    have hbl : b < s.heap.size := (Array.getElem?_eq_some_iff.mp hcb).1
    have hX : va_X b xs.length (fun j => xs.getD j 0) s s.heap := ⟨scr, hcb, hof, hkn, hsz, hval⟩
    have K : W p l e room_1 s m #[Value.ref b] below meth c s₁.heap [] 0 0 (lw_Z below #[Value.ref b] s) (entryFrame m ([Value.ref b] : List Value).toArray 7) := by
      rw [hh0]
      exact whole_start l hflags hbd ⟨B.exec, B.bytes, B.returns, hml, hown, hts, hX, hbl, B.notSynchronized, hgv⟩
    obtain ⟨t, a1, o, b1, b2, b3⟩ := K s₁ rfl X₀
    exact ⟨t, o, a1, b1, b2, b3⟩
theorem lw_pre_spec {args : Array Value} {s : State} (h : (Jvm.Cond.and given_1 narrow_1).before args s = true) (hr : rest_1_c.before args s = true) : ∃ (b : Addr) (xs : List Int32), lw_P b xs args s := by
  have hs := flat_of_before _ h
  have hq := flat_of_before _ hr
  have hc : (Cond.count 1).before args s = true := hs _ (by decide +kernel)
  have harr : (Cond.arrayOf (.arg 0) .int).before args s = true := hs _ (by decide +kernel)
  have hle : (Cond.le (.length (.arg 0)) (.int 2560)).before args s = true := hs _ (by decide +kernel)
  have hlen : (Cond.isInt (.length (.arg 0))).before args s = true := hq _ (by decide +kernel)
  have hall : (Cond.all (.arg 0) (.isInt (.elem (.arg 0) (.index 0)))).before args s = true := hq _ (by decide +kernel)
  obtain ⟨b, xs, hb, hx⟩ := State.ints_of_pre rfl harr hlen hall
  have hsm : xs.length < 2 ^ 31 := hx.choose_spec.2.2.2
  have hev : (Term.length (.arg 0)).eval args s none [] s = some (.int xs.length.toInt32) := hx.length_eval hb
  have hv := Cond.le_ints hev (show (Term.int 2560).eval args s none [] s = some (.int 2560) from rfl)
  have hd : xs.length.toInt32 ≤ 2560 := by
    simpa [Cond.before, Cond.holds, hv] using hle
  have hN : xs.length ≤ 2560 := (Int32.ofNat_le_ofNat hsm (by decide)).mp (show Int32.ofNat xs.length ≤ Int32.ofNat 2560 from hd)
  exact ⟨b, xs, Cond.one_arg hc (show args[0]? = some (.ref b) from hb), hx, hN, h⟩
theorem lw_comes (l : Launch) (hflags : l.flags = flags0) : Comes l x (Jvm.Cond.code x code maxLocals ret :: tables_1) room_1 (fun tb e args s => Calls_1 tb e args s ∧ rest_1 tb e args s ∧ Pre_1 tb e args s)
    (fun _ _ args s o t => lw_Q args s o t) := by
  intro p e ha hc hk s m args below hf hfit hheap happ hpre
  obtain ⟨b, xs, hP⟩ := lw_pre_spec hpre.2.2 hpre.2.1
  obtain ⟨k, o, h1, h2, h3, hQ⟩ := lw_walk l hflags b xs p e ha hc hk s m args below hf ((Spec.applies_iff_loose hf).mp happ).1 hP trivial
  exact ⟨k, o, h1, h2, h3, hQ⟩
theorem lw_frame {s t : State} {o : Outcome} {args : Array Value} (h : Framed s o t [] 601024 7293034) :
    Framed s o t (fieldLocs frame_1_writes args s ++ arrayLocs frame_1_arrays args s ++ staticLocs frame_1_statics s) 601024 7293034 := h
theorem lw_limb (L : Cond) (hL : ∀ (args : Array Value) (s t : State), L.after args s (.returned (some (.int 1))) t = true) :
    ArmFor flags0 classFile x code maxLocals ret World_1 tables_1 room_1 Calls_1 rest_1 Pre_1
      (fun tb e a s o t => postC L tb e a s o t ∧ Framed s o t (fieldLocs frame_1_writes a s ++ arrayLocs frame_1_arrays a s ++ staticLocs frame_1_statics s) 601024 7293034) := by
  intro l hflags _ _ p e ha hc hk s m args below hf hfit hheap happ hpre
  obtain ⟨k, o, h1, h2, h3, rfl, hF⟩ := lw_comes l hflags p e ha hc hk s m args below hf hfit hheap happ hpre
  exact ⟨k, _, h1, h2, h3, hL args s _, lw_frame hF⟩
theorem i_vc : Claimed_1_1 ∧ Claimed_1_2 := ⟨lw_limb limb_1_1 (fun args s t => by simp [limb_1_1, Cond.after, Cond.holds, Cond.value]), lw_limb limb_1_2 (fun args s t => Cond.after_iff.mpr (by
  first | (rw [show limb_1_2 = Cond.eq .result (.int 1) from rfl, Cond.eq_ints (x := 1) (y := 1) rfl rfl]; simp; done) | (simp [limb_1_2, Cond.value, Term.eval]; done)))⟩
