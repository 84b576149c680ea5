section GL
variable {p : Program} {l : Launch} {e : Env} {R : Room} {s : State} {m : MethodId} {args : Array Value} {below : List Frame} {meth : Method} {c : Code} {H : Heap} {locs : List Loc} {cells slots : Nat} {Q : State → Prop}
variable {cc : ByteArray} {pc : Nat} {ls : Array Slot} {rest st0 : List Value} {D : va_G} {ad : Nat → Nat} {cs : Nat → ClassId} {zd : Nat → Nat} {F V : gF} {o : gO}
/-- the law's calls of its own methods with tables, where the answer is told by a relation -/
theorem g_Wi {y : MethodName} {bytes : ByteArray} {maxL nL mc ms n index : Nat} {ret : Option FieldType} {hh : List (Nat × Nat × Nat × Nat)} {ws : List Cond} {rm : Room} {Ts : List Cond} {own : String} {As : List Value} {post : Int32 → gS → Prop}
    (S : CallFix p m c cc nL s args Ts own) (hG : gG D ad cs zd s) (hN : gN D ad cs s F V o H locs) (hM : Met l y ws rm (gPc D ad cs zd F V o H.size As) (gQi D ad cs H.size post) mc ms (gX ad H.size)) (cw : vx_CSW R s args own index y bytes maxL ret hh ws rm mc ms n) (hn : As.length = n) (hsz : ls.size = nL) (hst : st0 = As.reverse ++ rest) (hw : (rest.map fun v => v.category).sum ≤ 8) (hdg : decode cc pc = .ok (.invokestatic index, 3)) (hf : cells + mc ≤ R.cells ∧ slots + ms ≤ R.slots)
    (kk : ∀ (r : Int32) (F2 V2 : gF) (o2 : gO) (H1 : Heap) (locs1 : List Loc), post r (F2, V2, o2) → gN D ad cs s F2 V2 o2 H1 locs1 → W p l e R s m args below meth c H1 locs1 (cells + mc) (slots + ms) Q (F0 m (pc + 3) ls (.int r :: rest))) : W p l e R s m args below meth c H locs cells slots Q (F0 m pc ls st0) :=
  va_calli (vx_runSW (As := As) (rest := rest) S hM cw ⟨g_blind, fun U hU hW => ⟨rfl, hG.heap hN U hU hW⟩⟩ rfl hn hsz hst (lv_room hw) hdg hf) hN.2 (fun q _ h => gX_mono hN.2.1 q h) (gX_mono hN.2.1) (fun r u t H1 locs1 ht _ hp hB _ _ hS => kk r u.1 u.2.1 u.2.2 H1 locs1 hp (gN.next ht hB hS rfl))
end GL
/-- the first state: what the constructors lay -/
def F00 : gF := fun a b => if a = 2 ∧ b < 4 then 20 else if 9 ≤ a ∧ a ≤ 11 then (if b < 64 then 100 else 0) else if 29 ≤ a ∧ a ≤ 32 then (if b < 8 then 50 else 0) else if 44 ≤ a ∧ a ≤ 46 then (if b < 64 then 100 else 0) else if a = 55 then (if b < 32 then 50 else 0) else if a = 47 then (if b = 0 then 50 else if b = 1 then 300 else if 3 ≤ b ∧ b ≤ 6 then 20 else if b = 7 then 2 else if b = 8 then 10 else 0) else 0
def V00 : gF := fun a b => if a = 1 then (if b = 0 then 50 else if b = 1 then 300 else if b = 3 then 2 else if b = 4 then 10 else 0) else 0
theorem F00_t : tF F00 = F00 := by
  funext a b
  by_cases hz : gT a
  · have hd : a = 2 ∨ a = 4 ∨ a = 9 ∨ a = 10 ∨ a = 11 ∨ a = 14 ∨ a = 15 ∨ a = 16 ∨ a = 17 ∨ a = 19 ∨ a = 20 ∨ a = 21 ∨ a = 22 ∨ a = 23 ∨ a = 24 ∨ a = 25 ∨ a = 26 ∨ a = 29 ∨ a = 30 ∨ a = 31 ∨ a = 32 ∨ a = 34 ∨ a = 35 ∨ a = 36 ∨ a = 39 ∨ a = 40 ∨ a = 41 ∨ a = 42 := by
      unfold gT at hz
      omega
    rcases hd with rfl | rfl | rfl | rfl | rfl | rfl | rfl | rfl | rfl | rfl | rfl | rfl | rfl | rfl | rfl | rfl | rfl | rfl | rfl | rfl | rfl | rfl | rfl | rfl | rfl | rfl | rfl | rfl
    · by_cases hb : b < 4
      · have hb2 : b = 0 ∨ b = 1 ∨ b = 2 ∨ b = 3 := by omega
        rcases hb2 with rfl | rfl | rfl | rfl <;> rfl
      · show (if b < 4 then F00 47 (3 + b) else 0) = F00 2 b
        rw [if_neg hb]
        unfold F00
        rw [if_neg (by omega)]
        rfl
    all_goals first | rfl | skip
    all_goals (by_cases hb : b < 8 <;> simp [tF, F00, hb] <;> omega)
  · exact tF_n hz
