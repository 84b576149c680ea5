section GR2
variable {p : Program} {l : Launch} {e : Env} {R : Room} {s : State} {m : MethodId} {args : Array Value} {below : List Frame} {meth : Method} {c : Code} {H : Heap} {locs : List Loc} {cells slots : Nat} {Q : State → Prop}
variable {cc : ByteArray} {pc : Nat} {ls : Array Slot} {rest st0 : List Value}
theorem g_cN_eq (hx : p.tables.exec = Jvm.exec) (hb : c.code = cc) {a b : Nat} {x y : Int32} {off : Int} {tgt : Nat} (hdg : decode cc pc = .ok (.if_icmp .eq off, 3)) (ht : (pc : Int) + off = (tgt : Int)) (ha : x = nI a) (hb2 : y = nI b) (h1 : a < 2 ^ 31) (h2 : b < 2 ^ 31) (kt : a = b → W p l e R s m args below meth c H locs cells slots Q (F0 m tgt ls rest)) (kf : a ≠ b → W p l e R s m args below meth c H locs cells slots Q (F0 m (pc + 3) ls rest)) : W p l e R s m args below meth c H locs cells slots Q (F0 m pc ls (.int y :: .int x :: rest)) := by
  subst ha; subst hb2
  exact lv_icmp_eq hx hb hdg ht (fun c9 => kt ((nI_eq h1 h2).mp c9)) (fun c9 => kf (fun z => c9 (by rw [z])))
theorem g_cN_ne (hx : p.tables.exec = Jvm.exec) (hb : c.code = cc) {a b : Nat} {x y : Int32} {off : Int} {tgt : Nat} (hdg : decode cc pc = .ok (.if_icmp .ne off, 3)) (ht : (pc : Int) + off = (tgt : Int)) (ha : x = nI a) (hb2 : y = nI b) (h1 : a < 2 ^ 31) (h2 : b < 2 ^ 31) (kt : a ≠ b → W p l e R s m args below meth c H locs cells slots Q (F0 m tgt ls rest)) (kf : a = b → W p l e R s m args below meth c H locs cells slots Q (F0 m (pc + 3) ls rest)) : W p l e R s m args below meth c H locs cells slots Q (F0 m pc ls (.int y :: .int x :: rest)) := by
  subst ha; subst hb2
  exact lv_icmp_ne hx hb hdg ht (fun c9 => kt (fun z => c9 (by rw [z]))) (fun c9 => kf ((nI_eq h1 h2).mp c9))
theorem g_cN_lt (hx : p.tables.exec = Jvm.exec) (hb : c.code = cc) {a b : Nat} {x y : Int32} {off : Int} {tgt : Nat} (hdg : decode cc pc = .ok (.if_icmp .lt off, 3)) (ht : (pc : Int) + off = (tgt : Int)) (ha : x = nI a) (hb2 : y = nI b) (h1 : a < 2 ^ 31) (h2 : b < 2 ^ 31) (kt : a < b → W p l e R s m args below meth c H locs cells slots Q (F0 m tgt ls rest)) (kf : b ≤ a → W p l e R s m args below meth c H locs cells slots Q (F0 m (pc + 3) ls rest)) : W p l e R s m args below meth c H locs cells slots Q (F0 m pc ls (.int y :: .int x :: rest)) := by
  subst ha; subst hb2
  exact lv_icmp_lt hx hb hdg ht (fun c9 => kt ((nI_ltI h1 h2).mp c9)) (fun c9 => kf (Nat.not_lt.mp (fun z => c9 ((nI_ltI h1 h2).mpr z))))
theorem g_cN_ge (hx : p.tables.exec = Jvm.exec) (hb : c.code = cc) {a b : Nat} {x y : Int32} {off : Int} {tgt : Nat} (hdg : decode cc pc = .ok (.if_icmp .ge off, 3)) (ht : (pc : Int) + off = (tgt : Int)) (ha : x = nI a) (hb2 : y = nI b) (h1 : a < 2 ^ 31) (h2 : b < 2 ^ 31) (kt : b ≤ a → W p l e R s m args below meth c H locs cells slots Q (F0 m tgt ls rest)) (kf : a < b → W p l e R s m args below meth c H locs cells slots Q (F0 m (pc + 3) ls rest)) : W p l e R s m args below meth c H locs cells slots Q (F0 m pc ls (.int y :: .int x :: rest)) := by
  subst ha; subst hb2
  exact lv_icmp_ge hx hb hdg ht (fun c9 => kt ((nI_leI h2 h1).mp c9)) (fun c9 => kf (Nat.not_le.mp (fun z => c9 ((nI_leI h2 h1).mpr z))))
theorem g_cN_gt (hx : p.tables.exec = Jvm.exec) (hb : c.code = cc) {a b : Nat} {x y : Int32} {off : Int} {tgt : Nat} (hdg : decode cc pc = .ok (.if_icmp .gt off, 3)) (ht : (pc : Int) + off = (tgt : Int)) (ha : x = nI a) (hb2 : y = nI b) (h1 : a < 2 ^ 31) (h2 : b < 2 ^ 31) (kt : b < a → W p l e R s m args below meth c H locs cells slots Q (F0 m tgt ls rest)) (kf : a ≤ b → W p l e R s m args below meth c H locs cells slots Q (F0 m (pc + 3) ls rest)) : W p l e R s m args below meth c H locs cells slots Q (F0 m pc ls (.int y :: .int x :: rest)) := by
  subst ha; subst hb2
  exact lv_icmp_gt hx hb hdg ht (fun c9 => kt ((nI_ltI h2 h1).mp c9)) (fun c9 => kf (Nat.not_lt.mp (fun z => c9 ((nI_ltI h2 h1).mpr z))))
theorem g_cN_le (hx : p.tables.exec = Jvm.exec) (hb : c.code = cc) {a b : Nat} {x y : Int32} {off : Int} {tgt : Nat} (hdg : decode cc pc = .ok (.if_icmp .le off, 3)) (ht : (pc : Int) + off = (tgt : Int)) (ha : x = nI a) (hb2 : y = nI b) (h1 : a < 2 ^ 31) (h2 : b < 2 ^ 31) (kt : a ≤ b → W p l e R s m args below meth c H locs cells slots Q (F0 m tgt ls rest)) (kf : b < a → W p l e R s m args below meth c H locs cells slots Q (F0 m (pc + 3) ls rest)) : W p l e R s m args below meth c H locs cells slots Q (F0 m pc ls (.int y :: .int x :: rest)) := by
  subst ha; subst hb2
  exact lv_icmp_le hx hb hdg ht (fun c9 => kt ((nI_leI h1 h2).mp c9)) (fun c9 => kf (Nat.not_le.mp (fun z => c9 ((nI_leI h1 h2).mpr z))))
theorem g_ifN_eq (hx : p.tables.exec = Jvm.exec) (hb : c.code = cc) {a : Nat} {x : Int32} {off : Int} {tgt : Nat} (hdg : decode cc pc = .ok (.ifCond .eq off, 3)) (ht : (pc : Int) + off = (tgt : Int)) (ha : x = nI a) (h1 : a < 2 ^ 31) (kt : a = 0 → W p l e R s m args below meth c H locs cells slots Q (F0 m tgt ls rest)) (kf : 0 < a → W p l e R s m args below meth c H locs cells slots Q (F0 m (pc + 3) ls rest)) : W p l e R s m args below meth c H locs cells slots Q (F0 m pc ls (.int x :: rest)) := by
  subst ha
  refine lv_if_eq hx hb hdg ht (fun c9 => kt ?_) (fun c9 => kf ?_)
  · exact (nI_eq (b := 0) h1 (by decide)).mp c9
  · exact Nat.pos_of_ne_zero (fun z => c9 (by rw [z]; rfl))
theorem g_ifN_ne (hx : p.tables.exec = Jvm.exec) (hb : c.code = cc) {a : Nat} {x : Int32} {off : Int} {tgt : Nat} (hdg : decode cc pc = .ok (.ifCond .ne off, 3)) (ht : (pc : Int) + off = (tgt : Int)) (ha : x = nI a) (h1 : a < 2 ^ 31) (kt : 0 < a → W p l e R s m args below meth c H locs cells slots Q (F0 m tgt ls rest)) (kf : a = 0 → W p l e R s m args below meth c H locs cells slots Q (F0 m (pc + 3) ls rest)) : W p l e R s m args below meth c H locs cells slots Q (F0 m pc ls (.int x :: rest)) := by
  subst ha
  refine lv_if_ne hx hb hdg ht (fun c9 => kt ?_) (fun c9 => kf ?_)
  · exact Nat.pos_of_ne_zero (fun z => c9 (by rw [z]; rfl))
  · exact (nI_eq (b := 0) h1 (by decide)).mp c9
theorem g_ifN_gt (hx : p.tables.exec = Jvm.exec) (hb : c.code = cc) {a : Nat} {x : Int32} {off : Int} {tgt : Nat} (hdg : decode cc pc = .ok (.ifCond .gt off, 3)) (ht : (pc : Int) + off = (tgt : Int)) (ha : x = nI a) (h1 : a < 2 ^ 31) (kt : 0 < a → W p l e R s m args below meth c H locs cells slots Q (F0 m tgt ls rest)) (kf : a = 0 → W p l e R s m args below meth c H locs cells slots Q (F0 m (pc + 3) ls rest)) : W p l e R s m args below meth c H locs cells slots Q (F0 m pc ls (.int x :: rest)) := by
  subst ha
  refine lv_if_gt hx hb hdg ht (fun c9 => kt ?_) (fun c9 => kf ?_)
  · exact (nI_ltI (a := 0) (by decide) h1).mp c9
  · exact Nat.le_zero.mp (Nat.not_lt.mp (fun z => c9 ((nI_ltI (a := 0) (by decide) h1).mpr z)))
theorem g_ifN_le (hx : p.tables.exec = Jvm.exec) (hb : c.code = cc) {a : Nat} {x : Int32} {off : Int} {tgt : Nat} (hdg : decode cc pc = .ok (.ifCond .le off, 3)) (ht : (pc : Int) + off = (tgt : Int)) (ha : x = nI a) (h1 : a < 2 ^ 31) (kt : a = 0 → W p l e R s m args below meth c H locs cells slots Q (F0 m tgt ls rest)) (kf : 0 < a → W p l e R s m args below meth c H locs cells slots Q (F0 m (pc + 3) ls rest)) : W p l e R s m args below meth c H locs cells slots Q (F0 m pc ls (.int x :: rest)) := by
  subst ha
  refine lv_if_le hx hb hdg ht (fun c9 => kt ?_) (fun c9 => kf ?_)
  · exact Nat.le_zero.mp ((nI_leI (b := 0) h1 (by decide)).mp c9)
  · exact Nat.pos_of_ne_zero (fun z => c9 (by rw [z]; exact Int32.le_refl _))
theorem g_ifb_eq (P : Prop) [Decidable P] (hx : p.tables.exec = Jvm.exec) (hb : c.code = cc) {x : Int32} {off : Int} {tgt : Nat} (hdg : decode cc pc = .ok (.ifCond .eq off, 3)) (ht : (pc : Int) + off = (tgt : Int)) (ha : x = if P then 1 else 0) (kt : ¬ P → W p l e R s m args below meth c H locs cells slots Q (F0 m tgt ls rest)) (kf : P → W p l e R s m args below meth c H locs cells slots Q (F0 m (pc + 3) ls rest)) : W p l e R s m args below meth c H locs cells slots Q (F0 m pc ls (.int x :: rest)) := by
  subst ha
  by_cases h : P
  · rw [if_pos h]
    exact lv_if_eq hx hb hdg ht (fun c9 => absurd c9 (by decide)) (fun c9 => kf h)
  · rw [if_neg h]
    exact lv_if_eq hx hb hdg ht (fun c9 => kt h) (fun c9 => absurd c9 (by decide))
theorem g_ifb_ne (P : Prop) [Decidable P] (hx : p.tables.exec = Jvm.exec) (hb : c.code = cc) {x : Int32} {off : Int} {tgt : Nat} (hdg : decode cc pc = .ok (.ifCond .ne off, 3)) (ht : (pc : Int) + off = (tgt : Int)) (ha : x = if P then 1 else 0) (kt : P → W p l e R s m args below meth c H locs cells slots Q (F0 m tgt ls rest)) (kf : ¬ P → W p l e R s m args below meth c H locs cells slots Q (F0 m (pc + 3) ls rest)) : W p l e R s m args below meth c H locs cells slots Q (F0 m pc ls (.int x :: rest)) := by
  subst ha
  by_cases h : P
  · rw [if_pos h]
    exact lv_if_ne hx hb hdg ht (fun c9 => kt h) (fun c9 => absurd c9 (by decide))
  · rw [if_neg h]
    exact lv_if_ne hx hb hdg ht (fun c9 => absurd c9 (by decide)) (fun c9 => kf h)
end GR2
theorem g_nz (P : Prop) [Decidable P] : narrow .boolean (.int (if P then 1 else 0)) = .int (if P then 1 else 0) := by
  by_cases h : P
  · rw [if_pos h]; decide
  · rw [if_neg h]; decide
theorem g_fz (P : Prop) [Decidable P] : fits .boolean (.int (if P then 1 else 0)) = true := by
  by_cases h : P
  · rw [if_pos h]; decide
  · rw [if_neg h]; decide
theorem g_vz (P : Prop) [Decidable P] : vp_nar .boolean (if P then 1 else 0) = if P then 1 else 0 := by
  by_cases h : P
  · rw [if_pos h]; decide
  · rw [if_neg h]; decide
