def F01 : gF := fun a => match a with
  | 2 => kf 20 4
  | 9 => kf 100 64
  | 10 => kf 100 64
  | 11 => kf 100 64
  | 29 => kf 50 8
  | 30 => kf 50 8
  | 31 => kf 50 8
  | 32 => kf 50 8
  | _ => fun _ => 0
theorem F01_eq : F01 = F00 := by
  funext a b
  by_cases hd : a = 2 ∨ a = 9 ∨ a = 10 ∨ a = 11 ∨ a = 29 ∨ a = 30 ∨ a = 31 ∨ a = 32
  · rcases hd with rfl | rfl | rfl | rfl | rfl | rfl | rfl | rfl
    · show kf 20 4 b = _
      simp [F00, kf]
    · show kf 100 64 b = _
      simp [F00, kf]
    · show kf 100 64 b = _
      simp [F00, kf]
    · show kf 100 64 b = _
      simp [F00, kf]
    · show kf 50 8 b = _
      simp [F00, kf]
    · show kf 50 8 b = _
      simp [F00, kf]
    · show kf 50 8 b = _
      simp [F00, kf]
    · show kf 50 8 b = _
      simp [F00, kf]
  · have e1 : F01 a b = 0 := by
      unfold F01
      split <;> first | rfl | (exfalso; omega)
    have e2 : F00 a b = 0 := by
      unfold F00
      rw [if_neg (by omega), if_neg (by omega), if_neg (by omega)]
    rw [e1, e2]
theorem kO_congr {n : Nat} {r g : Nat → Nat} (h : ∀ i, i < n → r i = g i) : kO n r = kO n g := by
  unfold kO
  congr 5
  funext i
  by_cases hi : i < n
  · rw [if_pos hi, if_pos hi, h i hi]
  · rw [if_neg hi, if_neg hi]
set_option maxHeartbeats 4000000 in
set_option maxRecDepth 100000 in
theorem h_world0 {D : va_G} {cs : Nat → ClassId} {q0 q8 q13 q19 q25 q31 : Nat} {r4 : Nat → Nat → Nat} {A : Nat → Prop} {H0 H : Heap} {locs : List Loc} (M : Nat) (hN : kN D A H0 (((((kX9 cs q0 r4 ++ [(q8, .inl (cs 0, 9, .inl (fun _ => 0)))]) ++ [(q13, .inl (cs 0, 32, .inl (fun _ => 0)))]) ++ [(q19, .inl (cs 0, 40, .inl (fun _ => 0)))]) ++ [(q25, .inl (cs 0, 8, .inl (fun _ => 0)))]) ++ [(q31, .inl (cs 0, 8, .inl (fun _ => 0)))]) H locs) : ∃ ad : Nat → Nat, (∀ i, 48 ≤ i → ad i = M + i) ∧ ad 0 = q0 ∧ ad 43 = q8 ∧ ad 44 = q13 ∧ ad 45 = q19 ∧ ad 46 = q25 ∧ ad 47 = q31 ∧ kN D A H0 (gW ad cs F00 V00 0) H locs := by
  refine ⟨fun i => ([q0, (r4 0 0), (r4 0 1), (r4 1 0), (r4 1 1), (r4 1 2), (r4 1 3), (r4 2 0), (r4 2 1), (r4 2 2), (r4 2 3), (r4 2 4), (r4 3 0), (r4 3 1), (r4 3 2), (r4 3 3), (r4 3 4), (r4 3 5), (r4 4 0), (r4 4 1), (r4 4 2), (r4 4 3), (r4 4 4), (r4 4 5), (r4 4 6), (r4 4 7), (r4 4 8), (r4 5 0), (r4 5 1), (r4 5 2), (r4 5 3), (r4 5 4), (r4 5 5), (r4 6 0), (r4 6 1), (r4 6 2), (r4 6 3), (r4 7 0), (r4 7 1), (r4 7 2), (r4 7 3), (r4 7 4), (r4 7 5), q8, q13, q19, q25, q31] : List Nat).getD i (M + i), fun i hi => ?_, rfl, rfl, rfl, rfl, rfl, rfl, ?_⟩
  · show List.getD _ i (M + i) = M + i
    rw [List.getD_eq_getElem?_getD, List.getElem?_eq_none hi]
    rfl
  have hN : kN D A H0 [(q0, .inr (8, [.ref (r4 0 0), .ref (r4 1 0), .ref (r4 2 0), .ref (r4 3 0), .ref (r4 4 0), .ref (r4 5 0), .ref (r4 6 0), .ref (r4 7 0)])), ((r4 0 0), .inr (6, [.int 50, .int 300, .int 0, .int 2, .int 10, .ref (r4 0 1)])), ((r4 0 1), .inl (cs 0, 4, .inl (kf 20 4))), ((r4 1 0), .inr (7, [.ref (r4 1 1), .ref (r4 1 2), .ref (r4 1 3), .int 0, .int 0])), ((r4 1 1), .inl (cs 1, 60, .inl (fun _ => 0))), ((r4 1 2), .inl (cs 0, 60, .inl (fun _ => 0))), ((r4 1 3), .inl (cs 0, 60, .inl (fun _ => 0))), ((r4 2 0), .inr (1, [.ref (r4 2 1)])), ((r4 2 1), .inl (cs 4, kO 3 (fun i => r4 2 (i + 1 + 1)))), ((r4 2 2), .inl (cs 0, 64, .inl (kf 100 64))), ((r4 2 3), .inl (cs 0, 64, .inl (kf 100 64))), ((r4 2 4), .inl (cs 0, 64, .inl (kf 100 64))), ((r4 3 0), .inr (2, [.ref (r4 3 1)])), ((r4 3 1), .inl (cs 4, kO 4 (fun i => r4 3 (i + 1 + 1)))), ((r4 3 2), .inl (cs 0, 64, .inl (fun _ => 0))), ((r4 3 3), .inl (cs 0, 64, .inl (fun _ => 0))), ((r4 3 4), .inl (cs 0, 64, .inl (fun _ => 0))), ((r4 3 5), .inl (cs 0, 64, .inl (fun _ => 0))), ((r4 4 0), .inr (5, [.ref (r4 4 1), .ref (r4 4 2), .ref (r4 4 3), .ref (r4 4 4), .ref (r4 4 5), .ref (r4 4 6), .ref (r4 4 7), .ref (r4 4 8), .int 0])), ((r4 4 1), .inl (cs 0, 4, .inl (fun _ => 0))), ((r4 4 2), .inl (cs 0, 4, .inl (fun _ => 0))), ((r4 4 3), .inl (cs 0, 4, .inl (fun _ => 0))), ((r4 4 4), .inl (cs 0, 4, .inl (fun _ => 0))), ((r4 4 5), .inl (cs 0, 20, .inl (fun _ => 0))), ((r4 4 6), .inl (cs 0, 20, .inl (fun _ => 0))), ((r4 4 7), .inl (cs 0, 20, .inl (fun _ => 0))), ((r4 4 8), .inl (cs 0, 20, .inl (fun _ => 0))), ((r4 5 0), .inr (3, [.ref (r4 5 1), .int 0, .int 0, .int 0, .int 0, .int 0])), ((r4 5 1), .inl (cs 4, kO 4 (fun i => r4 5 (i + 1 + 1)))), ((r4 5 2), .inl (cs 0, 8, .inl (kf 50 8))), ((r4 5 3), .inl (cs 0, 8, .inl (kf 50 8))), ((r4 5 4), .inl (cs 0, 8, .inl (kf 50 8))), ((r4 5 5), .inl (cs 0, 8, .inl (kf 50 8))), ((r4 6 0), .inr (0, [.ref (r4 6 1), .ref (r4 6 2), .ref (r4 6 3), .int 0, .int 0, .int 0])), ((r4 6 1), .inl (cs 0, 200, .inl (fun _ => 0))), ((r4 6 2), .inl (cs 2, 200, .inl (fun _ => 0))), ((r4 6 3), .inl (cs 0, 200, .inl (fun _ => 0))), ((r4 7 0), .inr (4, [.ref (r4 7 1), .int 0])), ((r4 7 1), .inl (cs 4, kO 4 (fun i => r4 7 (i + 1 + 1)))), ((r4 7 2), .inl (cs 0, 64, .inl (fun _ => 0))), ((r4 7 3), .inl (cs 0, 64, .inl (fun _ => 0))), ((r4 7 4), .inl (cs 0, 64, .inl (fun _ => 0))), ((r4 7 5), .inl (cs 0, 64, .inl (fun _ => 0))), (q8, .inl (cs 0, 9, .inl (fun _ => 0))), (q13, .inl (cs 0, 32, .inl (fun _ => 0))), (q19, .inl (cs 0, 40, .inl (fun _ => 0))), (q25, .inl (cs 0, 8, .inl (fun _ => 0))), (q31, .inl (cs 0, 8, .inl (fun _ => 0)))] H locs := hN
  have o8 : kO 3 (fun i => r4 2 (i + 1 + 1)) = kO 3 (fun j => ([q0, (r4 0 0), (r4 0 1), (r4 1 0), (r4 1 1), (r4 1 2), (r4 1 3), (r4 2 0), (r4 2 1), (r4 2 2), (r4 2 3), (r4 2 4), (r4 3 0), (r4 3 1), (r4 3 2), (r4 3 3), (r4 3 4), (r4 3 5), (r4 4 0), (r4 4 1), (r4 4 2), (r4 4 3), (r4 4 4), (r4 4 5), (r4 4 6), (r4 4 7), (r4 4 8), (r4 5 0), (r4 5 1), (r4 5 2), (r4 5 3), (r4 5 4), (r4 5 5), (r4 6 0), (r4 6 1), (r4 6 2), (r4 6 3), (r4 7 0), (r4 7 1), (r4 7 2), (r4 7 3), (r4 7 4), (r4 7 5), q8, q13, q19, q25, q31] : List Nat).getD (9 + j) (M + (9 + j))) := kO_congr (fun i hi => by
    rcases (show i = 0 ∨ i = 1 ∨ i = 2 by omega) with rfl | rfl | rfl <;> rfl)
  have o13 : kO 4 (fun i => r4 3 (i + 1 + 1)) = kO 4 (fun j => ([q0, (r4 0 0), (r4 0 1), (r4 1 0), (r4 1 1), (r4 1 2), (r4 1 3), (r4 2 0), (r4 2 1), (r4 2 2), (r4 2 3), (r4 2 4), (r4 3 0), (r4 3 1), (r4 3 2), (r4 3 3), (r4 3 4), (r4 3 5), (r4 4 0), (r4 4 1), (r4 4 2), (r4 4 3), (r4 4 4), (r4 4 5), (r4 4 6), (r4 4 7), (r4 4 8), (r4 5 0), (r4 5 1), (r4 5 2), (r4 5 3), (r4 5 4), (r4 5 5), (r4 6 0), (r4 6 1), (r4 6 2), (r4 6 3), (r4 7 0), (r4 7 1), (r4 7 2), (r4 7 3), (r4 7 4), (r4 7 5), q8, q13, q19, q25, q31] : List Nat).getD (14 + j) (M + (14 + j))) := kO_congr (fun i hi => by
    rcases (show i = 0 ∨ i = 1 ∨ i = 2 ∨ i = 3 by omega) with rfl | rfl | rfl | rfl <;> rfl)
  have o28 : kO 4 (fun i => r4 5 (i + 1 + 1)) = kO 4 (fun j => ([q0, (r4 0 0), (r4 0 1), (r4 1 0), (r4 1 1), (r4 1 2), (r4 1 3), (r4 2 0), (r4 2 1), (r4 2 2), (r4 2 3), (r4 2 4), (r4 3 0), (r4 3 1), (r4 3 2), (r4 3 3), (r4 3 4), (r4 3 5), (r4 4 0), (r4 4 1), (r4 4 2), (r4 4 3), (r4 4 4), (r4 4 5), (r4 4 6), (r4 4 7), (r4 4 8), (r4 5 0), (r4 5 1), (r4 5 2), (r4 5 3), (r4 5 4), (r4 5 5), (r4 6 0), (r4 6 1), (r4 6 2), (r4 6 3), (r4 7 0), (r4 7 1), (r4 7 2), (r4 7 3), (r4 7 4), (r4 7 5), q8, q13, q19, q25, q31] : List Nat).getD (29 + j) (M + (29 + j))) := kO_congr (fun i hi => by
    rcases (show i = 0 ∨ i = 1 ∨ i = 2 ∨ i = 3 by omega) with rfl | rfl | rfl | rfl <;> rfl)
  have o38 : kO 4 (fun i => r4 7 (i + 1 + 1)) = kO 4 (fun j => ([q0, (r4 0 0), (r4 0 1), (r4 1 0), (r4 1 1), (r4 1 2), (r4 1 3), (r4 2 0), (r4 2 1), (r4 2 2), (r4 2 3), (r4 2 4), (r4 3 0), (r4 3 1), (r4 3 2), (r4 3 3), (r4 3 4), (r4 3 5), (r4 4 0), (r4 4 1), (r4 4 2), (r4 4 3), (r4 4 4), (r4 4 5), (r4 4 6), (r4 4 7), (r4 4 8), (r4 5 0), (r4 5 1), (r4 5 2), (r4 5 3), (r4 5 4), (r4 5 5), (r4 6 0), (r4 6 1), (r4 6 2), (r4 6 3), (r4 7 0), (r4 7 1), (r4 7 2), (r4 7 3), (r4 7 4), (r4 7 5), q8, q13, q19, q25, q31] : List Nat).getD (39 + j) (M + (39 + j))) := kO_congr (fun i hi => by
    rcases (show i = 0 ∨ i = 1 ∨ i = 2 ∨ i = 3 by omega) with rfl | rfl | rfl | rfl <;> rfl)
  rw [o8, o13, o28, o38] at hN
  rw [← F01_eq]
  exact hN
theorem h_world {D : va_G} {cs : Nat → ClassId} {q0 q8 q13 q19 q25 q31 : Nat} {r4 : Nat → Nat → Nat} {A : Nat → Prop} {H0 H : Heap} {locs : List Loc} (hP : va_P D vwCl (((((kX9 cs q0 r4 ++ [(q8, .inl (cs 0, 9, .inl (fun _ => 0)))]) ++ [(q13, .inl (cs 0, 32, .inl (fun _ => 0)))]) ++ [(q19, .inl (cs 0, 40, .inl (fun _ => 0)))]) ++ [(q25, .inl (cs 0, 8, .inl (fun _ => 0)))]) ++ [(q31, .inl (cs 0, 8, .inl (fun _ => 0)))]) H) (hD : va_D A (((((kX9 cs q0 r4 ++ [(q8, .inl (cs 0, 9, .inl (fun _ => 0)))]) ++ [(q13, .inl (cs 0, 32, .inl (fun _ => 0)))]) ++ [(q19, .inl (cs 0, 40, .inl (fun _ => 0)))]) ++ [(q25, .inl (cs 0, 8, .inl (fun _ => 0)))]) ++ [(q31, .inl (cs 0, 8, .inl (fun _ => 0)))])) (hS : va_S A H0 H locs) : ∃ ad : Nat → Nat, ad 0 = q0 ∧ ad 43 = q8 ∧ ad 44 = q13 ∧ ad 45 = q19 ∧ ad 46 = q25 ∧ ad 47 = q31 ∧ ((∀ i, 48 ≤ i → H.size ≤ ad i) ∧ gJ ad) ∧ kN D A H0 (gW ad cs F00 V00 0) H locs := by
  obtain ⟨ad, h48, e0, e43, e44, e45, e46, e47, hW⟩ := h_world0 H.size ⟨hP, hD, hS⟩
  have l0 : ∀ k, k < 48 → ad k < H.size := fun k hk => (hW.1 k _ (gW_at ad cs F00 V00 0 hk)).lt
  refine ⟨ad, e0, e43, e44, e45, e46, e47, ⟨fun i hi => by rw [h48 i hi]; omega, fun i j hij => ?_⟩, hW⟩
  by_cases c1 : i < 48
  · have := l0 i c1
    by_cases c2 : j < 48
    · exact hW.2.1.1 i j _ _ (gW_at ad cs F00 V00 0 c1) (gW_at ad cs F00 V00 0 c2) hij
    · rw [h48 j (by omega)] at hij
      omega
  · rw [h48 i (by omega)] at hij
    by_cases c2 : j < 48
    · have := l0 j c2
      omega
    · rw [h48 j (by omega)] at hij
      omega
