theorem hc_wsL_house_r1 : ∀ w ∈ wsL_house_r1, w ∈ wsL_house := by
  intro w h
  unfold wsL_house
  simp only [List.mem_cons, List.mem_append, h, true_or, or_true]
theorem hc_wsL_house_r2 : ∀ w ∈ wsL_house_r2, w ∈ wsL_house := by
  intro w h
  unfold wsL_house
  simp only [List.mem_cons, List.mem_append, h, true_or, or_true]
theorem hc_wsL_house_r3 : ∀ w ∈ wsL_house_r3, w ∈ wsL_house := by
  intro w h
  unfold wsL_house
  simp only [List.mem_cons, List.mem_append, h, true_or, or_true]
theorem hc_wsL_house_r4 : ∀ w ∈ wsL_house_r4, w ∈ wsL_house := by
  intro w h
  unfold wsL_house
  simp only [List.mem_cons, List.mem_append, h, true_or, or_true]
theorem hc_wsL_house_r5 : ∀ w ∈ wsL_house_r5, w ∈ wsL_house := by
  intro w h
  unfold wsL_house
  simp only [List.mem_cons, List.mem_append, h, true_or, or_true]
theorem hc_wsL_house_r6 : ∀ w ∈ wsL_house_r6, w ∈ wsL_house := by
  intro w h
  unfold wsL_house
  simp only [List.mem_cons, List.mem_append, h, true_or, or_true]
theorem hc_wsL_house_r7 : ∀ w ∈ wsL_house_r7, w ∈ wsL_house := by
  intro w h
  unfold wsL_house
  simp only [List.mem_cons, List.mem_append, h, true_or, or_true]
theorem hc_wsL_house_r8 : ∀ w ∈ wsL_house_r8, w ∈ wsL_house := by
  intro w h
  unfold wsL_house
  simp only [List.mem_cons, List.mem_append, h, true_or, or_true]
theorem hc_wsL_house_r9 : ∀ w ∈ wsL_house_r9, w ∈ wsL_house := by
  intro w h
  unfold wsL_house
  simp only [List.mem_cons, List.mem_append, h, true_or, or_true]
theorem hc_wsL_house_r10 : ∀ w ∈ wsL_house_r10, w ∈ wsL_house := by
  intro w h
  unfold wsL_house
  simp only [List.mem_cons, List.mem_append, h, true_or, or_true]
theorem hc_wsL_house_r11 : ∀ w ∈ wsL_house_r11, w ∈ wsL_house := by
  intro w h
  unfold wsL_house
  simp only [List.mem_cons, List.mem_append, h, true_or, or_true]
theorem hc_wsL_house_r12 : ∀ w ∈ wsL_house_r12, w ∈ wsL_house := by
  intro w h
  unfold wsL_house
  simp only [List.mem_cons, List.mem_append, h, true_or, or_true]
theorem hc_wsL_house_r13 : ∀ w ∈ wsL_house_r13, w ∈ wsL_house := by
  intro w h
  unfold wsL_house
  simp only [List.mem_cons, List.mem_append, h, true_or, or_true]
theorem hc_wsL_house_r14 : ∀ w ∈ wsL_house_r14, w ∈ wsL_house := by
  intro w h
  unfold wsL_house
  simp only [List.mem_cons, List.mem_append, h, true_or, or_true]
theorem hc_wsL_house_r15 : ∀ w ∈ wsL_house_r15, w ∈ wsL_house := by
  intro w h
  unfold wsL_house
  simp only [List.mem_cons, List.mem_append, h, true_or, or_true]
theorem hc_wsL_house_r16 : ∀ w ∈ wsL_house_r16, w ∈ wsL_house := by
  intro w h
  unfold wsL_house
  simp only [List.mem_cons, List.mem_append, h, true_or, or_true]
theorem hc_wsL_house_r17 : ∀ w ∈ wsL_house_r17, w ∈ wsL_house := by
  intro w h
  unfold wsL_house
  simp only [List.mem_cons, List.mem_append, h, true_or, or_true]
theorem hc_wsL_house_r18 : ∀ w ∈ wsL_house_r18, w ∈ wsL_house := by
  intro w h
  unfold wsL_house
  simp only [List.mem_cons, List.mem_append, h, true_or, or_true]
theorem hc_wsL_house_r19 : ∀ w ∈ wsL_house_r19, w ∈ wsL_house := by
  intro w h
  unfold wsL_house
  simp only [List.mem_cons, List.mem_append, h, true_or, or_true]
theorem hc_wsL_house_r20 : ∀ w ∈ wsL_house_r20, w ∈ wsL_house := by
  intro w h
  unfold wsL_house
  simp only [List.mem_cons, List.mem_append, h, true_or, or_true]
theorem hc_wsL_house_r21 : ∀ w ∈ wsL_house_r21, w ∈ wsL_house := by
  intro w h
  unfold wsL_house
  simp only [List.mem_cons, List.mem_append, h, true_or, or_true]
theorem hc_wsL_house_r22 : ∀ w ∈ wsL_house_r22, w ∈ wsL_house := by
  intro w h
  unfold wsL_house
  simp only [List.mem_cons, List.mem_append, h, true_or, or_true]
theorem hc_wsL_house_r23 : ∀ w ∈ wsL_house_r23, w ∈ wsL_house := by
  intro w h
  unfold wsL_house
  simp only [List.mem_cons, List.mem_append, h, true_or, or_true]
theorem hc_wsL_house_r24 : ∀ w ∈ wsL_house_r24, w ∈ wsL_house := by
  intro w h
  unfold wsL_house
  simp only [List.mem_cons, List.mem_append, h, true_or, or_true]
theorem hc_wsL_house_r25 : ∀ w ∈ wsL_house_r25, w ∈ wsL_house := by
  intro w h
  unfold wsL_house
  simp only [List.mem_cons, List.mem_append, h, true_or, or_true]
theorem hx_wsL_house_wsX90 : ∀ w ∈ wsX90, w ∈ wsL_house := by
  intro w h
  unfold wsL_house
  simp only [List.mem_cons, List.mem_append, h, true_or, or_true]
theorem hx_wsL_house_wsX70 : ∀ w ∈ wsX70, w ∈ wsL_house := by
  intro w h
  unfold wsL_house
  simp only [List.mem_cons, List.mem_append, h, true_or, or_true]
theorem hx_wsL_house_wsX80 : ∀ w ∈ wsX80, w ∈ wsL_house := by
  intro w h
  unfold wsL_house
  simp only [List.mem_cons, List.mem_append, h, true_or, or_true]
theorem hx_wsL_house_wsX10 : ∀ w ∈ wsX10, w ∈ wsL_house := by
  intro w h
  unfold wsL_house
  simp only [List.mem_cons, List.mem_append, h, true_or, or_true]
theorem hx_wsL_house_wsX20 : ∀ w ∈ wsX20, w ∈ wsL_house := by
  intro w h
  unfold wsL_house
  simp only [List.mem_cons, List.mem_append, h, true_or, or_true]
theorem hx_wsL_house_wsX50 : ∀ w ∈ wsX50, w ∈ wsL_house := by
  intro w h
  unfold wsL_house
  simp only [List.mem_cons, List.mem_append, h, true_or, or_true]
theorem hx_wsL_house_wsX30 : ∀ w ∈ wsX30, w ∈ wsL_house := by
  intro w h
  unfold wsL_house
  simp only [List.mem_cons, List.mem_append, h, true_or, or_true]
theorem hx_wsL_house_wsX00 : ∀ w ∈ wsX00, w ∈ wsL_house := by
  intro w h
  unfold wsL_house
  simp only [List.mem_cons, List.mem_append, h, true_or, or_true]
theorem hx_wsL_house_wsX40 : ∀ w ∈ wsX40, w ∈ wsL_house := by
  intro w h
  unfold wsL_house
  simp only [List.mem_cons, List.mem_append, h, true_or, or_true]
set_option maxRecDepth 20000 in
theorem hd_wsL_house_wsL_copies_r1 : ∀ w ∈ wsL_copies_r1, w ∈ wsL_house := List.forall_mem_cons.mpr ⟨hc_wsL_house_r1 _ (List.mem_of_getElem? (i := 3) (by decide +kernel)), List.forall_mem_cons.mpr ⟨hc_wsL_house_r19 _ (List.mem_of_getElem? (i := 7) (by decide +kernel)), List.forall_mem_cons.mpr ⟨hc_wsL_house_r19 _ (List.mem_of_getElem? (i := 8) (by decide +kernel)), List.forall_mem_cons.mpr ⟨hc_wsL_house_r19 _ (List.mem_of_getElem? (i := 9) (by decide +kernel)), List.forall_mem_cons.mpr ⟨hc_wsL_house_r1 _ (List.mem_of_getElem? (i := 2) (by decide +kernel)), List.forall_mem_cons.mpr ⟨hc_wsL_house_r19 _ (List.mem_of_getElem? (i := 10) (by decide +kernel)), List.forall_mem_cons.mpr ⟨hc_wsL_house_r2 _ (List.mem_of_getElem? (i := 7) (by decide +kernel)), List.forall_mem_cons.mpr ⟨hc_wsL_house_r2 _ (List.mem_of_getElem? (i := 11) (by decide +kernel)), List.forall_mem_cons.mpr ⟨hc_wsL_house_r2 _ (List.mem_of_getElem? (i := 3) (by decide +kernel)), List.forall_mem_cons.mpr ⟨hc_wsL_house_r7 _ (List.mem_of_getElem? (i := 13) (by decide +kernel)), List.forall_mem_cons.mpr ⟨hc_wsL_house_r7 _ (List.mem_of_getElem? (i := 14) (by decide +kernel)), List.forall_mem_cons.mpr ⟨hc_wsL_house_r7 _ (List.mem_of_getElem? (i := 15) (by decide +kernel)), List.forall_mem_cons.mpr ⟨hc_wsL_house_r7 _ (List.mem_of_getElem? (i := 16) (by decide +kernel)), List.forall_mem_cons.mpr ⟨hc_wsL_house_r7 _ (List.mem_of_getElem? (i := 17) (by decide +kernel)), List.forall_mem_cons.mpr ⟨hc_wsL_house_r6 _ (List.mem_of_getElem? (i := 20) (by decide +kernel)), List.forall_mem_cons.mpr ⟨hc_wsL_house_r6 _ (List.mem_of_getElem? (i := 21) (by decide +kernel)), List.forall_mem_cons.mpr ⟨hc_wsL_house_r6 _ (List.mem_of_getElem? (i := 22) (by decide +kernel)), List.forall_mem_cons.mpr ⟨hc_wsL_house_r6 _ (List.mem_of_getElem? (i := 23) (by decide +kernel)), List.forall_mem_cons.mpr ⟨hc_wsL_house_r7 _ (List.mem_of_getElem? (i := 0) (by decide +kernel)), List.forall_mem_cons.mpr ⟨hc_wsL_house_r19 _ (List.mem_of_getElem? (i := 11) (by decide +kernel)), List.forall_mem_cons.mpr ⟨hc_wsL_house_r19 _ (List.mem_of_getElem? (i := 12) (by decide +kernel)), List.forall_mem_cons.mpr ⟨hc_wsL_house_r19 _ (List.mem_of_getElem? (i := 13) (by decide +kernel)), List.forall_mem_cons.mpr ⟨hc_wsL_house_r2 _ (List.mem_of_getElem? (i := 6) (by decide +kernel)), List.forall_mem_cons.mpr ⟨hc_wsL_house_r19 _ (List.mem_of_getElem? (i := 14) (by decide +kernel)), fun _ h => absurd h List.not_mem_nil⟩⟩⟩⟩⟩⟩⟩⟩⟩⟩⟩⟩⟩⟩⟩⟩⟩⟩⟩⟩⟩⟩⟩⟩
set_option maxRecDepth 20000 in
theorem hd_wsL_house_wsL_copies_r2 : ∀ w ∈ wsL_copies_r2, w ∈ wsL_house := List.forall_mem_cons.mpr ⟨hc_wsL_house_r4 _ (List.mem_of_getElem? (i := 12) (by decide +kernel)), List.forall_mem_cons.mpr ⟨hc_wsL_house_r19 _ (List.mem_of_getElem? (i := 15) (by decide +kernel)), List.forall_mem_cons.mpr ⟨hc_wsL_house_r19 _ (List.mem_of_getElem? (i := 16) (by decide +kernel)), List.forall_mem_cons.mpr ⟨hc_wsL_house_r19 _ (List.mem_of_getElem? (i := 17) (by decide +kernel)), List.forall_mem_cons.mpr ⟨hc_wsL_house_r19 _ (List.mem_of_getElem? (i := 18) (by decide +kernel)), List.forall_mem_cons.mpr ⟨hc_wsL_house_r4 _ (List.mem_of_getElem? (i := 13) (by decide +kernel)), List.forall_mem_cons.mpr ⟨hc_wsL_house_r19 _ (List.mem_of_getElem? (i := 19) (by decide +kernel)), List.forall_mem_cons.mpr ⟨hc_wsL_house_r19 _ (List.mem_of_getElem? (i := 20) (by decide +kernel)), List.forall_mem_cons.mpr ⟨hc_wsL_house_r19 _ (List.mem_of_getElem? (i := 21) (by decide +kernel)), List.forall_mem_cons.mpr ⟨hc_wsL_house_r2 _ (List.mem_of_getElem? (i := 10) (by decide +kernel)), List.forall_mem_cons.mpr ⟨hc_wsL_house_r19 _ (List.mem_of_getElem? (i := 22) (by decide +kernel)), List.forall_mem_cons.mpr ⟨hc_wsL_house_r5 _ (List.mem_of_getElem? (i := 2) (by decide +kernel)), List.forall_mem_cons.mpr ⟨hc_wsL_house_r19 _ (List.mem_of_getElem? (i := 23) (by decide +kernel)), List.forall_mem_cons.mpr ⟨hc_wsL_house_r20 _ (List.mem_of_getElem? (i := 0) (by decide +kernel)), List.forall_mem_cons.mpr ⟨hc_wsL_house_r20 _ (List.mem_of_getElem? (i := 1) (by decide +kernel)), List.forall_mem_cons.mpr ⟨hc_wsL_house_r2 _ (List.mem_of_getElem? (i := 2) (by decide +kernel)), List.forall_mem_cons.mpr ⟨hc_wsL_house_r20 _ (List.mem_of_getElem? (i := 2) (by decide +kernel)), List.forall_mem_cons.mpr ⟨hc_wsL_house_r4 _ (List.mem_of_getElem? (i := 7) (by decide +kernel)), List.forall_mem_cons.mpr ⟨hc_wsL_house_r20 _ (List.mem_of_getElem? (i := 3) (by decide +kernel)), List.forall_mem_cons.mpr ⟨hc_wsL_house_r20 _ (List.mem_of_getElem? (i := 4) (by decide +kernel)), List.forall_mem_cons.mpr ⟨hc_wsL_house_r20 _ (List.mem_of_getElem? (i := 5) (by decide +kernel)), List.forall_mem_cons.mpr ⟨hc_wsL_house_r20 _ (List.mem_of_getElem? (i := 6) (by decide +kernel)), List.forall_mem_cons.mpr ⟨hc_wsL_house_r2 _ (List.mem_of_getElem? (i := 15) (by decide +kernel)), List.forall_mem_cons.mpr ⟨hc_wsL_house_r20 _ (List.mem_of_getElem? (i := 7) (by decide +kernel)), fun _ h => absurd h List.not_mem_nil⟩⟩⟩⟩⟩⟩⟩⟩⟩⟩⟩⟩⟩⟩⟩⟩⟩⟩⟩⟩⟩⟩⟩⟩
set_option maxRecDepth 20000 in
theorem hd_wsL_house_wsL_copies_r3 : ∀ w ∈ wsL_copies_r3, w ∈ wsL_house := List.forall_mem_cons.mpr ⟨hc_wsL_house_r20 _ (List.mem_of_getElem? (i := 8) (by decide +kernel)), List.forall_mem_cons.mpr ⟨hc_wsL_house_r20 _ (List.mem_of_getElem? (i := 9) (by decide +kernel)), List.forall_mem_cons.mpr ⟨hc_wsL_house_r2 _ (List.mem_of_getElem? (i := 14) (by decide +kernel)), List.forall_mem_cons.mpr ⟨hc_wsL_house_r20 _ (List.mem_of_getElem? (i := 10) (by decide +kernel)), List.forall_mem_cons.mpr ⟨hc_wsL_house_r5 _ (List.mem_of_getElem? (i := 18) (by decide +kernel)), List.forall_mem_cons.mpr ⟨hc_wsL_house_r5 _ (List.mem_of_getElem? (i := 15) (by decide +kernel)), List.forall_mem_cons.mpr ⟨hc_wsL_house_r5 _ (List.mem_of_getElem? (i := 17) (by decide +kernel)), List.forall_mem_cons.mpr ⟨hc_wsL_house_r20 _ (List.mem_of_getElem? (i := 11) (by decide +kernel)), List.forall_mem_cons.mpr ⟨hc_wsL_house_r20 _ (List.mem_of_getElem? (i := 12) (by decide +kernel)), List.forall_mem_cons.mpr ⟨hc_wsL_house_r20 _ (List.mem_of_getElem? (i := 13) (by decide +kernel)), List.forall_mem_cons.mpr ⟨hc_wsL_house_r20 _ (List.mem_of_getElem? (i := 14) (by decide +kernel)), List.forall_mem_cons.mpr ⟨hc_wsL_house_r8 _ (List.mem_of_getElem? (i := 6) (by decide +kernel)), List.forall_mem_cons.mpr ⟨hc_wsL_house_r8 _ (List.mem_of_getElem? (i := 7) (by decide +kernel)), List.forall_mem_cons.mpr ⟨hc_wsL_house_r8 _ (List.mem_of_getElem? (i := 8) (by decide +kernel)), List.forall_mem_cons.mpr ⟨hc_wsL_house_r8 _ (List.mem_of_getElem? (i := 9) (by decide +kernel)), List.forall_mem_cons.mpr ⟨hc_wsL_house_r5 _ (List.mem_of_getElem? (i := 4) (by decide +kernel)), List.forall_mem_cons.mpr ⟨hc_wsL_house_r20 _ (List.mem_of_getElem? (i := 15) (by decide +kernel)), List.forall_mem_cons.mpr ⟨hc_wsL_house_r20 _ (List.mem_of_getElem? (i := 16) (by decide +kernel)), List.forall_mem_cons.mpr ⟨hc_wsL_house_r20 _ (List.mem_of_getElem? (i := 17) (by decide +kernel)), List.forall_mem_cons.mpr ⟨hc_wsL_house_r20 _ (List.mem_of_getElem? (i := 18) (by decide +kernel)), List.forall_mem_cons.mpr ⟨hc_wsL_house_r5 _ (List.mem_of_getElem? (i := 5) (by decide +kernel)), List.forall_mem_cons.mpr ⟨hc_wsL_house_r20 _ (List.mem_of_getElem? (i := 19) (by decide +kernel)), List.forall_mem_cons.mpr ⟨hc_wsL_house_r20 _ (List.mem_of_getElem? (i := 20) (by decide +kernel)), List.forall_mem_cons.mpr ⟨hc_wsL_house_r20 _ (List.mem_of_getElem? (i := 21) (by decide +kernel)), fun _ h => absurd h List.not_mem_nil⟩⟩⟩⟩⟩⟩⟩⟩⟩⟩⟩⟩⟩⟩⟩⟩⟩⟩⟩⟩⟩⟩⟩⟩
set_option maxRecDepth 20000 in
theorem hd_wsL_house_wsL_copies_r4 : ∀ w ∈ wsL_copies_r4, w ∈ wsL_house := List.forall_mem_cons.mpr ⟨hc_wsL_house_r20 _ (List.mem_of_getElem? (i := 22) (by decide +kernel)), List.forall_mem_cons.mpr ⟨hc_wsL_house_r5 _ (List.mem_of_getElem? (i := 6) (by decide +kernel)), List.forall_mem_cons.mpr ⟨hc_wsL_house_r20 _ (List.mem_of_getElem? (i := 23) (by decide +kernel)), List.forall_mem_cons.mpr ⟨hc_wsL_house_r21 _ (List.mem_of_getElem? (i := 0) (by decide +kernel)), List.forall_mem_cons.mpr ⟨hc_wsL_house_r21 _ (List.mem_of_getElem? (i := 1) (by decide +kernel)), List.forall_mem_cons.mpr ⟨hc_wsL_house_r21 _ (List.mem_of_getElem? (i := 2) (by decide +kernel)), List.forall_mem_cons.mpr ⟨hc_wsL_house_r5 _ (List.mem_of_getElem? (i := 7) (by decide +kernel)), List.forall_mem_cons.mpr ⟨hc_wsL_house_r7 _ (List.mem_of_getElem? (i := 1) (by decide +kernel)), List.forall_mem_cons.mpr ⟨hc_wsL_house_r7 _ (List.mem_of_getElem? (i := 2) (by decide +kernel)), List.forall_mem_cons.mpr ⟨hc_wsL_house_r7 _ (List.mem_of_getElem? (i := 3) (by decide +kernel)), List.forall_mem_cons.mpr ⟨hc_wsL_house_r7 _ (List.mem_of_getElem? (i := 4) (by decide +kernel)), List.forall_mem_cons.mpr ⟨hc_wsL_house_r7 _ (List.mem_of_getElem? (i := 18) (by decide +kernel)), List.forall_mem_cons.mpr ⟨hc_wsL_house_r7 _ (List.mem_of_getElem? (i := 19) (by decide +kernel)), List.forall_mem_cons.mpr ⟨hc_wsL_house_r7 _ (List.mem_of_getElem? (i := 20) (by decide +kernel)), List.forall_mem_cons.mpr ⟨hc_wsL_house_r7 _ (List.mem_of_getElem? (i := 21) (by decide +kernel)), List.forall_mem_cons.mpr ⟨hc_wsL_house_r4 _ (List.mem_of_getElem? (i := 20) (by decide +kernel)), List.forall_mem_cons.mpr ⟨hc_wsL_house_r21 _ (List.mem_of_getElem? (i := 3) (by decide +kernel)), List.forall_mem_cons.mpr ⟨hc_wsL_house_r21 _ (List.mem_of_getElem? (i := 4) (by decide +kernel)), List.forall_mem_cons.mpr ⟨hc_wsL_house_r21 _ (List.mem_of_getElem? (i := 5) (by decide +kernel)), List.forall_mem_cons.mpr ⟨hc_wsL_house_r21 _ (List.mem_of_getElem? (i := 6) (by decide +kernel)), List.forall_mem_cons.mpr ⟨hc_wsL_house_r6 _ (List.mem_of_getElem? (i := 18) (by decide +kernel)), List.forall_mem_cons.mpr ⟨hc_wsL_house_r6 _ (List.mem_of_getElem? (i := 19) (by decide +kernel)), List.forall_mem_cons.mpr ⟨hc_wsL_house_r1 _ (List.mem_of_getElem? (i := 15) (by decide +kernel)), List.forall_mem_cons.mpr ⟨hc_wsL_house_r21 _ (List.mem_of_getElem? (i := 7) (by decide +kernel)), fun _ h => absurd h List.not_mem_nil⟩⟩⟩⟩⟩⟩⟩⟩⟩⟩⟩⟩⟩⟩⟩⟩⟩⟩⟩⟩⟩⟩⟩⟩
set_option maxRecDepth 20000 in
theorem hd_wsL_house_wsL_copies_r5 : ∀ w ∈ wsL_copies_r5, w ∈ wsL_house := List.forall_mem_cons.mpr ⟨hc_wsL_house_r21 _ (List.mem_of_getElem? (i := 8) (by decide +kernel)), List.forall_mem_cons.mpr ⟨hc_wsL_house_r21 _ (List.mem_of_getElem? (i := 9) (by decide +kernel)), List.forall_mem_cons.mpr ⟨hc_wsL_house_r21 _ (List.mem_of_getElem? (i := 10) (by decide +kernel)), List.forall_mem_cons.mpr ⟨hc_wsL_house_r21 _ (List.mem_of_getElem? (i := 11) (by decide +kernel)), List.forall_mem_cons.mpr ⟨hc_wsL_house_r21 _ (List.mem_of_getElem? (i := 12) (by decide +kernel)), List.forall_mem_cons.mpr ⟨hc_wsL_house_r21 _ (List.mem_of_getElem? (i := 13) (by decide +kernel)), List.forall_mem_cons.mpr ⟨hc_wsL_house_r21 _ (List.mem_of_getElem? (i := 14) (by decide +kernel)), List.forall_mem_cons.mpr ⟨hc_wsL_house_r1 _ (List.mem_of_getElem? (i := 14) (by decide +kernel)), List.forall_mem_cons.mpr ⟨hc_wsL_house_r21 _ (List.mem_of_getElem? (i := 15) (by decide +kernel)), List.forall_mem_cons.mpr ⟨hc_wsL_house_r3 _ (List.mem_of_getElem? (i := 3) (by decide +kernel)), List.forall_mem_cons.mpr ⟨hc_wsL_house_r21 _ (List.mem_of_getElem? (i := 16) (by decide +kernel)), List.forall_mem_cons.mpr ⟨hc_wsL_house_r21 _ (List.mem_of_getElem? (i := 17) (by decide +kernel)), List.forall_mem_cons.mpr ⟨hc_wsL_house_r21 _ (List.mem_of_getElem? (i := 18) (by decide +kernel)), List.forall_mem_cons.mpr ⟨hc_wsL_house_r21 _ (List.mem_of_getElem? (i := 19) (by decide +kernel)), List.forall_mem_cons.mpr ⟨hc_wsL_house_r21 _ (List.mem_of_getElem? (i := 20) (by decide +kernel)), List.forall_mem_cons.mpr ⟨hc_wsL_house_r21 _ (List.mem_of_getElem? (i := 21) (by decide +kernel)), List.forall_mem_cons.mpr ⟨hc_wsL_house_r21 _ (List.mem_of_getElem? (i := 22) (by decide +kernel)), List.forall_mem_cons.mpr ⟨hc_wsL_house_r21 _ (List.mem_of_getElem? (i := 23) (by decide +kernel)), List.forall_mem_cons.mpr ⟨hc_wsL_house_r22 _ (List.mem_of_getElem? (i := 0) (by decide +kernel)), List.forall_mem_cons.mpr ⟨hc_wsL_house_r10 _ (List.mem_of_getElem? (i := 3) (by decide +kernel)), List.forall_mem_cons.mpr ⟨hc_wsL_house_r10 _ (List.mem_of_getElem? (i := 4) (by decide +kernel)), List.forall_mem_cons.mpr ⟨hc_wsL_house_r10 _ (List.mem_of_getElem? (i := 5) (by decide +kernel)), List.forall_mem_cons.mpr ⟨hc_wsL_house_r22 _ (List.mem_of_getElem? (i := 1) (by decide +kernel)), List.forall_mem_cons.mpr ⟨hc_wsL_house_r22 _ (List.mem_of_getElem? (i := 2) (by decide +kernel)), fun _ h => absurd h List.not_mem_nil⟩⟩⟩⟩⟩⟩⟩⟩⟩⟩⟩⟩⟩⟩⟩⟩⟩⟩⟩⟩⟩⟩⟩⟩
set_option maxRecDepth 20000 in
theorem hd_wsL_house_wsL_copies_r6 : ∀ w ∈ wsL_copies_r6, w ∈ wsL_house := List.forall_mem_cons.mpr ⟨hc_wsL_house_r22 _ (List.mem_of_getElem? (i := 3) (by decide +kernel)), List.forall_mem_cons.mpr ⟨hc_wsL_house_r22 _ (List.mem_of_getElem? (i := 4) (by decide +kernel)), List.forall_mem_cons.mpr ⟨hc_wsL_house_r5 _ (List.mem_of_getElem? (i := 3) (by decide +kernel)), List.forall_mem_cons.mpr ⟨hc_wsL_house_r22 _ (List.mem_of_getElem? (i := 5) (by decide +kernel)), List.forall_mem_cons.mpr ⟨hc_wsL_house_r22 _ (List.mem_of_getElem? (i := 6) (by decide +kernel)), List.forall_mem_cons.mpr ⟨hc_wsL_house_r22 _ (List.mem_of_getElem? (i := 7) (by decide +kernel)), List.forall_mem_cons.mpr ⟨hc_wsL_house_r22 _ (List.mem_of_getElem? (i := 8) (by decide +kernel)), List.forall_mem_cons.mpr ⟨hc_wsL_house_r4 _ (List.mem_of_getElem? (i := 14) (by decide +kernel)), List.forall_mem_cons.mpr ⟨hc_wsL_house_r4 _ (List.mem_of_getElem? (i := 15) (by decide +kernel)), List.forall_mem_cons.mpr ⟨hc_wsL_house_r4 _ (List.mem_of_getElem? (i := 16) (by decide +kernel)), List.forall_mem_cons.mpr ⟨hc_wsL_house_r4 _ (List.mem_of_getElem? (i := 17) (by decide +kernel)), List.forall_mem_cons.mpr ⟨hc_wsL_house_r4 _ (List.mem_of_getElem? (i := 18) (by decide +kernel)), List.forall_mem_cons.mpr ⟨hc_wsL_house_r4 _ (List.mem_of_getElem? (i := 19) (by decide +kernel)), List.forall_mem_cons.mpr ⟨hc_wsL_house_r22 _ (List.mem_of_getElem? (i := 9) (by decide +kernel)), List.forall_mem_cons.mpr ⟨hc_wsL_house_r8 _ (List.mem_of_getElem? (i := 3) (by decide +kernel)), List.forall_mem_cons.mpr ⟨hc_wsL_house_r8 _ (List.mem_of_getElem? (i := 4) (by decide +kernel)), List.forall_mem_cons.mpr ⟨hc_wsL_house_r8 _ (List.mem_of_getElem? (i := 5) (by decide +kernel)), List.forall_mem_cons.mpr ⟨hc_wsL_house_r8 _ (List.mem_of_getElem? (i := 14) (by decide +kernel)), List.forall_mem_cons.mpr ⟨hc_wsL_house_r8 _ (List.mem_of_getElem? (i := 15) (by decide +kernel)), List.forall_mem_cons.mpr ⟨hc_wsL_house_r8 _ (List.mem_of_getElem? (i := 16) (by decide +kernel)), List.forall_mem_cons.mpr ⟨hc_wsL_house_r8 _ (List.mem_of_getElem? (i := 17) (by decide +kernel)), List.forall_mem_cons.mpr ⟨hc_wsL_house_r22 _ (List.mem_of_getElem? (i := 10) (by decide +kernel)), List.forall_mem_cons.mpr ⟨hc_wsL_house_r22 _ (List.mem_of_getElem? (i := 11) (by decide +kernel)), List.forall_mem_cons.mpr ⟨hc_wsL_house_r22 _ (List.mem_of_getElem? (i := 12) (by decide +kernel)), fun _ h => absurd h List.not_mem_nil⟩⟩⟩⟩⟩⟩⟩⟩⟩⟩⟩⟩⟩⟩⟩⟩⟩⟩⟩⟩⟩⟩⟩⟩
set_option maxRecDepth 20000 in
theorem hd_wsL_house_wsL_copies_r7 : ∀ w ∈ wsL_copies_r7, w ∈ wsL_house := List.forall_mem_cons.mpr ⟨hc_wsL_house_r22 _ (List.mem_of_getElem? (i := 13) (by decide +kernel)), List.forall_mem_cons.mpr ⟨hc_wsL_house_r5 _ (List.mem_of_getElem? (i := 12) (by decide +kernel)), List.forall_mem_cons.mpr ⟨hc_wsL_house_r5 _ (List.mem_of_getElem? (i := 14) (by decide +kernel)), fun _ h => absurd h List.not_mem_nil⟩⟩⟩
set_option maxRecDepth 20000 in
theorem ggL_house_L_copies : GoodIn wsL_house wsL_copies := goodIn_ca (goodIn_ca (goodIn_ca (goodIn_sub (List.forall_mem_cons.mpr ⟨hc_wsL_house_r19 _ (List.mem_of_getElem? (i := 6) (by decide +kernel)), List.forall_mem_append.mpr ⟨List.forall_mem_append.mpr ⟨List.forall_mem_append.mpr ⟨List.forall_mem_append.mpr ⟨List.forall_mem_append.mpr ⟨List.forall_mem_append.mpr ⟨List.forall_mem_append.mpr ⟨hd_wsL_house_wsL_copies_r1, List.forall_mem_append.mpr ⟨hd_wsL_house_wsL_copies_r2, List.forall_mem_append.mpr ⟨hd_wsL_house_wsL_copies_r3, List.forall_mem_append.mpr ⟨hd_wsL_house_wsL_copies_r4, List.forall_mem_append.mpr ⟨hd_wsL_house_wsL_copies_r5, List.forall_mem_append.mpr ⟨hd_wsL_house_wsL_copies_r6, hd_wsL_house_wsL_copies_r7⟩⟩⟩⟩⟩⟩, hx_wsL_house_wsX90⟩, hx_wsL_house_wsX50⟩, hx_wsL_house_wsX30⟩, hx_wsL_house_wsX20⟩, hx_wsL_house_wsX00⟩, hx_wsL_house_wsX70⟩⟩) (by decide +kernel)) (goodIn_sub (fun _ h => List.mem_cons_of_mem _ (List.mem_append_right _ h)) (by decide +kernel))) (goodIn_sub (fun _ h => List.mem_cons_of_mem _ (List.mem_append_left _ (List.mem_append_right _ h))) (by decide +kernel))) (goodIn_sub (fun _ h => List.mem_cons_of_mem _ (List.mem_append_left _ (List.mem_append_left _ (List.mem_append_right _ h)))) (by decide +kernel))
set_option maxRecDepth 20000 in
theorem gL_house_L_copies : GoodIn wsL_house (va_wsS RL 134 yL_copies wsL_copies) := goodIn_app (goodIn_of _ (by decide +kernel)) ggL_house_L_copies
