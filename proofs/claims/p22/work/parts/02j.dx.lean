set_option maxRecDepth 20000 in
theorem hd_wsL_house_wsL_isSound_r1 : ∀ w ∈ wsL_isSound_r1, w ∈ wsL_house := List.forall_mem_cons.mpr ⟨hc_wsL_house_r6 _ (List.mem_of_getElem? (i := 9) (by decide +kernel)), List.forall_mem_cons.mpr ⟨hc_wsL_house_r24 _ (List.mem_of_getElem? (i := 8) (by decide +kernel)), List.forall_mem_cons.mpr ⟨hc_wsL_house_r24 _ (List.mem_of_getElem? (i := 9) (by decide +kernel)), List.forall_mem_cons.mpr ⟨hc_wsL_house_r6 _ (List.mem_of_getElem? (i := 4) (by decide +kernel)), List.forall_mem_cons.mpr ⟨hc_wsL_house_r24 _ (List.mem_of_getElem? (i := 10) (by decide +kernel)), List.forall_mem_cons.mpr ⟨hc_wsL_house_r19 _ (List.mem_of_getElem? (i := 7) (by decide +kernel)), List.forall_mem_cons.mpr ⟨hc_wsL_house_r19 _ (List.mem_of_getElem? (i := 8) (by decide +kernel)), List.forall_mem_cons.mpr ⟨hc_wsL_house_r19 _ (List.mem_of_getElem? (i := 9) (by decide +kernel)), List.forall_mem_cons.mpr ⟨hc_wsL_house_r1 _ (List.mem_of_getElem? (i := 2) (by decide +kernel)), List.forall_mem_cons.mpr ⟨hc_wsL_house_r19 _ (List.mem_of_getElem? (i := 10) (by decide +kernel)), List.forall_mem_cons.mpr ⟨hc_wsL_house_r2 _ (List.mem_of_getElem? (i := 7) (by decide +kernel)), List.forall_mem_cons.mpr ⟨hc_wsL_house_r2 _ (List.mem_of_getElem? (i := 11) (by decide +kernel)), List.forall_mem_cons.mpr ⟨hc_wsL_house_r2 _ (List.mem_of_getElem? (i := 3) (by decide +kernel)), List.forall_mem_cons.mpr ⟨hc_wsL_house_r7 _ (List.mem_of_getElem? (i := 13) (by decide +kernel)), List.forall_mem_cons.mpr ⟨hc_wsL_house_r7 _ (List.mem_of_getElem? (i := 14) (by decide +kernel)), List.forall_mem_cons.mpr ⟨hc_wsL_house_r7 _ (List.mem_of_getElem? (i := 15) (by decide +kernel)), List.forall_mem_cons.mpr ⟨hc_wsL_house_r7 _ (List.mem_of_getElem? (i := 16) (by decide +kernel)), List.forall_mem_cons.mpr ⟨hc_wsL_house_r7 _ (List.mem_of_getElem? (i := 17) (by decide +kernel)), List.forall_mem_cons.mpr ⟨hc_wsL_house_r6 _ (List.mem_of_getElem? (i := 20) (by decide +kernel)), List.forall_mem_cons.mpr ⟨hc_wsL_house_r6 _ (List.mem_of_getElem? (i := 21) (by decide +kernel)), List.forall_mem_cons.mpr ⟨hc_wsL_house_r6 _ (List.mem_of_getElem? (i := 22) (by decide +kernel)), List.forall_mem_cons.mpr ⟨hc_wsL_house_r6 _ (List.mem_of_getElem? (i := 23) (by decide +kernel)), List.forall_mem_cons.mpr ⟨hc_wsL_house_r7 _ (List.mem_of_getElem? (i := 0) (by decide +kernel)), List.forall_mem_cons.mpr ⟨hc_wsL_house_r19 _ (List.mem_of_getElem? (i := 11) (by decide +kernel)), fun _ h => absurd h List.not_mem_nil⟩⟩⟩⟩⟩⟩⟩⟩⟩⟩⟩⟩⟩⟩⟩⟩⟩⟩⟩⟩⟩⟩⟩⟩
set_option maxRecDepth 20000 in
theorem hd_wsL_house_wsL_isSound_r2 : ∀ w ∈ wsL_isSound_r2, w ∈ wsL_house := List.forall_mem_cons.mpr ⟨hc_wsL_house_r19 _ (List.mem_of_getElem? (i := 12) (by decide +kernel)), List.forall_mem_cons.mpr ⟨hc_wsL_house_r19 _ (List.mem_of_getElem? (i := 13) (by decide +kernel)), List.forall_mem_cons.mpr ⟨hc_wsL_house_r2 _ (List.mem_of_getElem? (i := 6) (by decide +kernel)), List.forall_mem_cons.mpr ⟨hc_wsL_house_r19 _ (List.mem_of_getElem? (i := 14) (by decide +kernel)), List.forall_mem_cons.mpr ⟨hc_wsL_house_r4 _ (List.mem_of_getElem? (i := 12) (by decide +kernel)), List.forall_mem_cons.mpr ⟨hc_wsL_house_r19 _ (List.mem_of_getElem? (i := 15) (by decide +kernel)), List.forall_mem_cons.mpr ⟨hc_wsL_house_r19 _ (List.mem_of_getElem? (i := 16) (by decide +kernel)), List.forall_mem_cons.mpr ⟨hc_wsL_house_r19 _ (List.mem_of_getElem? (i := 17) (by decide +kernel)), List.forall_mem_cons.mpr ⟨hc_wsL_house_r19 _ (List.mem_of_getElem? (i := 18) (by decide +kernel)), List.forall_mem_cons.mpr ⟨hc_wsL_house_r4 _ (List.mem_of_getElem? (i := 13) (by decide +kernel)), List.forall_mem_cons.mpr ⟨hc_wsL_house_r19 _ (List.mem_of_getElem? (i := 19) (by decide +kernel)), List.forall_mem_cons.mpr ⟨hc_wsL_house_r19 _ (List.mem_of_getElem? (i := 20) (by decide +kernel)), List.forall_mem_cons.mpr ⟨hc_wsL_house_r19 _ (List.mem_of_getElem? (i := 21) (by decide +kernel)), List.forall_mem_cons.mpr ⟨hc_wsL_house_r2 _ (List.mem_of_getElem? (i := 10) (by decide +kernel)), List.forall_mem_cons.mpr ⟨hc_wsL_house_r19 _ (List.mem_of_getElem? (i := 22) (by decide +kernel)), List.forall_mem_cons.mpr ⟨hc_wsL_house_r5 _ (List.mem_of_getElem? (i := 2) (by decide +kernel)), List.forall_mem_cons.mpr ⟨hc_wsL_house_r19 _ (List.mem_of_getElem? (i := 23) (by decide +kernel)), List.forall_mem_cons.mpr ⟨hc_wsL_house_r20 _ (List.mem_of_getElem? (i := 0) (by decide +kernel)), List.forall_mem_cons.mpr ⟨hc_wsL_house_r20 _ (List.mem_of_getElem? (i := 1) (by decide +kernel)), List.forall_mem_cons.mpr ⟨hc_wsL_house_r2 _ (List.mem_of_getElem? (i := 2) (by decide +kernel)), List.forall_mem_cons.mpr ⟨hc_wsL_house_r20 _ (List.mem_of_getElem? (i := 2) (by decide +kernel)), List.forall_mem_cons.mpr ⟨hc_wsL_house_r4 _ (List.mem_of_getElem? (i := 7) (by decide +kernel)), List.forall_mem_cons.mpr ⟨hc_wsL_house_r24 _ (List.mem_of_getElem? (i := 11) (by decide +kernel)), List.forall_mem_cons.mpr ⟨hc_wsL_house_r24 _ (List.mem_of_getElem? (i := 12) (by decide +kernel)), fun _ h => absurd h List.not_mem_nil⟩⟩⟩⟩⟩⟩⟩⟩⟩⟩⟩⟩⟩⟩⟩⟩⟩⟩⟩⟩⟩⟩⟩⟩
set_option maxRecDepth 20000 in
theorem hd_wsL_house_wsL_isSound_r3 : ∀ w ∈ wsL_isSound_r3, w ∈ wsL_house := List.forall_mem_cons.mpr ⟨hc_wsL_house_r24 _ (List.mem_of_getElem? (i := 13) (by decide +kernel)), List.forall_mem_cons.mpr ⟨hc_wsL_house_r10 _ (List.mem_of_getElem? (i := 17) (by decide +kernel)), List.forall_mem_cons.mpr ⟨hc_wsL_house_r10 _ (List.mem_of_getElem? (i := 18) (by decide +kernel)), List.forall_mem_cons.mpr ⟨hc_wsL_house_r10 _ (List.mem_of_getElem? (i := 19) (by decide +kernel)), List.forall_mem_cons.mpr ⟨hc_wsL_house_r10 _ (List.mem_of_getElem? (i := 20) (by decide +kernel)), List.forall_mem_cons.mpr ⟨hc_wsL_house_r1 _ (List.mem_of_getElem? (i := 23) (by decide +kernel)), List.forall_mem_cons.mpr ⟨hc_wsL_house_r1 _ (List.mem_of_getElem? (i := 15) (by decide +kernel)), List.forall_mem_cons.mpr ⟨hc_wsL_house_r10 _ (List.mem_of_getElem? (i := 21) (by decide +kernel)), List.forall_mem_cons.mpr ⟨hc_wsL_house_r10 _ (List.mem_of_getElem? (i := 22) (by decide +kernel)), List.forall_mem_cons.mpr ⟨hc_wsL_house_r10 _ (List.mem_of_getElem? (i := 23) (by decide +kernel)), List.forall_mem_cons.mpr ⟨hc_wsL_house_r1 _ (List.mem_of_getElem? (i := 22) (by decide +kernel)), List.forall_mem_cons.mpr ⟨hc_wsL_house_r11 _ (List.mem_of_getElem? (i := 0) (by decide +kernel)), List.forall_mem_cons.mpr ⟨hc_wsL_house_r3 _ (List.mem_of_getElem? (i := 21) (by decide +kernel)), List.forall_mem_cons.mpr ⟨hc_wsL_house_r11 _ (List.mem_of_getElem? (i := 1) (by decide +kernel)), List.forall_mem_cons.mpr ⟨hc_wsL_house_r11 _ (List.mem_of_getElem? (i := 2) (by decide +kernel)), List.forall_mem_cons.mpr ⟨hc_wsL_house_r10 _ (List.mem_of_getElem? (i := 4) (by decide +kernel)), List.forall_mem_cons.mpr ⟨hc_wsL_house_r11 _ (List.mem_of_getElem? (i := 3) (by decide +kernel)), List.forall_mem_cons.mpr ⟨hc_wsL_house_r11 _ (List.mem_of_getElem? (i := 4) (by decide +kernel)), List.forall_mem_cons.mpr ⟨hc_wsL_house_r11 _ (List.mem_of_getElem? (i := 5) (by decide +kernel)), List.forall_mem_cons.mpr ⟨hc_wsL_house_r11 _ (List.mem_of_getElem? (i := 6) (by decide +kernel)), List.forall_mem_cons.mpr ⟨hc_wsL_house_r1 _ (List.mem_of_getElem? (i := 14) (by decide +kernel)), List.forall_mem_cons.mpr ⟨hc_wsL_house_r11 _ (List.mem_of_getElem? (i := 7) (by decide +kernel)), List.forall_mem_cons.mpr ⟨hc_wsL_house_r3 _ (List.mem_of_getElem? (i := 0) (by decide +kernel)), List.forall_mem_cons.mpr ⟨hc_wsL_house_r11 _ (List.mem_of_getElem? (i := 8) (by decide +kernel)), fun _ h => absurd h List.not_mem_nil⟩⟩⟩⟩⟩⟩⟩⟩⟩⟩⟩⟩⟩⟩⟩⟩⟩⟩⟩⟩⟩⟩⟩⟩
set_option maxRecDepth 20000 in
theorem hd_wsL_house_wsL_isSound_r4 : ∀ w ∈ wsL_isSound_r4, w ∈ wsL_house := List.forall_mem_cons.mpr ⟨hc_wsL_house_r11 _ (List.mem_of_getElem? (i := 9) (by decide +kernel)), List.forall_mem_cons.mpr ⟨hc_wsL_house_r11 _ (List.mem_of_getElem? (i := 10) (by decide +kernel)), List.forall_mem_cons.mpr ⟨hc_wsL_house_r11 _ (List.mem_of_getElem? (i := 11) (by decide +kernel)), List.forall_mem_cons.mpr ⟨hc_wsL_house_r3 _ (List.mem_of_getElem? (i := 1) (by decide +kernel)), List.forall_mem_cons.mpr ⟨hc_wsL_house_r11 _ (List.mem_of_getElem? (i := 12) (by decide +kernel)), List.forall_mem_cons.mpr ⟨hc_wsL_house_r11 _ (List.mem_of_getElem? (i := 13) (by decide +kernel)), List.forall_mem_cons.mpr ⟨hc_wsL_house_r11 _ (List.mem_of_getElem? (i := 14) (by decide +kernel)), List.forall_mem_cons.mpr ⟨hc_wsL_house_r11 _ (List.mem_of_getElem? (i := 15) (by decide +kernel)), List.forall_mem_cons.mpr ⟨hc_wsL_house_r11 _ (List.mem_of_getElem? (i := 16) (by decide +kernel)), List.forall_mem_cons.mpr ⟨hc_wsL_house_r11 _ (List.mem_of_getElem? (i := 17) (by decide +kernel)), List.forall_mem_cons.mpr ⟨hc_wsL_house_r11 _ (List.mem_of_getElem? (i := 18) (by decide +kernel)), List.forall_mem_cons.mpr ⟨hc_wsL_house_r11 _ (List.mem_of_getElem? (i := 19) (by decide +kernel)), List.forall_mem_cons.mpr ⟨hc_wsL_house_r11 _ (List.mem_of_getElem? (i := 20) (by decide +kernel)), List.forall_mem_cons.mpr ⟨hc_wsL_house_r11 _ (List.mem_of_getElem? (i := 21) (by decide +kernel)), List.forall_mem_cons.mpr ⟨hc_wsL_house_r11 _ (List.mem_of_getElem? (i := 22) (by decide +kernel)), List.forall_mem_cons.mpr ⟨hc_wsL_house_r11 _ (List.mem_of_getElem? (i := 23) (by decide +kernel)), List.forall_mem_cons.mpr ⟨hc_wsL_house_r3 _ (List.mem_of_getElem? (i := 2) (by decide +kernel)), List.forall_mem_cons.mpr ⟨hc_wsL_house_r12 _ (List.mem_of_getElem? (i := 0) (by decide +kernel)), List.forall_mem_cons.mpr ⟨hc_wsL_house_r12 _ (List.mem_of_getElem? (i := 1) (by decide +kernel)), List.forall_mem_cons.mpr ⟨hc_wsL_house_r12 _ (List.mem_of_getElem? (i := 2) (by decide +kernel)), List.forall_mem_cons.mpr ⟨hc_wsL_house_r12 _ (List.mem_of_getElem? (i := 3) (by decide +kernel)), List.forall_mem_cons.mpr ⟨hc_wsL_house_r12 _ (List.mem_of_getElem? (i := 4) (by decide +kernel)), List.forall_mem_cons.mpr ⟨hc_wsL_house_r12 _ (List.mem_of_getElem? (i := 5) (by decide +kernel)), List.forall_mem_cons.mpr ⟨hc_wsL_house_r12 _ (List.mem_of_getElem? (i := 6) (by decide +kernel)), fun _ h => absurd h List.not_mem_nil⟩⟩⟩⟩⟩⟩⟩⟩⟩⟩⟩⟩⟩⟩⟩⟩⟩⟩⟩⟩⟩⟩⟩⟩
set_option maxRecDepth 20000 in
theorem hd_wsL_house_wsL_isSound_r5 : ∀ w ∈ wsL_isSound_r5, w ∈ wsL_house := List.forall_mem_cons.mpr ⟨hc_wsL_house_r12 _ (List.mem_of_getElem? (i := 7) (by decide +kernel)), List.forall_mem_cons.mpr ⟨hc_wsL_house_r12 _ (List.mem_of_getElem? (i := 8) (by decide +kernel)), List.forall_mem_cons.mpr ⟨hc_wsL_house_r10 _ (List.mem_of_getElem? (i := 11) (by decide +kernel)), List.forall_mem_cons.mpr ⟨hc_wsL_house_r10 _ (List.mem_of_getElem? (i := 12) (by decide +kernel)), List.forall_mem_cons.mpr ⟨hc_wsL_house_r10 _ (List.mem_of_getElem? (i := 13) (by decide +kernel)), List.forall_mem_cons.mpr ⟨hc_wsL_house_r3 _ (List.mem_of_getElem? (i := 5) (by decide +kernel)), List.forall_mem_cons.mpr ⟨hc_wsL_house_r12 _ (List.mem_of_getElem? (i := 9) (by decide +kernel)), List.forall_mem_cons.mpr ⟨hc_wsL_house_r12 _ (List.mem_of_getElem? (i := 10) (by decide +kernel)), List.forall_mem_cons.mpr ⟨hc_wsL_house_r12 _ (List.mem_of_getElem? (i := 11) (by decide +kernel)), List.forall_mem_cons.mpr ⟨hc_wsL_house_r10 _ (List.mem_of_getElem? (i := 14) (by decide +kernel)), List.forall_mem_cons.mpr ⟨hc_wsL_house_r10 _ (List.mem_of_getElem? (i := 15) (by decide +kernel)), List.forall_mem_cons.mpr ⟨hc_wsL_house_r10 _ (List.mem_of_getElem? (i := 16) (by decide +kernel)), List.forall_mem_cons.mpr ⟨hc_wsL_house_r12 _ (List.mem_of_getElem? (i := 12) (by decide +kernel)), List.forall_mem_cons.mpr ⟨hc_wsL_house_r12 _ (List.mem_of_getElem? (i := 13) (by decide +kernel)), List.forall_mem_cons.mpr ⟨hc_wsL_house_r12 _ (List.mem_of_getElem? (i := 14) (by decide +kernel)), List.forall_mem_cons.mpr ⟨hc_wsL_house_r12 _ (List.mem_of_getElem? (i := 15) (by decide +kernel)), List.forall_mem_cons.mpr ⟨hc_wsL_house_r12 _ (List.mem_of_getElem? (i := 16) (by decide +kernel)), List.forall_mem_cons.mpr ⟨hc_wsL_house_r10 _ (List.mem_of_getElem? (i := 7) (by decide +kernel)), List.forall_mem_cons.mpr ⟨hc_wsL_house_r10 _ (List.mem_of_getElem? (i := 8) (by decide +kernel)), List.forall_mem_cons.mpr ⟨hc_wsL_house_r10 _ (List.mem_of_getElem? (i := 9) (by decide +kernel)), List.forall_mem_cons.mpr ⟨hc_wsL_house_r10 _ (List.mem_of_getElem? (i := 10) (by decide +kernel)), List.forall_mem_cons.mpr ⟨hc_wsL_house_r24 _ (List.mem_of_getElem? (i := 14) (by decide +kernel)), List.forall_mem_cons.mpr ⟨hc_wsL_house_r24 _ (List.mem_of_getElem? (i := 15) (by decide +kernel)), List.forall_mem_cons.mpr ⟨hc_wsL_house_r24 _ (List.mem_of_getElem? (i := 16) (by decide +kernel)), fun _ h => absurd h List.not_mem_nil⟩⟩⟩⟩⟩⟩⟩⟩⟩⟩⟩⟩⟩⟩⟩⟩⟩⟩⟩⟩⟩⟩⟩⟩
set_option maxRecDepth 20000 in
theorem hd_wsL_house_wsL_isSound_r6 : ∀ w ∈ wsL_isSound_r6, w ∈ wsL_house := List.forall_mem_cons.mpr ⟨hc_wsL_house_r24 _ (List.mem_of_getElem? (i := 17) (by decide +kernel)), List.forall_mem_cons.mpr ⟨hc_wsL_house_r24 _ (List.mem_of_getElem? (i := 18) (by decide +kernel)), List.forall_mem_cons.mpr ⟨hc_wsL_house_r24 _ (List.mem_of_getElem? (i := 19) (by decide +kernel)), List.forall_mem_cons.mpr ⟨hc_wsL_house_r24 _ (List.mem_of_getElem? (i := 20) (by decide +kernel)), List.forall_mem_cons.mpr ⟨hc_wsL_house_r24 _ (List.mem_of_getElem? (i := 21) (by decide +kernel)), List.forall_mem_cons.mpr ⟨hc_wsL_house_r24 _ (List.mem_of_getElem? (i := 22) (by decide +kernel)), List.forall_mem_cons.mpr ⟨hc_wsL_house_r24 _ (List.mem_of_getElem? (i := 23) (by decide +kernel)), List.forall_mem_cons.mpr ⟨hc_wsL_house_r25 _ (List.mem_of_getElem? (i := 0) (by decide +kernel)), List.forall_mem_cons.mpr ⟨hc_wsL_house_r25 _ (List.mem_of_getElem? (i := 1) (by decide +kernel)), List.forall_mem_cons.mpr ⟨hc_wsL_house_r25 _ (List.mem_of_getElem? (i := 2) (by decide +kernel)), List.forall_mem_cons.mpr ⟨hc_wsL_house_r25 _ (List.mem_of_getElem? (i := 3) (by decide +kernel)), List.forall_mem_cons.mpr ⟨hc_wsL_house_r25 _ (List.mem_of_getElem? (i := 4) (by decide +kernel)), List.forall_mem_cons.mpr ⟨hc_wsL_house_r25 _ (List.mem_of_getElem? (i := 5) (by decide +kernel)), List.forall_mem_cons.mpr ⟨hc_wsL_house_r25 _ (List.mem_of_getElem? (i := 6) (by decide +kernel)), List.forall_mem_cons.mpr ⟨hc_wsL_house_r20 _ (List.mem_of_getElem? (i := 11) (by decide +kernel)), List.forall_mem_cons.mpr ⟨hc_wsL_house_r20 _ (List.mem_of_getElem? (i := 12) (by decide +kernel)), List.forall_mem_cons.mpr ⟨hc_wsL_house_r20 _ (List.mem_of_getElem? (i := 13) (by decide +kernel)), List.forall_mem_cons.mpr ⟨hc_wsL_house_r20 _ (List.mem_of_getElem? (i := 14) (by decide +kernel)), List.forall_mem_cons.mpr ⟨hc_wsL_house_r2 _ (List.mem_of_getElem? (i := 15) (by decide +kernel)), List.forall_mem_cons.mpr ⟨hc_wsL_house_r8 _ (List.mem_of_getElem? (i := 6) (by decide +kernel)), List.forall_mem_cons.mpr ⟨hc_wsL_house_r8 _ (List.mem_of_getElem? (i := 7) (by decide +kernel)), List.forall_mem_cons.mpr ⟨hc_wsL_house_r8 _ (List.mem_of_getElem? (i := 8) (by decide +kernel)), List.forall_mem_cons.mpr ⟨hc_wsL_house_r8 _ (List.mem_of_getElem? (i := 9) (by decide +kernel)), List.forall_mem_cons.mpr ⟨hc_wsL_house_r5 _ (List.mem_of_getElem? (i := 4) (by decide +kernel)), fun _ h => absurd h List.not_mem_nil⟩⟩⟩⟩⟩⟩⟩⟩⟩⟩⟩⟩⟩⟩⟩⟩⟩⟩⟩⟩⟩⟩⟩⟩
set_option maxRecDepth 20000 in
theorem hd_wsL_house_wsL_isSound_r7 : ∀ w ∈ wsL_isSound_r7, w ∈ wsL_house := List.forall_mem_cons.mpr ⟨hc_wsL_house_r20 _ (List.mem_of_getElem? (i := 15) (by decide +kernel)), List.forall_mem_cons.mpr ⟨hc_wsL_house_r20 _ (List.mem_of_getElem? (i := 16) (by decide +kernel)), List.forall_mem_cons.mpr ⟨hc_wsL_house_r20 _ (List.mem_of_getElem? (i := 17) (by decide +kernel)), List.forall_mem_cons.mpr ⟨hc_wsL_house_r20 _ (List.mem_of_getElem? (i := 18) (by decide +kernel)), List.forall_mem_cons.mpr ⟨hc_wsL_house_r5 _ (List.mem_of_getElem? (i := 5) (by decide +kernel)), List.forall_mem_cons.mpr ⟨hc_wsL_house_r20 _ (List.mem_of_getElem? (i := 19) (by decide +kernel)), List.forall_mem_cons.mpr ⟨hc_wsL_house_r20 _ (List.mem_of_getElem? (i := 20) (by decide +kernel)), List.forall_mem_cons.mpr ⟨hc_wsL_house_r20 _ (List.mem_of_getElem? (i := 21) (by decide +kernel)), List.forall_mem_cons.mpr ⟨hc_wsL_house_r20 _ (List.mem_of_getElem? (i := 22) (by decide +kernel)), List.forall_mem_cons.mpr ⟨hc_wsL_house_r5 _ (List.mem_of_getElem? (i := 6) (by decide +kernel)), List.forall_mem_cons.mpr ⟨hc_wsL_house_r20 _ (List.mem_of_getElem? (i := 23) (by decide +kernel)), List.forall_mem_cons.mpr ⟨hc_wsL_house_r21 _ (List.mem_of_getElem? (i := 0) (by decide +kernel)), List.forall_mem_cons.mpr ⟨hc_wsL_house_r21 _ (List.mem_of_getElem? (i := 1) (by decide +kernel)), List.forall_mem_cons.mpr ⟨hc_wsL_house_r21 _ (List.mem_of_getElem? (i := 2) (by decide +kernel)), List.forall_mem_cons.mpr ⟨hc_wsL_house_r5 _ (List.mem_of_getElem? (i := 7) (by decide +kernel)), List.forall_mem_cons.mpr ⟨hc_wsL_house_r7 _ (List.mem_of_getElem? (i := 1) (by decide +kernel)), List.forall_mem_cons.mpr ⟨hc_wsL_house_r7 _ (List.mem_of_getElem? (i := 2) (by decide +kernel)), List.forall_mem_cons.mpr ⟨hc_wsL_house_r7 _ (List.mem_of_getElem? (i := 3) (by decide +kernel)), List.forall_mem_cons.mpr ⟨hc_wsL_house_r2 _ (List.mem_of_getElem? (i := 14) (by decide +kernel)), List.forall_mem_cons.mpr ⟨hc_wsL_house_r7 _ (List.mem_of_getElem? (i := 4) (by decide +kernel)), List.forall_mem_cons.mpr ⟨hc_wsL_house_r5 _ (List.mem_of_getElem? (i := 18) (by decide +kernel)), List.forall_mem_cons.mpr ⟨hc_wsL_house_r7 _ (List.mem_of_getElem? (i := 18) (by decide +kernel)), List.forall_mem_cons.mpr ⟨hc_wsL_house_r7 _ (List.mem_of_getElem? (i := 19) (by decide +kernel)), List.forall_mem_cons.mpr ⟨hc_wsL_house_r7 _ (List.mem_of_getElem? (i := 20) (by decide +kernel)), fun _ h => absurd h List.not_mem_nil⟩⟩⟩⟩⟩⟩⟩⟩⟩⟩⟩⟩⟩⟩⟩⟩⟩⟩⟩⟩⟩⟩⟩⟩
set_option maxRecDepth 20000 in
theorem hd_wsL_house_wsL_isSound_r8 : ∀ w ∈ wsL_isSound_r8, w ∈ wsL_house := List.forall_mem_cons.mpr ⟨hc_wsL_house_r7 _ (List.mem_of_getElem? (i := 21) (by decide +kernel)), List.forall_mem_cons.mpr ⟨hc_wsL_house_r4 _ (List.mem_of_getElem? (i := 20) (by decide +kernel)), List.forall_mem_cons.mpr ⟨hc_wsL_house_r6 _ (List.mem_of_getElem? (i := 2) (by decide +kernel)), List.forall_mem_cons.mpr ⟨hc_wsL_house_r6 _ (List.mem_of_getElem? (i := 3) (by decide +kernel)), List.forall_mem_cons.mpr ⟨hc_wsL_house_r6 _ (List.mem_of_getElem? (i := 5) (by decide +kernel)), List.forall_mem_cons.mpr ⟨hc_wsL_house_r6 _ (List.mem_of_getElem? (i := 6) (by decide +kernel)), List.forall_mem_cons.mpr ⟨hc_wsL_house_r6 _ (List.mem_of_getElem? (i := 7) (by decide +kernel)), List.forall_mem_cons.mpr ⟨hc_wsL_house_r6 _ (List.mem_of_getElem? (i := 8) (by decide +kernel)), List.forall_mem_cons.mpr ⟨hc_wsL_house_r6 _ (List.mem_of_getElem? (i := 10) (by decide +kernel)), List.forall_mem_cons.mpr ⟨hc_wsL_house_r1 _ (List.mem_of_getElem? (i := 4) (by decide +kernel)), List.forall_mem_cons.mpr ⟨hc_wsL_house_r6 _ (List.mem_of_getElem? (i := 11) (by decide +kernel)), List.forall_mem_cons.mpr ⟨hc_wsL_house_r6 _ (List.mem_of_getElem? (i := 12) (by decide +kernel)), List.forall_mem_cons.mpr ⟨hc_wsL_house_r6 _ (List.mem_of_getElem? (i := 13) (by decide +kernel)), List.forall_mem_cons.mpr ⟨hc_wsL_house_r6 _ (List.mem_of_getElem? (i := 14) (by decide +kernel)), List.forall_mem_cons.mpr ⟨hc_wsL_house_r6 _ (List.mem_of_getElem? (i := 15) (by decide +kernel)), List.forall_mem_cons.mpr ⟨hc_wsL_house_r6 _ (List.mem_of_getElem? (i := 16) (by decide +kernel)), List.forall_mem_cons.mpr ⟨hc_wsL_house_r6 _ (List.mem_of_getElem? (i := 17) (by decide +kernel)), List.forall_mem_cons.mpr ⟨hc_wsL_house_r6 _ (List.mem_of_getElem? (i := 18) (by decide +kernel)), List.forall_mem_cons.mpr ⟨hc_wsL_house_r6 _ (List.mem_of_getElem? (i := 19) (by decide +kernel)), List.forall_mem_cons.mpr ⟨hc_wsL_house_r7 _ (List.mem_of_getElem? (i := 5) (by decide +kernel)), List.forall_mem_cons.mpr ⟨hc_wsL_house_r7 _ (List.mem_of_getElem? (i := 6) (by decide +kernel)), List.forall_mem_cons.mpr ⟨hc_wsL_house_r7 _ (List.mem_of_getElem? (i := 7) (by decide +kernel)), List.forall_mem_cons.mpr ⟨hc_wsL_house_r7 _ (List.mem_of_getElem? (i := 8) (by decide +kernel)), List.forall_mem_cons.mpr ⟨hc_wsL_house_r5 _ (List.mem_of_getElem? (i := 12) (by decide +kernel)), fun _ h => absurd h List.not_mem_nil⟩⟩⟩⟩⟩⟩⟩⟩⟩⟩⟩⟩⟩⟩⟩⟩⟩⟩⟩⟩⟩⟩⟩⟩
set_option maxRecDepth 20000 in
theorem hd_wsL_house_wsL_isSound_r9 : ∀ w ∈ wsL_isSound_r9, w ∈ wsL_house := List.forall_mem_cons.mpr ⟨hc_wsL_house_r5 _ (List.mem_of_getElem? (i := 14) (by decide +kernel)), List.forall_mem_cons.mpr ⟨hc_wsL_house_r5 _ (List.mem_of_getElem? (i := 15) (by decide +kernel)), List.forall_mem_cons.mpr ⟨hc_wsL_house_r5 _ (List.mem_of_getElem? (i := 16) (by decide +kernel)), List.forall_mem_cons.mpr ⟨hc_wsL_house_r5 _ (List.mem_of_getElem? (i := 17) (by decide +kernel)), List.forall_mem_cons.mpr ⟨hc_wsL_house_r7 _ (List.mem_of_getElem? (i := 9) (by decide +kernel)), List.forall_mem_cons.mpr ⟨hc_wsL_house_r7 _ (List.mem_of_getElem? (i := 10) (by decide +kernel)), List.forall_mem_cons.mpr ⟨hc_wsL_house_r7 _ (List.mem_of_getElem? (i := 11) (by decide +kernel)), List.forall_mem_cons.mpr ⟨hc_wsL_house_r7 _ (List.mem_of_getElem? (i := 12) (by decide +kernel)), List.forall_mem_cons.mpr ⟨hc_wsL_house_r7 _ (List.mem_of_getElem? (i := 22) (by decide +kernel)), List.forall_mem_cons.mpr ⟨hc_wsL_house_r7 _ (List.mem_of_getElem? (i := 23) (by decide +kernel)), List.forall_mem_cons.mpr ⟨hc_wsL_house_r8 _ (List.mem_of_getElem? (i := 0) (by decide +kernel)), List.forall_mem_cons.mpr ⟨hc_wsL_house_r8 _ (List.mem_of_getElem? (i := 1) (by decide +kernel)), List.forall_mem_cons.mpr ⟨hc_wsL_house_r3 _ (List.mem_of_getElem? (i := 4) (by decide +kernel)), List.forall_mem_cons.mpr ⟨hc_wsL_house_r8 _ (List.mem_of_getElem? (i := 2) (by decide +kernel)), List.forall_mem_cons.mpr ⟨hc_wsL_house_r8 _ (List.mem_of_getElem? (i := 3) (by decide +kernel)), List.forall_mem_cons.mpr ⟨hc_wsL_house_r8 _ (List.mem_of_getElem? (i := 4) (by decide +kernel)), List.forall_mem_cons.mpr ⟨hc_wsL_house_r8 _ (List.mem_of_getElem? (i := 5) (by decide +kernel)), List.forall_mem_cons.mpr ⟨hc_wsL_house_r8 _ (List.mem_of_getElem? (i := 10) (by decide +kernel)), List.forall_mem_cons.mpr ⟨hc_wsL_house_r8 _ (List.mem_of_getElem? (i := 11) (by decide +kernel)), List.forall_mem_cons.mpr ⟨hc_wsL_house_r8 _ (List.mem_of_getElem? (i := 12) (by decide +kernel)), List.forall_mem_cons.mpr ⟨hc_wsL_house_r8 _ (List.mem_of_getElem? (i := 13) (by decide +kernel)), List.forall_mem_cons.mpr ⟨hc_wsL_house_r8 _ (List.mem_of_getElem? (i := 14) (by decide +kernel)), List.forall_mem_cons.mpr ⟨hc_wsL_house_r8 _ (List.mem_of_getElem? (i := 15) (by decide +kernel)), List.forall_mem_cons.mpr ⟨hc_wsL_house_r8 _ (List.mem_of_getElem? (i := 16) (by decide +kernel)), fun _ h => absurd h List.not_mem_nil⟩⟩⟩⟩⟩⟩⟩⟩⟩⟩⟩⟩⟩⟩⟩⟩⟩⟩⟩⟩⟩⟩⟩⟩
set_option maxRecDepth 20000 in
theorem hd_wsL_house_wsL_isSound_r10 : ∀ w ∈ wsL_isSound_r10, w ∈ wsL_house := List.forall_mem_cons.mpr ⟨hc_wsL_house_r8 _ (List.mem_of_getElem? (i := 17) (by decide +kernel)), List.forall_mem_cons.mpr ⟨hc_wsL_house_r4 _ (List.mem_of_getElem? (i := 16) (by decide +kernel)), List.forall_mem_cons.mpr ⟨hc_wsL_house_r4 _ (List.mem_of_getElem? (i := 17) (by decide +kernel)), List.forall_mem_cons.mpr ⟨hc_wsL_house_r4 _ (List.mem_of_getElem? (i := 18) (by decide +kernel)), List.forall_mem_cons.mpr ⟨hc_wsL_house_r4 _ (List.mem_of_getElem? (i := 19) (by decide +kernel)), List.forall_mem_cons.mpr ⟨hc_wsL_house_r8 _ (List.mem_of_getElem? (i := 18) (by decide +kernel)), List.forall_mem_cons.mpr ⟨hc_wsL_house_r8 _ (List.mem_of_getElem? (i := 19) (by decide +kernel)), List.forall_mem_cons.mpr ⟨hc_wsL_house_r8 _ (List.mem_of_getElem? (i := 20) (by decide +kernel)), List.forall_mem_cons.mpr ⟨hc_wsL_house_r8 _ (List.mem_of_getElem? (i := 21) (by decide +kernel)), List.forall_mem_cons.mpr ⟨hc_wsL_house_r8 _ (List.mem_of_getElem? (i := 22) (by decide +kernel)), List.forall_mem_cons.mpr ⟨hc_wsL_house_r8 _ (List.mem_of_getElem? (i := 23) (by decide +kernel)), List.forall_mem_cons.mpr ⟨hc_wsL_house_r9 _ (List.mem_of_getElem? (i := 0) (by decide +kernel)), List.forall_mem_cons.mpr ⟨hc_wsL_house_r9 _ (List.mem_of_getElem? (i := 1) (by decide +kernel)), List.forall_mem_cons.mpr ⟨hc_wsL_house_r9 _ (List.mem_of_getElem? (i := 2) (by decide +kernel)), List.forall_mem_cons.mpr ⟨hc_wsL_house_r9 _ (List.mem_of_getElem? (i := 3) (by decide +kernel)), List.forall_mem_cons.mpr ⟨hc_wsL_house_r9 _ (List.mem_of_getElem? (i := 4) (by decide +kernel)), List.forall_mem_cons.mpr ⟨hc_wsL_house_r9 _ (List.mem_of_getElem? (i := 5) (by decide +kernel)), List.forall_mem_cons.mpr ⟨hc_wsL_house_r9 _ (List.mem_of_getElem? (i := 6) (by decide +kernel)), List.forall_mem_cons.mpr ⟨hc_wsL_house_r9 _ (List.mem_of_getElem? (i := 7) (by decide +kernel)), List.forall_mem_cons.mpr ⟨hc_wsL_house_r9 _ (List.mem_of_getElem? (i := 8) (by decide +kernel)), List.forall_mem_cons.mpr ⟨hc_wsL_house_r9 _ (List.mem_of_getElem? (i := 9) (by decide +kernel)), List.forall_mem_cons.mpr ⟨hc_wsL_house_r9 _ (List.mem_of_getElem? (i := 10) (by decide +kernel)), List.forall_mem_cons.mpr ⟨hc_wsL_house_r9 _ (List.mem_of_getElem? (i := 11) (by decide +kernel)), List.forall_mem_cons.mpr ⟨hc_wsL_house_r9 _ (List.mem_of_getElem? (i := 12) (by decide +kernel)), fun _ h => absurd h List.not_mem_nil⟩⟩⟩⟩⟩⟩⟩⟩⟩⟩⟩⟩⟩⟩⟩⟩⟩⟩⟩⟩⟩⟩⟩⟩
set_option maxRecDepth 20000 in
theorem hd_wsL_house_wsL_isSound_r11 : ∀ w ∈ wsL_isSound_r11, w ∈ wsL_house := List.forall_mem_cons.mpr ⟨hc_wsL_house_r9 _ (List.mem_of_getElem? (i := 13) (by decide +kernel)), List.forall_mem_cons.mpr ⟨hc_wsL_house_r2 _ (List.mem_of_getElem? (i := 19) (by decide +kernel)), List.forall_mem_cons.mpr ⟨hc_wsL_house_r9 _ (List.mem_of_getElem? (i := 14) (by decide +kernel)), List.forall_mem_cons.mpr ⟨hc_wsL_house_r9 _ (List.mem_of_getElem? (i := 15) (by decide +kernel)), List.forall_mem_cons.mpr ⟨hc_wsL_house_r9 _ (List.mem_of_getElem? (i := 16) (by decide +kernel)), List.forall_mem_cons.mpr ⟨hc_wsL_house_r9 _ (List.mem_of_getElem? (i := 17) (by decide +kernel)), List.forall_mem_cons.mpr ⟨hc_wsL_house_r9 _ (List.mem_of_getElem? (i := 18) (by decide +kernel)), List.forall_mem_cons.mpr ⟨hc_wsL_house_r9 _ (List.mem_of_getElem? (i := 19) (by decide +kernel)), List.forall_mem_cons.mpr ⟨hc_wsL_house_r9 _ (List.mem_of_getElem? (i := 20) (by decide +kernel)), List.forall_mem_cons.mpr ⟨hc_wsL_house_r2 _ (List.mem_of_getElem? (i := 18) (by decide +kernel)), List.forall_mem_cons.mpr ⟨hc_wsL_house_r9 _ (List.mem_of_getElem? (i := 21) (by decide +kernel)), List.forall_mem_cons.mpr ⟨hc_wsL_house_r6 _ (List.mem_of_getElem? (i := 1) (by decide +kernel)), List.forall_mem_cons.mpr ⟨hc_wsL_house_r9 _ (List.mem_of_getElem? (i := 22) (by decide +kernel)), List.forall_mem_cons.mpr ⟨hc_wsL_house_r9 _ (List.mem_of_getElem? (i := 23) (by decide +kernel)), List.forall_mem_cons.mpr ⟨hc_wsL_house_r10 _ (List.mem_of_getElem? (i := 0) (by decide +kernel)), List.forall_mem_cons.mpr ⟨hc_wsL_house_r10 _ (List.mem_of_getElem? (i := 1) (by decide +kernel)), List.forall_mem_cons.mpr ⟨hc_wsL_house_r6 _ (List.mem_of_getElem? (i := 0) (by decide +kernel)), List.forall_mem_cons.mpr ⟨hc_wsL_house_r10 _ (List.mem_of_getElem? (i := 2) (by decide +kernel)), List.forall_mem_cons.mpr ⟨hc_wsL_house_r10 _ (List.mem_of_getElem? (i := 3) (by decide +kernel)), List.forall_mem_cons.mpr ⟨hc_wsL_house_r10 _ (List.mem_of_getElem? (i := 5) (by decide +kernel)), List.forall_mem_cons.mpr ⟨hc_wsL_house_r10 _ (List.mem_of_getElem? (i := 6) (by decide +kernel)), List.forall_mem_cons.mpr ⟨hc_wsL_house_r20 _ (List.mem_of_getElem? (i := 3) (by decide +kernel)), List.forall_mem_cons.mpr ⟨hc_wsL_house_r20 _ (List.mem_of_getElem? (i := 4) (by decide +kernel)), List.forall_mem_cons.mpr ⟨hc_wsL_house_r20 _ (List.mem_of_getElem? (i := 5) (by decide +kernel)), fun _ h => absurd h List.not_mem_nil⟩⟩⟩⟩⟩⟩⟩⟩⟩⟩⟩⟩⟩⟩⟩⟩⟩⟩⟩⟩⟩⟩⟩⟩
set_option maxRecDepth 20000 in
theorem hd_wsL_house_wsL_isSound_r12 : ∀ w ∈ wsL_isSound_r12, w ∈ wsL_house := List.forall_mem_cons.mpr ⟨hc_wsL_house_r20 _ (List.mem_of_getElem? (i := 6) (by decide +kernel)), List.forall_mem_cons.mpr ⟨hc_wsL_house_r20 _ (List.mem_of_getElem? (i := 7) (by decide +kernel)), List.forall_mem_cons.mpr ⟨hc_wsL_house_r20 _ (List.mem_of_getElem? (i := 8) (by decide +kernel)), List.forall_mem_cons.mpr ⟨hc_wsL_house_r20 _ (List.mem_of_getElem? (i := 9) (by decide +kernel)), List.forall_mem_cons.mpr ⟨hc_wsL_house_r20 _ (List.mem_of_getElem? (i := 10) (by decide +kernel)), fun _ h => absurd h List.not_mem_nil⟩⟩⟩⟩⟩
set_option maxRecDepth 20000 in
theorem ggL_house_L_isSound : GoodIn wsL_house wsL_isSound := goodIn_ca (goodIn_ca (goodIn_ca (goodIn_sub (List.forall_mem_cons.mpr ⟨hc_wsL_house_r24 _ (List.mem_of_getElem? (i := 7) (by decide +kernel)), List.forall_mem_append.mpr ⟨List.forall_mem_append.mpr ⟨List.forall_mem_append.mpr ⟨List.forall_mem_append.mpr ⟨List.forall_mem_append.mpr ⟨List.forall_mem_append.mpr ⟨List.forall_mem_append.mpr ⟨List.forall_mem_append.mpr ⟨List.forall_mem_append.mpr ⟨hd_wsL_house_wsL_isSound_r1, List.forall_mem_append.mpr ⟨hd_wsL_house_wsL_isSound_r2, List.forall_mem_append.mpr ⟨hd_wsL_house_wsL_isSound_r3, List.forall_mem_append.mpr ⟨hd_wsL_house_wsL_isSound_r4, List.forall_mem_append.mpr ⟨hd_wsL_house_wsL_isSound_r5, List.forall_mem_append.mpr ⟨hd_wsL_house_wsL_isSound_r6, List.forall_mem_append.mpr ⟨hd_wsL_house_wsL_isSound_r7, List.forall_mem_append.mpr ⟨hd_wsL_house_wsL_isSound_r8, List.forall_mem_append.mpr ⟨hd_wsL_house_wsL_isSound_r9, List.forall_mem_append.mpr ⟨hd_wsL_house_wsL_isSound_r10, List.forall_mem_append.mpr ⟨hd_wsL_house_wsL_isSound_r11, hd_wsL_house_wsL_isSound_r12⟩⟩⟩⟩⟩⟩⟩⟩⟩⟩⟩, hx_wsL_house_wsX90⟩, hx_wsL_house_wsX50⟩, hx_wsL_house_wsX30⟩, hx_wsL_house_wsX20⟩, hx_wsL_house_wsX10⟩, hx_wsL_house_wsX70⟩, hx_wsL_house_wsX00⟩, hx_wsL_house_wsX40⟩⟩) (by decide +kernel)) (goodIn_sub (fun _ h => List.mem_cons_of_mem _ (List.mem_append_right _ h)) (by decide +kernel))) (goodIn_sub (fun _ h => List.mem_cons_of_mem _ (List.mem_append_left _ (List.mem_append_right _ h))) (by decide +kernel))) (goodIn_sub (fun _ h => List.mem_cons_of_mem _ (List.mem_append_left _ (List.mem_append_left _ (List.mem_append_right _ h)))) (by decide +kernel))
set_option maxRecDepth 20000 in
theorem gL_house_L_isSound : GoodIn wsL_house (va_wsS RL 142 yL_isSound wsL_isSound) := goodIn_app (goodIn_of _ (by decide +kernel)) ggL_house_L_isSound
theorem dL_house_0 : decode cL_house 0 = .ok (.new 11, 3) := by decide +kernel
theorem dL_house_3 : decode cL_house 3 = .ok (.dup, 1) := by decide +kernel
theorem dL_house_4 : decode cL_house 4 = .ok (.invokespecial 118, 3) := by decide +kernel
theorem dL_house_7 : decode cL_house 7 = .ok (.astore_n 2, 1) := by decide +kernel
theorem dL_house_8 : decode cL_house 8 = .ok (.bipush 9, 2) := by decide +kernel
theorem dL_house_10 : decode cL_house 10 = .ok (.newarray .int, 2) := by decide +kernel
theorem dL_house_12 : decode cL_house 12 = .ok (.astore_n 3, 1) := by decide +kernel
theorem dL_house_13 : decode cL_house 13 = .ok (.bipush 32, 2) := by decide +kernel
theorem dL_house_15 : decode cL_house 15 = .ok (.newarray .int, 2) := by decide +kernel
theorem dL_house_17 : decode cL_house 17 = .ok (.astore 4, 2) := by decide +kernel
theorem dL_house_19 : decode cL_house 19 = .ok (.bipush 40, 2) := by decide +kernel
theorem dL_house_21 : decode cL_house 21 = .ok (.newarray .int, 2) := by decide +kernel
theorem dL_house_23 : decode cL_house 23 = .ok (.astore 5, 2) := by decide +kernel
theorem dL_house_25 : decode cL_house 25 = .ok (.bipush 8, 2) := by decide +kernel
theorem dL_house_27 : decode cL_house 27 = .ok (.newarray .int, 2) := by decide +kernel
theorem dL_house_29 : decode cL_house 29 = .ok (.astore 6, 2) := by decide +kernel
theorem dL_house_31 : decode cL_house 31 = .ok (.bipush 8, 2) := by decide +kernel
theorem dL_house_33 : decode cL_house 33 = .ok (.newarray .int, 2) := by decide +kernel
theorem dL_house_35 : decode cL_house 35 = .ok (.astore 7, 2) := by decide +kernel
theorem dL_house_37 : decode cL_house 37 = .ok (.aload_n 2, 1) := by decide +kernel
theorem dL_house_38 : decode cL_house 38 = .ok (.iconst 3, 1) := by decide +kernel
theorem dL_house_39 : decode cL_house 39 = .ok (.iconst 0, 1) := by decide +kernel
theorem dL_house_40 : decode cL_house 40 = .ok (.iconst 0, 1) := by decide +kernel
theorem dL_house_41 : decode cL_house 41 = .ok (.iconst 0, 1) := by decide +kernel
theorem dL_house_42 : decode cL_house 42 = .ok (.invokestatic 76, 3) := by decide +kernel
theorem dL_house_45 : decode cL_house 45 = .ok (.ldc 45, 2) := by decide +kernel
theorem dL_house_47 : decode cL_house 47 = .ok (.if_icmp .ne 7, 3) := by decide +kernel
theorem dL_house_50 : decode cL_house 50 = .ok (.iconst 1, 1) := by decide +kernel
theorem dL_house_51 : decode cL_house 51 = .ok (.goto 4, 3) := by decide +kernel
theorem dL_house_54 : decode cL_house 54 = .ok (.iconst 0, 1) := by decide +kernel
theorem dL_house_55 : decode cL_house 55 = .ok (.istore 8, 2) := by decide +kernel
theorem dL_house_57 : decode cL_house 57 = .ok (.aload_n 3, 1) := by decide +kernel
theorem dL_house_58 : decode cL_house 58 = .ok (.iconst 0, 1) := by decide +kernel
theorem dL_house_59 : decode cL_house 59 = .ok (.bipush 50, 2) := by decide +kernel
theorem dL_house_61 : decode cL_house 61 = .ok (.iastore, 1) := by decide +kernel
theorem dL_house_62 : decode cL_house 62 = .ok (.aload_n 3, 1) := by decide +kernel
theorem dL_house_63 : decode cL_house 63 = .ok (.iconst 1, 1) := by decide +kernel
theorem dL_house_64 : decode cL_house 64 = .ok (.sipush 300, 3) := by decide +kernel
theorem dL_house_67 : decode cL_house 67 = .ok (.iastore, 1) := by decide +kernel
theorem dL_house_68 : decode cL_house 68 = .ok (.aload_n 3, 1) := by decide +kernel
theorem dL_house_69 : decode cL_house 69 = .ok (.bipush 7, 2) := by decide +kernel
theorem dL_house_71 : decode cL_house 71 = .ok (.iconst 2, 1) := by decide +kernel
theorem dL_house_72 : decode cL_house 72 = .ok (.iastore, 1) := by decide +kernel
theorem dL_house_73 : decode cL_house 73 = .ok (.aload_n 3, 1) := by decide +kernel
theorem dL_house_74 : decode cL_house 74 = .ok (.bipush 8, 2) := by decide +kernel
theorem dL_house_76 : decode cL_house 76 = .ok (.bipush 10, 2) := by decide +kernel
theorem dL_house_78 : decode cL_house 78 = .ok (.iastore, 1) := by decide +kernel
theorem dL_house_79 : decode cL_house 79 = .ok (.iconst 0, 1) := by decide +kernel
theorem dL_house_80 : decode cL_house 80 = .ok (.istore 9, 2) := by decide +kernel
theorem dL_house_82 : decode cL_house 82 = .ok (.iload 9, 2) := by decide +kernel
theorem dL_house_84 : decode cL_house 84 = .ok (.bipush 32, 2) := by decide +kernel
theorem dL_house_86 : decode cL_house 86 = .ok (.if_icmp .ge 26, 3) := by decide +kernel
theorem dL_house_89 : decode cL_house 89 = .ok (.aload 4, 2) := by decide +kernel
theorem dL_house_91 : decode cL_house 91 = .ok (.iload 9, 2) := by decide +kernel
theorem dL_house_93 : decode cL_house 93 = .ok (.bipush 50, 2) := by decide +kernel
theorem dL_house_95 : decode cL_house 95 = .ok (.iastore, 1) := by decide +kernel
theorem dL_house_96 : decode cL_house 96 = .ok (.aload_n 3, 1) := by decide +kernel
theorem dL_house_97 : decode cL_house 97 = .ok (.iconst 3, 1) := by decide +kernel
theorem dL_house_98 : decode cL_house 98 = .ok (.iload 9, 2) := by decide +kernel
theorem dL_house_100 : decode cL_house 100 = .ok (.iconst 4, 1) := by decide +kernel
theorem dL_house_101 : decode cL_house 101 = .ok (.irem, 1) := by decide +kernel
theorem dL_house_102 : decode cL_house 102 = .ok (.iadd, 1) := by decide +kernel
theorem dL_house_103 : decode cL_house 103 = .ok (.bipush 20, 2) := by decide +kernel
theorem dL_house_105 : decode cL_house 105 = .ok (.iastore, 1) := by decide +kernel
theorem dL_house_106 : decode cL_house 106 = .ok (.iinc 9 1, 3) := by decide +kernel
theorem dL_house_109 : decode cL_house 109 = .ok (.goto (-27), 3) := by decide +kernel
theorem dL_house_112 : decode cL_house 112 = .ok (.iconst 0, 1) := by decide +kernel
theorem dL_house_113 : decode cL_house 113 = .ok (.istore 9, 2) := by decide +kernel
theorem dL_house_115 : decode cL_house 115 = .ok (.iload 9, 2) := by decide +kernel
theorem dL_house_117 : decode cL_house 117 = .ok (.bipush 64, 2) := by decide +kernel
theorem dL_house_119 : decode cL_house 119 = .ok (.if_icmp .ge 49, 3) := by decide +kernel
theorem dL_house_122 : decode cL_house 122 = .ok (.aload_n 0, 1) := by decide +kernel
theorem dL_house_123 : decode cL_house 123 = .ok (.iload_n 1, 1) := by decide +kernel
theorem dL_house_124 : decode cL_house 124 = .ok (.iload 9, 2) := by decide +kernel
theorem dL_house_126 : decode cL_house 126 = .ok (.iadd, 1) := by decide +kernel
theorem dL_house_127 : decode cL_house 127 = .ok (.ldc 119, 2) := by decide +kernel
theorem dL_house_129 : decode cL_house 129 = .ok (.invokestatic 120, 3) := by decide +kernel
theorem dL_house_132 : decode cL_house 132 = .ok (.istore 10, 2) := by decide +kernel
theorem dL_house_134 : decode cL_house 134 = .ok (.aload_n 2, 1) := by decide +kernel
theorem dL_house_135 : decode cL_house 135 = .ok (.iload 9, 2) := by decide +kernel
theorem dL_house_137 : decode cL_house 137 = .ok (.iload 10, 2) := by decide +kernel
theorem dL_house_139 : decode cL_house 139 = .ok (.bipush 101, 2) := by decide +kernel
theorem dL_house_141 : decode cL_house 141 = .ok (.irem, 1) := by decide +kernel
theorem dL_house_142 : decode cL_house 142 = .ok (.iload 10, 2) := by decide +kernel
theorem dL_house_144 : decode cL_house 144 = .ok (.bipush 101, 2) := by decide +kernel
theorem dL_house_146 : decode cL_house 146 = .ok (.idiv, 1) := by decide +kernel
theorem dL_house_147 : decode cL_house 147 = .ok (.bipush 101, 2) := by decide +kernel
theorem dL_house_149 : decode cL_house 149 = .ok (.irem, 1) := by decide +kernel
theorem dL_house_150 : decode cL_house 150 = .ok (.iload 10, 2) := by decide +kernel
theorem dL_house_152 : decode cL_house 152 = .ok (.sipush 10201, 3) := by decide +kernel
theorem dL_house_155 : decode cL_house 155 = .ok (.idiv, 1) := by decide +kernel
theorem dL_house_156 : decode cL_house 156 = .ok (.bipush 101, 2) := by decide +kernel
theorem dL_house_158 : decode cL_house 158 = .ok (.irem, 1) := by decide +kernel
theorem dL_house_159 : decode cL_house 159 = .ok (.invokevirtual 123, 3) := by decide +kernel
theorem dL_house_162 : decode cL_house 162 = .ok (.iinc 9 1, 3) := by decide +kernel
theorem dL_house_165 : decode cL_house 165 = .ok (.goto (-50), 3) := by decide +kernel
theorem dL_house_168 : decode cL_house 168 = .ok (.iconst 0, 1) := by decide +kernel
theorem dL_house_169 : decode cL_house 169 = .ok (.istore 9, 2) := by decide +kernel
theorem dL_house_171 : decode cL_house 171 = .ok (.iload 9, 2) := by decide +kernel
theorem dL_house_173 : decode cL_house 173 = .ok (.bipush 90, 2) := by decide +kernel
theorem dL_house_175 : decode cL_house 175 = .ok (.if_icmp .ge 283, 3) := by decide +kernel
theorem dL_house_178 : decode cL_house 178 = .ok (.iload 8, 2) := by decide +kernel
theorem dL_house_180 : decode cL_house 180 = .ok (.ifCond .eq 278, 3) := by decide +kernel
theorem dL_house_183 : decode cL_house 183 = .ok (.aload_n 0, 1) := by decide +kernel
theorem dL_house_184 : decode cL_house 184 = .ok (.iload_n 1, 1) := by decide +kernel
theorem dL_house_185 : decode cL_house 185 = .ok (.bipush 64, 2) := by decide +kernel
theorem dL_house_187 : decode cL_house 187 = .ok (.iadd, 1) := by decide +kernel
theorem dL_house_188 : decode cL_house 188 = .ok (.iconst 2, 1) := by decide +kernel
theorem dL_house_189 : decode cL_house 189 = .ok (.iload 9, 2) := by decide +kernel
theorem dL_house_191 : decode cL_house 191 = .ok (.imul, 1) := by decide +kernel
theorem dL_house_192 : decode cL_house 192 = .ok (.iadd, 1) := by decide +kernel
theorem dL_house_193 : decode cL_house 193 = .ok (.ldc 119, 2) := by decide +kernel
theorem dL_house_195 : decode cL_house 195 = .ok (.invokestatic 120, 3) := by decide +kernel
theorem dL_house_198 : decode cL_house 198 = .ok (.istore 10, 2) := by decide +kernel
theorem dL_house_200 : decode cL_house 200 = .ok (.aload_n 0, 1) := by decide +kernel
theorem dL_house_201 : decode cL_house 201 = .ok (.iload_n 1, 1) := by decide +kernel
theorem dL_house_202 : decode cL_house 202 = .ok (.bipush 65, 2) := by decide +kernel
theorem dL_house_204 : decode cL_house 204 = .ok (.iadd, 1) := by decide +kernel
theorem dL_house_205 : decode cL_house 205 = .ok (.iconst 2, 1) := by decide +kernel
theorem dL_house_206 : decode cL_house 206 = .ok (.iload 9, 2) := by decide +kernel
theorem dL_house_208 : decode cL_house 208 = .ok (.imul, 1) := by decide +kernel
theorem dL_house_209 : decode cL_house 209 = .ok (.iadd, 1) := by decide +kernel
theorem dL_house_210 : decode cL_house 210 = .ok (.ldc 119, 2) := by decide +kernel
theorem dL_house_212 : decode cL_house 212 = .ok (.invokestatic 120, 3) := by decide +kernel
theorem dL_house_215 : decode cL_house 215 = .ok (.istore 11, 2) := by decide +kernel
theorem dL_house_217 : decode cL_house 217 = .ok (.iload 10, 2) := by decide +kernel
theorem dL_house_219 : decode cL_house 219 = .ok (.bipush 16, 2) := by decide +kernel
theorem dL_house_221 : decode cL_house 221 = .ok (.irem, 1) := by decide +kernel
theorem dL_house_222 : decode cL_house 222 = .ok (.istore 12, 2) := by decide +kernel
theorem dL_house_224 : decode cL_house 224 = .ok (.iload 12, 2) := by decide +kernel
theorem dL_house_226 : decode cL_house 226 = .ok (.iconst 3, 1) := by decide +kernel
theorem dL_house_227 : decode cL_house 227 = .ok (.if_icmp .ge 20, 3) := by decide +kernel
theorem dL_house_230 : decode cL_house 230 = .ok (.aload_n 2, 1) := by decide +kernel
theorem dL_house_231 : decode cL_house 231 = .ok (.iload 10, 2) := by decide +kernel
theorem dL_house_233 : decode cL_house 233 = .ok (.bipush 16, 2) := by decide +kernel
theorem dL_house_235 : decode cL_house 235 = .ok (.idiv, 1) := by decide +kernel
theorem dL_house_236 : decode cL_house 236 = .ok (.iload 11, 2) := by decide +kernel
theorem dL_house_238 : decode cL_house 238 = .ok (.aload_n 3, 1) := by decide +kernel
theorem dL_house_239 : decode cL_house 239 = .ok (.invokestatic 127, 3) := by decide +kernel
theorem dL_house_242 : decode cL_house 242 = .ok (.istore 8, 2) := by decide +kernel
theorem dL_house_244 : decode cL_house 244 = .ok (.goto 170, 3) := by decide +kernel
theorem dL_house_247 : decode cL_house 247 = .ok (.iload 12, 2) := by decide +kernel
theorem dL_house_249 : decode cL_house 249 = .ok (.iconst 3, 1) := by decide +kernel
theorem dL_house_250 : decode cL_house 250 = .ok (.if_icmp .ne 40, 3) := by decide +kernel
theorem dL_house_253 : decode cL_house 253 = .ok (.aload_n 2, 1) := by decide +kernel
theorem dL_house_254 : decode cL_house 254 = .ok (.iload 11, 2) := by decide +kernel
theorem dL_house_256 : decode cL_house 256 = .ok (.bipush 64, 2) := by decide +kernel
theorem dL_house_258 : decode cL_house 258 = .ok (.irem, 1) := by decide +kernel
theorem dL_house_259 : decode cL_house 259 = .ok (.iload 10, 2) := by decide +kernel
theorem dL_house_261 : decode cL_house 261 = .ok (.bipush 16, 2) := by decide +kernel
theorem dL_house_263 : decode cL_house 263 = .ok (.idiv, 1) := by decide +kernel
theorem dL_house_264 : decode cL_house 264 = .ok (.bipush 101, 2) := by decide +kernel
theorem dL_house_266 : decode cL_house 266 = .ok (.irem, 1) := by decide +kernel
theorem dL_house_267 : decode cL_house 267 = .ok (.iload 11, 2) := by decide +kernel
theorem dL_house_269 : decode cL_house 269 = .ok (.bipush 64, 2) := by decide +kernel
theorem dL_house_271 : decode cL_house 271 = .ok (.idiv, 1) := by decide +kernel
theorem dL_house_272 : decode cL_house 272 = .ok (.bipush 101, 2) := by decide +kernel
theorem dL_house_274 : decode cL_house 274 = .ok (.irem, 1) := by decide +kernel
theorem dL_house_275 : decode cL_house 275 = .ok (.iload 11, 2) := by decide +kernel
theorem dL_house_277 : decode cL_house 277 = .ok (.sipush 6464, 3) := by decide +kernel
theorem dL_house_280 : decode cL_house 280 = .ok (.idiv, 1) := by decide +kernel
theorem dL_house_281 : decode cL_house 281 = .ok (.bipush 101, 2) := by decide +kernel
theorem dL_house_283 : decode cL_house 283 = .ok (.irem, 1) := by decide +kernel
theorem dL_house_284 : decode cL_house 284 = .ok (.invokevirtual 123, 3) := by decide +kernel
theorem dL_house_287 : decode cL_house 287 = .ok (.goto 127, 3) := by decide +kernel
theorem dL_house_290 : decode cL_house 290 = .ok (.iload 12, 2) := by decide +kernel
theorem dL_house_292 : decode cL_house 292 = .ok (.iconst 4, 1) := by decide +kernel
theorem dL_house_293 : decode cL_house 293 = .ok (.if_icmp .ne 76, 3) := by decide +kernel
theorem dL_house_296 : decode cL_house 296 = .ok (.aload_n 2, 1) := by decide +kernel
theorem dL_house_297 : decode cL_house 297 = .ok (.invokevirtual 131, 3) := by decide +kernel
theorem dL_house_300 : decode cL_house 300 = .ok (.istore 13, 2) := by decide +kernel
theorem dL_house_302 : decode cL_house 302 = .ok (.iload 13, 2) := by decide +kernel
theorem dL_house_304 : decode cL_house 304 = .ok (.ifCond .lt 59, 3) := by decide +kernel
theorem dL_house_307 : decode cL_house 307 = .ok (.iload 13, 2) := by decide +kernel
theorem dL_house_309 : decode cL_house 309 = .ok (.sipush 256, 3) := by decide +kernel
theorem dL_house_312 : decode cL_house 312 = .ok (.if_icmp .gt 51, 3) := by decide +kernel
theorem dL_house_315 : decode cL_house 315 = .ok (.aload_n 2, 1) := by decide +kernel
theorem dL_house_316 : decode cL_house 316 = .ok (.invokevirtual 131, 3) := by decide +kernel
theorem dL_house_319 : decode cL_house 319 = .ok (.ifCond .ne 44, 3) := by decide +kernel
theorem dL_house_322 : decode cL_house 322 = .ok (.aload_n 2, 1) := by decide +kernel
theorem dL_house_323 : decode cL_house 323 = .ok (.iload 11, 2) := by decide +kernel
theorem dL_house_325 : decode cL_house 325 = .ok (.bipush 64, 2) := by decide +kernel
theorem dL_house_327 : decode cL_house 327 = .ok (.irem, 1) := by decide +kernel
theorem dL_house_328 : decode cL_house 328 = .ok (.iload 11, 2) := by decide +kernel
theorem dL_house_330 : decode cL_house 330 = .ok (.bipush 64, 2) := by decide +kernel
theorem dL_house_332 : decode cL_house 332 = .ok (.idiv, 1) := by decide +kernel
theorem dL_house_333 : decode cL_house 333 = .ok (.iconst 4, 1) := by decide +kernel
theorem dL_house_334 : decode cL_house 334 = .ok (.irem, 1) := by decide +kernel
theorem dL_house_335 : decode cL_house 335 = .ok (.iconst 3, 1) := by decide +kernel
theorem dL_house_336 : decode cL_house 336 = .ok (.invokevirtual 34, 3) := by decide +kernel
theorem dL_house_339 : decode cL_house 339 = .ok (.aload_n 2, 1) := by decide +kernel
theorem dL_house_340 : decode cL_house 340 = .ok (.iload 11, 2) := by decide +kernel
theorem dL_house_342 : decode cL_house 342 = .ok (.bipush 64, 2) := by decide +kernel
theorem dL_house_344 : decode cL_house 344 = .ok (.irem, 1) := by decide +kernel
theorem dL_house_345 : decode cL_house 345 = .ok (.iload 11, 2) := by decide +kernel
theorem dL_house_347 : decode cL_house 347 = .ok (.bipush 64, 2) := by decide +kernel
theorem dL_house_349 : decode cL_house 349 = .ok (.idiv, 1) := by decide +kernel
theorem dL_house_350 : decode cL_house 350 = .ok (.iconst 4, 1) := by decide +kernel
theorem dL_house_351 : decode cL_house 351 = .ok (.irem, 1) := by decide +kernel
theorem dL_house_352 : decode cL_house 352 = .ok (.iconst 2, 1) := by decide +kernel
theorem dL_house_353 : decode cL_house 353 = .ok (.invokevirtual 34, 3) := by decide +kernel
theorem dL_house_356 : decode cL_house 356 = .ok (.if_icmp .ne 7, 3) := by decide +kernel
theorem dL_house_359 : decode cL_house 359 = .ok (.iconst 1, 1) := by decide +kernel
theorem dL_house_360 : decode cL_house 360 = .ok (.goto 4, 3) := by decide +kernel
theorem dL_house_363 : decode cL_house 363 = .ok (.iconst 0, 1) := by decide +kernel
theorem dL_house_364 : decode cL_house 364 = .ok (.istore 8, 2) := by decide +kernel
theorem dL_house_366 : decode cL_house 366 = .ok (.goto 48, 3) := by decide +kernel
theorem dL_house_369 : decode cL_house 369 = .ok (.iload 12, 2) := by decide +kernel
theorem dL_house_371 : decode cL_house 371 = .ok (.bipush 12, 2) := by decide +kernel
theorem dL_house_373 : decode cL_house 373 = .ok (.if_icmp .ge 19, 3) := by decide +kernel
theorem dL_house_376 : decode cL_house 376 = .ok (.aload_n 2, 1) := by decide +kernel
theorem dL_house_377 : decode cL_house 377 = .ok (.aload_n 3, 1) := by decide +kernel
theorem dL_house_378 : decode cL_house 378 = .ok (.aload 5, 2) := by decide +kernel
theorem dL_house_380 : decode cL_house 380 = .ok (.aload 6, 2) := by decide +kernel
theorem dL_house_382 : decode cL_house 382 = .ok (.aload 7, 2) := by decide +kernel
theorem dL_house_384 : decode cL_house 384 = .ok (.invokestatic 134, 3) := by decide +kernel
theorem dL_house_387 : decode cL_house 387 = .ok (.istore 8, 2) := by decide +kernel
theorem dL_house_389 : decode cL_house 389 = .ok (.goto 25, 3) := by decide +kernel
theorem dL_house_392 : decode cL_house 392 = .ok (.aload_n 2, 1) := by decide +kernel
theorem dL_house_393 : decode cL_house 393 = .ok (.iload 10, 2) := by decide +kernel
theorem dL_house_395 : decode cL_house 395 = .ok (.bipush 16, 2) := by decide +kernel
theorem dL_house_397 : decode cL_house 397 = .ok (.idiv, 1) := by decide +kernel
theorem dL_house_398 : decode cL_house 398 = .ok (.iload 11, 2) := by decide +kernel
theorem dL_house_400 : decode cL_house 400 = .ok (.aload_n 3, 1) := by decide +kernel
theorem dL_house_401 : decode cL_house 401 = .ok (.aload 4, 2) := by decide +kernel
theorem dL_house_403 : decode cL_house 403 = .ok (.aload 5, 2) := by decide +kernel
theorem dL_house_405 : decode cL_house 405 = .ok (.aload 6, 2) := by decide +kernel
theorem dL_house_407 : decode cL_house 407 = .ok (.aload 7, 2) := by decide +kernel
theorem dL_house_409 : decode cL_house 409 = .ok (.invokestatic 138, 3) := by decide +kernel
theorem dL_house_412 : decode cL_house 412 = .ok (.istore 8, 2) := by decide +kernel
theorem dL_house_414 : decode cL_house 414 = .ok (.iload 8, 2) := by decide +kernel
theorem dL_house_416 : decode cL_house 416 = .ok (.ifCond .eq 33, 3) := by decide +kernel
theorem dL_house_419 : decode cL_house 419 = .ok (.iload 9, 2) := by decide +kernel
theorem dL_house_421 : decode cL_house 421 = .ok (.bipush 10, 2) := by decide +kernel
theorem dL_house_423 : decode cL_house 423 = .ok (.irem, 1) := by decide +kernel
theorem dL_house_424 : decode cL_house 424 = .ok (.bipush 9, 2) := by decide +kernel
theorem dL_house_426 : decode cL_house 426 = .ok (.if_icmp .lt 19, 3) := by decide +kernel
theorem dL_house_429 : decode cL_house 429 = .ok (.aload_n 2, 1) := by decide +kernel
theorem dL_house_430 : decode cL_house 430 = .ok (.iload 11, 2) := by decide +kernel
theorem dL_house_432 : decode cL_house 432 = .ok (.aload_n 3, 1) := by decide +kernel
theorem dL_house_433 : decode cL_house 433 = .ok (.aload 4, 2) := by decide +kernel
theorem dL_house_435 : decode cL_house 435 = .ok (.aload 5, 2) := by decide +kernel
theorem dL_house_437 : decode cL_house 437 = .ok (.aload 6, 2) := by decide +kernel
theorem dL_house_439 : decode cL_house 439 = .ok (.invokestatic 142, 3) := by decide +kernel
theorem dL_house_442 : decode cL_house 442 = .ok (.ifCond .eq 7, 3) := by decide +kernel
theorem dL_house_445 : decode cL_house 445 = .ok (.iconst 1, 1) := by decide +kernel
theorem dL_house_446 : decode cL_house 446 = .ok (.goto 4, 3) := by decide +kernel
theorem dL_house_449 : decode cL_house 449 = .ok (.iconst 0, 1) := by decide +kernel
theorem dL_house_450 : decode cL_house 450 = .ok (.istore 8, 2) := by decide +kernel
theorem dL_house_452 : decode cL_house 452 = .ok (.iinc 9 1, 3) := by decide +kernel
theorem dL_house_455 : decode cL_house 455 = .ok (.goto (-284), 3) := by decide +kernel
theorem dL_house_458 : decode cL_house 458 = .ok (.iload 8, 2) := by decide +kernel
theorem dL_house_460 : decode cL_house 460 = .ok (.ifCond .eq 23, 3) := by decide +kernel
theorem dL_house_463 : decode cL_house 463 = .ok (.aload_n 2, 1) := by decide +kernel
theorem dL_house_464 : decode cL_house 464 = .ok (.bipush 77, 2) := by decide +kernel
theorem dL_house_466 : decode cL_house 466 = .ok (.aload_n 3, 1) := by decide +kernel
theorem dL_house_467 : decode cL_house 467 = .ok (.aload 4, 2) := by decide +kernel
theorem dL_house_469 : decode cL_house 469 = .ok (.aload 5, 2) := by decide +kernel
theorem dL_house_471 : decode cL_house 471 = .ok (.aload 6, 2) := by decide +kernel
theorem dL_house_473 : decode cL_house 473 = .ok (.invokestatic 142, 3) := by decide +kernel
theorem dL_house_476 : decode cL_house 476 = .ok (.ifCond .eq 7, 3) := by decide +kernel
theorem dL_house_479 : decode cL_house 479 = .ok (.iconst 1, 1) := by decide +kernel
theorem dL_house_480 : decode cL_house 480 = .ok (.goto 4, 3) := by decide +kernel
theorem dL_house_483 : decode cL_house 483 = .ok (.iconst 0, 1) := by decide +kernel
theorem dL_house_484 : decode cL_house 484 = .ok (.ireturn, 1) := by decide +kernel
