set_option maxRecDepth 20000 in
theorem wsL_law_r1_in : ∀ w ∈ wsL_law_r1, w ∈ lw_tbl := fun w h => (goodIn_p wsL_law_r1 [26, 29] (by decide +kernel) (by decide +kernel) w h).1
set_option maxRecDepth 20000 in
theorem wsL_law_r2_in : ∀ w ∈ wsL_law_r2, w ∈ lw_tbl := fun w h => (goodIn_p wsL_law_r2 [34, 40] (by decide +kernel) (by decide +kernel) w h).1
set_option maxRecDepth 20000 in
theorem wsL_law_r3_in : ∀ w ∈ wsL_law_r3, w ∈ lw_tbl := fun w h => (goodIn_p wsL_law_r3 [81, 104] (by decide +kernel) (by decide +kernel) w h).1
set_option maxRecDepth 20000 in
theorem wsL_law_r4_in : ∀ w ∈ wsL_law_r4, w ∈ lw_tbl := fun w h => (goodIn_p wsL_law_r4 [422, 426, 186, 189, 193, 197] (by decide +kernel) (by decide +kernel) w h).1
set_option maxRecDepth 20000 in
theorem wsL_law_r5_in : ∀ w ∈ wsL_law_r5, w ∈ lw_tbl := fun w h => (goodIn_p wsL_law_r5 [201, 205, 209, 213, 383, 277] (by decide +kernel) (by decide +kernel) w h).1
set_option maxRecDepth 20000 in
theorem wsL_law_r6_in : ∀ w ∈ wsL_law_r6, w ∈ lw_tbl := fun w h => (goodIn_p wsL_law_r6 [359, 324, 229, 327, 242, 331] (by decide +kernel) (by decide +kernel) w h).1
set_option maxRecDepth 20000 in
theorem wsL_law_r7_in : ∀ w ∈ wsL_law_r7, w ∈ lw_tbl := fun w h => (goodIn_p wsL_law_r7 [388, 225, 343, 273, 282, 286] (by decide +kernel) (by decide +kernel) w h).1
set_option maxRecDepth 20000 in
theorem wsL_law_r8_in : ∀ w ∈ wsL_law_r8, w ∈ lw_tbl := fun w h => (goodIn_p wsL_law_r8 [290, 294, 463, 396, 302] (by decide +kernel) (by decide +kernel) w h).1
set_option maxRecDepth 20000 in
theorem wsL_law_r9_in : ∀ w ∈ wsL_law_r9, w ∈ lw_tbl := fun w h => (goodIn_p wsL_law_r9 [221, 232, 400, 405, 308] (by decide +kernel) (by decide +kernel) w h).1
set_option maxRecDepth 20000 in
theorem wsL_law_r10_in : ∀ w ∈ wsL_law_r10, w ∈ lw_tbl := fun w h => (goodIn_p wsL_law_r10 [311, 269, 316, 320, 335, 339] (by decide +kernel) (by decide +kernel) w h).1
set_option maxRecDepth 20000 in
theorem wsL_law_r11_in : ∀ w ∈ wsL_law_r11, w ∈ lw_tbl := fun w h => (goodIn_p wsL_law_r11 [266, 348, 351, 355, 363] (by decide +kernel) (by decide +kernel) w h).1
set_option maxRecDepth 20000 in
theorem wsL_law_r12_in : ∀ w ∈ wsL_law_r12, w ∈ lw_tbl := fun w h => (goodIn_p wsL_law_r12 [367, 371, 375, 379, 262, 392] (by decide +kernel) (by decide +kernel) w h).1
set_option maxRecDepth 20000 in
theorem wsL_law_r13_in : ∀ w ∈ wsL_law_r13, w ∈ lw_tbl := fun w h => (goodIn_p wsL_law_r13 [409, 485, 489, 493, 497] (by decide +kernel) (by decide +kernel) w h).1
set_option maxRecDepth 20000 in
theorem wsL_law_r14_in : ∀ w ∈ wsL_law_r14, w ∈ lw_tbl := fun w h => (goodIn_p wsL_law_r14 [501, 505, 217, 254, 258] (by decide +kernel) (by decide +kernel) w h).1
set_option maxRecDepth 20000 in
theorem wsL_law_r15_in : ∀ w ∈ wsL_law_r15, w ∈ lw_tbl := fun w h => (goodIn_p wsL_law_r15 [250, 239, 246, 298, 413, 417] (by decide +kernel) (by decide +kernel) w h).1
set_option maxRecDepth 20000 in
theorem wsL_law_r16_c0 : ∀ w ∈ ([Cond.methodLink RL 92 yL_rests, Cond.static yL_rests, Cond.code yL_rests cL_rests 8 (some .boolean)] : List Cond), w ∈ lw_tbl := fun w h => (goodIn_p [Cond.methodLink RL 92 yL_rests, Cond.static yL_rests, Cond.code yL_rests cL_rests 8 (some .boolean)] [469] (by decide +kernel) (by decide +kernel) w h).1
set_option maxRecDepth 20000 in
theorem wsL_law_r16_c1 : ∀ w ∈ ([Cond.methodLink RL 44 yX4_restAfter, Cond.instanceMethod yX4_restAfter, Cond.selects RX4 yX4_restAfter yX4_restAfter] : List Cond), w ∈ lw_tbl := fun w h => (goodIn_p [Cond.methodLink RL 44 yX4_restAfter, Cond.instanceMethod yX4_restAfter, Cond.selects RX4 yX4_restAfter yX4_restAfter] [] (by decide +kernel) (by decide +kernel) w h).1
set_option maxRecDepth 20000 in
theorem wsL_law_r16_c2 : ∀ w ∈ ([Cond.code yX4_restAfter cX4_restAfter 4 (some .int), Cond.methodLink RX4 214 yX4_allRestBehind, Cond.instanceMethod yX4_allRestBehind] : List Cond), w ∈ lw_tbl := fun w h => (goodIn_p [Cond.code yX4_restAfter cX4_restAfter 4 (some .int), Cond.methodLink RX4 214 yX4_allRestBehind, Cond.instanceMethod yX4_allRestBehind] [473] (by decide +kernel) (by decide +kernel) w h).1
set_option maxRecDepth 20000 in
theorem wsL_law_r16_c3 : ∀ w ∈ ([Cond.selects RX4 yX4_allRestBehind yX4_allRestBehind, Cond.code yX4_allRestBehind cX4_allRestBehind 5 (some .boolean), Cond.fieldLink RX4 199 "KeyScanner$Matrix" "first" "LKeyScanner$Net;"] : List Cond), w ∈ lw_tbl := fun w h => (goodIn_p [Cond.selects RX4 yX4_allRestBehind yX4_allRestBehind, Cond.code yX4_allRestBehind cX4_allRestBehind 5 (some .boolean), Cond.fieldLink RX4 199 "KeyScanner$Matrix" "first" "LKeyScanner$Net;"] [477] (by decide +kernel) (by decide +kernel) w h).1
set_option maxRecDepth 20000 in
theorem wsL_law_r16_c4 : ∀ w ∈ ([Cond.methodLink RX4 242 yX1_seen, Cond.methodLink RX4 246 yX4_rowRests, Cond.instanceMethod yX4_rowRests] : List Cond), w ∈ lw_tbl := fun w h => (goodIn_p [Cond.methodLink RX4 242 yX1_seen, Cond.methodLink RX4 246 yX4_rowRests, Cond.instanceMethod yX4_rowRests] [] (by decide +kernel) (by decide +kernel) w h).1
set_option maxRecDepth 20000 in
theorem wsL_law_r16_c5 : ∀ w ∈ ([Cond.selects RX4 yX4_rowRests yX4_rowRests, Cond.code yX4_rowRests cX4_rowRests 4 (some .boolean), Cond.methodLink RL 95 yL_worst] : List Cond), w ∈ lw_tbl := fun w h => (goodIn_p [Cond.selects RX4 yX4_rowRests yX4_rowRests, Cond.code yX4_rowRests cX4_rowRests 4 (some .boolean), Cond.methodLink RL 95 yL_worst] [482] (by decide +kernel) (by decide +kernel) w h).1
set_option maxRecDepth 20000 in
theorem wsL_law_r16_c6 : ∀ w ∈ ([Cond.static yL_worst, Cond.code yL_worst cL_worst 7 (some .boolean), Cond.methodLink RL 99 yL_matrix] : List Cond), w ∈ lw_tbl := fun w h => (goodIn_p [Cond.static yL_worst, Cond.code yL_worst cL_worst 7 (some .boolean), Cond.methodLink RL 99 yL_matrix] [466] (by decide +kernel) (by decide +kernel) w h).1
set_option maxRecDepth 20000 in
theorem wsL_law_r16_c7 : ∀ w ∈ ([Cond.static yL_matrix, Cond.code yL_matrix cL_matrix 21 (some .boolean), Cond.methodLink RL 9 yX4_connected] : List Cond), w ∈ lw_tbl := fun w h => (goodIn_p [Cond.static yL_matrix, Cond.code yL_matrix cL_matrix 21 (some .boolean), Cond.methodLink RL 9 yX4_connected] [430] (by decide +kernel) (by decide +kernel) w h).1
theorem wsL_law_r16_in : ∀ w ∈ wsL_law_r16, w ∈ lw_tbl := show ∀ w ∈ (([Cond.methodLink RL 92 yL_rests, Cond.static yL_rests, Cond.code yL_rests cL_rests 8 (some .boolean)] : List Cond) ++ (([Cond.methodLink RL 44 yX4_restAfter, Cond.instanceMethod yX4_restAfter, Cond.selects RX4 yX4_restAfter yX4_restAfter] : List Cond) ++ (([Cond.code yX4_restAfter cX4_restAfter 4 (some .int), Cond.methodLink RX4 214 yX4_allRestBehind, Cond.instanceMethod yX4_allRestBehind] : List Cond) ++ (([Cond.selects RX4 yX4_allRestBehind yX4_allRestBehind, Cond.code yX4_allRestBehind cX4_allRestBehind 5 (some .boolean), Cond.fieldLink RX4 199 "KeyScanner$Matrix" "first" "LKeyScanner$Net;"] : List Cond) ++ (([Cond.methodLink RX4 242 yX1_seen, Cond.methodLink RX4 246 yX4_rowRests, Cond.instanceMethod yX4_rowRests] : List Cond) ++ (([Cond.selects RX4 yX4_rowRests yX4_rowRests, Cond.code yX4_rowRests cX4_rowRests 4 (some .boolean), Cond.methodLink RL 95 yL_worst] : List Cond) ++ (([Cond.static yL_worst, Cond.code yL_worst cL_worst 7 (some .boolean), Cond.methodLink RL 99 yL_matrix] : List Cond) ++ ([Cond.static yL_matrix, Cond.code yL_matrix cL_matrix 21 (some .boolean), Cond.methodLink RL 9 yX4_connected] : List Cond)))))))), w ∈ lw_tbl from (List.forall_mem_append.mpr ⟨wsL_law_r16_c0, (List.forall_mem_append.mpr ⟨wsL_law_r16_c1, (List.forall_mem_append.mpr ⟨wsL_law_r16_c2, (List.forall_mem_append.mpr ⟨wsL_law_r16_c3, (List.forall_mem_append.mpr ⟨wsL_law_r16_c4, (List.forall_mem_append.mpr ⟨wsL_law_r16_c5, (List.forall_mem_append.mpr ⟨wsL_law_r16_c6, wsL_law_r16_c7⟩)⟩)⟩)⟩)⟩)⟩)⟩)
set_option maxRecDepth 20000 in
theorem wsL_law_r17_in : ∀ w ∈ wsL_law_r17, w ∈ lw_tbl := fun w h => (goodIn_p wsL_law_r17 [434, 438, 441, 445, 451] (by decide +kernel) (by decide +kernel) w h).1
set_option maxRecDepth 20000 in
theorem wsL_law_r18_in : ∀ w ∈ wsL_law_r18, w ∈ lw_tbl := fun w h => (goodIn_p wsL_law_r18 [455, 460] (by decide +kernel) (by decide +kernel) w h).1
set_option maxRecDepth 20000 in
theorem inX4 : ∀ w ∈ wsX40, w ∈ lw_tbl := fun w h => (goodIn_p wsX40 [] (by decide +kernel) (by decide +kernel) w h).1
set_option maxRecDepth 20000 in
theorem inX1 : ∀ w ∈ wsX10, w ∈ lw_tbl := fun w h => (goodIn_p wsX10 [] (by decide +kernel) (by decide +kernel) w h).1
set_option maxRecDepth 20000 in
theorem inX0 : ∀ w ∈ wsX00, w ∈ lw_tbl := fun w h => (goodIn_p wsX00 [] (by decide +kernel) (by decide +kernel) w h).1
set_option maxRecDepth 20000 in
theorem inX3 : ∀ w ∈ wsX30, w ∈ lw_tbl := fun w h => (goodIn_p wsX30 [] (by decide +kernel) (by decide +kernel) w h).1
set_option maxRecDepth 20000 in
theorem inX2 : ∀ w ∈ wsX20, w ∈ lw_tbl := fun w h => (goodIn_p wsX20 [] (by decide +kernel) (by decide +kernel) w h).1
theorem wsL_law_in : ∀ w ∈ wsL_law, w ∈ lw_tbl := by
  show ∀ w ∈ (wsL_law_r1 ++ (wsL_law_r2 ++ (wsL_law_r3 ++ (wsL_law_r4 ++ (wsL_law_r5 ++ (wsL_law_r6 ++ (wsL_law_r7 ++ (wsL_law_r8 ++ (wsL_law_r9 ++ (wsL_law_r10 ++ (wsL_law_r11 ++ (wsL_law_r12 ++ (wsL_law_r13 ++ (wsL_law_r14 ++ (wsL_law_r15 ++ (wsL_law_r16 ++ (wsL_law_r17 ++ wsL_law_r18))))))))))))))))) ++ wsX40 ++ wsX10 ++ wsX00 ++ wsX30 ++ wsX20 ++ ([] : List Cond), w ∈ lw_tbl
  exact List.forall_mem_append.mpr ⟨(List.forall_mem_append.mpr ⟨(List.forall_mem_append.mpr ⟨(List.forall_mem_append.mpr ⟨(List.forall_mem_append.mpr ⟨(List.forall_mem_append.mpr ⟨(List.forall_mem_append.mpr ⟨wsL_law_r1_in, (List.forall_mem_append.mpr ⟨wsL_law_r2_in, (List.forall_mem_append.mpr ⟨wsL_law_r3_in, (List.forall_mem_append.mpr ⟨wsL_law_r4_in, (List.forall_mem_append.mpr ⟨wsL_law_r5_in, (List.forall_mem_append.mpr ⟨wsL_law_r6_in, (List.forall_mem_append.mpr ⟨wsL_law_r7_in, (List.forall_mem_append.mpr ⟨wsL_law_r8_in, (List.forall_mem_append.mpr ⟨wsL_law_r9_in, (List.forall_mem_append.mpr ⟨wsL_law_r10_in, (List.forall_mem_append.mpr ⟨wsL_law_r11_in, (List.forall_mem_append.mpr ⟨wsL_law_r12_in, (List.forall_mem_append.mpr ⟨wsL_law_r13_in, (List.forall_mem_append.mpr ⟨wsL_law_r14_in, (List.forall_mem_append.mpr ⟨wsL_law_r15_in, (List.forall_mem_append.mpr ⟨wsL_law_r16_in, (List.forall_mem_append.mpr ⟨wsL_law_r17_in, wsL_law_r18_in⟩)⟩)⟩)⟩)⟩)⟩)⟩)⟩)⟩)⟩)⟩)⟩)⟩)⟩)⟩)⟩)⟩), inX4⟩), inX1⟩), inX0⟩), inX3⟩), inX2⟩), fun _ h => absurd h List.not_mem_nil⟩
theorem inlX0 : ∀ w ∈ wsX00, w ∈ wsL_law := fun _ h => List.mem_append_left _ (List.mem_append_left _ (List.mem_append_left _ (List.mem_append_right _ h)))
theorem inlX1 : ∀ w ∈ wsX10, w ∈ wsL_law := fun _ h => List.mem_append_left _ (List.mem_append_left _ (List.mem_append_left _ (List.mem_append_left _ (List.mem_append_right _ h))))
theorem inlX2 : ∀ w ∈ wsX20, w ∈ wsL_law := fun _ h => List.mem_append_left _ (List.mem_append_right _ h)
theorem inlX3 : ∀ w ∈ wsX30, w ∈ wsL_law := fun _ h => List.mem_append_left _ (List.mem_append_left _ (List.mem_append_right _ h))
theorem inlX4 : ∀ w ∈ wsX40, w ∈ wsL_law := fun _ h => List.mem_append_left _ (List.mem_append_left _ (List.mem_append_left _ (List.mem_append_left _ (List.mem_append_left _ (List.mem_append_right _ h)))))
