set_option maxHeartbeats 8000000 in
set_option maxRecDepth 100000 in
theorem kL_voices (l : Launch) (D : va_G) (cI cZ : ClassId) (a : KAd) (s : KSt) {R C V N : Nat}  (hI : INV s R C V N) (hN : N ≤ 3000) : xC l yL_voices wsL_voices 4 0 0 90 D cI cZ [.ref (aH a), .int (kRu s), .int (bI (kSus s)), .int (bI (kSos s)), .int (nI (R * C))] (kW cI cZ a s) (fun v8 w8 => v8 = some (.int (bI true)) ∧ w8 = kW cI cZ a s) := by
  refine xC.of (bytes := cL_voices) (maxL := 19) (ret := (some .boolean)) (own := RL) (by decide +kernel) rfl (Nat.le_of_ble_eq_true rfl) rfl ?_
  intro p9 e9 s9 m9 args9 below9 meth9 cd9 A hE hr hin2 hA9
  have hok := hI.ok (by omega)
  obtain ⟨hRC, hRC1⟩ := hI.rc
  obtain ⟨hR, hC, hV, hpos⟩ : (1 ≤ R ∧ R ≤ 8) ∧ (1 ≤ C ∧ C ≤ 8) ∧ (1 ≤ V ∧ V ≤ 8) ∧ ∀ k, kpos s k ≤ 2 := ⟨hok.2.2.2.1, hok.2.2.2.2.1, hok.2.2.2.2.2.1, hok.2.2.2.2.2.2.1⟩
  have hvi := hI.vi
  have hct6 := snd_ct (kst s) V
  have hct7 := isN_ct (kst s) (nI 2) V
  have hTk := hok.2.2.2.2.2.2.2.2.2.2.2.1
  have hmk9 := hok.2.2.2.2.2.2.2.2.2.2.2.2
  have sg140 : ∀ (i : Nat) (u6 : Nat) (u7 : Nat) (u8 : Nat) (x9 : Int32) (x10 : Int32) (us : Int64) (b9 : Nat) (b10 : Nat) (ky : Nat) (sx : Nat) (hi : i < V) (c57 : ¬ kst s i = nI 0) (hky : ky < R * C) (eky : kkk s i = nI ky) (hsx : 1 ≤ sx ∧ sx ≤ 127) (hus : ∀ k, k < 64 → ((lg_cmp ((us >>> ((nI k).toInt64 &&& 63)) &&& 1) 1) = nI 0 ↔ ∃ v, v < i ∧ ¬ kst s v = nI 0 ∧ kkk s v = nI k)) (hx : X p9 l e9 { frames := 4, cells := 0, slots := 0, locals := 90 } s9 m9 args9 below9 meth9 cd9 0 0 (MQ below9 (xQ D (fun v8 w8 => v8 = some (.int (bI true)) ∧ w8 = kW cI cZ a s) A) args9 s9 0 0 A) 19 D A (kW cI cZ a s) [(0, .ref (aH a)), (1, .int (kRu s)), (2, .int (bI (kSus s))), (3, .int (bI (kSos s))), (4, .int (nI (R * C))), (5, .int (nI V)), (6, .int (nI u6)), (7, .int (nI u7)), (8, .int (nI u8)), (9, .int x9), (10, .int x10), (11, .long us), (13, .int (nI i)), (14, .int (kst s i)), (15, .int (nI (b2n (kca s i)))), (16, .int (nI ky)), (17, .int (nI sx))] 231 []), X p9 l e9 { frames := 4, cells := 0, slots := 0, locals := 90 } s9 m9 args9 below9 meth9 cd9 0 0 (MQ below9 (xQ D (fun v8 w8 => v8 = some (.int (bI true)) ∧ w8 = kW cI cZ a s) A) args9 s9 0 0 A) 19 D A (kW cI cZ a s) [(0, .ref (aH a)), (1, .int (kRu s)), (2, .int (bI (kSus s))), (3, .int (bI (kSos s))), (4, .int (nI (R * C))), (5, .int (nI V)), (6, .int (nI u6)), (7, .int (nI u7)), (8, .int (nI u8)), (9, .int x9), (10, .int x10), (11, .long us), (13, .int (nI i)), (14, .int (kst s i)), (15, .int (nI (b2n (kca s i)))), (16, .int (nI ky)), (17, .int (nI sx))] 140 [] := by
    intro i u6 u7 u8 x9 x10 us b9 b10 ky sx hi c57 hky eky hsx hus hx
    refine x_iload hE 15 rfl dL_voices_140 ?_
    refine xn_if_lt hE (by omega) 229 (by decide) dL_voices_142 (fun c142 => ?_) (fun c142 => ?_)
    · skip
      exact absurd c142 (Nat.not_lt_zero _)
    · skip
      refine x_iload hE 15 rfl dL_voices_145 ?_
      refine x_iload hE 4 rfl dL_voices_147 ?_
      refine xn_icmp_ge hE (by omega) (by omega) 229 (by decide) dL_voices_149 (fun c149 => ?_) (fun c149 => ?_)
      · skip
        exact absurd hky c149
      · skip
        refine x_lload hE 11 rfl dL_voices_152 ?_
        refine x_iload hE 15 rfl dL_voices_154 ?_
        refine x_lshr hE (us >>> ((nI ky).toInt64 &&& 63)) rfl dL_voices_156 ?_
        refine x_lconst hE 1 rfl dL_voices_157 ?_
        refine x_land hE ((us >>> ((nI ky).toInt64 &&& 63)) &&& 1) rfl dL_voices_158 ?_
        refine x_lconst hE 1 rfl dL_voices_159 ?_
        refine x_lcmp hE (lg_cmp ((us >>> ((nI ky).toInt64 &&& 63)) &&& 1) 1) rfl dL_voices_160 ?_
        refine x_if_eq hE 229 (by decide) dL_voices_161 (fun c161 => ?_) (fun c161 => ?_)
        · skip
          exact absurd c161 (us_no hvi hi c57 eky (by omega) hus)
        · skip
          refine x_aload_n hE 0 rfl dL_voices_164 ?_
          refine x_iload hE 15 rfl dL_voices_165 ?_
          refine x_iconst hE (nI 3) (by decide) dL_voices_167 ?_
          refine x_callK (n := 2) (st := []) hE (ck_key_3 l D cI cZ a s hok ky (by omega)) gL_voices_X4_key rfl rfl (by decide +kernel) ⟨by decide, by decide⟩ ⟨by decide, by decide⟩ rfl rfl (Nat.le_of_ble_eq_true rfl) dL_voices_168 (fun v9 w9 hT9 => ?_)
          obtain ⟨rfl, rfl⟩ := hT9
          refine x_at (ws' := (kW cI cZ a s)) (st' := [.int (rV (findN (wkP (kst s) (kkk s) (nI ky)) 0 V) V)]) rfl rfl ?_
          refine x_iload hE 12 rfl dL_voices_171 ?_
          refine x_icmp_ne hE 229 (by decide) dL_voices_173 (fun c173 => ?_) (fun c173 => ?_)
          · skip
            exact absurd (vk_find hvi hi c57 eky) c173
          · skip
            refine x_iload hE 16 rfl dL_voices_176 ?_
            refine x_iconst hE (nI 1) (by decide) dL_voices_178 ?_
            refine xn_icmp_lt hE (by omega) (by decide) 229 (by decide) dL_voices_179 (fun c179 => ?_) (fun c179 => ?_)
            · skip
              exact absurd c179 (by omega)
            · skip
              refine x_iload hE 16 rfl dL_voices_182 ?_
              refine x_bipush hE (nI 127) (by decide) dL_voices_184 ?_
              refine xn_icmp_gt hE (by omega) (by decide) 229 (by decide) dL_voices_186 (fun c186 => ?_) (fun c186 => ?_)
              · skip
                exact absurd c186 (by omega)
              · skip
                refine x_aload_n hE 0 rfl dL_voices_189 ?_
                refine x_iload hE 12 rfl dL_voices_190 ?_
                refine x_iconst hE (nI 3) (by decide) dL_voices_192 ?_
                refine x_callK (n := 2) (st := []) hE (ck_voice_3 l D cI cZ a s hok i (by omega)) gL_voices_X4_voice rfl rfl (by decide +kernel) ⟨by decide, by decide⟩ ⟨by decide, by decide⟩ rfl rfl (Nat.le_of_ble_eq_true rfl) dL_voices_193 (fun v9 w9 hT9 => ?_)
                obtain ⟨rfl, rfl⟩ := hT9
                refine x_at (ws' := (kW cI cZ a s)) (st' := [.int (if kst s i = nI 0 then (-3) else ksi s i)]) rfl rfl ?_
                refine x_eq (ksi s i) (if_neg c57) ?_
                obtain ⟨-, -, -, ⟨tx, htx, etx⟩⟩ := hvi.2.1 i c57
                refine x_eq (nI tx) etx ?_
                refine x_aload_n hE 0 rfl dL_voices_196 ?_
                refine x_iconst hE (nI 0) (by decide) dL_voices_197 ?_
                refine x_callK (n := 1) (st := [.int (nI tx)]) hE (ck_count_0 l D cI cZ a s hok  ) gL_voices_X4_count rfl rfl (by decide +kernel) ⟨by decide, by decide⟩ ⟨by decide, by decide⟩ rfl rfl (Nat.le_of_ble_eq_true rfl) dL_voices_198 (fun v9 w9 hT9 => ?_)
                obtain ⟨rfl, rfl⟩ := hT9
                refine x_at (ws' := (kW cI cZ a s)) (st' := [.int (nI (kT s)), .int (nI tx)]) rfl rfl ?_
                refine xn_icmp_ge hE (by omega) (by omega) 229 (by decide) dL_voices_201 (fun c201 => ?_) (fun c201 => ?_)
                · skip
                  exact absurd htx c201
                · skip
                  refine x_iload hE 14 rfl dL_voices_204 ?_
                  refine x_iconst hE (nI 1) (by decide) dL_voices_206 ?_
                  refine xn_icmp_ne hE (b2n_lt _) (by decide) 214 (by decide) dL_voices_207 (fun c207 => ?_) (fun c207 => ?_)
                  · skip
                    refine x_iload hE 13 rfl dL_voices_214 ?_
                    refine x_iconst hE (nI 2) (by decide) dL_voices_216 ?_
                    refine x_icmp_ne hE 231 (by decide) dL_voices_217 (fun c217 => ?_) (fun c217 => ?_)
                    · skip
                      exact hx
                    · skip
                      refine x_iload_n hE 2 rfl dL_voices_220 ?_
                      refine xb_if_ne hE 231 (by decide) dL_voices_221 (fun c221 => ?_) (fun c221 => ?_)
                      · skip
                        exact hx
                      · skip
                        refine x_iload hE 14 rfl dL_voices_224 ?_
                        refine xn_if_ne hE (b2n_lt _) 231 (by decide) dL_voices_226 (fun c226 => ?_) (fun c226 => ?_)
                        · skip
                          exact hx
                        · skip
                          exact vi_kept hvi c217 c221 (b2n_0 c226)
                  · skip
                    refine x_iload_n hE 3 rfl dL_voices_210 ?_
                    refine xb_if_eq hE 229 (by decide) dL_voices_211 (fun c211 => ?_) (fun c211 => ?_)
                    · skip
                      exact absurd (hvi.2.2.2.2 i (b2n_1 c207)) (by rw [c211]; decide)
                    · skip
                      refine x_iload hE 13 rfl dL_voices_214 ?_
                      refine x_iconst hE (nI 2) (by decide) dL_voices_216 ?_
                      refine x_icmp_ne hE 231 (by decide) dL_voices_217 (fun c217 => ?_) (fun c217 => ?_)
                      · skip
                        exact hx
                      · skip
                        refine x_iload_n hE 2 rfl dL_voices_220 ?_
                        refine xb_if_ne hE 231 (by decide) dL_voices_221 (fun c221 => ?_) (fun c221 => ?_)
                        · skip
                          exact hx
                        · skip
                          refine x_iload hE 14 rfl dL_voices_224 ?_
                          refine xn_if_ne hE (b2n_lt _) 231 (by decide) dL_voices_226 (fun c226 => ?_) (fun c226 => ?_)
                          · skip
                            exact hx
                          · skip
                            exact vi_kept hvi c217 c221 (b2n_0 c226)
  have sg240 : ∀ (i : Nat) (u6 : Nat) (u7 : Nat) (u8 : Nat) (x9 : Int32) (x10 : Int32) (us : Int64) (b9 : Nat) (b10 : Nat) (ky : Nat) (sx : Nat) (hi : i < V) (c57 : ¬ kst s i = nI 0) (esx : kve s i = nI sx) (hsx : 1 ≤ sx ∧ sx ≤ 127) (hx9 : x9 = rV b9 V) (hb9s : b9 < V → ¬ kst s b9 = nI 0) (hx : X p9 l e9 { frames := 4, cells := 0, slots := 0, locals := 90 } s9 m9 args9 below9 meth9 cd9 0 0 (MQ below9 (xQ D (fun v8 w8 => v8 = some (.int (bI true)) ∧ w8 = kW cI cZ a s) A) args9 s9 0 0 A) 19 D A (kW cI cZ a s) [(0, .ref (aH a)), (1, .int (kRu s)), (2, .int (bI (kSus s))), (3, .int (bI (kSos s))), (4, .int (nI (R * C))), (5, .int (nI V)), (6, .int (nI u6)), (7, .int (nI u7)), (8, .int (nI u8)), (9, .int x9), (10, .int x10), (11, .long us), (13, .int (nI i)), (14, .int (kst s i)), (16, .int (nI ky)), (17, .int (nI sx))] 315 [.int (rV (bstS s V i b9) V)]), X p9 l e9 { frames := 4, cells := 0, slots := 0, locals := 90 } s9 m9 args9 below9 meth9 cd9 0 0 (MQ below9 (xQ D (fun v8 w8 => v8 = some (.int (bI true)) ∧ w8 = kW cI cZ a s) A) args9 s9 0 0 A) 19 D A (kW cI cZ a s) [(0, .ref (aH a)), (1, .int (kRu s)), (2, .int (bI (kSus s))), (3, .int (bI (kSos s))), (4, .int (nI (R * C))), (5, .int (nI V)), (6, .int (nI u6)), (7, .int (nI u7)), (8, .int (nI u8)), (9, .int x9), (10, .int x10), (11, .long us), (13, .int (nI i)), (14, .int (kst s i)), (16, .int (nI ky)), (17, .int (nI sx))] 240 [] := by
    intro i u6 u7 u8 x9 x10 us b9 b10 ky sx hi c57 esx hsx hx9 hb9s hx
    refine x_iload hE 9 rfl dL_voices_240 ?_
    refine x_if_lt hE 296 (by decide) dL_voices_242 (fun c242 => ?_) (fun c242 => ?_)
    · skip
      refine x_iconst hE (nI 1) (by decide) dL_voices_296 ?_
      refine x_goto hE 301 (by decide) dL_voices_297 ?_
      refine x_istore hE [(18, .int (nI 1)), (0, .ref (aH a)), (1, .int (kRu s)), (2, .int (bI (kSus s))), (3, .int (bI (kSos s))), (4, .int (nI (R * C))), (5, .int (nI V)), (6, .int (nI u6)), (7, .int (nI u7)), (8, .int (nI u8)), (9, .int x9), (10, .int x10), (11, .long us), (13, .int (nI i)), (14, .int (kst s i)), (16, .int (nI ky)), (17, .int (nI sx))] (by decide) rfl dL_voices_301 ?_
      refine x_iload hE 0 rfl dL_voices_303 ?_
      refine xn_if_eq hE (by decide) 313 (by decide) dL_voices_305 (fun c305 => ?_) (fun c305 => ?_)
      · skip
        exact absurd c305 (by decide)
      · skip
        refine x_iload hE 13 rfl dL_voices_308 ?_
        refine x_goto hE 315 (by decide) dL_voices_310 ?_
        refine x_lv [(0, .ref (aH a)), (1, .int (kRu s)), (2, .int (bI (kSus s))), (3, .int (bI (kSos s))), (4, .int (nI (R * C))), (5, .int (nI V)), (6, .int (nI u6)), (7, .int (nI u7)), (8, .int (nI u8)), (9, .int x9), (10, .int x10), (11, .long us), (13, .int (nI i)), (14, .int (kst s i)), (16, .int (nI ky)), (17, .int (nI sx))] [1, 2, 3, 4, 5, 6, 7, 8, 9, 10, 11, 12, 13, 14, 15, 16] rfl ?_
        refine x_eq (rV (bstS s V i b9) V) ((bst_new hi c57 (fun hb9 => (by first | exact absurd c242 (hx9 ▸ not_rV (by omega) hb9) | exact wkB_lt c247 (esx.symm ▸ c259) | (unfold wkB; rw [esx]; simp only [if_pos c242, if_neg c305, reduceIte, Bool.false_eq_true, Bool.true_eq_false])))).symm) ?_
        exact hx
    · skip
      have hb9 : b9 < V := rV_ge (by omega) (hx9 ▸ c242)
      have hx9n : b9 < V ∧ x9 = nI b9 := ⟨hb9, by rw [hx9, rV_some hb9]⟩
      refine x_iload_n hE 1 rfl dL_voices_245 ?_
      refine x_iconst hE (nI 1) (by decide) dL_voices_246 ?_
      refine x_icmp_ne hE 262 (by decide) dL_voices_247 (fun c247 => ?_) (fun c247 => ?_)
      · skip
        refine x_iload_n hE 1 rfl dL_voices_262 ?_
        refine x_iconst hE (nI 1) (by decide) dL_voices_263 ?_
        refine x_icmp_ne hE 279 (by decide) dL_voices_264 (fun c264 => ?_) (fun c264 => ?_)
        · skip
          refine x_aload_n hE 0 rfl dL_voices_279 ?_
          refine x_iload hE 12 rfl dL_voices_280 ?_
          refine x_iconst hE (nI 3) (by decide) dL_voices_282 ?_
          refine x_callK (n := 2) (st := []) hE (ck_voice_3 l D cI cZ a s hok i (by omega)) gL_voices_X4_voice rfl rfl (by decide +kernel) ⟨by decide, by decide⟩ ⟨by decide, by decide⟩ rfl rfl (Nat.le_of_ble_eq_true rfl) dL_voices_283 (fun v9 w9 hT9 => ?_)
          obtain ⟨rfl, rfl⟩ := hT9
          refine x_at (ws' := (kW cI cZ a s)) (st' := [.int (if kst s i = nI 0 then (-3) else ksi s i)]) rfl rfl ?_
          refine x_eq (ksi s i) (if_neg c57) ?_
          refine x_aload_n hE 0 rfl dL_voices_286 ?_
          refine x_iload hE 9 rfl dL_voices_287 ?_
          refine x_eq (nI b9) hx9n.2 ?_
          refine x_iconst hE (nI 3) (by decide) dL_voices_289 ?_
          refine x_callK (n := 2) (st := [.int (ksi s i)]) hE (ck_voice_3 l D cI cZ a s hok b9 (by omega)) gL_voices_X4_voice rfl rfl (by decide +kernel) ⟨by decide, by decide⟩ ⟨by decide, by decide⟩ rfl rfl (Nat.le_of_ble_eq_true rfl) dL_voices_290 (fun v9 w9 hT9 => ?_)
          obtain ⟨rfl, rfl⟩ := hT9
          refine x_at (ws' := (kW cI cZ a s)) (st' := [.int (if kst s b9 = nI 0 then (-3) else ksi s b9), .int (ksi s i)]) rfl rfl ?_
          refine x_eq (ksi s b9) (if_neg (hb9s hb9)) ?_
          refine x_icmp_ge hE 300 (by decide) dL_voices_293 (fun c293 => ?_) (fun c293 => ?_)
          · skip
            refine x_iconst hE (nI 0) (by decide) dL_voices_300 ?_
            refine x_istore hE [(18, .int (nI 0)), (0, .ref (aH a)), (1, .int (kRu s)), (2, .int (bI (kSus s))), (3, .int (bI (kSos s))), (4, .int (nI (R * C))), (5, .int (nI V)), (6, .int (nI u6)), (7, .int (nI u7)), (8, .int (nI u8)), (9, .int x9), (10, .int x10), (11, .long us), (13, .int (nI i)), (14, .int (kst s i)), (16, .int (nI ky)), (17, .int (nI sx))] (by decide) rfl dL_voices_301 ?_
            refine x_iload hE 0 rfl dL_voices_303 ?_
            refine xn_if_eq hE (by decide) 313 (by decide) dL_voices_305 (fun c305 => ?_) (fun c305 => ?_)
            · skip
              refine x_iload hE 10 rfl dL_voices_313 ?_
              refine x_lv [(0, .ref (aH a)), (1, .int (kRu s)), (2, .int (bI (kSus s))), (3, .int (bI (kSos s))), (4, .int (nI (R * C))), (5, .int (nI V)), (6, .int (nI u6)), (7, .int (nI u7)), (8, .int (nI u8)), (9, .int x9), (10, .int x10), (11, .long us), (13, .int (nI i)), (14, .int (kst s i)), (16, .int (nI ky)), (17, .int (nI sx))] [1, 2, 3, 4, 5, 6, 7, 8, 9, 10, 11, 12, 13, 14, 15, 16] rfl ?_
              refine x_eq (rV (bstS s V i b9) V) (by rw [bst_old hb9 c57 (by unfold wkB; rw [esx]; simp only [if_neg c242, if_neg c247, if_neg c264, if_neg c293, if_pos c305, reduceIte, Bool.false_eq_true, Bool.true_eq_false])]; exact hx9) ?_
              exact hx
            · skip
              exact absurd (by decide) c305
          · skip
            refine x_iconst hE (nI 1) (by decide) dL_voices_296 ?_
            refine x_goto hE 301 (by decide) dL_voices_297 ?_
            refine x_istore hE [(18, .int (nI 1)), (0, .ref (aH a)), (1, .int (kRu s)), (2, .int (bI (kSus s))), (3, .int (bI (kSos s))), (4, .int (nI (R * C))), (5, .int (nI V)), (6, .int (nI u6)), (7, .int (nI u7)), (8, .int (nI u8)), (9, .int x9), (10, .int x10), (11, .long us), (13, .int (nI i)), (14, .int (kst s i)), (16, .int (nI ky)), (17, .int (nI sx))] (by decide) rfl dL_voices_301 ?_
            refine x_iload hE 0 rfl dL_voices_303 ?_
            refine xn_if_eq hE (by decide) 313 (by decide) dL_voices_305 (fun c305 => ?_) (fun c305 => ?_)
            · skip
              exact absurd c305 (by decide)
            · skip
              refine x_iload hE 13 rfl dL_voices_308 ?_
              refine x_goto hE 315 (by decide) dL_voices_310 ?_
              refine x_lv [(0, .ref (aH a)), (1, .int (kRu s)), (2, .int (bI (kSus s))), (3, .int (bI (kSos s))), (4, .int (nI (R * C))), (5, .int (nI V)), (6, .int (nI u6)), (7, .int (nI u7)), (8, .int (nI u8)), (9, .int x9), (10, .int x10), (11, .long us), (13, .int (nI i)), (14, .int (kst s i)), (16, .int (nI ky)), (17, .int (nI sx))] [1, 2, 3, 4, 5, 6, 7, 8, 9, 10, 11, 12, 13, 14, 15, 16] rfl ?_
              refine x_eq (rV (bstS s V i b9) V) ((bst_new hi c57 (fun hb9 => (by first | exact absurd c242 (hx9 ▸ not_rV (by omega) hb9) | exact wkB_lt c247 (esx.symm ▸ c259) | (unfold wkB; rw [esx]; simp only [if_neg c242, if_neg c247, if_neg c264, if_pos c293, if_neg c305, reduceIte, Bool.false_eq_true, Bool.true_eq_false])))).symm) ?_
              exact hx
        · skip
          exact absurd c264 c247
      · skip
        refine x_iload hE 15 rfl dL_voices_250 ?_
        refine x_aload_n hE 0 rfl dL_voices_252 ?_
        refine x_iload hE 9 rfl dL_voices_253 ?_
        refine x_eq (nI b9) hx9n.2 ?_
        refine x_iconst hE (nI 2) (by decide) dL_voices_255 ?_
        refine x_callK (n := 2) (st := [.int (nI sx)]) hE (ck_voice_2 l D cI cZ a s hok b9 (by omega)) gL_voices_X4_voice rfl rfl (by decide +kernel) ⟨by decide, by decide⟩ ⟨by decide, by decide⟩ rfl rfl (Nat.le_of_ble_eq_true rfl) dL_voices_256 (fun v9 w9 hT9 => ?_)
        obtain ⟨rfl, rfl⟩ := hT9
        refine x_at (ws' := (kW cI cZ a s)) (st' := [.int (if kst s b9 = nI 0 then (-3) else kve s b9), .int (nI sx)]) rfl rfl ?_
        refine x_eq (kve s b9) (if_neg (hb9s hb9)) ?_
        refine x_icmp_lt hE 296 (by decide) dL_voices_259 (fun c259 => ?_) (fun c259 => ?_)
        · skip
          refine x_iconst hE (nI 1) (by decide) dL_voices_296 ?_
          refine x_goto hE 301 (by decide) dL_voices_297 ?_
          refine x_istore hE [(18, .int (nI 1)), (0, .ref (aH a)), (1, .int (kRu s)), (2, .int (bI (kSus s))), (3, .int (bI (kSos s))), (4, .int (nI (R * C))), (5, .int (nI V)), (6, .int (nI u6)), (7, .int (nI u7)), (8, .int (nI u8)), (9, .int x9), (10, .int x10), (11, .long us), (13, .int (nI i)), (14, .int (kst s i)), (16, .int (nI ky)), (17, .int (nI sx))] (by decide) rfl dL_voices_301 ?_
          refine x_iload hE 0 rfl dL_voices_303 ?_
          refine xn_if_eq hE (by decide) 313 (by decide) dL_voices_305 (fun c305 => ?_) (fun c305 => ?_)
          · skip
            exact absurd c305 (by decide)
          · skip
            refine x_iload hE 13 rfl dL_voices_308 ?_
            refine x_goto hE 315 (by decide) dL_voices_310 ?_
            refine x_lv [(0, .ref (aH a)), (1, .int (kRu s)), (2, .int (bI (kSus s))), (3, .int (bI (kSos s))), (4, .int (nI (R * C))), (5, .int (nI V)), (6, .int (nI u6)), (7, .int (nI u7)), (8, .int (nI u8)), (9, .int x9), (10, .int x10), (11, .long us), (13, .int (nI i)), (14, .int (kst s i)), (16, .int (nI ky)), (17, .int (nI sx))] [1, 2, 3, 4, 5, 6, 7, 8, 9, 10, 11, 12, 13, 14, 15, 16] rfl ?_
            refine x_eq (rV (bstS s V i b9) V) ((bst_new hi c57 (fun hb9 => (by first | exact absurd c242 (hx9 ▸ not_rV (by omega) hb9) | exact wkB_lt c247 (esx.symm ▸ c259) | (unfold wkB; rw [esx]; simp only [if_neg c242, if_pos c247, if_pos c259, if_neg c305, reduceIte, Bool.false_eq_true, Bool.true_eq_false])))).symm) ?_
            exact hx
        · skip
          refine x_iload_n hE 1 rfl dL_voices_262 ?_
          refine x_iconst hE (nI 1) (by decide) dL_voices_263 ?_
          refine x_icmp_ne hE 279 (by decide) dL_voices_264 (fun c264 => ?_) (fun c264 => ?_)
          · skip
            exact absurd c247 c264
          · skip
            refine x_iload hE 15 rfl dL_voices_267 ?_
            refine x_aload_n hE 0 rfl dL_voices_269 ?_
            refine x_iload hE 9 rfl dL_voices_270 ?_
            refine x_eq (nI b9) hx9n.2 ?_
            refine x_iconst hE (nI 2) (by decide) dL_voices_272 ?_
            refine x_callK (n := 2) (st := [.int (nI sx)]) hE (ck_voice_2 l D cI cZ a s hok b9 (by omega)) gL_voices_X4_voice rfl rfl (by decide +kernel) ⟨by decide, by decide⟩ ⟨by decide, by decide⟩ rfl rfl (Nat.le_of_ble_eq_true rfl) dL_voices_273 (fun v9 w9 hT9 => ?_)
            obtain ⟨rfl, rfl⟩ := hT9
            refine x_at (ws' := (kW cI cZ a s)) (st' := [.int (if kst s b9 = nI 0 then (-3) else kve s b9), .int (nI sx)]) rfl rfl ?_
            refine x_eq (kve s b9) (if_neg (hb9s hb9)) ?_
            refine x_icmp_ne hE 300 (by decide) dL_voices_276 (fun c276 => ?_) (fun c276 => ?_)
            · skip
              refine x_iconst hE (nI 0) (by decide) dL_voices_300 ?_
              refine x_istore hE [(18, .int (nI 0)), (0, .ref (aH a)), (1, .int (kRu s)), (2, .int (bI (kSus s))), (3, .int (bI (kSos s))), (4, .int (nI (R * C))), (5, .int (nI V)), (6, .int (nI u6)), (7, .int (nI u7)), (8, .int (nI u8)), (9, .int x9), (10, .int x10), (11, .long us), (13, .int (nI i)), (14, .int (kst s i)), (16, .int (nI ky)), (17, .int (nI sx))] (by decide) rfl dL_voices_301 ?_
              refine x_iload hE 0 rfl dL_voices_303 ?_
              refine xn_if_eq hE (by decide) 313 (by decide) dL_voices_305 (fun c305 => ?_) (fun c305 => ?_)
              · skip
                refine x_iload hE 10 rfl dL_voices_313 ?_
                refine x_lv [(0, .ref (aH a)), (1, .int (kRu s)), (2, .int (bI (kSus s))), (3, .int (bI (kSos s))), (4, .int (nI (R * C))), (5, .int (nI V)), (6, .int (nI u6)), (7, .int (nI u7)), (8, .int (nI u8)), (9, .int x9), (10, .int x10), (11, .long us), (13, .int (nI i)), (14, .int (kst s i)), (16, .int (nI ky)), (17, .int (nI sx))] [1, 2, 3, 4, 5, 6, 7, 8, 9, 10, 11, 12, 13, 14, 15, 16] rfl ?_
                refine x_eq (rV (bstS s V i b9) V) (by rw [bst_old hb9 c57 (by unfold wkB; rw [esx]; simp only [if_neg c242, if_pos c247, if_neg c259, if_pos c264, if_neg c276, if_pos c305, reduceIte, Bool.false_eq_true, Bool.true_eq_false])]; exact hx9) ?_
                exact hx
              · skip
                exact absurd (by decide) c305
            · skip
              refine x_aload_n hE 0 rfl dL_voices_279 ?_
              refine x_iload hE 12 rfl dL_voices_280 ?_
              refine x_iconst hE (nI 3) (by decide) dL_voices_282 ?_
              refine x_callK (n := 2) (st := []) hE (ck_voice_3 l D cI cZ a s hok i (by omega)) gL_voices_X4_voice rfl rfl (by decide +kernel) ⟨by decide, by decide⟩ ⟨by decide, by decide⟩ rfl rfl (Nat.le_of_ble_eq_true rfl) dL_voices_283 (fun v9 w9 hT9 => ?_)
              obtain ⟨rfl, rfl⟩ := hT9
              refine x_at (ws' := (kW cI cZ a s)) (st' := [.int (if kst s i = nI 0 then (-3) else ksi s i)]) rfl rfl ?_
              refine x_eq (ksi s i) (if_neg c57) ?_
              refine x_aload_n hE 0 rfl dL_voices_286 ?_
              refine x_iload hE 9 rfl dL_voices_287 ?_
              refine x_eq (nI b9) hx9n.2 ?_
              refine x_iconst hE (nI 3) (by decide) dL_voices_289 ?_
              refine x_callK (n := 2) (st := [.int (ksi s i)]) hE (ck_voice_3 l D cI cZ a s hok b9 (by omega)) gL_voices_X4_voice rfl rfl (by decide +kernel) ⟨by decide, by decide⟩ ⟨by decide, by decide⟩ rfl rfl (Nat.le_of_ble_eq_true rfl) dL_voices_290 (fun v9 w9 hT9 => ?_)
              obtain ⟨rfl, rfl⟩ := hT9
              refine x_at (ws' := (kW cI cZ a s)) (st' := [.int (if kst s b9 = nI 0 then (-3) else ksi s b9), .int (ksi s i)]) rfl rfl ?_
              refine x_eq (ksi s b9) (if_neg (hb9s hb9)) ?_
              refine x_icmp_ge hE 300 (by decide) dL_voices_293 (fun c293 => ?_) (fun c293 => ?_)
              · skip
                refine x_iconst hE (nI 0) (by decide) dL_voices_300 ?_
                refine x_istore hE [(18, .int (nI 0)), (0, .ref (aH a)), (1, .int (kRu s)), (2, .int (bI (kSus s))), (3, .int (bI (kSos s))), (4, .int (nI (R * C))), (5, .int (nI V)), (6, .int (nI u6)), (7, .int (nI u7)), (8, .int (nI u8)), (9, .int x9), (10, .int x10), (11, .long us), (13, .int (nI i)), (14, .int (kst s i)), (16, .int (nI ky)), (17, .int (nI sx))] (by decide) rfl dL_voices_301 ?_
                refine x_iload hE 0 rfl dL_voices_303 ?_
                refine xn_if_eq hE (by decide) 313 (by decide) dL_voices_305 (fun c305 => ?_) (fun c305 => ?_)
                · skip
                  refine x_iload hE 10 rfl dL_voices_313 ?_
                  refine x_lv [(0, .ref (aH a)), (1, .int (kRu s)), (2, .int (bI (kSus s))), (3, .int (bI (kSos s))), (4, .int (nI (R * C))), (5, .int (nI V)), (6, .int (nI u6)), (7, .int (nI u7)), (8, .int (nI u8)), (9, .int x9), (10, .int x10), (11, .long us), (13, .int (nI i)), (14, .int (kst s i)), (16, .int (nI ky)), (17, .int (nI sx))] [1, 2, 3, 4, 5, 6, 7, 8, 9, 10, 11, 12, 13, 14, 15, 16] rfl ?_
                  refine x_eq (rV (bstS s V i b9) V) (by rw [bst_old hb9 c57 (by unfold wkB; rw [esx]; simp only [if_neg c242, if_pos c247, if_neg c259, if_pos c264, if_pos c276, if_neg c293, if_pos c305, reduceIte, Bool.false_eq_true, Bool.true_eq_false])]; exact hx9) ?_
                  exact hx
                · skip
                  exact absurd (by decide) c305
              · skip
                refine x_iconst hE (nI 1) (by decide) dL_voices_296 ?_
                refine x_goto hE 301 (by decide) dL_voices_297 ?_
                refine x_istore hE [(18, .int (nI 1)), (0, .ref (aH a)), (1, .int (kRu s)), (2, .int (bI (kSus s))), (3, .int (bI (kSos s))), (4, .int (nI (R * C))), (5, .int (nI V)), (6, .int (nI u6)), (7, .int (nI u7)), (8, .int (nI u8)), (9, .int x9), (10, .int x10), (11, .long us), (13, .int (nI i)), (14, .int (kst s i)), (16, .int (nI ky)), (17, .int (nI sx))] (by decide) rfl dL_voices_301 ?_
                refine x_iload hE 0 rfl dL_voices_303 ?_
                refine xn_if_eq hE (by decide) 313 (by decide) dL_voices_305 (fun c305 => ?_) (fun c305 => ?_)
                · skip
                  exact absurd c305 (by decide)
                · skip
                  refine x_iload hE 13 rfl dL_voices_308 ?_
                  refine x_goto hE 315 (by decide) dL_voices_310 ?_
                  refine x_lv [(0, .ref (aH a)), (1, .int (kRu s)), (2, .int (bI (kSus s))), (3, .int (bI (kSos s))), (4, .int (nI (R * C))), (5, .int (nI V)), (6, .int (nI u6)), (7, .int (nI u7)), (8, .int (nI u8)), (9, .int x9), (10, .int x10), (11, .long us), (13, .int (nI i)), (14, .int (kst s i)), (16, .int (nI ky)), (17, .int (nI sx))] [1, 2, 3, 4, 5, 6, 7, 8, 9, 10, 11, 12, 13, 14, 15, 16] rfl ?_
                  refine x_eq (rV (bstS s V i b9) V) ((bst_new hi c57 (fun hb9 => (by first | exact absurd c242 (hx9 ▸ not_rV (by omega) hb9) | exact wkB_lt c247 (esx.symm ▸ c259) | (unfold wkB; rw [esx]; simp only [if_neg c242, if_pos c247, if_neg c259, if_pos c264, if_pos c276, if_pos c293, if_neg c305, reduceIte, Bool.false_eq_true, Bool.true_eq_false])))).symm) ?_
                  exact hx
  have sg317 : ∀ (i : Nat) (u6 : Nat) (u7 : Nat) (u8 : Nat) (x9 : Int32) (x10 : Int32) (us : Int64) (b9 : Nat) (b10 : Nat) (hi : i < V) (c57 : ¬ kst s i = nI 0) (hx10 : x10 = rV b10 V) (hb10s : b10 < V → ¬ kst s b10 = nI 0) (hx : X p9 l e9 { frames := 4, cells := 0, slots := 0, locals := 90 } s9 m9 args9 below9 meth9 cd9 0 0 (MQ below9 (xQ D (fun v8 w8 => v8 = some (.int (bI true)) ∧ w8 = kW cI cZ a s) A) args9 s9 0 0 A) 19 D A (kW cI cZ a s) [(0, .ref (aH a)), (1, .int (kRu s)), (2, .int (bI (kSus s))), (3, .int (bI (kSos s))), (4, .int (nI (R * C))), (5, .int (nI V)), (6, .int (nI u6)), (7, .int (nI u7)), (8, .int (nI u8)), (9, .int (rV (bstS s V i b9) V)), (10, .int x10), (11, .long us), (13, .int (nI i)), (14, .int (kst s i))] 352 [.int (rV (kepS s V i b10) V)]), X p9 l e9 { frames := 4, cells := 0, slots := 0, locals := 90 } s9 m9 args9 below9 meth9 cd9 0 0 (MQ below9 (xQ D (fun v8 w8 => v8 = some (.int (bI true)) ∧ w8 = kW cI cZ a s) A) args9 s9 0 0 A) 19 D A (kW cI cZ a s) [(0, .ref (aH a)), (1, .int (kRu s)), (2, .int (bI (kSus s))), (3, .int (bI (kSos s))), (4, .int (nI (R * C))), (5, .int (nI V)), (6, .int (nI u6)), (7, .int (nI u7)), (8, .int (nI u8)), (9, .int (rV (bstS s V i b9) V)), (10, .int x10), (11, .long us), (13, .int (nI i)), (14, .int (kst s i))] 317 [] := by
    intro i u6 u7 u8 x9 x10 us b9 b10 hi c57 hx10 hb10s hx
    refine x_iload hE 13 rfl dL_voices_317 ?_
    refine x_iconst hE (nI 2) (by decide) dL_voices_319 ?_
    refine x_icmp_ne hE 350 (by decide) dL_voices_320 (fun c320 => ?_) (fun c320 => ?_)
    · skip
      refine x_iload hE 10 rfl dL_voices_350 ?_
      refine x_eq (rV (kepS s V i b10) V) (by first | (rw [kep_off c57 c320]; exact hx10) | (rw [kep_old hb10 c57 c320 c342]; exact hx10)) ?_
      exact hx
    · skip
      refine x_iload hE 10 rfl dL_voices_323 ?_
      refine x_if_lt hE 345 (by decide) dL_voices_325 (fun c325 => ?_) (fun c325 => ?_)
      · skip
        refine x_iload hE 12 rfl dL_voices_345 ?_
        refine x_goto hE 352 (by decide) dL_voices_347 ?_
        refine x_eq (rV (kepS s V i b10) V) ((kep_new hi c57 c320 (fun hb10 => (by first | exact absurd c325 (hx10 ▸ not_rV (by omega) hb10) | exact c342))).symm) ?_
        exact hx
      · skip
        have hb10 : b10 < V := rV_ge (by omega) (hx10 ▸ c325)
        have hx10n : b10 < V ∧ x10 = nI b10 := ⟨hb10, by rw [hx10, rV_some hb10]⟩
        refine x_aload_n hE 0 rfl dL_voices_328 ?_
        refine x_iload hE 12 rfl dL_voices_329 ?_
        refine x_iconst hE (nI 3) (by decide) dL_voices_331 ?_
        refine x_callK (n := 2) (st := []) hE (ck_voice_3 l D cI cZ a s hok i (by omega)) gL_voices_X4_voice rfl rfl (by decide +kernel) ⟨by decide, by decide⟩ ⟨by decide, by decide⟩ rfl rfl (Nat.le_of_ble_eq_true rfl) dL_voices_332 (fun v9 w9 hT9 => ?_)
        obtain ⟨rfl, rfl⟩ := hT9
        refine x_at (ws' := (kW cI cZ a s)) (st' := [.int (if kst s i = nI 0 then (-3) else ksi s i)]) rfl rfl ?_
        refine x_eq (ksi s i) (if_neg c57) ?_
        refine x_aload_n hE 0 rfl dL_voices_335 ?_
        refine x_iload hE 10 rfl dL_voices_336 ?_
        refine x_eq (nI b10) hx10n.2 ?_
        refine x_iconst hE (nI 3) (by decide) dL_voices_338 ?_
        refine x_callK (n := 2) (st := [.int (ksi s i)]) hE (ck_voice_3 l D cI cZ a s hok b10 (by omega)) gL_voices_X4_voice rfl rfl (by decide +kernel) ⟨by decide, by decide⟩ ⟨by decide, by decide⟩ rfl rfl (Nat.le_of_ble_eq_true rfl) dL_voices_339 (fun v9 w9 hT9 => ?_)
        obtain ⟨rfl, rfl⟩ := hT9
        refine x_at (ws' := (kW cI cZ a s)) (st' := [.int (if kst s b10 = nI 0 then (-3) else ksi s b10), .int (ksi s i)]) rfl rfl ?_
        refine x_eq (ksi s b10) (if_neg (hb10s hb10)) ?_
        refine x_icmp_ge hE 350 (by decide) dL_voices_342 (fun c342 => ?_) (fun c342 => ?_)
        · skip
          refine x_iload hE 10 rfl dL_voices_350 ?_
          refine x_eq (rV (kepS s V i b10) V) (by first | (rw [kep_off c57 c320]; exact hx10) | (rw [kep_old hb10 c57 c320 c342]; exact hx10)) ?_
          exact hx
        · skip
          refine x_iload hE 12 rfl dL_voices_345 ?_
          refine x_goto hE 352 (by decide) dL_voices_347 ?_
          refine x_eq (rV (kepS s V i b10) V) ((kep_new hi c57 c320 (fun hb10 => (by first | exact absurd c325 (hx10 ▸ not_rV (by omega) hb10) | exact c342))).symm) ?_
          exact hx
  have sg30 : ∀ (n : Nat) (i : Nat) (u6 : Nat) (u7 : Nat) (u8 : Nat) (x9 : Int32) (x10 : Int32) (us : Int64) (b9 : Nat) (b10 : Nat) (hi : i + n = V) (hu6 : u6 = fb_ct (fun v => decide (¬ kst s v = nI 0)) i) (hu7 : u7 = fb_ct (fun v => decide (kst s v = nI 2)) i) (hu8 : u8 = fb_ct (fun v => decide (¬ kst s v = nI 0)) i) (hx9 : x9 = rV b9 V) (hx10 : x10 = rV b10 V) (hb9 : b9 = lfor (bstS s V) 0 i V) (hb10 : b10 = lfor (kepS s V) 0 i V) (hb9s : b9 < V → ¬ kst s b9 = nI 0) (hb10s : b10 < V → ¬ kst s b10 = nI 0) (hus : ∀ k, k < 64 → ((lg_cmp ((us >>> ((nI k).toInt64 &&& 63)) &&& 1) 1) = nI 0 ↔ ∃ v, v < i ∧ ¬ kst s v = nI 0 ∧ kkk s v = nI k)) (hx : X p9 l e9 { frames := 4, cells := 0, slots := 0, locals := 90 } s9 m9 args9 below9 meth9 cd9 0 0 (MQ below9 (xQ D (fun v8 w8 => v8 = some (.int (bI true)) ∧ w8 = kW cI cZ a s) A) args9 s9 0 0 A) 19 D A (kW cI cZ a s) [(0, .ref (aH a)), (1, .int (kRu s)), (2, .int (bI (kSus s))), (3, .int (bI (kSos s))), (4, .int (nI (R * C))), (5, .int (nI V)), (6, .int (nI (fb_ct (fun v => decide (¬ kst s v = nI 0)) V))), (7, .int (nI (fb_ct (fun v => decide (kst s v = nI 2)) V))), (8, .int (nI (fb_ct (fun v => decide (¬ kst s v = nI 0)) V))), (9, .int (rV (lfor (bstS s V) 0 V V) V)), (10, .int (rV (lfor (kepS s V) 0 V V) V))] 363 []), X p9 l e9 { frames := 4, cells := 0, slots := 0, locals := 90 } s9 m9 args9 below9 meth9 cd9 0 0 (MQ below9 (xQ D (fun v8 w8 => v8 = some (.int (bI true)) ∧ w8 = kW cI cZ a s) A) args9 s9 0 0 A) 19 D A (kW cI cZ a s) [(0, .ref (aH a)), (1, .int (kRu s)), (2, .int (bI (kSus s))), (3, .int (bI (kSos s))), (4, .int (nI (R * C))), (5, .int (nI V)), (6, .int (nI u6)), (7, .int (nI u7)), (8, .int (nI u8)), (9, .int x9), (10, .int x10), (11, .long us), (13, .int (nI i))] 30 [] := by
    intro n
    induction n with
    | zero =>
      intro i u6 u7 u8 x9 x10 us b9 b10 hi hu6 hu7 hu8 hx9 hx10 hb9 hb10 hb9s hb10s hus hx
      have hv6 : u6 ≤ 8 := by rw [hu6]; exact Nat.le_trans (fb_ct_le _ _) (by omega)
      have hv7 : u7 ≤ 8 := by rw [hu7]; exact Nat.le_trans (fb_ct_le _ _) (by omega)
      have hv8 : u8 ≤ 8 := by rw [hu8]; exact Nat.le_trans (fb_ct_le _ _) (by omega)
      refine x_iload hE 12 rfl dL_voices_30 ?_
      refine x_iload hE 5 rfl dL_voices_32 ?_
      refine xn_icmp_ge hE (by omega) (by omega) 363 (by decide) dL_voices_34 (fun c34 => ?_) (fun c34 => ?_)
      · skip
        refine x_lv [(0, .ref (aH a)), (1, .int (kRu s)), (2, .int (bI (kSus s))), (3, .int (bI (kSos s))), (4, .int (nI (R * C))), (5, .int (nI V)), (6, .int (nI u6)), (7, .int (nI u7)), (8, .int (nI u8)), (9, .int x9), (10, .int x10)] [0, 1, 2, 3, 4, 5, 6, 7, 8, 9, 10] rfl ?_
        obtain rfl : i = V := by omega
        subst hu6
        subst hu7
        subst hu8
        subst hx9
        subst hx10
        subst hb9
        subst hb10
        exact hx
      · skip
        exfalso; omega
    | succ n ih =>
      intro i u6 u7 u8 x9 x10 us b9 b10 hi hu6 hu7 hu8 hx9 hx10 hb9 hb10 hb9s hb10s hus hx
      have hv6 : u6 ≤ 8 := by rw [hu6]; exact Nat.le_trans (fb_ct_le _ _) (by omega)
      have hv7 : u7 ≤ 8 := by rw [hu7]; exact Nat.le_trans (fb_ct_le _ _) (by omega)
      have hv8 : u8 ≤ 8 := by rw [hu8]; exact Nat.le_trans (fb_ct_le _ _) (by omega)
      refine x_iload hE 12 rfl dL_voices_30 ?_
      refine x_iload hE 5 rfl dL_voices_32 ?_
      refine xn_icmp_ge hE (by omega) (by omega) 363 (by decide) dL_voices_34 (fun c34 => ?_) (fun c34 => ?_)
      · skip
        exfalso; omega
      · skip
        refine x_aload_n hE 0 rfl dL_voices_37 ?_
        refine x_iload hE 12 rfl dL_voices_38 ?_
        refine x_iconst hE (nI 0) (by decide) dL_voices_40 ?_
        refine x_callK (n := 2) (st := []) hE (ck_voice_0 l D cI cZ a s hok i (by omega)) gL_voices_X4_voice rfl rfl (by decide +kernel) ⟨by decide, by decide⟩ ⟨by decide, by decide⟩ rfl rfl (Nat.le_of_ble_eq_true rfl) dL_voices_41 (fun v9 w9 hT9 => ?_)
        obtain ⟨rfl, rfl⟩ := hT9
        refine x_at (ws' := (kW cI cZ a s)) (st' := [.int (kst s i)]) rfl rfl ?_
        refine x_istore hE [(14, .int (kst s i)), (0, .ref (aH a)), (1, .int (kRu s)), (2, .int (bI (kSus s))), (3, .int (bI (kSos s))), (4, .int (nI (R * C))), (5, .int (nI V)), (6, .int (nI u6)), (7, .int (nI u7)), (8, .int (nI u8)), (9, .int x9), (10, .int x10), (11, .long us), (13, .int (nI i))] (by decide) rfl dL_voices_44 ?_
        refine x_aload_n hE 1 rfl dL_voices_46 ?_
        refine x_iload hE 13 rfl dL_voices_47 ?_
        refine x_iconst hE (nI 4) (by decide) dL_voices_49 ?_
        refine x_callK (n := 2) (st := []) hE (ck_voice_4 l D cI cZ a s hok i (by omega)) gL_voices_X4_voice rfl rfl (by decide +kernel) ⟨by decide, by decide⟩ ⟨by decide, by decide⟩ rfl rfl (Nat.le_of_ble_eq_true rfl) dL_voices_50 (fun v9 w9 hT9 => ?_)
        obtain ⟨rfl, rfl⟩ := hT9
        refine x_at (ws' := (kW cI cZ a s)) (st' := [.int (nI (b2n (kca s i)))]) rfl rfl ?_
        refine x_istore hE [(15, .int (nI (b2n (kca s i)))), (14, .int (kst s i)), (0, .ref (aH a)), (1, .int (kRu s)), (2, .int (bI (kSus s))), (3, .int (bI (kSos s))), (4, .int (nI (R * C))), (5, .int (nI V)), (6, .int (nI u6)), (7, .int (nI u7)), (8, .int (nI u8)), (9, .int x9), (10, .int x10), (11, .long us), (13, .int (nI i))] (by decide) rfl dL_voices_53 ?_
        refine x_iload hE 1 rfl dL_voices_55 ?_
        refine x_if_ne hE 103 (by decide) dL_voices_57 (fun c57 => ?_) (fun c57 => ?_)
        · skip
          refine x_aload_n hE 2 rfl dL_voices_103 ?_
          refine x_iload hE 14 rfl dL_voices_104 ?_
          refine x_iconst hE (nI 1) (by decide) dL_voices_106 ?_
          refine x_callK (n := 2) (st := []) hE (ck_voice_1 l D cI cZ a s hok i (by omega)) gL_voices_X4_voice rfl rfl (by decide +kernel) ⟨by decide, by decide⟩ ⟨by decide, by decide⟩ rfl rfl (Nat.le_of_ble_eq_true rfl) dL_voices_107 (fun v9 w9 hT9 => ?_)
          obtain ⟨rfl, rfl⟩ := hT9
          refine x_at (ws' := (kW cI cZ a s)) (st' := [.int (if kst s i = nI 0 then (-3) else kkk s i)]) rfl rfl ?_
          refine x_eq (kkk s i) (if_neg c57) ?_
          obtain ⟨-, ⟨ky, hky, eky⟩, ⟨sx, hsx1, hsx2, esx⟩, -⟩ := hvi.2.1 i c57
          have hsx : 1 ≤ sx ∧ sx ≤ 127 := ⟨hsx1, hsx2⟩
          refine x_eq (nI ky) eky ?_
          refine x_istore hE [(16, .int (nI ky)), (15, .int (nI (b2n (kca s i)))), (14, .int (kst s i)), (0, .ref (aH a)), (1, .int (kRu s)), (2, .int (bI (kSus s))), (3, .int (bI (kSos s))), (4, .int (nI (R * C))), (5, .int (nI V)), (6, .int (nI u6)), (7, .int (nI u7)), (8, .int (nI u8)), (9, .int x9), (10, .int x10), (11, .long us), (13, .int (nI i))] (by decide) rfl dL_voices_110 ?_
          refine x_aload_n hE 3 rfl dL_voices_112 ?_
          refine x_iload hE 15 rfl dL_voices_113 ?_
          refine x_iconst hE (nI 2) (by decide) dL_voices_115 ?_
          refine x_callK (n := 2) (st := []) hE (ck_voice_2 l D cI cZ a s hok i (by omega)) gL_voices_X4_voice rfl rfl (by decide +kernel) ⟨by decide, by decide⟩ ⟨by decide, by decide⟩ rfl rfl (Nat.le_of_ble_eq_true rfl) dL_voices_116 (fun v9 w9 hT9 => ?_)
          obtain ⟨rfl, rfl⟩ := hT9
          refine x_at (ws' := (kW cI cZ a s)) (st' := [.int (if kst s i = nI 0 then (-3) else kve s i)]) rfl rfl ?_
          refine x_eq (kve s i) (if_neg c57) ?_
          refine x_eq (nI sx) esx ?_
          refine x_istore hE [(17, .int (nI sx)), (16, .int (nI ky)), (15, .int (nI (b2n (kca s i)))), (14, .int (kst s i)), (0, .ref (aH a)), (1, .int (kRu s)), (2, .int (bI (kSus s))), (3, .int (bI (kSos s))), (4, .int (nI (R * C))), (5, .int (nI V)), (6, .int (nI u6)), (7, .int (nI u7)), (8, .int (nI u8)), (9, .int x9), (10, .int x10), (11, .long us), (13, .int (nI i))] (by decide) rfl dL_voices_119 ?_
          refine x_iinc hE (nI (u6 + 1)) [(6, .int (nI (u6 + 1))), (17, .int (nI sx)), (16, .int (nI ky)), (15, .int (nI (b2n (kca s i)))), (14, .int (kst s i)), (0, .ref (aH a)), (1, .int (kRu s)), (2, .int (bI (kSus s))), (3, .int (bI (kSos s))), (4, .int (nI (R * C))), (5, .int (nI V)), (7, .int (nI u7)), (8, .int (nI u8)), (9, .int x9), (10, .int x10), (11, .long us), (13, .int (nI i))] 10 rfl (nI_add _ _) (by decide) rfl dL_voices_121 ?_
          refine x_iload hE 11 rfl dL_voices_124 ?_
          refine x_iload hE 4 rfl dL_voices_126 ?_
          refine x_iconst hE (nI 2) (by decide) dL_voices_128 ?_
          refine x_icmp_ne hE 136 (by decide) dL_voices_129 (fun c129 => ?_) (fun c129 => ?_)
          · skip
            refine x_iconst hE (nI 0) (by decide) dL_voices_136 ?_
            refine x_iadd hE (nI (u7 + 0)) (nI_add _ _) dL_voices_137 ?_
            refine x_istore hE [(7, .int (nI (u7 + 0))), (6, .int (nI (u6 + 1))), (17, .int (nI sx)), (16, .int (nI ky)), (15, .int (nI (b2n (kca s i)))), (14, .int (kst s i)), (0, .ref (aH a)), (1, .int (kRu s)), (2, .int (bI (kSus s))), (3, .int (bI (kSos s))), (4, .int (nI (R * C))), (5, .int (nI V)), (8, .int (nI u8)), (9, .int x9), (10, .int x10), (11, .long us), (13, .int (nI i))] (by decide) rfl dL_voices_138 ?_
            refine x_lv [(0, .ref (aH a)), (1, .int (kRu s)), (2, .int (bI (kSus s))), (3, .int (bI (kSos s))), (4, .int (nI (R * C))), (5, .int (nI V)), (6, .int (nI (u6 + 1))), (7, .int (nI (u7 + 0))), (8, .int (nI u8)), (9, .int x9), (10, .int x10), (11, .long us), (13, .int (nI i)), (14, .int (kst s i)), (15, .int (nI (b2n (kca s i)))), (16, .int (nI ky)), (17, .int (nI sx))] [6, 7, 8, 9, 10, 11, 1, 0, 12, 13, 14, 15, 16, 5, 4, 3, 2] rfl ?_
            refine sg140 i (u6 + 1) (u7 + 0) u8 x9 x10 us b9 b10 ky sx (by omega) (c57) (hky) (eky) (hsx) (hus) ?_
            refine x_lload hE 11 rfl dL_voices_231 ?_
            refine x_lconst hE 1 rfl dL_voices_233 ?_
            refine x_iload hE 15 rfl dL_voices_234 ?_
            refine x_lshl hE (1 <<< ((nI ky).toInt64 &&& 63)) rfl dL_voices_236 ?_
            refine x_lor hE (us ||| (1 <<< ((nI ky).toInt64 &&& 63))) rfl dL_voices_237 ?_
            refine x_lstore hE [(11, .long (us ||| (1 <<< ((nI ky).toInt64 &&& 63)))), (0, .ref (aH a)), (1, .int (kRu s)), (2, .int (bI (kSus s))), (3, .int (bI (kSos s))), (4, .int (nI (R * C))), (5, .int (nI V)), (6, .int (nI (u6 + 1))), (7, .int (nI (u7 + 0))), (8, .int (nI u8)), (9, .int x9), (10, .int x10), (13, .int (nI i)), (14, .int (kst s i)), (15, .int (nI (b2n (kca s i)))), (16, .int (nI ky)), (17, .int (nI sx))] (by decide) rfl dL_voices_238 ?_
            refine x_lv [(0, .ref (aH a)), (1, .int (kRu s)), (2, .int (bI (kSus s))), (3, .int (bI (kSos s))), (4, .int (nI (R * C))), (5, .int (nI V)), (6, .int (nI (u6 + 1))), (7, .int (nI (u7 + 0))), (8, .int (nI u8)), (9, .int x9), (10, .int x10), (11, .long (us ||| (1 <<< ((nI ky).toInt64 &&& 63)))), (13, .int (nI i)), (14, .int (kst s i)), (16, .int (nI ky)), (17, .int (nI sx))] [1, 2, 3, 4, 5, 6, 7, 8, 9, 10, 11, 0, 12, 13, 15, 16] rfl ?_
            refine sg240 i (u6 + 1) (u7 + 0) u8 x9 x10 (us ||| (1 <<< ((nI ky).toInt64 &&& 63))) b9 b10 ky sx (by omega) (c57) (esx) (hsx) (hx9) (hb9s) ?_
            refine x_istore hE [(9, .int (rV (bstS s V i b9) V)), (0, .ref (aH a)), (1, .int (kRu s)), (2, .int (bI (kSus s))), (3, .int (bI (kSos s))), (4, .int (nI (R * C))), (5, .int (nI V)), (6, .int (nI (u6 + 1))), (7, .int (nI (u7 + 0))), (8, .int (nI u8)), (10, .int x10), (11, .long (us ||| (1 <<< ((nI ky).toInt64 &&& 63)))), (13, .int (nI i)), (14, .int (kst s i)), (16, .int (nI ky)), (17, .int (nI sx))] (by decide) rfl dL_voices_315 ?_
            refine x_lv [(0, .ref (aH a)), (1, .int (kRu s)), (2, .int (bI (kSus s))), (3, .int (bI (kSos s))), (4, .int (nI (R * C))), (5, .int (nI V)), (6, .int (nI (u6 + 1))), (7, .int (nI (u7 + 0))), (8, .int (nI u8)), (9, .int (rV (bstS s V i b9) V)), (10, .int x10), (11, .long (us ||| (1 <<< ((nI ky).toInt64 &&& 63)))), (13, .int (nI i)), (14, .int (kst s i))] [1, 2, 3, 4, 5, 6, 7, 8, 9, 0, 10, 11, 12, 13] rfl ?_
            refine sg317 i (u6 + 1) (u7 + 0) u8 x9 x10 (us ||| (1 <<< ((nI ky).toInt64 &&& 63))) b9 b10 (by omega) (c57) (hx10) (hb10s) ?_
            refine x_istore hE [(10, .int (rV (kepS s V i b10) V)), (0, .ref (aH a)), (1, .int (kRu s)), (2, .int (bI (kSus s))), (3, .int (bI (kSos s))), (4, .int (nI (R * C))), (5, .int (nI V)), (6, .int (nI (u6 + 1))), (7, .int (nI (u7 + 0))), (8, .int (nI u8)), (9, .int (rV (bstS s V i b9) V)), (11, .long (us ||| (1 <<< ((nI ky).toInt64 &&& 63)))), (13, .int (nI i)), (14, .int (kst s i))] (by decide) rfl dL_voices_352 ?_
            refine x_iinc hE (nI (u8 + 1)) [(8, .int (nI (u8 + 1))), (10, .int (rV (kepS s V i b10) V)), (0, .ref (aH a)), (1, .int (kRu s)), (2, .int (bI (kSus s))), (3, .int (bI (kSos s))), (4, .int (nI (R * C))), (5, .int (nI V)), (6, .int (nI (u6 + 1))), (7, .int (nI (u7 + 0))), (9, .int (rV (bstS s V i b9) V)), (11, .long (us ||| (1 <<< ((nI ky).toInt64 &&& 63)))), (13, .int (nI i)), (14, .int (kst s i))] 9 rfl (nI_add _ _) (by decide) rfl dL_voices_354 ?_
            refine x_iinc hE (nI (i + 1)) [(13, .int (nI (i + 1))), (8, .int (nI (u8 + 1))), (10, .int (rV (kepS s V i b10) V)), (0, .ref (aH a)), (1, .int (kRu s)), (2, .int (bI (kSus s))), (3, .int (bI (kSos s))), (4, .int (nI (R * C))), (5, .int (nI V)), (6, .int (nI (u6 + 1))), (7, .int (nI (u7 + 0))), (9, .int (rV (bstS s V i b9) V)), (11, .long (us ||| (1 <<< ((nI ky).toInt64 &&& 63)))), (14, .int (kst s i))] 12 rfl (nI_add _ _) (by decide) rfl dL_voices_357 ?_
            refine x_goto hE 30 (by decide) dL_voices_360 ?_
            refine x_lv [(0, .ref (aH a)), (1, .int (kRu s)), (2, .int (bI (kSus s))), (3, .int (bI (kSos s))), (4, .int (nI (R * C))), (5, .int (nI V)), (6, .int (nI (u6 + 1))), (7, .int (nI (u7 + 0))), (8, .int (nI (u8 + 1))), (9, .int (rV (bstS s V i b9) V)), (10, .int (rV (kepS s V i b10) V)), (11, .long (us ||| (1 <<< ((nI ky).toInt64 &&& 63)))), (13, .int (nI (i + 1)))] [3, 4, 5, 6, 7, 8, 9, 10, 1, 11, 2, 12, 0] rfl ?_
            exact ih (i + 1) (u6 + 1) (u7 + 0) (u8 + 1) (rV (bstS s V i b9) V) (rV (kepS s V i b10) V) (us ||| (1 <<< ((nI ky).toInt64 &&& 63))) (bstS s V i b9) (kepS s V i b10) (by omega) (by rw [fb_ct_succ, ← hu6]; first | rw [if_pos (show decide (¬ kst s i = nI 0) = true from decide_eq_true c57)] | rw [if_neg (show ¬ decide (¬ kst s i = nI 0) = true from fun q => of_decide_eq_true q c57), Nat.add_zero]) (by rw [fb_ct_succ, ← hu7]; first | rw [if_pos (show decide (kst s i = nI 2) = true from decide_eq_true c129)] | rw [if_neg (show ¬ decide (kst s i = nI 2) = true from fun q => c129 (of_decide_eq_true q))] | rw [if_neg (show ¬ decide (kst s i = nI 2) = true from fun q => absurd (c57.symm.trans (of_decide_eq_true q)) (by decide)), Nat.add_zero]) (by rw [fb_ct_succ, ← hu8]; first | rw [if_pos (show decide (¬ kst s i = nI 0) = true from decide_eq_true c57)] | rw [if_neg (show ¬ decide (¬ kst s i = nI 0) = true from fun q => of_decide_eq_true q c57), Nat.add_zero]) (rfl) (rfl) (by rw [lfor_last, ← hb9]) (by rw [lfor_last, ← hb10]) (bst_snd c57 hb9s) (kep_snd c57 hb10s) (us_add (by omega) c57 eky hus) hx
          · skip
            refine x_iconst hE (nI 1) (by decide) dL_voices_132 ?_
            refine x_goto hE 137 (by decide) dL_voices_133 ?_
            refine x_iadd hE (nI (u7 + 1)) (nI_add _ _) dL_voices_137 ?_
            refine x_istore hE [(7, .int (nI (u7 + 1))), (6, .int (nI (u6 + 1))), (17, .int (nI sx)), (16, .int (nI ky)), (15, .int (nI (b2n (kca s i)))), (14, .int (kst s i)), (0, .ref (aH a)), (1, .int (kRu s)), (2, .int (bI (kSus s))), (3, .int (bI (kSos s))), (4, .int (nI (R * C))), (5, .int (nI V)), (8, .int (nI u8)), (9, .int x9), (10, .int x10), (11, .long us), (13, .int (nI i))] (by decide) rfl dL_voices_138 ?_
            refine x_lv [(0, .ref (aH a)), (1, .int (kRu s)), (2, .int (bI (kSus s))), (3, .int (bI (kSos s))), (4, .int (nI (R * C))), (5, .int (nI V)), (6, .int (nI (u6 + 1))), (7, .int (nI (u7 + 1))), (8, .int (nI u8)), (9, .int x9), (10, .int x10), (11, .long us), (13, .int (nI i)), (14, .int (kst s i)), (15, .int (nI (b2n (kca s i)))), (16, .int (nI ky)), (17, .int (nI sx))] [6, 7, 8, 9, 10, 11, 1, 0, 12, 13, 14, 15, 16, 5, 4, 3, 2] rfl ?_
            refine sg140 i (u6 + 1) (u7 + 1) u8 x9 x10 us b9 b10 ky sx (by omega) (c57) (hky) (eky) (hsx) (hus) ?_
            refine x_lload hE 11 rfl dL_voices_231 ?_
            refine x_lconst hE 1 rfl dL_voices_233 ?_
            refine x_iload hE 15 rfl dL_voices_234 ?_
            refine x_lshl hE (1 <<< ((nI ky).toInt64 &&& 63)) rfl dL_voices_236 ?_
            refine x_lor hE (us ||| (1 <<< ((nI ky).toInt64 &&& 63))) rfl dL_voices_237 ?_
            refine x_lstore hE [(11, .long (us ||| (1 <<< ((nI ky).toInt64 &&& 63)))), (0, .ref (aH a)), (1, .int (kRu s)), (2, .int (bI (kSus s))), (3, .int (bI (kSos s))), (4, .int (nI (R * C))), (5, .int (nI V)), (6, .int (nI (u6 + 1))), (7, .int (nI (u7 + 1))), (8, .int (nI u8)), (9, .int x9), (10, .int x10), (13, .int (nI i)), (14, .int (kst s i)), (15, .int (nI (b2n (kca s i)))), (16, .int (nI ky)), (17, .int (nI sx))] (by decide) rfl dL_voices_238 ?_
            refine x_lv [(0, .ref (aH a)), (1, .int (kRu s)), (2, .int (bI (kSus s))), (3, .int (bI (kSos s))), (4, .int (nI (R * C))), (5, .int (nI V)), (6, .int (nI (u6 + 1))), (7, .int (nI (u7 + 1))), (8, .int (nI u8)), (9, .int x9), (10, .int x10), (11, .long (us ||| (1 <<< ((nI ky).toInt64 &&& 63)))), (13, .int (nI i)), (14, .int (kst s i)), (16, .int (nI ky)), (17, .int (nI sx))] [1, 2, 3, 4, 5, 6, 7, 8, 9, 10, 11, 0, 12, 13, 15, 16] rfl ?_
            refine sg240 i (u6 + 1) (u7 + 1) u8 x9 x10 (us ||| (1 <<< ((nI ky).toInt64 &&& 63))) b9 b10 ky sx (by omega) (c57) (esx) (hsx) (hx9) (hb9s) ?_
            refine x_istore hE [(9, .int (rV (bstS s V i b9) V)), (0, .ref (aH a)), (1, .int (kRu s)), (2, .int (bI (kSus s))), (3, .int (bI (kSos s))), (4, .int (nI (R * C))), (5, .int (nI V)), (6, .int (nI (u6 + 1))), (7, .int (nI (u7 + 1))), (8, .int (nI u8)), (10, .int x10), (11, .long (us ||| (1 <<< ((nI ky).toInt64 &&& 63)))), (13, .int (nI i)), (14, .int (kst s i)), (16, .int (nI ky)), (17, .int (nI sx))] (by decide) rfl dL_voices_315 ?_
            refine x_lv [(0, .ref (aH a)), (1, .int (kRu s)), (2, .int (bI (kSus s))), (3, .int (bI (kSos s))), (4, .int (nI (R * C))), (5, .int (nI V)), (6, .int (nI (u6 + 1))), (7, .int (nI (u7 + 1))), (8, .int (nI u8)), (9, .int (rV (bstS s V i b9) V)), (10, .int x10), (11, .long (us ||| (1 <<< ((nI ky).toInt64 &&& 63)))), (13, .int (nI i)), (14, .int (kst s i))] [1, 2, 3, 4, 5, 6, 7, 8, 9, 0, 10, 11, 12, 13] rfl ?_
            refine sg317 i (u6 + 1) (u7 + 1) u8 x9 x10 (us ||| (1 <<< ((nI ky).toInt64 &&& 63))) b9 b10 (by omega) (c57) (hx10) (hb10s) ?_
            refine x_istore hE [(10, .int (rV (kepS s V i b10) V)), (0, .ref (aH a)), (1, .int (kRu s)), (2, .int (bI (kSus s))), (3, .int (bI (kSos s))), (4, .int (nI (R * C))), (5, .int (nI V)), (6, .int (nI (u6 + 1))), (7, .int (nI (u7 + 1))), (8, .int (nI u8)), (9, .int (rV (bstS s V i b9) V)), (11, .long (us ||| (1 <<< ((nI ky).toInt64 &&& 63)))), (13, .int (nI i)), (14, .int (kst s i))] (by decide) rfl dL_voices_352 ?_
            refine x_iinc hE (nI (u8 + 1)) [(8, .int (nI (u8 + 1))), (10, .int (rV (kepS s V i b10) V)), (0, .ref (aH a)), (1, .int (kRu s)), (2, .int (bI (kSus s))), (3, .int (bI (kSos s))), (4, .int (nI (R * C))), (5, .int (nI V)), (6, .int (nI (u6 + 1))), (7, .int (nI (u7 + 1))), (9, .int (rV (bstS s V i b9) V)), (11, .long (us ||| (1 <<< ((nI ky).toInt64 &&& 63)))), (13, .int (nI i)), (14, .int (kst s i))] 9 rfl (nI_add _ _) (by decide) rfl dL_voices_354 ?_
            refine x_iinc hE (nI (i + 1)) [(13, .int (nI (i + 1))), (8, .int (nI (u8 + 1))), (10, .int (rV (kepS s V i b10) V)), (0, .ref (aH a)), (1, .int (kRu s)), (2, .int (bI (kSus s))), (3, .int (bI (kSos s))), (4, .int (nI (R * C))), (5, .int (nI V)), (6, .int (nI (u6 + 1))), (7, .int (nI (u7 + 1))), (9, .int (rV (bstS s V i b9) V)), (11, .long (us ||| (1 <<< ((nI ky).toInt64 &&& 63)))), (14, .int (kst s i))] 12 rfl (nI_add _ _) (by decide) rfl dL_voices_357 ?_
            refine x_goto hE 30 (by decide) dL_voices_360 ?_
            refine x_lv [(0, .ref (aH a)), (1, .int (kRu s)), (2, .int (bI (kSus s))), (3, .int (bI (kSos s))), (4, .int (nI (R * C))), (5, .int (nI V)), (6, .int (nI (u6 + 1))), (7, .int (nI (u7 + 1))), (8, .int (nI (u8 + 1))), (9, .int (rV (bstS s V i b9) V)), (10, .int (rV (kepS s V i b10) V)), (11, .long (us ||| (1 <<< ((nI ky).toInt64 &&& 63)))), (13, .int (nI (i + 1)))] [3, 4, 5, 6, 7, 8, 9, 10, 1, 11, 2, 12, 0] rfl ?_
            exact ih (i + 1) (u6 + 1) (u7 + 1) (u8 + 1) (rV (bstS s V i b9) V) (rV (kepS s V i b10) V) (us ||| (1 <<< ((nI ky).toInt64 &&& 63))) (bstS s V i b9) (kepS s V i b10) (by omega) (by rw [fb_ct_succ, ← hu6]; first | rw [if_pos (show decide (¬ kst s i = nI 0) = true from decide_eq_true c57)] | rw [if_neg (show ¬ decide (¬ kst s i = nI 0) = true from fun q => of_decide_eq_true q c57), Nat.add_zero]) (by rw [fb_ct_succ, ← hu7]; first | rw [if_pos (show decide (kst s i = nI 2) = true from decide_eq_true c129)] | rw [if_neg (show ¬ decide (kst s i = nI 2) = true from fun q => c129 (of_decide_eq_true q))] | rw [if_neg (show ¬ decide (kst s i = nI 2) = true from fun q => absurd (c57.symm.trans (of_decide_eq_true q)) (by decide)), Nat.add_zero]) (by rw [fb_ct_succ, ← hu8]; first | rw [if_pos (show decide (¬ kst s i = nI 0) = true from decide_eq_true c57)] | rw [if_neg (show ¬ decide (¬ kst s i = nI 0) = true from fun q => of_decide_eq_true q c57), Nat.add_zero]) (rfl) (rfl) (by rw [lfor_last, ← hb9]) (by rw [lfor_last, ← hb10]) (bst_snd c57 hb9s) (kep_snd c57 hb10s) (us_add (by omega) c57 eky hus) hx
        · skip
          refine x_iload hE 0 rfl dL_voices_60 ?_
          refine xn_if_ne hE (b2n_lt _) 101 (by decide) dL_voices_62 (fun c62 => ?_) (fun c62 => ?_)
          · skip
            exact absurd (by rw [hvi.2.2.2.1 i c57]; rfl) c62
          · skip
            refine x_aload_n hE 2 rfl dL_voices_65 ?_
            refine x_iload hE 14 rfl dL_voices_66 ?_
            refine x_iconst hE (nI 1) (by decide) dL_voices_68 ?_
            refine x_callK (n := 2) (st := []) hE (ck_voice_1 l D cI cZ a s hok i (by omega)) gL_voices_X4_voice rfl rfl (by decide +kernel) ⟨by decide, by decide⟩ ⟨by decide, by decide⟩ rfl rfl (Nat.le_of_ble_eq_true rfl) dL_voices_69 (fun v9 w9 hT9 => ?_)
            obtain ⟨rfl, rfl⟩ := hT9
            refine x_at (ws' := (kW cI cZ a s)) (st' := [.int (if kst s i = nI 0 then (-3) else kkk s i)]) rfl rfl ?_
            refine x_eq (-3) (if_pos c57) ?_
            refine x_bipush hE (-3) (by decide) dL_voices_72 ?_
            refine x_icmp_ne hE 101 (by decide) dL_voices_74 (fun c74 => ?_) (fun c74 => ?_)
            · skip
              exact absurd rfl c74
            · skip
              refine x_aload_n hE 2 rfl dL_voices_77 ?_
              refine x_iload hE 14 rfl dL_voices_78 ?_
              refine x_iconst hE (nI 2) (by decide) dL_voices_80 ?_
              refine x_callK (n := 2) (st := []) hE (ck_voice_2 l D cI cZ a s hok i (by omega)) gL_voices_X4_voice rfl rfl (by decide +kernel) ⟨by decide, by decide⟩ ⟨by decide, by decide⟩ rfl rfl (Nat.le_of_ble_eq_true rfl) dL_voices_81 (fun v9 w9 hT9 => ?_)
              obtain ⟨rfl, rfl⟩ := hT9
              refine x_at (ws' := (kW cI cZ a s)) (st' := [.int (if kst s i = nI 0 then (-3) else kve s i)]) rfl rfl ?_
              refine x_eq (-3) (if_pos c57) ?_
              refine x_bipush hE (-3) (by decide) dL_voices_84 ?_
              refine x_icmp_ne hE 101 (by decide) dL_voices_86 (fun c86 => ?_) (fun c86 => ?_)
              · skip
                exact absurd rfl c86
              · skip
                refine x_aload_n hE 2 rfl dL_voices_89 ?_
                refine x_iload hE 14 rfl dL_voices_90 ?_
                refine x_iconst hE (nI 3) (by decide) dL_voices_92 ?_
                refine x_callK (n := 2) (st := []) hE (ck_voice_3 l D cI cZ a s hok i (by omega)) gL_voices_X4_voice rfl rfl (by decide +kernel) ⟨by decide, by decide⟩ ⟨by decide, by decide⟩ rfl rfl (Nat.le_of_ble_eq_true rfl) dL_voices_93 (fun v9 w9 hT9 => ?_)
                obtain ⟨rfl, rfl⟩ := hT9
                refine x_at (ws' := (kW cI cZ a s)) (st' := [.int (if kst s i = nI 0 then (-3) else ksi s i)]) rfl rfl ?_
                refine x_eq (-3) (if_pos c57) ?_
                refine x_bipush hE (-3) (by decide) dL_voices_96 ?_
                refine x_icmp_eq hE 357 (by decide) dL_voices_98 (fun c98 => ?_) (fun c98 => ?_)
                · skip
                  refine x_iinc hE (nI (i + 1)) [(13, .int (nI (i + 1))), (15, .int (nI (b2n (kca s i)))), (14, .int (kst s i)), (0, .ref (aH a)), (1, .int (kRu s)), (2, .int (bI (kSus s))), (3, .int (bI (kSos s))), (4, .int (nI (R * C))), (5, .int (nI V)), (6, .int (nI u6)), (7, .int (nI u7)), (8, .int (nI u8)), (9, .int x9), (10, .int x10), (11, .long us)] 14 rfl (nI_add _ _) (by decide) rfl dL_voices_357 ?_
                  refine x_goto hE 30 (by decide) dL_voices_360 ?_
                  refine x_lv [(0, .ref (aH a)), (1, .int (kRu s)), (2, .int (bI (kSus s))), (3, .int (bI (kSos s))), (4, .int (nI (R * C))), (5, .int (nI V)), (6, .int (nI u6)), (7, .int (nI u7)), (8, .int (nI u8)), (9, .int x9), (10, .int x10), (11, .long us), (13, .int (nI (i + 1)))] [3, 4, 5, 6, 7, 8, 9, 10, 11, 12, 13, 14, 0] rfl ?_
                  exact ih (i + 1) u6 u7 u8 x9 x10 us b9 b10 (by omega) (by rw [fb_ct_succ, ← hu6]; first | rw [if_pos (show decide (¬ kst s i = nI 0) = true from decide_eq_true c57)] | rw [if_neg (show ¬ decide (¬ kst s i = nI 0) = true from fun q => of_decide_eq_true q c57), Nat.add_zero]) (by rw [fb_ct_succ, ← hu7]; first | rw [if_pos (show decide (kst s i = nI 2) = true from decide_eq_true c129)] | rw [if_neg (show ¬ decide (kst s i = nI 2) = true from fun q => c129 (of_decide_eq_true q))] | rw [if_neg (show ¬ decide (kst s i = nI 2) = true from fun q => absurd (c57.symm.trans (of_decide_eq_true q)) (by decide)), Nat.add_zero]) (by rw [fb_ct_succ, ← hu8]; first | rw [if_pos (show decide (¬ kst s i = nI 0) = true from decide_eq_true c57)] | rw [if_neg (show ¬ decide (¬ kst s i = nI 0) = true from fun q => of_decide_eq_true q c57), Nat.add_zero]) (hx9) (hx10) (by rw [lfor_last, ← hb9]; exact (bst_free c57).symm) (by rw [lfor_last, ← hb10]; exact (kep_free c57).symm) (hb9s) (hb10s) (us_skip c57 hus) hx
                · skip
                  exact absurd rfl c98
  have sg363 : ∀   (hx : X p9 l e9 { frames := 4, cells := 0, slots := 0, locals := 90 } s9 m9 args9 below9 meth9 cd9 0 0 (MQ below9 (xQ D (fun v8 w8 => v8 = some (.int (bI true)) ∧ w8 = kW cI cZ a s) A) args9 s9 0 0 A) 19 D A (kW cI cZ a s) [(0, .ref (aH a)), (1, .int (kRu s)), (2, .int (bI (kSus s))), (3, .int (bI (kSos s))), (4, .int (nI (R * C))), (5, .int (nI V)), (6, .int (nI (fb_ct (fun v => decide (¬ kst s v = nI 0)) V))), (7, .int (nI (fb_ct (fun v => decide (kst s v = nI 2)) V))), (8, .int (nI (fb_ct (fun v => decide (¬ kst s v = nI 0)) V))), (9, .int (rV (lfor (bstS s V) 0 V V) V)), (10, .int (rV (lfor (kepS s V) 0 V V) V))] 392 [.int (ntF (kst s) (kve s) (ksi s) (kRu s) V)]), X p9 l e9 { frames := 4, cells := 0, slots := 0, locals := 90 } s9 m9 args9 below9 meth9 cd9 0 0 (MQ below9 (xQ D (fun v8 w8 => v8 = some (.int (bI true)) ∧ w8 = kW cI cZ a s) A) args9 s9 0 0 A) 19 D A (kW cI cZ a s) [(0, .ref (aH a)), (1, .int (kRu s)), (2, .int (bI (kSus s))), (3, .int (bI (kSos s))), (4, .int (nI (R * C))), (5, .int (nI V)), (6, .int (nI (fb_ct (fun v => decide (¬ kst s v = nI 0)) V))), (7, .int (nI (fb_ct (fun v => decide (kst s v = nI 2)) V))), (8, .int (nI (fb_ct (fun v => decide (¬ kst s v = nI 0)) V))), (9, .int (rV (lfor (bstS s V) 0 V V) V)), (10, .int (rV (lfor (kepS s V) 0 V V) V))] 363 [] := by
    intro   hx
    refine x_iload hE 8 rfl dL_voices_363 ?_
    refine x_iload hE 5 rfl dL_voices_365 ?_
    refine xn_icmp_ge hE (Nat.lt_of_le_of_lt (fb_ct_le _ _) (by omega)) (by omega) 375 (by decide) dL_voices_367 (fun c367 => ?_) (fun c367 => ?_)
    · skip
      refine x_iload_n hE 1 rfl dL_voices_375 ?_
      refine x_iconst hE (nI 2) (by decide) dL_voices_376 ?_
      refine x_icmp_ne hE 390 (by decide) dL_voices_377 (fun c377 => ?_) (fun c377 => ?_)
      · skip
        refine x_iload hE 9 rfl dL_voices_390 ?_
        refine x_eq (ntF (kst s) (kve s) (ksi s) (kRu s) V) (by first | exact (nt_none hI c367).symm | exact (nt_kept hI c367 c377 c382).symm | exact (nt_best hI c367 (Or.inl c377)).symm | exact (nt_best hI c367 (Or.inr c382)).symm) ?_
        exact hx
      · skip
        refine x_iload hE 10 rfl dL_voices_380 ?_
        refine x_if_lt hE 390 (by decide) dL_voices_382 (fun c382 => ?_) (fun c382 => ?_)
        · skip
          refine x_iload hE 9 rfl dL_voices_390 ?_
          refine x_eq (ntF (kst s) (kve s) (ksi s) (kRu s) V) (by first | exact (nt_none hI c367).symm | exact (nt_kept hI c367 c377 c382).symm | exact (nt_best hI c367 (Or.inl c377)).symm | exact (nt_best hI c367 (Or.inr c382)).symm) ?_
          exact hx
        · skip
          refine x_iload hE 10 rfl dL_voices_385 ?_
          refine x_goto hE 392 (by decide) dL_voices_387 ?_
          refine x_eq (ntF (kst s) (kve s) (ksi s) (kRu s) V) (by first | exact (nt_none hI c367).symm | exact (nt_kept hI c367 c377 c382).symm | exact (nt_best hI c367 (Or.inl c377)).symm | exact (nt_best hI c367 (Or.inr c382)).symm) ?_
          exact hx
    · skip
      refine x_bipush hE (-3) (by decide) dL_voices_370 ?_
      refine x_goto hE 392 (by decide) dL_voices_372 ?_
      refine x_eq (ntF (kst s) (kve s) (ksi s) (kRu s) V) (by first | exact (nt_none hI c367).symm | exact (nt_kept hI c367 c377 c382).symm | exact (nt_best hI c367 (Or.inl c377)).symm | exact (nt_best hI c367 (Or.inr c382)).symm) ?_
      exact hx
  refine x_at (ws' := (kW cI cZ a s)) (st' := []) rfl rfl ?_
  refine x_lv [(0, .ref (aH a)), (1, .int (kRu s)), (2, .int (bI (kSus s))), (3, .int (bI (kSos s))), (4, .int (nI (R * C)))] [0, 1, 2, 3, 4] rfl ?_
  refine x_aload_n hE 0 rfl dL_voices_0 ?_
  refine x_iconst hE (nI 5) (by decide) dL_voices_1 ?_
  refine x_callK (n := 1) (st := []) hE (ck_count_5 l D cI cZ a s hok  ) gL_voices_X4_count rfl rfl (by decide +kernel) ⟨by decide, by decide⟩ ⟨by decide, by decide⟩ rfl rfl (Nat.le_of_ble_eq_true rfl) dL_voices_2 (fun v9 w9 hT9 => ?_)
  obtain ⟨rfl, rfl⟩ := hT9
  refine x_at (ws' := (kW cI cZ a s)) (st' := [.int (nI V)]) rfl rfl ?_
  refine x_istore hE [(5, .int (nI V)), (0, .ref (aH a)), (1, .int (kRu s)), (2, .int (bI (kSus s))), (3, .int (bI (kSos s))), (4, .int (nI (R * C)))] (by decide) rfl dL_voices_5 ?_
  refine x_iconst hE (nI 0) (by decide) dL_voices_7 ?_
  refine x_istore hE [(6, .int (nI 0)), (5, .int (nI V)), (0, .ref (aH a)), (1, .int (kRu s)), (2, .int (bI (kSus s))), (3, .int (bI (kSos s))), (4, .int (nI (R * C)))] (by decide) rfl dL_voices_8 ?_
  refine x_iconst hE (nI 0) (by decide) dL_voices_10 ?_
  refine x_istore hE [(7, .int (nI 0)), (6, .int (nI 0)), (5, .int (nI V)), (0, .ref (aH a)), (1, .int (kRu s)), (2, .int (bI (kSus s))), (3, .int (bI (kSos s))), (4, .int (nI (R * C)))] (by decide) rfl dL_voices_11 ?_
  refine x_iconst hE (nI 0) (by decide) dL_voices_13 ?_
  refine x_istore hE [(8, .int (nI 0)), (7, .int (nI 0)), (6, .int (nI 0)), (5, .int (nI V)), (0, .ref (aH a)), (1, .int (kRu s)), (2, .int (bI (kSus s))), (3, .int (bI (kSos s))), (4, .int (nI (R * C)))] (by decide) rfl dL_voices_14 ?_
  refine x_bipush hE (-3) (by decide) dL_voices_16 ?_
  refine x_istore hE [(9, .int (-3)), (8, .int (nI 0)), (7, .int (nI 0)), (6, .int (nI 0)), (5, .int (nI V)), (0, .ref (aH a)), (1, .int (kRu s)), (2, .int (bI (kSus s))), (3, .int (bI (kSos s))), (4, .int (nI (R * C)))] (by decide) rfl dL_voices_18 ?_
  refine x_bipush hE (-3) (by decide) dL_voices_20 ?_
  refine x_istore hE [(10, .int (-3)), (9, .int (-3)), (8, .int (nI 0)), (7, .int (nI 0)), (6, .int (nI 0)), (5, .int (nI V)), (0, .ref (aH a)), (1, .int (kRu s)), (2, .int (bI (kSus s))), (3, .int (bI (kSos s))), (4, .int (nI (R * C)))] (by decide) rfl dL_voices_22 ?_
  refine x_lconst hE 0 rfl dL_voices_24 ?_
  refine x_lstore hE [(11, .long 0), (10, .int (-3)), (9, .int (-3)), (8, .int (nI 0)), (7, .int (nI 0)), (6, .int (nI 0)), (5, .int (nI V)), (0, .ref (aH a)), (1, .int (kRu s)), (2, .int (bI (kSus s))), (3, .int (bI (kSos s))), (4, .int (nI (R * C)))] (by decide) rfl dL_voices_25 ?_
  refine x_iconst hE (nI 0) (by decide) dL_voices_27 ?_
  refine x_istore hE [(13, .int (nI 0)), (11, .long 0), (10, .int (-3)), (9, .int (-3)), (8, .int (nI 0)), (7, .int (nI 0)), (6, .int (nI 0)), (5, .int (nI V)), (0, .ref (aH a)), (1, .int (kRu s)), (2, .int (bI (kSus s))), (3, .int (bI (kSos s))), (4, .int (nI (R * C)))] (by decide) rfl dL_voices_28 ?_
  refine x_lv [(0, .ref (aH a)), (1, .int (kRu s)), (2, .int (bI (kSus s))), (3, .int (bI (kSos s))), (4, .int (nI (R * C))), (5, .int (nI V)), (6, .int (nI 0)), (7, .int (nI 0)), (8, .int (nI 0)), (9, .int (-3)), (10, .int (-3)), (11, .long 0), (13, .int (nI 0))] [8, 9, 10, 11, 12, 7, 6, 5, 4, 3, 2, 1, 0] rfl ?_
  refine sg30 V 0 0 0 0 (-3) (-3) 0 V V (Nat.zero_add _) (rfl) (rfl) (rfl) (rV_V.symm) (rV_V.symm) (rfl) (rfl) (fun q => absurd q (Nat.lt_irrefl _)) (fun q => absurd q (Nat.lt_irrefl _)) (us_0) ?_
  refine sg363   ?_
  refine x_istore hE [(13, .int (ntF (kst s) (kve s) (ksi s) (kRu s) V)), (0, .ref (aH a)), (1, .int (kRu s)), (2, .int (bI (kSus s))), (3, .int (bI (kSos s))), (4, .int (nI (R * C))), (5, .int (nI V)), (6, .int (nI (fb_ct (fun v => decide (¬ kst s v = nI 0)) V))), (7, .int (nI (fb_ct (fun v => decide (kst s v = nI 2)) V))), (8, .int (nI (fb_ct (fun v => decide (¬ kst s v = nI 0)) V))), (9, .int (rV (lfor (bstS s V) 0 V V) V)), (10, .int (rV (lfor (kepS s V) 0 V V) V))] (by decide) rfl dL_voices_392 ?_
  refine x_aload_n hE 1 rfl dL_voices_394 ?_
  refine x_bipush hE (nI 6) (by decide) dL_voices_395 ?_
  refine x_callK (n := 1) (st := []) hE (ck_count_6 l D cI cZ a s hok  ) gL_voices_X4_count rfl rfl (by decide +kernel) ⟨by decide, by decide⟩ ⟨by decide, by decide⟩ rfl rfl (Nat.le_of_ble_eq_true rfl) dL_voices_397 (fun v9 w9 hT9 => ?_)
  obtain ⟨rfl, rfl⟩ := hT9
  refine x_at (ws' := (kW cI cZ a s)) (st' := [.int (nI (V - isN (kst s) (nI 0) V))]) rfl rfl ?_
  refine x_iload hE 7 rfl dL_voices_400 ?_
  refine xn_icmp_ne hE (by omega) (Nat.lt_of_le_of_lt (fb_ct_le _ _) (by omega)) 505 (by decide) dL_voices_402 (fun c402 => ?_) (fun c402 => ?_)
  · skip
    exact absurd (by omega) c402
  · skip
    refine x_aload_n hE 1 rfl dL_voices_405 ?_
    refine x_bipush hE (nI 7) (by decide) dL_voices_406 ?_
    refine x_callK (n := 1) (st := []) hE (ck_count_7 l D cI cZ a s hok  ) gL_voices_X4_count rfl rfl (by decide +kernel) ⟨by decide, by decide⟩ ⟨by decide, by decide⟩ rfl rfl (Nat.le_of_ble_eq_true rfl) dL_voices_408 (fun v9 w9 hT9 => ?_)
    obtain ⟨rfl, rfl⟩ := hT9
    refine x_at (ws' := (kW cI cZ a s)) (st' := [.int (nI (isN (kst s) (nI 2) V))]) rfl rfl ?_
    refine x_iload hE 8 rfl dL_voices_411 ?_
    refine xn_icmp_ne hE (Nat.lt_of_le_of_lt (isN_V _ _ _) (by omega)) (Nat.lt_of_le_of_lt (fb_ct_le _ _) (by omega)) 505 (by decide) dL_voices_413 (fun c413 => ?_) (fun c413 => ?_)
    · skip
      exact absurd (by omega) c413
    · skip
      refine x_aload_n hE 1 rfl dL_voices_416 ?_
      refine x_callK (n := 0) (st := []) hE (ck_nextTaken l D cI cZ a s hok  ) gL_voices_X4_nextTaken rfl rfl (by decide +kernel) ⟨by decide, by decide⟩ ⟨by decide, by decide⟩ rfl rfl (Nat.le_of_ble_eq_true rfl) dL_voices_417 (fun v9 w9 hT9 => ?_)
      obtain ⟨rfl, rfl⟩ := hT9
      refine x_at (ws' := (kW cI cZ a s)) (st' := [.int (ntF (kst s) (kve s) (ksi s) (kRu s) V)]) rfl rfl ?_
      refine x_iload hE 0 rfl dL_voices_420 ?_
      refine x_icmp_ne hE 505 (by decide) dL_voices_422 (fun c422 => ?_) (fun c422 => ?_)
      · skip
        exact absurd rfl c422
      · skip
        refine x_aload_n hE 1 rfl dL_voices_425 ?_
        refine x_iload hE 6 rfl dL_voices_426 ?_
        refine x_iconst hE (nI 0) (by decide) dL_voices_428 ?_
        refine x_callK (n := 2) (st := []) hE (ck_voice_hi l D cI cZ a s hok  ) gL_voices_X4_voice rfl rfl (by decide +kernel) ⟨by decide, by decide⟩ ⟨by decide, by decide⟩ rfl rfl (Nat.le_of_ble_eq_true rfl) dL_voices_429 (fun v9 w9 hT9 => ?_)
        obtain ⟨rfl, rfl⟩ := hT9
        refine x_at (ws' := (kW cI cZ a s)) (st' := [.int (-1)]) rfl rfl ?_
        refine x_iconst hE (-1) (by decide) dL_voices_432 ?_
        refine x_icmp_ne hE 505 (by decide) dL_voices_433 (fun c433 => ?_) (fun c433 => ?_)
        · skip
          exact absurd rfl c433
        · skip
          refine x_aload_n hE 1 rfl dL_voices_436 ?_
          refine x_iconst hE (nI 0) (by decide) dL_voices_437 ?_
          refine x_iconst hE (nI 5) (by decide) dL_voices_438 ?_
          refine x_callK (n := 2) (st := []) hE (ck_voice_5 l D cI cZ a s hok 0 (by omega)) gL_voices_X4_voice rfl rfl (by decide +kernel) ⟨by decide, by decide⟩ ⟨by decide, by decide⟩ rfl rfl (Nat.le_of_ble_eq_true rfl) dL_voices_439 (fun v9 w9 hT9 => ?_)
          obtain ⟨rfl, rfl⟩ := hT9
          refine x_at (ws' := (kW cI cZ a s)) (st' := [.int (-2)]) rfl rfl ?_
          refine x_bipush hE (-2) (by decide) dL_voices_442 ?_
          refine x_icmp_ne hE 505 (by decide) dL_voices_444 (fun c444 => ?_) (fun c444 => ?_)
          · skip
            exact absurd rfl c444
          · skip
            refine x_aload_n hE 1 rfl dL_voices_447 ?_
            refine x_iconst hE (-1) (by decide) dL_voices_448 ?_
            refine x_iconst hE (nI 0) (by decide) dL_voices_449 ?_
            refine x_callK (n := 2) (st := []) hE (ck_log_lo l D cI cZ a s hok  ) gL_voices_X4_log rfl rfl (by decide +kernel) ⟨by decide, by decide⟩ ⟨by decide, by decide⟩ rfl rfl (Nat.le_of_ble_eq_true rfl) dL_voices_450 (fun v9 w9 hT9 => ?_)
            obtain ⟨rfl, rfl⟩ := hT9
            refine x_at (ws' := (kW cI cZ a s)) (st' := [.int (-2)]) rfl rfl ?_
            refine x_bipush hE (-2) (by decide) dL_voices_453 ?_
            refine x_icmp_ne hE 505 (by decide) dL_voices_455 (fun c455 => ?_) (fun c455 => ?_)
            · skip
              exact absurd rfl c455
            · skip
              refine x_aload_n hE 1 rfl dL_voices_458 ?_
              refine x_iconst hE (nI 0) (by decide) dL_voices_459 ?_
              refine x_iconst hE (nI 3) (by decide) dL_voices_460 ?_
              refine x_callK (n := 2) (st := []) hE (ck_log_what l D cI cZ a s hok  ) gL_voices_X4_log rfl rfl (by decide +kernel) ⟨by decide, by decide⟩ ⟨by decide, by decide⟩ rfl rfl (Nat.le_of_ble_eq_true rfl) dL_voices_461 (fun v9 w9 hT9 => ?_)
              obtain ⟨rfl, rfl⟩ := hT9
              refine x_at (ws' := (kW cI cZ a s)) (st' := [.int (-2)]) rfl rfl ?_
              refine x_bipush hE (-2) (by decide) dL_voices_464 ?_
              refine x_icmp_ne hE 505 (by decide) dL_voices_466 (fun c466 => ?_) (fun c466 => ?_)
              · skip
                exact absurd rfl c466
              · skip
                refine x_aload_n hE 1 rfl dL_voices_469 ?_
                refine x_bipush hE (nI 16) (by decide) dL_voices_470 ?_
                refine x_iconst hE (nI 0) (by decide) dL_voices_472 ?_
                refine x_callK (n := 2) (st := []) hE (ck_log_16 l D cI cZ a s hok  ) gL_voices_X4_log rfl rfl (by decide +kernel) ⟨by decide, by decide⟩ ⟨by decide, by decide⟩ rfl rfl (Nat.le_of_ble_eq_true rfl) dL_voices_473 (fun v9 w9 hT9 => ?_)
                obtain ⟨rfl, rfl⟩ := hT9
                refine x_at (ws' := (kW cI cZ a s)) (st' := [.int (-3)]) rfl rfl ?_
                refine x_bipush hE (-3) (by decide) dL_voices_476 ?_
                refine x_icmp_ne hE 505 (by decide) dL_voices_478 (fun c478 => ?_) (fun c478 => ?_)
                · skip
                  exact absurd rfl c478
                · skip
                  refine x_aload_n hE 1 rfl dL_voices_481 ?_
                  refine x_bipush hE (nI 8) (by decide) dL_voices_482 ?_
                  refine x_callK (n := 1) (st := []) hE (ck_count_8 l D cI cZ a s hok  ) gL_voices_X4_count rfl rfl (by decide +kernel) ⟨by decide, by decide⟩ ⟨by decide, by decide⟩ rfl rfl (Nat.le_of_ble_eq_true rfl) dL_voices_484 (fun v9 w9 hT9 => ?_)
                  obtain ⟨rfl, rfl⟩ := hT9
                  refine x_at (ws' := (kW cI cZ a s)) (st' := [.int (nI (kmk s))]) rfl rfl ?_
                  refine xn_if_gt hE (by omega) 501 (by decide) dL_voices_487 (fun c487 => ?_) (fun c487 => ?_)
                  · skip
                    refine x_iconst hE (nI 1) (by decide) dL_voices_501 ?_
                    refine x_goto hE 506 (by decide) dL_voices_502 ?_
                    refine x_eq (bI true) rfl ?_
                    exact x_zret hE hr (⟨rfl, rfl⟩) dL_voices_506
                  · skip
                    refine x_aload_n hE 1 rfl dL_voices_490 ?_
                    refine x_iconst hE (nI 0) (by decide) dL_voices_491 ?_
                    refine x_iconst hE (nI 0) (by decide) dL_voices_492 ?_
                    refine x_callK (n := 2) (st := []) hE (ck_log_none l D cI cZ a s hok  (by omega)) gL_voices_X4_log rfl rfl (by decide +kernel) ⟨by decide, by decide⟩ ⟨by decide, by decide⟩ rfl rfl (Nat.le_of_ble_eq_true rfl) dL_voices_493 (fun v9 w9 hT9 => ?_)
                    obtain ⟨rfl, rfl⟩ := hT9
                    refine x_at (ws' := (kW cI cZ a s)) (st' := [.int (-3)]) rfl rfl ?_
                    refine x_bipush hE (-3) (by decide) dL_voices_496 ?_
                    refine x_icmp_ne hE 505 (by decide) dL_voices_498 (fun c498 => ?_) (fun c498 => ?_)
                    · skip
                      exact absurd rfl c498
                    · skip
                      refine x_iconst hE (nI 1) (by decide) dL_voices_501 ?_
                      refine x_goto hE 506 (by decide) dL_voices_502 ?_
                      refine x_eq (bI true) rfl ?_
                      exact x_zret hE hr (⟨rfl, rfl⟩) dL_voices_506
