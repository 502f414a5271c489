/-- low and cell -/
theorem kL_low (l : Launch) (D : va_G) (cI cZ : ClassId) (v : Int32) (n : Nat) (h0 : 0 < n) (hn : n < 2 ^ 31) : xC l yL_low wsL_low 0 0 0 0 D cI cZ [.int v, .int (nI n)] [] (fun v8 w8 => v8 = some (.int (nI (lowN v n))) ∧ w8 = []) := by
  refine xC.of (bytes := cL_low) (maxL := 2) (ret := some .int) (own := RL) (by decide +kernel) rfl (Nat.le_of_ble_eq_true rfl) rfl ?_
  intro p9 e9 s9 m9 args9 below9 meth9 cd9 A hE hr hin2 hA9
  refine x_at (ws' := []) (st' := []) rfl rfl ?_
  refine x_lv [(0, .int v), (1, .int (nI n))] [0, 1] rfl ?_
  refine x_iload_n hE 0 rfl dL_low_0 ?_
  refine x_ldc hE (nI 2147483647) (List.mem_of_getElem? (i := 1) rfl) dL_low_1 ?_
  refine x_iand hE (nI (v31 v)) (v31_ok v) dL_low_3 ?_
  refine x_iload_n hE 1 rfl dL_low_4 ?_
  refine x_irem hE (nI (lowN v n)) (nI_ne0 h0 hn) (xI_rem (v31_lt v) h0 hn) dL_low_5 ?_
  exact x_iret hE hr (⟨rfl, rfl⟩) dL_low_6
theorem kL_cell (l : Launch) (D : va_G) (cI cZ : ClassId) {b L : Nat} {xs : Nat → Int32} (hL : L ≤ 1536) (k : Nat) (hk : k < 2000) : xCs l yL_cell wsL_cell 0 0 0 0 D cI cZ b L xs [.ref b, .int (nI k)] (fun v8 w8 => v8 = some (.int (cellV L xs k)) ∧ w8 = []) := by
  refine xCs.of (bytes := cL_cell) (maxL := 2) (ret := some .int) (own := RL) hL (by decide +kernel) rfl (Nat.le_of_ble_eq_true rfl) rfl ?_
  intro p9 e9 s9 m9 args9 below9 meth9 cd9 A hE hr hin2 hS9
  refine x_at (ws' := []) (st' := []) rfl rfl ?_
  refine x_lv [(0, .ref b), (1, .int (nI k))] [0, 1] rfl ?_
  refine x_iload_n hE 1 rfl dL_cell_0 ?_
  refine x_aload_n hE 0 rfl dL_cell_1 ?_
  refine x_slen hE hS9 dL_cell_2 ?_
  refine xn_icmp_ge hE (by omega) (by omega) 12 (by decide) dL_cell_3 (fun c3 => ?_) (fun c3 => ?_)
  · refine x_ldc hE (nI 6370009) (List.mem_of_getElem? (i := 1) rfl) dL_cell_12 ?_
    refine x_iload_n hE 1 rfl dL_cell_14 ?_
    refine x_imul hE (nI 6370009 * nI k) rfl dL_cell_15 ?_
    refine x_sipush hE (nI 3301) (by decide) dL_cell_16 ?_
    refine x_iadd hE (nI 6370009 * nI k + nI 3301) rfl dL_cell_19 ?_
    exact x_iret hE hr (⟨by rw [cellV, if_neg c3], rfl⟩) dL_cell_20
  · refine x_aload_n hE 0 rfl dL_cell_6 ?_
    refine x_iload_n hE 1 rfl dL_cell_7 ?_
    refine x_sld hE hS9 k (xs k) c3 rfl dL_cell_8 ?_
    refine x_goto hE 20 (by decide) dL_cell_9 ?_
    exact x_iret hE hr (⟨by rw [cellV, if_pos c3], rfl⟩) dL_cell_20
theorem tickN_keep (s : KSt) : ∀ n, kdio (tickN n s) = kdio s ∧ kSus (tickN n s) = kSus s ∧ kSos (tickN n s) = kSos s ∧ kRu (tickN n s) = kRu s ∧ kSl (tickN n s) = kSl s
  | 0 => ⟨rfl, rfl, rfl, rfl, rfl⟩
  | n + 1 => tickN_keep s n
theorem b2n_same {x on : Bool} (h : x = on) : b2n (decide (¬ x = on)) = 0 := by rw [h]; simp [b2n]
set_option maxHeartbeats 8000000 in
set_option maxRecDepth 100000 in
theorem lo_key {p9 : Program} {l : Launch} {e9 : Env} {s9 : State} {m9 : MethodId} {args9 : Array Value} {below9 : List Frame} {meth9 : Method} {cd9 : Code} {Q : State → Prop} {D : va_G} {cI cZ : ClassId} {A : Nat → Prop} {b L : Nat} {xs : Nat → Int32} {a : KAd} {s : KSt} {R C V N cq zq ev : Nat} (hE : xE p9 s9 m9 args9 meth9 cd9 code RL wsL_law 19 D cI cZ A) (hS9 : va_X b L xs s9 s9.heap ∧ b < s9.heap.size ∧ ¬ A b ∧ L ≤ 1536) (hI : INV s R C V N) (hN : N ≤ 800) (hcz : cq + 36 ≤ 600000 ∧ zq + 2304 ≤ 7302250) (g : Int32) (h : Int32)  (hk9 : ∀ (s2 : KSt) (V2 : Nat), INV s2 R C V2 (N + 21) → X p9 l e9 room_1 s9 m9 args9 below9 meth9 cd9 (cq + 36) (zq + 2304) Q 19 D A (kW cI cZ a s2) [(0, .ref b), (1, .ref (aH a)), (3, .int (nI R)), (4, .int (nI C)), (5, .int (nI (R * C))), (6, .int (bI (kdio s2))), (7, .int (bI (kSus s2))), (8, .int (bI (kSos s2))), (9, .int (kRu s2)), (10, .int (kSl s2)), (11, .int (nI V2)), (12, .int (nI ev))] 874 []) : X p9 l e9 room_1 s9 m9 args9 below9 meth9 cd9 cq zq Q 19 D A (kW cI cZ a s) [(0, .ref b), (1, .ref (aH a)), (3, .int (nI R)), (4, .int (nI C)), (5, .int (nI (R * C))), (6, .int (bI (kdio s))), (7, .int (bI (kSus s))), (8, .int (bI (kSos s))), (9, .int (kRu s)), (10, .int (kSl s)), (11, .int (nI V)), (12, .int (nI ev)), (13, .int g), (14, .int h)] 150 [] := by
  have hok := hI.ok (by omega)
  obtain ⟨hRC, hRC1⟩ := hI.rc
  obtain ⟨hR, hC, hV, hpos⟩ : (1 ≤ R ∧ R ≤ 8) ∧ (1 ≤ C ∧ C ≤ 8) ∧ (1 ≤ V ∧ V ≤ 8) ∧ ∀ k, kpos s k ≤ 2 := ⟨hok.2.2.2.1, hok.2.2.2.2.1, hok.2.2.2.2.2.1, hok.2.2.2.2.2.2.1⟩
  have hc9 := hcz.1
  have hz9 := hcz.2
  refine x_iload hE 12 rfl dL_law_150 ?_
  refine x_iload hE 4 rfl dL_law_152 ?_
  refine x_callS0 (n := 2) (st := []) hE (kL_low l D cI cZ g (R * C) (by omega) (by omega)) (fun v w h => h.2) gL_law_L_low rfl (by decide +kernel) ⟨by decide, by decide⟩ ⟨show cq ≤ 600000 by omega, show zq ≤ 7302250 by omega⟩ rfl rfl (Nat.le_of_ble_eq_true rfl) dL_law_154 (fun v9 hT9 => ?_)
  obtain ⟨rfl, -⟩ := hT9
  have hl154 : lowN g (R * C) < R * C := lowN_lt (by omega)
  refine x_at (ws' := (kW cI cZ a s)) (st' := [.int (nI (lowN g (R * C)))]) rfl rfl ?_
  refine x_istore hE [(16, .int (nI (lowN g (R * C)))), (0, .ref b), (1, .ref (aH a)), (3, .int (nI R)), (4, .int (nI C)), (5, .int (nI (R * C))), (6, .int (bI (kdio s))), (7, .int (bI (kSus s))), (8, .int (bI (kSos s))), (9, .int (kRu s)), (10, .int (kSl s)), (11, .int (nI V)), (12, .int (nI ev)), (13, .int g), (14, .int h)] (by decide) rfl dL_law_157 ?_
  refine x_aload_n hE 2 rfl dL_law_159 ?_
  refine x_iload hE 0 rfl dL_law_160 ?_
  refine x_iconst hE (nI 0) (by decide) dL_law_162 ?_
  refine x_callK (n := 2) (st := []) hE (ck_key_0 l D cI cZ a s hok (lowN g (R * C)) (by omega)) gL_law_X4_key rfl rfl (by decide +kernel) ⟨by decide, by decide⟩ ⟨show cq ≤ 600000 by omega, show zq ≤ 7302250 by omega⟩ rfl rfl (Nat.le_of_ble_eq_true rfl) dL_law_163 (fun v9 w9 hT9 => ?_)
  obtain ⟨rfl, rfl⟩ := hT9
  refine x_at (ws' := (kW cI cZ a s)) (st' := [.int (nI (kpos s (lowN g (R * C))))]) rfl rfl ?_
  refine x_istore hE [(17, .int (nI (kpos s (lowN g (R * C))))), (16, .int (nI (lowN g (R * C)))), (0, .ref b), (1, .ref (aH a)), (3, .int (nI R)), (4, .int (nI C)), (5, .int (nI (R * C))), (6, .int (bI (kdio s))), (7, .int (bI (kSus s))), (8, .int (bI (kSos s))), (9, .int (kRu s)), (10, .int (kSl s)), (11, .int (nI V)), (12, .int (nI ev)), (13, .int g), (14, .int h)] (by decide) rfl dL_law_166 ?_
  refine x_iload hE 15 rfl dL_law_168 ?_
  refine x_iconst hE (nI 3) (by decide) dL_law_170 ?_
  refine x_iand hE (h &&& (nI 3)) rfl dL_law_171 ?_
  refine x_if_ne hE 179 (by decide) dL_law_172 (fun c172 => ?_) (fun c172 => ?_)
  · skip
    refine x_iload hE 15 rfl dL_law_179 ?_
    refine x_iconst hE (nI 3) (by decide) dL_law_181 ?_
    refine x_iand hE (h &&& (nI 3)) rfl dL_law_182 ?_
    refine x_iconst hE (nI 1) (by decide) dL_law_183 ?_
    refine x_icmp_ne hE 191 (by decide) dL_law_184 (fun c184 => ?_) (fun c184 => ?_)
    · skip
      refine x_iconst hE (nI 2) (by decide) dL_law_191 ?_
      refine x_istore hE [(18, .int (nI 2)), (17, .int (nI (kpos s (lowN g (R * C))))), (16, .int (nI (lowN g (R * C)))), (0, .ref b), (1, .ref (aH a)), (3, .int (nI R)), (4, .int (nI C)), (5, .int (nI (R * C))), (6, .int (bI (kdio s))), (7, .int (bI (kSus s))), (8, .int (bI (kSos s))), (9, .int (kRu s)), (10, .int (kSl s)), (11, .int (nI V)), (12, .int (nI ev)), (13, .int g), (14, .int h)] (by decide) rfl dL_law_192 ?_
      refine x_aload_n hE 4 rfl dL_law_194 ?_
      refine x_iload hE 2 rfl dL_law_195 ?_
      refine x_iload hE 0 rfl dL_law_197 ?_
      refine x_callK (n := 2) (st := []) hE (ck_setKey l D cI cZ a s hok (lowN g (R * C)) 2 (by omega) (by decide)) gL_law_X4_setKey rfl rfl (by decide +kernel) ⟨by decide, by decide⟩ ⟨show cq ≤ 600000 by omega, show zq ≤ 7302250 by omega⟩ rfl rfl (Nat.le_of_ble_eq_true rfl) dL_law_199 (fun v9 w9 hT9 => ?_)
      obtain ⟨rfl, rfl⟩ := hT9
      refine x_at (ws' := (kW cI cZ a (mvS s (lowN g (R * C)) 2))) (st' := [.int (nI (kpos s (lowN g (R * C))))]) rfl rfl ?_
      refine x_iload hE 1 rfl dL_law_202 ?_
      refine xn_icmp_ne hE (kpos_lt hok _) (kpos_lt hok _) 242 (by decide) dL_law_204 (fun c204 => ?_) (fun c204 => ?_)
      · skip
        exact absurd rfl c204
      · skip
        refine x_aload_n hE 4 rfl dL_law_207 ?_
        refine x_iload hE 2 rfl dL_law_208 ?_
        refine x_iconst hE (nI 0) (by decide) dL_law_210 ?_
        refine x_callK (n := 2) (st := []) hE (ck_key_0 l D cI cZ a (mvS s (lowN g (R * C)) 2) (hok.mv (lowN_lt (by omega)) (by decide)) (lowN g (R * C)) (by omega)) gL_law_X4_key rfl rfl (by decide +kernel) ⟨by decide, by decide⟩ ⟨show cq ≤ 600000 by omega, show zq ≤ 7302250 by omega⟩ rfl rfl (Nat.le_of_ble_eq_true rfl) dL_law_211 (fun v9 w9 hT9 => ?_)
        obtain ⟨rfl, rfl⟩ := hT9
        refine x_at (ws' := (kW cI cZ a (mvS s (lowN g (R * C)) 2))) (st' := [.int (nI (kpos (mvS s (lowN g (R * C)) 2) (lowN g (R * C))))]) rfl rfl ?_
        refine x_eq (nI 2) (congrArg nI (if_pos rfl)) ?_
        refine x_iload hE 0 rfl dL_law_214 ?_
        refine xn_icmp_ne hE (by decide) (by decide) 242 (by decide) dL_law_216 (fun c216 => ?_) (fun c216 => ?_)
        · skip
          exact absurd (by decide) c216
        · skip
          refine x_aload_n hE 4 rfl dL_law_219 ?_
          refine x_iload hE 7 rfl dL_law_220 ?_
          refine x_iconst hE (nI 0) (by decide) dL_law_222 ?_
          refine x_callK (n := 2) (st := []) hE (ck_setKey_hi l D cI cZ a (mvS s (lowN g (R * C)) 2) (hok.mv (lowN_lt (by omega)) (by decide))  ) gL_law_X4_setKey rfl rfl (by decide +kernel) ⟨by decide, by decide⟩ ⟨show cq ≤ 600000 by omega, show zq ≤ 7302250 by omega⟩ rfl rfl (Nat.le_of_ble_eq_true rfl) dL_law_223 (fun v9 w9 hT9 => ?_)
          obtain ⟨rfl, rfl⟩ := hT9
          refine x_at (ws' := (kW cI cZ a (mvS s (lowN g (R * C)) 2))) (st' := [.int (-1)]) rfl rfl ?_
          refine x_iconst hE (-1) (by decide) dL_law_226 ?_
          refine x_icmp_ne hE 242 (by decide) dL_law_227 (fun c227 => ?_) (fun c227 => ?_)
          · skip
            exact absurd rfl c227
          · skip
            refine x_aload_n hE 4 rfl dL_law_230 ?_
            refine x_iload hE 2 rfl dL_law_231 ?_
            refine x_iconst hE (nI 3) (by decide) dL_law_233 ?_
            refine x_callK (n := 2) (st := []) hE (ck_setKey_bad l D cI cZ a (mvS s (lowN g (R * C)) 2) (hok.mv (lowN_lt (by omega)) (by decide)) (lowN g (R * C)) (by omega)) gL_law_X4_setKey rfl rfl (by decide +kernel) ⟨by decide, by decide⟩ ⟨show cq ≤ 600000 by omega, show zq ≤ 7302250 by omega⟩ rfl rfl (Nat.le_of_ble_eq_true rfl) dL_law_234 (fun v9 w9 hT9 => ?_)
            obtain ⟨rfl, rfl⟩ := hT9
            refine x_at (ws' := (kW cI cZ a (mvS s (lowN g (R * C)) 2))) (st' := [.int (-2)]) rfl rfl ?_
            refine x_bipush hE (-2) (by decide) dL_law_237 ?_
            refine x_icmp_eq hE 244 (by decide) dL_law_239 (fun c239 => ?_) (fun c239 => ?_)
            · skip
              refine x_goto hE 874 (by decide) dL_law_244 ?_
              refine x_lv [(0, .ref b), (1, .ref (aH a)), (3, .int (nI R)), (4, .int (nI C)), (5, .int (nI (R * C))), (6, .int (bI (kdio s))), (7, .int (bI (kSus s))), (8, .int (bI (kSos s))), (9, .int (kRu s)), (10, .int (kSl s)), (11, .int (nI V)), (12, .int (nI ev))] [3, 4, 5, 6, 7, 8, 9, 10, 11, 12, 13, 14] rfl ?_
              refine x_widen (cq + 36) (zq + 2304) (by omega) (by omega) ?_
              exact hk9 (mvS s (lowN g (R * C)) 2) V ((hI.mv (lowN_lt (by omega)) (by decide)).le (by omega))
            · skip
              exact absurd rfl c239
    · skip
      refine x_iconst hE (nI 1) (by decide) dL_law_187 ?_
      refine x_goto hE 192 (by decide) dL_law_188 ?_
      refine x_istore hE [(18, .int (nI 1)), (17, .int (nI (kpos s (lowN g (R * C))))), (16, .int (nI (lowN g (R * C)))), (0, .ref b), (1, .ref (aH a)), (3, .int (nI R)), (4, .int (nI C)), (5, .int (nI (R * C))), (6, .int (bI (kdio s))), (7, .int (bI (kSus s))), (8, .int (bI (kSos s))), (9, .int (kRu s)), (10, .int (kSl s)), (11, .int (nI V)), (12, .int (nI ev)), (13, .int g), (14, .int h)] (by decide) rfl dL_law_192 ?_
      refine x_aload_n hE 4 rfl dL_law_194 ?_
      refine x_iload hE 2 rfl dL_law_195 ?_
      refine x_iload hE 0 rfl dL_law_197 ?_
      refine x_callK (n := 2) (st := []) hE (ck_setKey l D cI cZ a s hok (lowN g (R * C)) 1 (by omega) (by decide)) gL_law_X4_setKey rfl rfl (by decide +kernel) ⟨by decide, by decide⟩ ⟨show cq ≤ 600000 by omega, show zq ≤ 7302250 by omega⟩ rfl rfl (Nat.le_of_ble_eq_true rfl) dL_law_199 (fun v9 w9 hT9 => ?_)
      obtain ⟨rfl, rfl⟩ := hT9
      refine x_at (ws' := (kW cI cZ a (mvS s (lowN g (R * C)) 1))) (st' := [.int (nI (kpos s (lowN g (R * C))))]) rfl rfl ?_
      refine x_iload hE 1 rfl dL_law_202 ?_
      refine xn_icmp_ne hE (kpos_lt hok _) (kpos_lt hok _) 242 (by decide) dL_law_204 (fun c204 => ?_) (fun c204 => ?_)
      · skip
        exact absurd rfl c204
      · skip
        refine x_aload_n hE 4 rfl dL_law_207 ?_
        refine x_iload hE 2 rfl dL_law_208 ?_
        refine x_iconst hE (nI 0) (by decide) dL_law_210 ?_
        refine x_callK (n := 2) (st := []) hE (ck_key_0 l D cI cZ a (mvS s (lowN g (R * C)) 1) (hok.mv (lowN_lt (by omega)) (by decide)) (lowN g (R * C)) (by omega)) gL_law_X4_key rfl rfl (by decide +kernel) ⟨by decide, by decide⟩ ⟨show cq ≤ 600000 by omega, show zq ≤ 7302250 by omega⟩ rfl rfl (Nat.le_of_ble_eq_true rfl) dL_law_211 (fun v9 w9 hT9 => ?_)
        obtain ⟨rfl, rfl⟩ := hT9
        refine x_at (ws' := (kW cI cZ a (mvS s (lowN g (R * C)) 1))) (st' := [.int (nI (kpos (mvS s (lowN g (R * C)) 1) (lowN g (R * C))))]) rfl rfl ?_
        refine x_eq (nI 1) (congrArg nI (if_pos rfl)) ?_
        refine x_iload hE 0 rfl dL_law_214 ?_
        refine xn_icmp_ne hE (by decide) (by decide) 242 (by decide) dL_law_216 (fun c216 => ?_) (fun c216 => ?_)
        · skip
          exact absurd (by decide) c216
        · skip
          refine x_aload_n hE 4 rfl dL_law_219 ?_
          refine x_iload hE 7 rfl dL_law_220 ?_
          refine x_iconst hE (nI 0) (by decide) dL_law_222 ?_
          refine x_callK (n := 2) (st := []) hE (ck_setKey_hi l D cI cZ a (mvS s (lowN g (R * C)) 1) (hok.mv (lowN_lt (by omega)) (by decide))  ) gL_law_X4_setKey rfl rfl (by decide +kernel) ⟨by decide, by decide⟩ ⟨show cq ≤ 600000 by omega, show zq ≤ 7302250 by omega⟩ rfl rfl (Nat.le_of_ble_eq_true rfl) dL_law_223 (fun v9 w9 hT9 => ?_)
          obtain ⟨rfl, rfl⟩ := hT9
          refine x_at (ws' := (kW cI cZ a (mvS s (lowN g (R * C)) 1))) (st' := [.int (-1)]) rfl rfl ?_
          refine x_iconst hE (-1) (by decide) dL_law_226 ?_
          refine x_icmp_ne hE 242 (by decide) dL_law_227 (fun c227 => ?_) (fun c227 => ?_)
          · skip
            exact absurd rfl c227
          · skip
            refine x_aload_n hE 4 rfl dL_law_230 ?_
            refine x_iload hE 2 rfl dL_law_231 ?_
            refine x_iconst hE (nI 3) (by decide) dL_law_233 ?_
            refine x_callK (n := 2) (st := []) hE (ck_setKey_bad l D cI cZ a (mvS s (lowN g (R * C)) 1) (hok.mv (lowN_lt (by omega)) (by decide)) (lowN g (R * C)) (by omega)) gL_law_X4_setKey rfl rfl (by decide +kernel) ⟨by decide, by decide⟩ ⟨show cq ≤ 600000 by omega, show zq ≤ 7302250 by omega⟩ rfl rfl (Nat.le_of_ble_eq_true rfl) dL_law_234 (fun v9 w9 hT9 => ?_)
            obtain ⟨rfl, rfl⟩ := hT9
            refine x_at (ws' := (kW cI cZ a (mvS s (lowN g (R * C)) 1))) (st' := [.int (-2)]) rfl rfl ?_
            refine x_bipush hE (-2) (by decide) dL_law_237 ?_
            refine x_icmp_eq hE 244 (by decide) dL_law_239 (fun c239 => ?_) (fun c239 => ?_)
            · skip
              refine x_goto hE 874 (by decide) dL_law_244 ?_
              refine x_lv [(0, .ref b), (1, .ref (aH a)), (3, .int (nI R)), (4, .int (nI C)), (5, .int (nI (R * C))), (6, .int (bI (kdio s))), (7, .int (bI (kSus s))), (8, .int (bI (kSos s))), (9, .int (kRu s)), (10, .int (kSl s)), (11, .int (nI V)), (12, .int (nI ev))] [3, 4, 5, 6, 7, 8, 9, 10, 11, 12, 13, 14] rfl ?_
              refine x_widen (cq + 36) (zq + 2304) (by omega) (by omega) ?_
              exact hk9 (mvS s (lowN g (R * C)) 1) V ((hI.mv (lowN_lt (by omega)) (by decide)).le (by omega))
            · skip
              exact absurd rfl c239
  · skip
    refine x_iconst hE (nI 0) (by decide) dL_law_175 ?_
    refine x_goto hE 192 (by decide) dL_law_176 ?_
    refine x_istore hE [(18, .int (nI 0)), (17, .int (nI (kpos s (lowN g (R * C))))), (16, .int (nI (lowN g (R * C)))), (0, .ref b), (1, .ref (aH a)), (3, .int (nI R)), (4, .int (nI C)), (5, .int (nI (R * C))), (6, .int (bI (kdio s))), (7, .int (bI (kSus s))), (8, .int (bI (kSos s))), (9, .int (kRu s)), (10, .int (kSl s)), (11, .int (nI V)), (12, .int (nI ev)), (13, .int g), (14, .int h)] (by decide) rfl dL_law_192 ?_
    refine x_aload_n hE 4 rfl dL_law_194 ?_
    refine x_iload hE 2 rfl dL_law_195 ?_
    refine x_iload hE 0 rfl dL_law_197 ?_
    refine x_callK (n := 2) (st := []) hE (ck_setKey l D cI cZ a s hok (lowN g (R * C)) 0 (by omega) (by decide)) gL_law_X4_setKey rfl rfl (by decide +kernel) ⟨by decide, by decide⟩ ⟨show cq ≤ 600000 by omega, show zq ≤ 7302250 by omega⟩ rfl rfl (Nat.le_of_ble_eq_true rfl) dL_law_199 (fun v9 w9 hT9 => ?_)
    obtain ⟨rfl, rfl⟩ := hT9
    refine x_at (ws' := (kW cI cZ a (mvS s (lowN g (R * C)) 0))) (st' := [.int (nI (kpos s (lowN g (R * C))))]) rfl rfl ?_
    refine x_iload hE 1 rfl dL_law_202 ?_
    refine xn_icmp_ne hE (kpos_lt hok _) (kpos_lt hok _) 242 (by decide) dL_law_204 (fun c204 => ?_) (fun c204 => ?_)
    · skip
      exact absurd rfl c204
    · skip
      refine x_aload_n hE 4 rfl dL_law_207 ?_
      refine x_iload hE 2 rfl dL_law_208 ?_
      refine x_iconst hE (nI 0) (by decide) dL_law_210 ?_
      refine x_callK (n := 2) (st := []) hE (ck_key_0 l D cI cZ a (mvS s (lowN g (R * C)) 0) (hok.mv (lowN_lt (by omega)) (by decide)) (lowN g (R * C)) (by omega)) gL_law_X4_key rfl rfl (by decide +kernel) ⟨by decide, by decide⟩ ⟨show cq ≤ 600000 by omega, show zq ≤ 7302250 by omega⟩ rfl rfl (Nat.le_of_ble_eq_true rfl) dL_law_211 (fun v9 w9 hT9 => ?_)
      obtain ⟨rfl, rfl⟩ := hT9
      refine x_at (ws' := (kW cI cZ a (mvS s (lowN g (R * C)) 0))) (st' := [.int (nI (kpos (mvS s (lowN g (R * C)) 0) (lowN g (R * C))))]) rfl rfl ?_
      refine x_eq (nI 0) (congrArg nI (if_pos rfl)) ?_
      refine x_iload hE 0 rfl dL_law_214 ?_
      refine xn_icmp_ne hE (by decide) (by decide) 242 (by decide) dL_law_216 (fun c216 => ?_) (fun c216 => ?_)
      · skip
        exact absurd (by decide) c216
      · skip
        refine x_aload_n hE 4 rfl dL_law_219 ?_
        refine x_iload hE 7 rfl dL_law_220 ?_
        refine x_iconst hE (nI 0) (by decide) dL_law_222 ?_
        refine x_callK (n := 2) (st := []) hE (ck_setKey_hi l D cI cZ a (mvS s (lowN g (R * C)) 0) (hok.mv (lowN_lt (by omega)) (by decide))  ) gL_law_X4_setKey rfl rfl (by decide +kernel) ⟨by decide, by decide⟩ ⟨show cq ≤ 600000 by omega, show zq ≤ 7302250 by omega⟩ rfl rfl (Nat.le_of_ble_eq_true rfl) dL_law_223 (fun v9 w9 hT9 => ?_)
        obtain ⟨rfl, rfl⟩ := hT9
        refine x_at (ws' := (kW cI cZ a (mvS s (lowN g (R * C)) 0))) (st' := [.int (-1)]) rfl rfl ?_
        refine x_iconst hE (-1) (by decide) dL_law_226 ?_
        refine x_icmp_ne hE 242 (by decide) dL_law_227 (fun c227 => ?_) (fun c227 => ?_)
        · skip
          exact absurd rfl c227
        · skip
          refine x_aload_n hE 4 rfl dL_law_230 ?_
          refine x_iload hE 2 rfl dL_law_231 ?_
          refine x_iconst hE (nI 3) (by decide) dL_law_233 ?_
          refine x_callK (n := 2) (st := []) hE (ck_setKey_bad l D cI cZ a (mvS s (lowN g (R * C)) 0) (hok.mv (lowN_lt (by omega)) (by decide)) (lowN g (R * C)) (by omega)) gL_law_X4_setKey rfl rfl (by decide +kernel) ⟨by decide, by decide⟩ ⟨show cq ≤ 600000 by omega, show zq ≤ 7302250 by omega⟩ rfl rfl (Nat.le_of_ble_eq_true rfl) dL_law_234 (fun v9 w9 hT9 => ?_)
          obtain ⟨rfl, rfl⟩ := hT9
          refine x_at (ws' := (kW cI cZ a (mvS s (lowN g (R * C)) 0))) (st' := [.int (-2)]) rfl rfl ?_
          refine x_bipush hE (-2) (by decide) dL_law_237 ?_
          refine x_icmp_eq hE 244 (by decide) dL_law_239 (fun c239 => ?_) (fun c239 => ?_)
          · skip
            refine x_goto hE 874 (by decide) dL_law_244 ?_
            refine x_lv [(0, .ref b), (1, .ref (aH a)), (3, .int (nI R)), (4, .int (nI C)), (5, .int (nI (R * C))), (6, .int (bI (kdio s))), (7, .int (bI (kSus s))), (8, .int (bI (kSos s))), (9, .int (kRu s)), (10, .int (kSl s)), (11, .int (nI V)), (12, .int (nI ev))] [3, 4, 5, 6, 7, 8, 9, 10, 11, 12, 13, 14] rfl ?_
            refine x_widen (cq + 36) (zq + 2304) (by omega) (by omega) ?_
            exact hk9 (mvS s (lowN g (R * C)) 0) V ((hI.mv (lowN_lt (by omega)) (by decide)).le (by omega))
          · skip
            exact absurd rfl c239
set_option maxHeartbeats 8000000 in
set_option maxRecDepth 100000 in
theorem lo_ticks {p9 : Program} {l : Launch} {e9 : Env} {s9 : State} {m9 : MethodId} {args9 : Array Value} {below9 : List Frame} {meth9 : Method} {cd9 : Code} {Q : State → Prop} {D : va_G} {cI cZ : ClassId} {A : Nat → Prop} {b L : Nat} {xs : Nat → Int32} {a : KAd} {s : KSt} {R C V N cq zq ev : Nat} (hE : xE p9 s9 m9 args9 meth9 cd9 code RL wsL_law 19 D cI cZ A) (hS9 : va_X b L xs s9 s9.heap ∧ b < s9.heap.size ∧ ¬ A b ∧ L ≤ 1536) (hI : INV s R C V N) (hN : N ≤ 800) (hcz : cq + 36 ≤ 600000 ∧ zq + 2304 ≤ 7302250) (g : Int32) (h : Int32)  (hk9 : ∀ (s2 : KSt) (V2 : Nat), INV s2 R C V2 (N + 21) → X p9 l e9 room_1 s9 m9 args9 below9 meth9 cd9 (cq + 36) (zq + 2304) Q 19 D A (kW cI cZ a s2) [(0, .ref b), (1, .ref (aH a)), (3, .int (nI R)), (4, .int (nI C)), (5, .int (nI (R * C))), (6, .int (bI (kdio s2))), (7, .int (bI (kSus s2))), (8, .int (bI (kSos s2))), (9, .int (kRu s2)), (10, .int (kSl s2)), (11, .int (nI V2)), (12, .int (nI ev))] 874 []) : X p9 l e9 room_1 s9 m9 args9 below9 meth9 cd9 cq zq Q 19 D A (kW cI cZ a s) [(0, .ref b), (1, .ref (aH a)), (3, .int (nI R)), (4, .int (nI C)), (5, .int (nI (R * C))), (6, .int (bI (kdio s))), (7, .int (bI (kSus s))), (8, .int (bI (kSos s))), (9, .int (kRu s)), (10, .int (kSl s)), (11, .int (nI V)), (12, .int (nI ev)), (13, .int g), (14, .int h)] 254 [] := by
  have hok := hI.ok (by omega)
  obtain ⟨hRC, hRC1⟩ := hI.rc
  obtain ⟨hR, hC, hV, hpos⟩ : (1 ≤ R ∧ R ≤ 8) ∧ (1 ≤ C ∧ C ≤ 8) ∧ (1 ≤ V ∧ V ≤ 8) ∧ ∀ k, kpos s k ≤ 2 := ⟨hok.2.2.2.1, hok.2.2.2.2.1, hok.2.2.2.2.2.1, hok.2.2.2.2.2.2.1⟩
  have hc9 := hcz.1
  have hz9 := hcz.2
  have sg271 : ∀ (n : Nat) (i : Nat) (nn : Nat) (hi : i + n = nn) (hnn : nn ≤ 18) (hx : X p9 l e9 room_1 s9 m9 args9 below9 meth9 cd9 (cq + 2 * nn) (zq + 128 * nn) Q 19 D A (kW cI cZ a (tickN nn s)) [(0, .ref b), (1, .ref (aH a)), (3, .int (nI R)), (4, .int (nI C)), (5, .int (nI (R * C))), (6, .int (bI (kdio s))), (7, .int (bI (kSus s))), (8, .int (bI (kSos s))), (9, .int (kRu s)), (10, .int (kSl s)), (11, .int (nI V)), (12, .int (nI ev))] 296 []), X p9 l e9 room_1 s9 m9 args9 below9 meth9 cd9 (cq + 2 * i) (zq + 128 * i) Q 19 D A (kW cI cZ a (tickN i s)) [(0, .ref b), (1, .ref (aH a)), (3, .int (nI R)), (4, .int (nI C)), (5, .int (nI (R * C))), (6, .int (bI (kdio s))), (7, .int (bI (kSus s))), (8, .int (bI (kSos s))), (9, .int (kRu s)), (10, .int (kSl s)), (11, .int (nI V)), (12, .int (nI ev)), (16, .int (nI nn)), (17, .int (nI i))] 271 [] := by
    intro n
    induction n with
    | zero =>
      intro i nn hi hnn hx
      refine x_iload hE 13 rfl dL_law_271 ?_
      refine x_iload hE 12 rfl dL_law_273 ?_
      refine xn_icmp_ge hE (by omega) (by omega) 296 (by decide) dL_law_275 (fun c275 => ?_) (fun c275 => ?_)
      · skip
        refine x_lv [(0, .ref b), (1, .ref (aH a)), (3, .int (nI R)), (4, .int (nI C)), (5, .int (nI (R * C))), (6, .int (bI (kdio s))), (7, .int (bI (kSus s))), (8, .int (bI (kSos s))), (9, .int (kRu s)), (10, .int (kSl s)), (11, .int (nI V)), (12, .int (nI ev))] [0, 1, 2, 3, 4, 5, 6, 7, 8, 9, 10, 11] rfl ?_
        obtain rfl : i = nn := by omega
        exact hx
      · skip
        exfalso; omega
    | succ n ih =>
      intro i nn hi hnn hx
      refine x_iload hE 13 rfl dL_law_271 ?_
      refine x_iload hE 12 rfl dL_law_273 ?_
      refine xn_icmp_ge hE (by omega) (by omega) 296 (by decide) dL_law_275 (fun c275 => ?_) (fun c275 => ?_)
      · skip
        exfalso; omega
      · skip
        refine x_aload_n hE 1 rfl dL_law_278 ?_
        refine x_iload_n hE 2 rfl dL_law_279 ?_
        refine x_iload hE 3 rfl dL_law_280 ?_
        refine x_callSK (n := 3) (st := []) hE (kL_tick l D cI cZ a (tickN i s)  (hI.tkN i (by omega)) (by omega)) gL_law_L_tick rfl (by decide +kernel) ⟨by decide, by decide⟩ ⟨show cq + 2 * i + 2 ≤ 600000 by omega, show zq + 128 * i + 128 ≤ 7302250 by omega⟩ rfl rfl (Nat.le_of_ble_eq_true rfl) dL_law_282 (fun v9 w9 hT9 => ?_)
        obtain ⟨rfl, rfl⟩ := hT9
        refine x_at (ws' := (kW cI cZ a (tick1 (tickN i s)))) (st' := [.int (bI true)]) rfl rfl ?_
        refine xb_if_ne hE 290 (by decide) dL_law_285 (fun c285 => ?_) (fun c285 => ?_)
        · skip
          refine x_iinc hE (nI (i + 1)) [(17, .int (nI (i + 1))), (0, .ref b), (1, .ref (aH a)), (3, .int (nI R)), (4, .int (nI C)), (5, .int (nI (R * C))), (6, .int (bI (kdio s))), (7, .int (bI (kSus s))), (8, .int (bI (kSos s))), (9, .int (kRu s)), (10, .int (kSl s)), (11, .int (nI V)), (12, .int (nI ev)), (16, .int (nI nn))] 13 rfl (nI_add _ _) (by decide) rfl dL_law_290 ?_
          refine x_goto hE 271 (by decide) dL_law_293 ?_
          refine x_lv [(0, .ref b), (1, .ref (aH a)), (3, .int (nI R)), (4, .int (nI C)), (5, .int (nI (R * C))), (6, .int (bI (kdio s))), (7, .int (bI (kSus s))), (8, .int (bI (kSos s))), (9, .int (kRu s)), (10, .int (kSl s)), (11, .int (nI V)), (12, .int (nI ev)), (16, .int (nI nn)), (17, .int (nI (i + 1)))] [1, 2, 3, 4, 5, 6, 7, 8, 9, 10, 11, 12, 13, 0] rfl ?_
          refine x_at (ws' := (kW cI cZ a (tickN (i + 1) s))) (st' := []) rfl rfl ?_
          refine x_widen (cq + 2 * (i + 1)) (zq + 128 * (i + 1)) (by omega) (by omega) ?_
          exact ih (i + 1) nn (by omega) (hnn) hx
        · skip
          exact absurd c285 (by decide)
  refine x_iconst hE (nI 1) (by decide) dL_law_254 ?_
  refine x_iload hE 13 rfl dL_law_255 ?_
  refine x_iconst hE (nI 2) (by decide) dL_law_257 ?_
  refine x_iload_n hE 2 rfl dL_law_258 ?_
  refine x_imul hE (nI (2 * R)) (xI_mul _ _) dL_law_259 ?_
  refine x_iconst hE (nI 2) (by decide) dL_law_260 ?_
  refine x_iadd hE (nI ((2 * R) + 2)) (nI_add _ _) dL_law_261 ?_
  refine x_callS0 (n := 2) (st := [.int (nI 1)]) hE (kL_low l D cI cZ h ((2 * R) + 2) (by omega) (by omega)) (fun v w h => h.2) gL_law_L_low rfl (by decide +kernel) ⟨by decide, by decide⟩ ⟨show cq ≤ 600000 by omega, show zq ≤ 7302250 by omega⟩ rfl rfl (Nat.le_of_ble_eq_true rfl) dL_law_262 (fun v9 hT9 => ?_)
  obtain ⟨rfl, -⟩ := hT9
  have hl262 : lowN h ((2 * R) + 2) < (2 * R) + 2 := lowN_lt (by omega)
  refine x_at (ws' := (kW cI cZ a s)) (st' := [.int (nI (lowN h ((2 * R) + 2))), .int (nI 1)]) rfl rfl ?_
  refine x_iadd hE (nI (1 + (lowN h ((2 * R) + 2)))) (nI_add _ _) dL_law_265 ?_
  refine x_istore hE [(16, .int (nI (1 + (lowN h ((2 * R) + 2))))), (0, .ref b), (1, .ref (aH a)), (3, .int (nI R)), (4, .int (nI C)), (5, .int (nI (R * C))), (6, .int (bI (kdio s))), (7, .int (bI (kSus s))), (8, .int (bI (kSos s))), (9, .int (kRu s)), (10, .int (kSl s)), (11, .int (nI V)), (12, .int (nI ev)), (13, .int g), (14, .int h)] (by decide) rfl dL_law_266 ?_
  refine x_iconst hE (nI 0) (by decide) dL_law_268 ?_
  refine x_istore hE [(17, .int (nI 0)), (16, .int (nI (1 + (lowN h ((2 * R) + 2))))), (0, .ref b), (1, .ref (aH a)), (3, .int (nI R)), (4, .int (nI C)), (5, .int (nI (R * C))), (6, .int (bI (kdio s))), (7, .int (bI (kSus s))), (8, .int (bI (kSos s))), (9, .int (kRu s)), (10, .int (kSl s)), (11, .int (nI V)), (12, .int (nI ev)), (13, .int g), (14, .int h)] (by decide) rfl dL_law_269 ?_
  refine x_lv [(0, .ref b), (1, .ref (aH a)), (3, .int (nI R)), (4, .int (nI C)), (5, .int (nI (R * C))), (6, .int (bI (kdio s))), (7, .int (bI (kSus s))), (8, .int (bI (kSos s))), (9, .int (kRu s)), (10, .int (kSl s)), (11, .int (nI V)), (12, .int (nI ev)), (16, .int (nI (1 + (lowN h ((2 * R) + 2))))), (17, .int (nI 0))] [2, 3, 4, 5, 6, 7, 8, 9, 10, 11, 12, 13, 1, 0] rfl ?_
  refine x_at (ws' := (kW cI cZ a (tickN 0 s))) (st' := []) rfl rfl ?_
  refine x_widen (cq + 2 * 0) (zq + 128 * 0) (by omega) (by omega) ?_
  refine sg271 (1 + (lowN h ((2 * R) + 2))) 0 (1 + (lowN h ((2 * R) + 2))) (Nat.zero_add _) (by omega) ?_
  refine x_goto hE 874 (by decide) dL_law_296 ?_
  refine x_lve (lv2 := [(0, .ref b), (1, .ref (aH a)), (3, .int (nI R)), (4, .int (nI C)), (5, .int (nI (R * C))), (6, .int (bI (kdio (tickN (1 + (lowN h ((2 * R) + 2))) s)))), (7, .int (bI (kSus (tickN (1 + (lowN h ((2 * R) + 2))) s)))), (8, .int (bI (kSos (tickN (1 + (lowN h ((2 * R) + 2))) s)))), (9, .int (kRu (tickN (1 + (lowN h ((2 * R) + 2))) s))), (10, .int (kSl (tickN (1 + (lowN h ((2 * R) + 2))) s))), (11, .int (nI V)), (12, .int (nI ev))]) (by rw [(tickN_keep s _).1, (tickN_keep s _).2.1, (tickN_keep s _).2.2.1, (tickN_keep s _).2.2.2.1, (tickN_keep s _).2.2.2.2]) ?_
  refine x_widen (cq + 36) (zq + 2304) (by omega) (by omega) ?_
  exact hk9 (tickN (1 + (lowN h ((2 * R) + 2))) s) V ((hI.tkN _ (by omega)).le (by omega))
set_option maxHeartbeats 8000000 in
set_option maxRecDepth 100000 in
theorem lo_pedals {p9 : Program} {l : Launch} {e9 : Env} {s9 : State} {m9 : MethodId} {args9 : Array Value} {below9 : List Frame} {meth9 : Method} {cd9 : Code} {Q : State → Prop} {D : va_G} {cI cZ : ClassId} {A : Nat → Prop} {b L : Nat} {xs : Nat → Int32} {a : KAd} {s : KSt} {R C V N cq zq ev : Nat} (hE : xE p9 s9 m9 args9 meth9 cd9 code RL wsL_law 19 D cI cZ A) (hS9 : va_X b L xs s9 s9.heap ∧ b < s9.heap.size ∧ ¬ A b ∧ L ≤ 1536) (hI : INV s R C V N) (hN : N ≤ 800) (hcz : cq + 36 ≤ 600000 ∧ zq + 2304 ≤ 7302250) (g : Int32) (h : Int32)  (hk9 : ∀ (s2 : KSt) (V2 : Nat), INV s2 R C V2 (N + 21) → X p9 l e9 room_1 s9 m9 args9 below9 meth9 cd9 (cq + 36) (zq + 2304) Q 19 D A (kW cI cZ a s2) [(0, .ref b), (1, .ref (aH a)), (3, .int (nI R)), (4, .int (nI C)), (5, .int (nI (R * C))), (6, .int (bI (kdio s2))), (7, .int (bI (kSus s2))), (8, .int (bI (kSos s2))), (9, .int (kRu s2)), (10, .int (kSl s2)), (11, .int (nI V2)), (12, .int (nI ev))] 874 []) : X p9 l e9 room_1 s9 m9 args9 below9 meth9 cd9 cq zq Q 19 D A (kW cI cZ a s) [(0, .ref b), (1, .ref (aH a)), (3, .int (nI R)), (4, .int (nI C)), (5, .int (nI (R * C))), (6, .int (bI (kdio s))), (7, .int (bI (kSus s))), (8, .int (bI (kSos s))), (9, .int (kRu s)), (10, .int (kSl s)), (11, .int (nI V)), (12, .int (nI ev)), (13, .int g), (14, .int h)] 306 [] := by
  have hok := hI.ok (by omega)
  obtain ⟨hRC, hRC1⟩ := hI.rc
  obtain ⟨hR, hC, hV, hpos⟩ : (1 ≤ R ∧ R ≤ 8) ∧ (1 ≤ C ∧ C ≤ 8) ∧ (1 ≤ V ∧ V ≤ 8) ∧ ∀ k, kpos s k ≤ 2 := ⟨hok.2.2.2.1, hok.2.2.2.2.1, hok.2.2.2.2.2.1, hok.2.2.2.2.2.2.1⟩
  have hc9 := hcz.1
  have hz9 := hcz.2
  refine x_iload hE 13 rfl dL_law_306 ?_
  refine x_iconst hE (nI 1) (by decide) dL_law_308 ?_
  refine x_iand hE (h &&& (nI 1)) rfl dL_law_309 ?_
  refine x_if_ne hE 317 (by decide) dL_law_310 (fun c310 => ?_) (fun c310 => ?_)
  · skip
    refine x_iconst hE (nI 0) (by decide) dL_law_317 ?_
    refine x_istore hE [(16, .int (nI 0)), (0, .ref b), (1, .ref (aH a)), (3, .int (nI R)), (4, .int (nI C)), (5, .int (nI (R * C))), (6, .int (bI (kdio s))), (7, .int (bI (kSus s))), (8, .int (bI (kSos s))), (9, .int (kRu s)), (10, .int (kSl s)), (11, .int (nI V)), (12, .int (nI ev)), (13, .int g), (14, .int h)] (by decide) rfl dL_law_318 ?_
    refine x_iload hE 13 rfl dL_law_320 ?_
    refine x_iconst hE (nI 1) (by decide) dL_law_322 ?_
    refine x_iand hE (g &&& (nI 1)) rfl dL_law_323 ?_
    refine x_if_ne hE 344 (by decide) dL_law_324 (fun c324 => ?_) (fun c324 => ?_)
    · skip
      refine x_aload_n hE 2 rfl dL_law_344 ?_
      refine x_iconst hE (nI 1) (by decide) dL_law_345 ?_
      refine x_iload hE 0 rfl dL_law_346 ?_
      refine x_iload hE 8 rfl dL_law_348 ?_
      refine x_iload hE 7 rfl dL_law_350 ?_
      refine x_callSK (n := 5) (st := []) hE (kL_pedals_1 l D cI cZ a s false hI (by omega)) gL_law_L_pedals rfl (by decide +kernel) ⟨by decide, by decide⟩ ⟨show cq ≤ 600000 by omega, show zq ≤ 7302250 by omega⟩ rfl rfl (Nat.le_of_ble_eq_true rfl) dL_law_352 (fun v9 w9 hT9 => ?_)
      obtain ⟨rfl, rfl⟩ := hT9
      refine x_at (ws' := (kW cI cZ a (soS s false))) (st' := [.int (bI true)]) rfl rfl ?_
      refine xb_if_ne hE 360 (by decide) dL_law_355 (fun c355 => ?_) (fun c355 => ?_)
      · skip
        refine x_iload hE 13 rfl dL_law_360 ?_
        refine x_iconst hE (nI 1) (by decide) dL_law_362 ?_
        refine x_iand hE (g &&& (nI 1)) rfl dL_law_363 ?_
        refine x_if_ne hE 372 (by decide) dL_law_364 (fun c364 => ?_) (fun c364 => ?_)
        · skip
          refine x_iload hE 7 rfl dL_law_372 ?_
          refine x_istore hE [(7, .int (bI (kSus s))), (16, .int (nI 0)), (0, .ref b), (1, .ref (aH a)), (3, .int (nI R)), (4, .int (nI C)), (5, .int (nI (R * C))), (6, .int (bI (kdio s))), (8, .int (bI (kSos s))), (9, .int (kRu s)), (10, .int (kSl s)), (11, .int (nI V)), (12, .int (nI ev)), (13, .int g), (14, .int h)] (by decide) rfl dL_law_374 ?_
          refine x_iload hE 13 rfl dL_law_376 ?_
          refine x_iconst hE (nI 1) (by decide) dL_law_378 ?_
          refine x_iand hE (g &&& (nI 1)) rfl dL_law_379 ?_
          refine x_if_ne hE 388 (by decide) dL_law_380 (fun c380 => ?_) (fun c380 => ?_)
          · skip
            refine x_iload hE 1 rfl dL_law_388 ?_
            refine x_istore hE [(8, .int (nI 0)), (7, .int (bI (kSus s))), (16, .int (nI 0)), (0, .ref b), (1, .ref (aH a)), (3, .int (nI R)), (4, .int (nI C)), (5, .int (nI (R * C))), (6, .int (bI (kdio s))), (9, .int (kRu s)), (10, .int (kSl s)), (11, .int (nI V)), (12, .int (nI ev)), (13, .int g), (14, .int h)] (by decide) rfl dL_law_390 ?_
            refine x_goto hE 874 (by decide) dL_law_392 ?_
            refine x_lv [(0, .ref b), (1, .ref (aH a)), (3, .int (nI R)), (4, .int (nI C)), (5, .int (nI (R * C))), (6, .int (bI (kdio s))), (7, .int (bI (kSus s))), (8, .int (nI 0)), (9, .int (kRu s)), (10, .int (kSl s)), (11, .int (nI V)), (12, .int (nI ev))] [3, 4, 5, 6, 7, 8, 1, 0, 9, 10, 11, 12] rfl ?_
            refine x_widen (cq + 36) (zq + 2304) (by omega) (by omega) ?_
            exact hk9 (soS s false) V ((hI.so false).le (by omega))
          · skip
            exact absurd c380 c324
        · skip
          exact absurd c364 c324
      · skip
        exact absurd c355 (by decide)
    · skip
      refine x_aload_n hE 2 rfl dL_law_327 ?_
      refine x_iconst hE (nI 0) (by decide) dL_law_328 ?_
      refine x_iload hE 0 rfl dL_law_329 ?_
      refine x_iload hE 7 rfl dL_law_331 ?_
      refine x_iload hE 8 rfl dL_law_333 ?_
      refine x_callSK (n := 5) (st := []) hE (kL_pedals_0 l D cI cZ a s false hI (by omega)) gL_law_L_pedals rfl (by decide +kernel) ⟨by decide, by decide⟩ ⟨show cq ≤ 600000 by omega, show zq ≤ 7302250 by omega⟩ rfl rfl (Nat.le_of_ble_eq_true rfl) dL_law_335 (fun v9 w9 hT9 => ?_)
      obtain ⟨rfl, rfl⟩ := hT9
      refine x_at (ws' := (kW cI cZ a (suS s false))) (st' := [.int (bI true)]) rfl rfl ?_
      refine xb_if_ne hE 360 (by decide) dL_law_338 (fun c338 => ?_) (fun c338 => ?_)
      · skip
        refine x_iload hE 13 rfl dL_law_360 ?_
        refine x_iconst hE (nI 1) (by decide) dL_law_362 ?_
        refine x_iand hE (g &&& (nI 1)) rfl dL_law_363 ?_
        refine x_if_ne hE 372 (by decide) dL_law_364 (fun c364 => ?_) (fun c364 => ?_)
        · skip
          exact absurd c324 c364
        · skip
          refine x_iload hE 0 rfl dL_law_367 ?_
          refine x_goto hE 374 (by decide) dL_law_369 ?_
          refine x_istore hE [(7, .int (nI 0)), (16, .int (nI 0)), (0, .ref b), (1, .ref (aH a)), (3, .int (nI R)), (4, .int (nI C)), (5, .int (nI (R * C))), (6, .int (bI (kdio s))), (8, .int (bI (kSos s))), (9, .int (kRu s)), (10, .int (kSl s)), (11, .int (nI V)), (12, .int (nI ev)), (13, .int g), (14, .int h)] (by decide) rfl dL_law_374 ?_
          refine x_iload hE 13 rfl dL_law_376 ?_
          refine x_iconst hE (nI 1) (by decide) dL_law_378 ?_
          refine x_iand hE (g &&& (nI 1)) rfl dL_law_379 ?_
          refine x_if_ne hE 388 (by decide) dL_law_380 (fun c380 => ?_) (fun c380 => ?_)
          · skip
            exact absurd c324 c380
          · skip
            refine x_iload hE 8 rfl dL_law_383 ?_
            refine x_goto hE 390 (by decide) dL_law_385 ?_
            refine x_istore hE [(8, .int (bI (kSos s))), (7, .int (nI 0)), (16, .int (nI 0)), (0, .ref b), (1, .ref (aH a)), (3, .int (nI R)), (4, .int (nI C)), (5, .int (nI (R * C))), (6, .int (bI (kdio s))), (9, .int (kRu s)), (10, .int (kSl s)), (11, .int (nI V)), (12, .int (nI ev)), (13, .int g), (14, .int h)] (by decide) rfl dL_law_390 ?_
            refine x_goto hE 874 (by decide) dL_law_392 ?_
            refine x_lv [(0, .ref b), (1, .ref (aH a)), (3, .int (nI R)), (4, .int (nI C)), (5, .int (nI (R * C))), (6, .int (bI (kdio s))), (7, .int (nI 0)), (8, .int (bI (kSos s))), (9, .int (kRu s)), (10, .int (kSl s)), (11, .int (nI V)), (12, .int (nI ev))] [3, 4, 5, 6, 7, 8, 1, 0, 9, 10, 11, 12] rfl ?_
            refine x_widen (cq + 36) (zq + 2304) (by omega) (by omega) ?_
            exact hk9 (suS s false) V ((hI.su false).le (by omega))
      · skip
        exact absurd c338 (by decide)
  · skip
    refine x_iconst hE (nI 1) (by decide) dL_law_313 ?_
    refine x_goto hE 318 (by decide) dL_law_314 ?_
    refine x_istore hE [(16, .int (nI 1)), (0, .ref b), (1, .ref (aH a)), (3, .int (nI R)), (4, .int (nI C)), (5, .int (nI (R * C))), (6, .int (bI (kdio s))), (7, .int (bI (kSus s))), (8, .int (bI (kSos s))), (9, .int (kRu s)), (10, .int (kSl s)), (11, .int (nI V)), (12, .int (nI ev)), (13, .int g), (14, .int h)] (by decide) rfl dL_law_318 ?_
    refine x_iload hE 13 rfl dL_law_320 ?_
    refine x_iconst hE (nI 1) (by decide) dL_law_322 ?_
    refine x_iand hE (g &&& (nI 1)) rfl dL_law_323 ?_
    refine x_if_ne hE 344 (by decide) dL_law_324 (fun c324 => ?_) (fun c324 => ?_)
    · skip
      refine x_aload_n hE 2 rfl dL_law_344 ?_
      refine x_iconst hE (nI 1) (by decide) dL_law_345 ?_
      refine x_iload hE 0 rfl dL_law_346 ?_
      refine x_iload hE 8 rfl dL_law_348 ?_
      refine x_iload hE 7 rfl dL_law_350 ?_
      refine x_callSK (n := 5) (st := []) hE (kL_pedals_1 l D cI cZ a s true hI (by omega)) gL_law_L_pedals rfl (by decide +kernel) ⟨by decide, by decide⟩ ⟨show cq ≤ 600000 by omega, show zq ≤ 7302250 by omega⟩ rfl rfl (Nat.le_of_ble_eq_true rfl) dL_law_352 (fun v9 w9 hT9 => ?_)
      obtain ⟨rfl, rfl⟩ := hT9
      refine x_at (ws' := (kW cI cZ a (soS s true))) (st' := [.int (bI true)]) rfl rfl ?_
      refine xb_if_ne hE 360 (by decide) dL_law_355 (fun c355 => ?_) (fun c355 => ?_)
      · skip
        refine x_iload hE 13 rfl dL_law_360 ?_
        refine x_iconst hE (nI 1) (by decide) dL_law_362 ?_
        refine x_iand hE (g &&& (nI 1)) rfl dL_law_363 ?_
        refine x_if_ne hE 372 (by decide) dL_law_364 (fun c364 => ?_) (fun c364 => ?_)
        · skip
          refine x_iload hE 7 rfl dL_law_372 ?_
          refine x_istore hE [(7, .int (bI (kSus s))), (16, .int (nI 1)), (0, .ref b), (1, .ref (aH a)), (3, .int (nI R)), (4, .int (nI C)), (5, .int (nI (R * C))), (6, .int (bI (kdio s))), (8, .int (bI (kSos s))), (9, .int (kRu s)), (10, .int (kSl s)), (11, .int (nI V)), (12, .int (nI ev)), (13, .int g), (14, .int h)] (by decide) rfl dL_law_374 ?_
          refine x_iload hE 13 rfl dL_law_376 ?_
          refine x_iconst hE (nI 1) (by decide) dL_law_378 ?_
          refine x_iand hE (g &&& (nI 1)) rfl dL_law_379 ?_
          refine x_if_ne hE 388 (by decide) dL_law_380 (fun c380 => ?_) (fun c380 => ?_)
          · skip
            refine x_iload hE 1 rfl dL_law_388 ?_
            refine x_istore hE [(8, .int (nI 1)), (7, .int (bI (kSus s))), (16, .int (nI 1)), (0, .ref b), (1, .ref (aH a)), (3, .int (nI R)), (4, .int (nI C)), (5, .int (nI (R * C))), (6, .int (bI (kdio s))), (9, .int (kRu s)), (10, .int (kSl s)), (11, .int (nI V)), (12, .int (nI ev)), (13, .int g), (14, .int h)] (by decide) rfl dL_law_390 ?_
            refine x_goto hE 874 (by decide) dL_law_392 ?_
            refine x_lv [(0, .ref b), (1, .ref (aH a)), (3, .int (nI R)), (4, .int (nI C)), (5, .int (nI (R * C))), (6, .int (bI (kdio s))), (7, .int (bI (kSus s))), (8, .int (nI 1)), (9, .int (kRu s)), (10, .int (kSl s)), (11, .int (nI V)), (12, .int (nI ev))] [3, 4, 5, 6, 7, 8, 1, 0, 9, 10, 11, 12] rfl ?_
            refine x_widen (cq + 36) (zq + 2304) (by omega) (by omega) ?_
            exact hk9 (soS s true) V ((hI.so true).le (by omega))
          · skip
            exact absurd c380 c324
        · skip
          exact absurd c364 c324
      · skip
        exact absurd c355 (by decide)
    · skip
      refine x_aload_n hE 2 rfl dL_law_327 ?_
      refine x_iconst hE (nI 0) (by decide) dL_law_328 ?_
      refine x_iload hE 0 rfl dL_law_329 ?_
      refine x_iload hE 7 rfl dL_law_331 ?_
      refine x_iload hE 8 rfl dL_law_333 ?_
      refine x_callSK (n := 5) (st := []) hE (kL_pedals_0 l D cI cZ a s true hI (by omega)) gL_law_L_pedals rfl (by decide +kernel) ⟨by decide, by decide⟩ ⟨show cq ≤ 600000 by omega, show zq ≤ 7302250 by omega⟩ rfl rfl (Nat.le_of_ble_eq_true rfl) dL_law_335 (fun v9 w9 hT9 => ?_)
      obtain ⟨rfl, rfl⟩ := hT9
      refine x_at (ws' := (kW cI cZ a (suS s true))) (st' := [.int (bI true)]) rfl rfl ?_
      refine xb_if_ne hE 360 (by decide) dL_law_338 (fun c338 => ?_) (fun c338 => ?_)
      · skip
        refine x_iload hE 13 rfl dL_law_360 ?_
        refine x_iconst hE (nI 1) (by decide) dL_law_362 ?_
        refine x_iand hE (g &&& (nI 1)) rfl dL_law_363 ?_
        refine x_if_ne hE 372 (by decide) dL_law_364 (fun c364 => ?_) (fun c364 => ?_)
        · skip
          exact absurd c324 c364
        · skip
          refine x_iload hE 0 rfl dL_law_367 ?_
          refine x_goto hE 374 (by decide) dL_law_369 ?_
          refine x_istore hE [(7, .int (nI 1)), (16, .int (nI 1)), (0, .ref b), (1, .ref (aH a)), (3, .int (nI R)), (4, .int (nI C)), (5, .int (nI (R * C))), (6, .int (bI (kdio s))), (8, .int (bI (kSos s))), (9, .int (kRu s)), (10, .int (kSl s)), (11, .int (nI V)), (12, .int (nI ev)), (13, .int g), (14, .int h)] (by decide) rfl dL_law_374 ?_
          refine x_iload hE 13 rfl dL_law_376 ?_
          refine x_iconst hE (nI 1) (by decide) dL_law_378 ?_
          refine x_iand hE (g &&& (nI 1)) rfl dL_law_379 ?_
          refine x_if_ne hE 388 (by decide) dL_law_380 (fun c380 => ?_) (fun c380 => ?_)
          · skip
            exact absurd c324 c380
          · skip
            refine x_iload hE 8 rfl dL_law_383 ?_
            refine x_goto hE 390 (by decide) dL_law_385 ?_
            refine x_istore hE [(8, .int (bI (kSos s))), (7, .int (nI 1)), (16, .int (nI 1)), (0, .ref b), (1, .ref (aH a)), (3, .int (nI R)), (4, .int (nI C)), (5, .int (nI (R * C))), (6, .int (bI (kdio s))), (9, .int (kRu s)), (10, .int (kSl s)), (11, .int (nI V)), (12, .int (nI ev)), (13, .int g), (14, .int h)] (by decide) rfl dL_law_390 ?_
            refine x_goto hE 874 (by decide) dL_law_392 ?_
            refine x_lv [(0, .ref b), (1, .ref (aH a)), (3, .int (nI R)), (4, .int (nI C)), (5, .int (nI (R * C))), (6, .int (bI (kdio s))), (7, .int (nI 1)), (8, .int (bI (kSos s))), (9, .int (kRu s)), (10, .int (kSl s)), (11, .int (nI V)), (12, .int (nI ev))] [3, 4, 5, 6, 7, 8, 1, 0, 9, 10, 11, 12] rfl ?_
            refine x_widen (cq + 36) (zq + 2304) (by omega) (by omega) ?_
            exact hk9 (suS s true) V ((hI.su true).le (by omega))
      · skip
        exact absurd c338 (by decide)
set_option maxHeartbeats 8000000 in
set_option maxRecDepth 100000 in
theorem lo_diodes {p9 : Program} {l : Launch} {e9 : Env} {s9 : State} {m9 : MethodId} {args9 : Array Value} {below9 : List Frame} {meth9 : Method} {cd9 : Code} {Q : State → Prop} {D : va_G} {cI cZ : ClassId} {A : Nat → Prop} {b L : Nat} {xs : Nat → Int32} {a : KAd} {s : KSt} {R C V N cq zq ev : Nat} (hE : xE p9 s9 m9 args9 meth9 cd9 code RL wsL_law 19 D cI cZ A) (hS9 : va_X b L xs s9 s9.heap ∧ b < s9.heap.size ∧ ¬ A b ∧ L ≤ 1536) (hI : INV s R C V N) (hN : N ≤ 800) (hcz : cq + 36 ≤ 600000 ∧ zq + 2304 ≤ 7302250) (g : Int32) (h : Int32)  (hk9 : ∀ (s2 : KSt) (V2 : Nat), INV s2 R C V2 (N + 21) → X p9 l e9 room_1 s9 m9 args9 below9 meth9 cd9 (cq + 36) (zq + 2304) Q 19 D A (kW cI cZ a s2) [(0, .ref b), (1, .ref (aH a)), (3, .int (nI R)), (4, .int (nI C)), (5, .int (nI (R * C))), (6, .int (bI (kdio s2))), (7, .int (bI (kSus s2))), (8, .int (bI (kSos s2))), (9, .int (kRu s2)), (10, .int (kSl s2)), (11, .int (nI V2)), (12, .int (nI ev))] 874 []) : X p9 l e9 room_1 s9 m9 args9 below9 meth9 cd9 cq zq Q 19 D A (kW cI cZ a s) [(0, .ref b), (1, .ref (aH a)), (3, .int (nI R)), (4, .int (nI C)), (5, .int (nI (R * C))), (6, .int (bI (kdio s))), (7, .int (bI (kSus s))), (8, .int (bI (kSos s))), (9, .int (kRu s)), (10, .int (kSl s)), (11, .int (nI V)), (12, .int (nI ev)), (13, .int g), (14, .int h)] 402 [] := by
  have hok := hI.ok (by omega)
  obtain ⟨hRC, hRC1⟩ := hI.rc
  obtain ⟨hR, hC, hV, hpos⟩ : (1 ≤ R ∧ R ≤ 8) ∧ (1 ≤ C ∧ C ≤ 8) ∧ (1 ≤ V ∧ V ≤ 8) ∧ ∀ k, kpos s k ≤ 2 := ⟨hok.2.2.2.1, hok.2.2.2.2.1, hok.2.2.2.2.2.1, hok.2.2.2.2.2.2.1⟩
  have hc9 := hcz.1
  have hz9 := hcz.2
  refine x_iload hE 13 rfl dL_law_402 ?_
  refine x_iconst hE (nI 3) (by decide) dL_law_404 ?_
  refine x_iand hE (h &&& (nI 3)) rfl dL_law_405 ?_
  refine x_if_ne hE 413 (by decide) dL_law_406 (fun c406 => ?_) (fun c406 => ?_)
  · skip
    refine x_iconst hE (nI 0) (by decide) dL_law_413 ?_
    refine x_istore hE [(6, .int (nI 0)), (0, .ref b), (1, .ref (aH a)), (3, .int (nI R)), (4, .int (nI C)), (5, .int (nI (R * C))), (7, .int (bI (kSus s))), (8, .int (bI (kSos s))), (9, .int (kRu s)), (10, .int (kSl s)), (11, .int (nI V)), (12, .int (nI ev)), (13, .int g), (14, .int h)] (by decide) rfl dL_law_414 ?_
    refine x_aload_n hE 2 rfl dL_law_416 ?_
    refine x_iload hE 0 rfl dL_law_417 ?_
    refine x_callK (n := 1) (st := []) hE (ck_setDiodes l D cI cZ a s hok false ) gL_law_X4_setDiodes rfl rfl (by decide +kernel) ⟨by decide, by decide⟩ ⟨show cq ≤ 600000 by omega, show zq ≤ 7302250 by omega⟩ rfl rfl (Nat.le_of_ble_eq_true rfl) dL_law_419 (fun v9 w9 hT9 => ?_)
    obtain ⟨rfl, rfl⟩ := hT9
    refine x_at (ws' := (kW cI cZ a (diS s false))) (st' := [.int (nI (kgc (diS s false)))]) rfl rfl ?_
    refine x_aload_n hE 2 rfl dL_law_422 ?_
    refine x_iconst hE (nI 3) (by decide) dL_law_423 ?_
    refine x_callK (n := 1) (st := [.int (nI (kgc (diS s false)))]) hE (ck_count_3 l D cI cZ a (diS s false) ((hI.di false).ok (by omega))  ) gL_law_X4_count rfl rfl (by decide +kernel) ⟨by decide, by decide⟩ ⟨show cq ≤ 600000 by omega, show zq ≤ 7302250 by omega⟩ rfl rfl (Nat.le_of_ble_eq_true rfl) dL_law_424 (fun v9 w9 hT9 => ?_)
    obtain ⟨rfl, rfl⟩ := hT9
    refine x_at (ws' := (kW cI cZ a (diS s false))) (st' := [.int (nI (kgc (diS s false))), .int (nI (kgc (diS s false)))]) rfl rfl ?_
    refine xn_icmp_eq hE (Nat.lt_of_le_of_lt (kgc_le ((hI.di false).ok (by omega))) (by decide)) (Nat.lt_of_le_of_lt (kgc_le ((hI.di false).ok (by omega))) (by decide)) 874 (by decide) dL_law_427 (fun c427 => ?_) (fun c427 => ?_)
    · skip
      refine x_lv [(0, .ref b), (1, .ref (aH a)), (3, .int (nI R)), (4, .int (nI C)), (5, .int (nI (R * C))), (6, .int (nI 0)), (7, .int (bI (kSus s))), (8, .int (bI (kSos s))), (9, .int (kRu s)), (10, .int (kSl s)), (11, .int (nI V)), (12, .int (nI ev))] [1, 2, 3, 4, 5, 0, 6, 7, 8, 9, 10, 11] rfl ?_
      refine x_widen (cq + 36) (zq + 2304) (by omega) (by omega) ?_
      exact hk9 (diS s false) V ((hI.di _).le (by omega))
    · skip
      exact absurd rfl c427
  · skip
    refine x_iconst hE (nI 1) (by decide) dL_law_409 ?_
    refine x_goto hE 414 (by decide) dL_law_410 ?_
    refine x_istore hE [(6, .int (nI 1)), (0, .ref b), (1, .ref (aH a)), (3, .int (nI R)), (4, .int (nI C)), (5, .int (nI (R * C))), (7, .int (bI (kSus s))), (8, .int (bI (kSos s))), (9, .int (kRu s)), (10, .int (kSl s)), (11, .int (nI V)), (12, .int (nI ev)), (13, .int g), (14, .int h)] (by decide) rfl dL_law_414 ?_
    refine x_aload_n hE 2 rfl dL_law_416 ?_
    refine x_iload hE 0 rfl dL_law_417 ?_
    refine x_callK (n := 1) (st := []) hE (ck_setDiodes l D cI cZ a s hok true ) gL_law_X4_setDiodes rfl rfl (by decide +kernel) ⟨by decide, by decide⟩ ⟨show cq ≤ 600000 by omega, show zq ≤ 7302250 by omega⟩ rfl rfl (Nat.le_of_ble_eq_true rfl) dL_law_419 (fun v9 w9 hT9 => ?_)
    obtain ⟨rfl, rfl⟩ := hT9
    refine x_at (ws' := (kW cI cZ a (diS s true))) (st' := [.int (nI (kgc (diS s true)))]) rfl rfl ?_
    refine x_aload_n hE 2 rfl dL_law_422 ?_
    refine x_iconst hE (nI 3) (by decide) dL_law_423 ?_
    refine x_callK (n := 1) (st := [.int (nI (kgc (diS s true)))]) hE (ck_count_3 l D cI cZ a (diS s true) ((hI.di true).ok (by omega))  ) gL_law_X4_count rfl rfl (by decide +kernel) ⟨by decide, by decide⟩ ⟨show cq ≤ 600000 by omega, show zq ≤ 7302250 by omega⟩ rfl rfl (Nat.le_of_ble_eq_true rfl) dL_law_424 (fun v9 w9 hT9 => ?_)
    obtain ⟨rfl, rfl⟩ := hT9
    refine x_at (ws' := (kW cI cZ a (diS s true))) (st' := [.int (nI (kgc (diS s true))), .int (nI (kgc (diS s true)))]) rfl rfl ?_
    refine xn_icmp_eq hE (Nat.lt_of_le_of_lt (kgc_le ((hI.di true).ok (by omega))) (by decide)) (Nat.lt_of_le_of_lt (kgc_le ((hI.di true).ok (by omega))) (by decide)) 874 (by decide) dL_law_427 (fun c427 => ?_) (fun c427 => ?_)
    · skip
      refine x_lv [(0, .ref b), (1, .ref (aH a)), (3, .int (nI R)), (4, .int (nI C)), (5, .int (nI (R * C))), (6, .int (nI 1)), (7, .int (bI (kSus s))), (8, .int (bI (kSos s))), (9, .int (kRu s)), (10, .int (kSl s)), (11, .int (nI V)), (12, .int (nI ev))] [1, 2, 3, 4, 5, 0, 6, 7, 8, 9, 10, 11] rfl ?_
      refine x_widen (cq + 36) (zq + 2304) (by omega) (by omega) ?_
      exact hk9 (diS s true) V ((hI.di _).le (by omega))
    · skip
      exact absurd rfl c427
set_option maxHeartbeats 8000000 in
set_option maxRecDepth 100000 in
theorem lo_voices {p9 : Program} {l : Launch} {e9 : Env} {s9 : State} {m9 : MethodId} {args9 : Array Value} {below9 : List Frame} {meth9 : Method} {cd9 : Code} {Q : State → Prop} {D : va_G} {cI cZ : ClassId} {A : Nat → Prop} {b L : Nat} {xs : Nat → Int32} {a : KAd} {s : KSt} {R C V N cq zq ev : Nat} (hE : xE p9 s9 m9 args9 meth9 cd9 code RL wsL_law 19 D cI cZ A) (hS9 : va_X b L xs s9 s9.heap ∧ b < s9.heap.size ∧ ¬ A b ∧ L ≤ 1536) (hI : INV s R C V N) (hN : N ≤ 800) (hcz : cq + 36 ≤ 600000 ∧ zq + 2304 ≤ 7302250) (g : Int32) (h : Int32)  (hk9 : ∀ (s2 : KSt) (V2 : Nat), INV s2 R C V2 (N + 21) → X p9 l e9 room_1 s9 m9 args9 below9 meth9 cd9 (cq + 36) (zq + 2304) Q 19 D A (kW cI cZ a s2) [(0, .ref b), (1, .ref (aH a)), (3, .int (nI R)), (4, .int (nI C)), (5, .int (nI (R * C))), (6, .int (bI (kdio s2))), (7, .int (bI (kSus s2))), (8, .int (bI (kSos s2))), (9, .int (kRu s2)), (10, .int (kSl s2)), (11, .int (nI V2)), (12, .int (nI ev))] 874 []) : X p9 l e9 room_1 s9 m9 args9 below9 meth9 cd9 cq zq Q 19 D A (kW cI cZ a s) [(0, .ref b), (1, .ref (aH a)), (3, .int (nI R)), (4, .int (nI C)), (5, .int (nI (R * C))), (6, .int (bI (kdio s))), (7, .int (bI (kSus s))), (8, .int (bI (kSos s))), (9, .int (kRu s)), (10, .int (kSl s)), (11, .int (nI V)), (12, .int (nI ev)), (13, .int g), (14, .int h)] 439 [] := by
  have hok := hI.ok (by omega)
  obtain ⟨hRC, hRC1⟩ := hI.rc
  obtain ⟨hR, hC, hV, hpos⟩ : (1 ≤ R ∧ R ≤ 8) ∧ (1 ≤ C ∧ C ≤ 8) ∧ (1 ≤ V ∧ V ≤ 8) ∧ ∀ k, kpos s k ≤ 2 := ⟨hok.2.2.2.1, hok.2.2.2.2.1, hok.2.2.2.2.2.1, hok.2.2.2.2.2.2.1⟩
  have hc9 := hcz.1
  have hz9 := hcz.2
  have hvi := hI.vi
  have hle9 := fun q => lmU_le (kst s) (V - q) q 0
  have hmk9 := hok.2.2.2.2.2.2.2.2.2.2.2.2
  have sg469 : ∀ (n : Nat) (v : Nat) (u : Nat) (q : Nat) (x : Nat) (hn : n = V - v) (hq : q ≤ v) (hu : u ≤ v) (hv9 : v ≤ 9) (hT : lmU (kst s) v n u = lmU (kst s) q (V - q) 0) (hx : X p9 l e9 room_1 s9 m9 args9 below9 meth9 cd9 cq zq Q 19 D A (kW cI cZ a s) [(0, .ref b), (1, .ref (aH a)), (3, .int (nI R)), (4, .int (nI C)), (5, .int (nI (R * C))), (6, .int (bI (kdio s))), (7, .int (bI (kSus s))), (8, .int (bI (kSos s))), (10, .int (kSl s)), (12, .int (nI ev)), (9, .int (nI x)), (11, .int (nI q)), (16, .int (nI V)), (17, .int (nI (lmU (kst s) q (V - q) 0)))] 502 []), X p9 l e9 room_1 s9 m9 args9 below9 meth9 cd9 cq zq Q 19 D A (kW cI cZ a s) [(0, .ref b), (1, .ref (aH a)), (3, .int (nI R)), (4, .int (nI C)), (5, .int (nI (R * C))), (6, .int (bI (kdio s))), (7, .int (bI (kSus s))), (8, .int (bI (kSos s))), (10, .int (kSl s)), (12, .int (nI ev)), (9, .int (nI x)), (11, .int (nI q)), (16, .int (nI V)), (17, .int (nI u)), (18, .int (nI v))] 469 [] := by
    intro n
    induction n with
    | zero =>
      intro v u q x hn hq hu hv9 hT hx
      refine x_iload hE 14 rfl dL_law_469 ?_
      refine x_iload hE 12 rfl dL_law_471 ?_
      refine xn_icmp_ge hE (by omega) (by omega) 502 (by decide) dL_law_473 (fun c473 => ?_) (fun c473 => ?_)
      · skip
        refine x_lv [(0, .ref b), (1, .ref (aH a)), (3, .int (nI R)), (4, .int (nI C)), (5, .int (nI (R * C))), (6, .int (bI (kdio s))), (7, .int (bI (kSus s))), (8, .int (bI (kSos s))), (10, .int (kSl s)), (12, .int (nI ev)), (9, .int (nI x)), (11, .int (nI q)), (16, .int (nI V)), (17, .int (nI u))] [0, 1, 2, 3, 4, 5, 6, 7, 8, 9, 10, 11, 12, 13] rfl ?_
        have hu9 : u = lmU (kst s) q (V - q) 0 := hT
        subst hu9
        exact hx
      · skip
        exfalso; omega
    | succ n ih =>
      intro v u q x hn hq hu hv9 hT hx
      refine x_iload hE 14 rfl dL_law_469 ?_
      refine x_iload hE 12 rfl dL_law_471 ?_
      refine xn_icmp_ge hE (by omega) (by omega) 502 (by decide) dL_law_473 (fun c473 => ?_) (fun c473 => ?_)
      · skip
        exfalso; omega
      · skip
        refine x_iload hE 13 rfl dL_law_476 ?_
        refine x_aload_n hE 1 rfl dL_law_478 ?_
        refine x_iload hE 14 rfl dL_law_479 ?_
        refine x_iconst hE (nI 0) (by decide) dL_law_481 ?_
        refine x_callK (n := 2) (st := [.int (nI u)]) hE (ck_voice_0 l D cI cZ a s hok v (by omega)) gL_law_X4_voice rfl rfl (by decide +kernel) ⟨by decide, by decide⟩ ⟨show cq ≤ 600000 by omega, show zq ≤ 7302250 by omega⟩ rfl rfl (Nat.le_of_ble_eq_true rfl) dL_law_482 (fun v9 w9 hT9 => ?_)
        obtain ⟨rfl, rfl⟩ := hT9
        refine x_at (ws' := (kW cI cZ a s)) (st' := [.int (kst s v), .int (nI u)]) rfl rfl ?_
        refine x_if_le hE 492 (by decide) dL_law_485 (fun c485 => ?_) (fun c485 => ?_)
        · skip
          refine x_iconst hE (nI 0) (by decide) dL_law_492 ?_
          refine x_iadd hE (nI (u + 0)) (nI_add _ _) dL_law_493 ?_
          refine x_istore hE [(17, .int (nI (u + 0))), (0, .ref b), (1, .ref (aH a)), (3, .int (nI R)), (4, .int (nI C)), (5, .int (nI (R * C))), (6, .int (bI (kdio s))), (7, .int (bI (kSus s))), (8, .int (bI (kSos s))), (10, .int (kSl s)), (12, .int (nI ev)), (9, .int (nI x)), (11, .int (nI q)), (16, .int (nI V)), (18, .int (nI v))] (by decide) rfl dL_law_494 ?_
          refine x_iinc hE (nI (v + 1)) [(18, .int (nI (v + 1))), (17, .int (nI (u + 0))), (0, .ref b), (1, .ref (aH a)), (3, .int (nI R)), (4, .int (nI C)), (5, .int (nI (R * C))), (6, .int (bI (kdio s))), (7, .int (bI (kSus s))), (8, .int (bI (kSos s))), (10, .int (kSl s)), (12, .int (nI ev)), (9, .int (nI x)), (11, .int (nI q)), (16, .int (nI V))] 14 rfl (nI_add _ _) (by decide) rfl dL_law_496 ?_
          refine x_goto hE 469 (by decide) dL_law_499 ?_
          refine x_lv [(0, .ref b), (1, .ref (aH a)), (3, .int (nI R)), (4, .int (nI C)), (5, .int (nI (R * C))), (6, .int (bI (kdio s))), (7, .int (bI (kSus s))), (8, .int (bI (kSos s))), (10, .int (kSl s)), (12, .int (nI ev)), (9, .int (nI x)), (11, .int (nI q)), (16, .int (nI V)), (17, .int (nI (u + 0))), (18, .int (nI (v + 1)))] [2, 3, 4, 5, 6, 7, 8, 9, 10, 11, 12, 13, 14, 1, 0] rfl ?_
          exact ih (v + 1) (u + 0) q x (by omega) (by omega) (by omega) (by omega) (by rw [← hT]; show lmU (kst s) (v + 1) n _ = lmU (kst s) (v + 1) n (if kst s v = nI 0 then u else u + 1); first | rw [if_neg ((st_pos (hvi.1.1 v)).mp c485)] | (rw [if_pos (Decidable.of_not_not (fun w => c485 ((st_pos (hvi.1.1 v)).mpr w)))]; try rfl)) hx
        · skip
          refine x_iconst hE (nI 1) (by decide) dL_law_488 ?_
          refine x_goto hE 493 (by decide) dL_law_489 ?_
          refine x_iadd hE (nI (u + 1)) (nI_add _ _) dL_law_493 ?_
          refine x_istore hE [(17, .int (nI (u + 1))), (0, .ref b), (1, .ref (aH a)), (3, .int (nI R)), (4, .int (nI C)), (5, .int (nI (R * C))), (6, .int (bI (kdio s))), (7, .int (bI (kSus s))), (8, .int (bI (kSos s))), (10, .int (kSl s)), (12, .int (nI ev)), (9, .int (nI x)), (11, .int (nI q)), (16, .int (nI V)), (18, .int (nI v))] (by decide) rfl dL_law_494 ?_
          refine x_iinc hE (nI (v + 1)) [(18, .int (nI (v + 1))), (17, .int (nI (u + 1))), (0, .ref b), (1, .ref (aH a)), (3, .int (nI R)), (4, .int (nI C)), (5, .int (nI (R * C))), (6, .int (bI (kdio s))), (7, .int (bI (kSus s))), (8, .int (bI (kSos s))), (10, .int (kSl s)), (12, .int (nI ev)), (9, .int (nI x)), (11, .int (nI q)), (16, .int (nI V))] 14 rfl (nI_add _ _) (by decide) rfl dL_law_496 ?_
          refine x_goto hE 469 (by decide) dL_law_499 ?_
          refine x_lv [(0, .ref b), (1, .ref (aH a)), (3, .int (nI R)), (4, .int (nI C)), (5, .int (nI (R * C))), (6, .int (bI (kdio s))), (7, .int (bI (kSus s))), (8, .int (bI (kSos s))), (10, .int (kSl s)), (12, .int (nI ev)), (9, .int (nI x)), (11, .int (nI q)), (16, .int (nI V)), (17, .int (nI (u + 1))), (18, .int (nI (v + 1)))] [2, 3, 4, 5, 6, 7, 8, 9, 10, 11, 12, 13, 14, 1, 0] rfl ?_
          exact ih (v + 1) (u + 1) q x (by omega) (by omega) (by omega) (by omega) (by rw [← hT]; show lmU (kst s) (v + 1) n _ = lmU (kst s) (v + 1) n (if kst s v = nI 0 then u else u + 1); first | rw [if_neg ((st_pos (hvi.1.1 v)).mp c485)] | (rw [if_pos (Decidable.of_not_not (fun w => c485 ((st_pos (hvi.1.1 v)).mpr w)))]; try rfl)) hx
  refine x_iload hE 10 rfl dL_law_439 ?_
  refine x_istore hE [(16, .int (nI V)), (0, .ref b), (1, .ref (aH a)), (3, .int (nI R)), (4, .int (nI C)), (5, .int (nI (R * C))), (6, .int (bI (kdio s))), (7, .int (bI (kSus s))), (8, .int (bI (kSos s))), (9, .int (kRu s)), (10, .int (kSl s)), (11, .int (nI V)), (12, .int (nI ev)), (13, .int g), (14, .int h)] (by decide) rfl dL_law_441 ?_
  refine x_iconst hE (nI 0) (by decide) dL_law_443 ?_
  refine x_istore hE [(17, .int (nI 0)), (16, .int (nI V)), (0, .ref b), (1, .ref (aH a)), (3, .int (nI R)), (4, .int (nI C)), (5, .int (nI (R * C))), (6, .int (bI (kdio s))), (7, .int (bI (kSus s))), (8, .int (bI (kSos s))), (9, .int (kRu s)), (10, .int (kSl s)), (11, .int (nI V)), (12, .int (nI ev)), (13, .int g), (14, .int h)] (by decide) rfl dL_law_444 ?_
  refine x_iconst hE (nI 1) (by decide) dL_law_446 ?_
  refine x_iload hE 14 rfl dL_law_447 ?_
  refine x_bipush hE (nI 8) (by decide) dL_law_449 ?_
  refine x_callS0 (n := 2) (st := [.int (nI 1)]) hE (kL_low l D cI cZ g 8 (by omega) (by omega)) (fun v w h => h.2) gL_law_L_low rfl (by decide +kernel) ⟨by decide, by decide⟩ ⟨show cq ≤ 600000 by omega, show zq ≤ 7302250 by omega⟩ rfl rfl (Nat.le_of_ble_eq_true rfl) dL_law_451 (fun v9 hT9 => ?_)
  obtain ⟨rfl, -⟩ := hT9
  have hl451 : lowN g 8 < 8 := lowN_lt (by omega)
  refine x_at (ws' := (kW cI cZ a s)) (st' := [.int (nI (lowN g 8)), .int (nI 1)]) rfl rfl ?_
  refine x_iadd hE (nI (1 + (lowN g 8))) (nI_add _ _) dL_law_454 ?_
  refine x_istore hE [(11, .int (nI (1 + (lowN g 8)))), (17, .int (nI 0)), (16, .int (nI V)), (0, .ref b), (1, .ref (aH a)), (3, .int (nI R)), (4, .int (nI C)), (5, .int (nI (R * C))), (6, .int (bI (kdio s))), (7, .int (bI (kSus s))), (8, .int (bI (kSos s))), (9, .int (kRu s)), (10, .int (kSl s)), (12, .int (nI ev)), (13, .int g), (14, .int h)] (by decide) rfl dL_law_455 ?_
  refine x_iload hE 15 rfl dL_law_457 ?_
  refine x_iconst hE (nI 3) (by decide) dL_law_459 ?_
  refine x_callS0 (n := 2) (st := []) hE (kL_low l D cI cZ h 3 (by omega) (by omega)) (fun v w h => h.2) gL_law_L_low rfl (by decide +kernel) ⟨by decide, by decide⟩ ⟨show cq ≤ 600000 by omega, show zq ≤ 7302250 by omega⟩ rfl rfl (Nat.le_of_ble_eq_true rfl) dL_law_460 (fun v9 hT9 => ?_)
  obtain ⟨rfl, -⟩ := hT9
  have hl460 : lowN h 3 < 3 := lowN_lt (by omega)
  refine x_at (ws' := (kW cI cZ a s)) (st' := [.int (nI (lowN h 3))]) rfl rfl ?_
  refine x_istore hE [(9, .int (nI (lowN h 3))), (11, .int (nI (1 + (lowN g 8)))), (17, .int (nI 0)), (16, .int (nI V)), (0, .ref b), (1, .ref (aH a)), (3, .int (nI R)), (4, .int (nI C)), (5, .int (nI (R * C))), (6, .int (bI (kdio s))), (7, .int (bI (kSus s))), (8, .int (bI (kSos s))), (10, .int (kSl s)), (12, .int (nI ev)), (13, .int g), (14, .int h)] (by decide) rfl dL_law_463 ?_
  refine x_iload hE 1 rfl dL_law_465 ?_
  refine x_istore hE [(18, .int (nI (1 + (lowN g 8)))), (9, .int (nI (lowN h 3))), (11, .int (nI (1 + (lowN g 8)))), (17, .int (nI 0)), (16, .int (nI V)), (0, .ref b), (1, .ref (aH a)), (3, .int (nI R)), (4, .int (nI C)), (5, .int (nI (R * C))), (6, .int (bI (kdio s))), (7, .int (bI (kSus s))), (8, .int (bI (kSos s))), (10, .int (kSl s)), (12, .int (nI ev)), (13, .int g), (14, .int h)] (by decide) rfl dL_law_467 ?_
  refine x_lv [(0, .ref b), (1, .ref (aH a)), (3, .int (nI R)), (4, .int (nI C)), (5, .int (nI (R * C))), (6, .int (bI (kdio s))), (7, .int (bI (kSus s))), (8, .int (bI (kSos s))), (10, .int (kSl s)), (12, .int (nI ev)), (9, .int (nI (lowN h 3))), (11, .int (nI (1 + (lowN g 8)))), (16, .int (nI V)), (17, .int (nI 0)), (18, .int (nI (1 + (lowN g 8))))] [5, 6, 7, 8, 9, 10, 11, 12, 13, 14, 1, 2, 4, 3, 0] rfl ?_
  refine sg469 (V - (1 + (lowN g 8))) (1 + (lowN g 8)) 0 (1 + (lowN g 8)) (lowN h 3) (rfl) (Nat.le_refl _) (Nat.zero_le _) (by omega) (rfl) ?_
  refine x_aload_n hE 1 rfl dL_law_502 ?_
  refine x_bipush hE (nI 8) (by decide) dL_law_503 ?_
  refine x_callK (n := 1) (st := []) hE (ck_count_8 l D cI cZ a s hok  ) gL_law_X4_count rfl rfl (by decide +kernel) ⟨by decide, by decide⟩ ⟨show cq ≤ 600000 by omega, show zq ≤ 7302250 by omega⟩ rfl rfl (Nat.le_of_ble_eq_true rfl) dL_law_505 (fun v9 w9 hT9 => ?_)
  obtain ⟨rfl, rfl⟩ := hT9
  refine x_at (ws' := (kW cI cZ a s)) (st' := [.int (nI (kmk s))]) rfl rfl ?_
  refine x_istore hE [(18, .int (nI (kmk s))), (0, .ref b), (1, .ref (aH a)), (3, .int (nI R)), (4, .int (nI C)), (5, .int (nI (R * C))), (6, .int (bI (kdio s))), (7, .int (bI (kSus s))), (8, .int (bI (kSos s))), (10, .int (kSl s)), (12, .int (nI ev)), (9, .int (nI (lowN h 3))), (11, .int (nI (1 + (lowN g 8)))), (16, .int (nI V)), (17, .int (nI (lmU (kst s) (1 + (lowN g 8)) (V - (1 + (lowN g 8))) 0)))] (by decide) rfl dL_law_508 ?_
  refine x_aload_n hE 2 rfl dL_law_510 ?_
  refine x_iload hE 12 rfl dL_law_511 ?_
  refine x_iload hE 11 rfl dL_law_513 ?_
  refine x_callK (n := 2) (st := []) hE (ck_setVoices l D cI cZ a s hok (1 + (lowN g 8)) (lowN h 3) (⟨by omega, by omega⟩) (by omega)) gL_law_X4_setVoices rfl rfl (by decide +kernel) ⟨by decide, by decide⟩ ⟨show cq ≤ 600000 by omega, show zq ≤ 7302250 by omega⟩ rfl rfl (Nat.le_of_ble_eq_true rfl) dL_law_515 (fun v9 w9 hT9 => ?_)
  obtain ⟨rfl, rfl⟩ := hT9
  refine x_at (ws' := (kW cI cZ a (voS s (1 + (lowN g 8)) (nI (lowN h 3))))) (st' := [.int (nI V)]) rfl rfl ?_
  refine x_iload hE 13 rfl dL_law_518 ?_
  refine xn_icmp_ne hE (by omega) (by omega) 560 (by decide) dL_law_520 (fun c520 => ?_) (fun c520 => ?_)
  · skip
    exact absurd rfl c520
  · skip
    refine x_aload_n hE 2 rfl dL_law_523 ?_
    refine x_bipush hE (nI 8) (by decide) dL_law_524 ?_
    refine x_callK (n := 1) (st := []) hE (ck_count_8 l D cI cZ a (voS s (1 + (lowN g 8)) (nI (lowN h 3))) ((hI.vo (q := 1 + (lowN g 8)) ⟨by omega, by omega⟩ (nI (lowN h 3))).ok (by omega))  ) gL_law_X4_count rfl rfl (by decide +kernel) ⟨by decide, by decide⟩ ⟨show cq ≤ 600000 by omega, show zq ≤ 7302250 by omega⟩ rfl rfl (Nat.le_of_ble_eq_true rfl) dL_law_526 (fun v9 w9 hT9 => ?_)
    obtain ⟨rfl, rfl⟩ := hT9
    refine x_at (ws' := (kW cI cZ a (voS s (1 + (lowN g 8)) (nI (lowN h 3))))) (st' := [.int (nI (kmk (voS s (1 + (lowN g 8)) (nI (lowN h 3)))))]) rfl rfl ?_
    refine x_iload hE 0 rfl dL_law_529 ?_
    refine x_iload hE 14 rfl dL_law_531 ?_
    refine x_iadd hE (nI ((kmk s) + (lmU (kst s) (1 + (lowN g 8)) (V - (1 + (lowN g 8))) 0))) (nI_add _ _) dL_law_533 ?_
    refine xn_icmp_ne hE (kmk_lt ((hI.vo (q := 1 + (lowN g 8)) ⟨by omega, by omega⟩ (nI (lowN h 3))).ok (by omega))) (by have := hle9 (1 + (lowN g 8)); omega) 560 (by decide) dL_law_534 (fun c534 => ?_) (fun c534 => ?_)
    · skip
      exact absurd (hI.vo_mk _ _) c534
    · skip
      refine x_aload_n hE 2 rfl dL_law_537 ?_
      refine x_bipush hE (nI 9) (by decide) dL_law_538 ?_
      refine x_iconst hE (nI 0) (by decide) dL_law_540 ?_
      refine x_callK (n := 2) (st := []) hE (ck_setVoices_9 l D cI cZ a (voS s (1 + (lowN g 8)) (nI (lowN h 3))) ((hI.vo (q := 1 + (lowN g 8)) ⟨by omega, by omega⟩ (nI (lowN h 3))).ok (by omega))  ) gL_law_X4_setVoices rfl rfl (by decide +kernel) ⟨by decide, by decide⟩ ⟨show cq ≤ 600000 by omega, show zq ≤ 7302250 by omega⟩ rfl rfl (Nat.le_of_ble_eq_true rfl) dL_law_541 (fun v9 w9 hT9 => ?_)
      obtain ⟨rfl, rfl⟩ := hT9
      refine x_at (ws' := (kW cI cZ a (voS s (1 + (lowN g 8)) (nI (lowN h 3))))) (st' := [.int (-2)]) rfl rfl ?_
      refine x_bipush hE (-2) (by decide) dL_law_544 ?_
      refine x_icmp_ne hE 560 (by decide) dL_law_546 (fun c546 => ?_) (fun c546 => ?_)
      · skip
        exact absurd rfl c546
      · skip
        refine x_aload_n hE 2 rfl dL_law_549 ?_
        refine x_iconst hE (nI 1) (by decide) dL_law_550 ?_
        refine x_iconst hE (nI 3) (by decide) dL_law_551 ?_
        refine x_callK (n := 2) (st := []) hE (ck_setVoices_3 l D cI cZ a (voS s (1 + (lowN g 8)) (nI (lowN h 3))) ((hI.vo (q := 1 + (lowN g 8)) ⟨by omega, by omega⟩ (nI (lowN h 3))).ok (by omega))  ) gL_law_X4_setVoices rfl rfl (by decide +kernel) ⟨by decide, by decide⟩ ⟨show cq ≤ 600000 by omega, show zq ≤ 7302250 by omega⟩ rfl rfl (Nat.le_of_ble_eq_true rfl) dL_law_552 (fun v9 w9 hT9 => ?_)
        obtain ⟨rfl, rfl⟩ := hT9
        refine x_at (ws' := (kW cI cZ a (voS s (1 + (lowN g 8)) (nI (lowN h 3))))) (st' := [.int (-2)]) rfl rfl ?_
        refine x_bipush hE (-2) (by decide) dL_law_555 ?_
        refine x_icmp_eq hE 562 (by decide) dL_law_557 (fun c557 => ?_) (fun c557 => ?_)
        · skip
          refine x_goto hE 874 (by decide) dL_law_562 ?_
          refine x_lv [(0, .ref b), (1, .ref (aH a)), (3, .int (nI R)), (4, .int (nI C)), (5, .int (nI (R * C))), (6, .int (bI (kdio s))), (7, .int (bI (kSus s))), (8, .int (bI (kSos s))), (9, .int (nI (lowN h 3))), (10, .int (kSl s)), (11, .int (nI (1 + (lowN g 8)))), (12, .int (nI ev))] [1, 2, 3, 4, 5, 6, 7, 8, 11, 9, 12, 10] rfl ?_
          refine x_widen (cq + 36) (zq + 2304) (by omega) (by omega) ?_
          exact hk9 (voS s (1 + (lowN g 8)) (nI (lowN h 3))) (1 + (lowN g 8)) ((hI.vo ⟨by omega, by omega⟩ _).le (by omega))
        · skip
          exact absurd rfl c557
set_option maxHeartbeats 8000000 in
set_option maxRecDepth 100000 in
theorem lo_slope {p9 : Program} {l : Launch} {e9 : Env} {s9 : State} {m9 : MethodId} {args9 : Array Value} {below9 : List Frame} {meth9 : Method} {cd9 : Code} {Q : State → Prop} {D : va_G} {cI cZ : ClassId} {A : Nat → Prop} {b L : Nat} {xs : Nat → Int32} {a : KAd} {s : KSt} {R C V N cq zq ev : Nat} (hE : xE p9 s9 m9 args9 meth9 cd9 code RL wsL_law 19 D cI cZ A) (hS9 : va_X b L xs s9 s9.heap ∧ b < s9.heap.size ∧ ¬ A b ∧ L ≤ 1536) (hI : INV s R C V N) (hN : N ≤ 800) (hcz : cq + 36 ≤ 600000 ∧ zq + 2304 ≤ 7302250) (g : Int32) (h : Int32)  (hk9 : ∀ (s2 : KSt) (V2 : Nat), INV s2 R C V2 (N + 21) → X p9 l e9 room_1 s9 m9 args9 below9 meth9 cd9 (cq + 36) (zq + 2304) Q 19 D A (kW cI cZ a s2) [(0, .ref b), (1, .ref (aH a)), (3, .int (nI R)), (4, .int (nI C)), (5, .int (nI (R * C))), (6, .int (bI (kdio s2))), (7, .int (bI (kSus s2))), (8, .int (bI (kSos s2))), (9, .int (kRu s2)), (10, .int (kSl s2)), (11, .int (nI V2)), (12, .int (nI ev))] 874 []) : X p9 l e9 room_1 s9 m9 args9 below9 meth9 cd9 cq zq Q 19 D A (kW cI cZ a s) [(0, .ref b), (1, .ref (aH a)), (3, .int (nI R)), (4, .int (nI C)), (5, .int (nI (R * C))), (6, .int (bI (kdio s))), (7, .int (bI (kSus s))), (8, .int (bI (kSos s))), (9, .int (kRu s)), (10, .int (kSl s)), (11, .int (nI V)), (12, .int (nI ev)), (13, .int g), (14, .int h)] 572 [] := by
  have hok := hI.ok (by omega)
  obtain ⟨hRC, hRC1⟩ := hI.rc
  obtain ⟨hR, hC, hV, hpos⟩ : (1 ≤ R ∧ R ≤ 8) ∧ (1 ≤ C ∧ C ≤ 8) ∧ (1 ≤ V ∧ V ≤ 8) ∧ ∀ k, kpos s k ≤ 2 := ⟨hok.2.2.2.1, hok.2.2.2.2.1, hok.2.2.2.2.2.1, hok.2.2.2.2.2.2.1⟩
  have hc9 := hcz.1
  have hz9 := hcz.2
  refine x_iload hE 9 rfl dL_law_572 ?_
  refine x_istore hE [(16, .int (kSl s)), (0, .ref b), (1, .ref (aH a)), (3, .int (nI R)), (4, .int (nI C)), (5, .int (nI (R * C))), (6, .int (bI (kdio s))), (7, .int (bI (kSus s))), (8, .int (bI (kSos s))), (9, .int (kRu s)), (10, .int (kSl s)), (11, .int (nI V)), (12, .int (nI ev)), (13, .int g), (14, .int h)] (by decide) rfl dL_law_574 ?_
  refine x_iconst hE (nI 1) (by decide) dL_law_576 ?_
  refine x_iload hE 14 rfl dL_law_577 ?_
  refine x_bipush hE (nI 64) (by decide) dL_law_579 ?_
  refine x_callS0 (n := 2) (st := [.int (nI 1)]) hE (kL_low l D cI cZ h 64 (by omega) (by omega)) (fun v w h => h.2) gL_law_L_low rfl (by decide +kernel) ⟨by decide, by decide⟩ ⟨show cq ≤ 600000 by omega, show zq ≤ 7302250 by omega⟩ rfl rfl (Nat.le_of_ble_eq_true rfl) dL_law_581 (fun v9 hT9 => ?_)
  obtain ⟨rfl, -⟩ := hT9
  have hl581 : lowN h 64 < 64 := lowN_lt (by omega)
  refine x_at (ws' := (kW cI cZ a s)) (st' := [.int (nI (lowN h 64)), .int (nI 1)]) rfl rfl ?_
  refine x_iadd hE (nI (1 + (lowN h 64))) (nI_add _ _) dL_law_584 ?_
  refine x_istore hE [(10, .int (nI (1 + (lowN h 64)))), (16, .int (kSl s)), (0, .ref b), (1, .ref (aH a)), (3, .int (nI R)), (4, .int (nI C)), (5, .int (nI (R * C))), (6, .int (bI (kdio s))), (7, .int (bI (kSus s))), (8, .int (bI (kSos s))), (9, .int (kRu s)), (11, .int (nI V)), (12, .int (nI ev)), (13, .int g), (14, .int h)] (by decide) rfl dL_law_585 ?_
  refine x_iload hE 13 rfl dL_law_587 ?_
  refine x_sipush hE (nI 300) (by decide) dL_law_589 ?_
  refine x_callS0 (n := 2) (st := []) hE (kL_low l D cI cZ g 300 (by omega) (by omega)) (fun v w h => h.2) gL_law_L_low rfl (by decide +kernel) ⟨by decide, by decide⟩ ⟨show cq ≤ 600000 by omega, show zq ≤ 7302250 by omega⟩ rfl rfl (Nat.le_of_ble_eq_true rfl) dL_law_592 (fun v9 hT9 => ?_)
  obtain ⟨rfl, -⟩ := hT9
  have hl592 : lowN g 300 < 300 := lowN_lt (by omega)
  refine x_at (ws' := (kW cI cZ a s)) (st' := [.int (nI (lowN g 300))]) rfl rfl ?_
  refine x_istore hE [(17, .int (nI (lowN g 300))), (10, .int (nI (1 + (lowN h 64)))), (16, .int (kSl s)), (0, .ref b), (1, .ref (aH a)), (3, .int (nI R)), (4, .int (nI C)), (5, .int (nI (R * C))), (6, .int (bI (kdio s))), (7, .int (bI (kSus s))), (8, .int (bI (kSos s))), (9, .int (kRu s)), (11, .int (nI V)), (12, .int (nI ev)), (13, .int g), (14, .int h)] (by decide) rfl dL_law_595 ?_
  refine x_sipush hE (nI 128) (by decide) dL_law_597 ?_
  refine x_iload hE 1 rfl dL_law_600 ?_
  refine x_iload hE 0 rfl dL_law_602 ?_
  refine x_imul hE (nI (1 + (lowN h 64)) * nI (lowN g 300)) rfl dL_law_604 ?_
  refine x_isub hE (nI 128 - nI (1 + (lowN h 64)) * nI (lowN g 300)) rfl dL_law_605 ?_
  refine x_istore hE [(18, .int (nI 128 - nI (1 + (lowN h 64)) * nI (lowN g 300))), (17, .int (nI (lowN g 300))), (10, .int (nI (1 + (lowN h 64)))), (16, .int (kSl s)), (0, .ref b), (1, .ref (aH a)), (3, .int (nI R)), (4, .int (nI C)), (5, .int (nI (R * C))), (6, .int (bI (kdio s))), (7, .int (bI (kSus s))), (8, .int (bI (kSos s))), (9, .int (kRu s)), (11, .int (nI V)), (12, .int (nI ev)), (13, .int g), (14, .int h)] (by decide) rfl dL_law_606 ?_
  refine x_iload hE 0 rfl dL_law_608 ?_
  refine x_bipush hE (nI 127) (by decide) dL_law_610 ?_
  refine x_icmp_le hE 620 (by decide) dL_law_612 (fun c612 => ?_) (fun c612 => ?_)
  · skip
    refine x_iload hE 0 rfl dL_law_620 ?_
    refine x_iconst hE (nI 1) (by decide) dL_law_622 ?_
    refine x_icmp_ge hE 630 (by decide) dL_law_623 (fun c623 => ?_) (fun c623 => ?_)
    · skip
      refine x_iload hE 0 rfl dL_law_630 ?_
      refine x_istore hE [(18, .int (nI 128 - nI (1 + (lowN h 64)) * nI (lowN g 300))), (17, .int (nI (lowN g 300))), (10, .int (nI (1 + (lowN h 64)))), (16, .int (kSl s)), (0, .ref b), (1, .ref (aH a)), (3, .int (nI R)), (4, .int (nI C)), (5, .int (nI (R * C))), (6, .int (bI (kdio s))), (7, .int (bI (kSus s))), (8, .int (bI (kSos s))), (9, .int (kRu s)), (11, .int (nI V)), (12, .int (nI ev)), (13, .int g), (14, .int h)] (by decide) rfl dL_law_632 ?_
      refine x_aload_n hE 5 rfl dL_law_634 ?_
      refine x_iload hE 2 rfl dL_law_635 ?_
      refine x_callK (n := 1) (st := []) hE (ck_setSlope l D cI cZ a s hok (1 + (lowN h 64)) (⟨by omega, by omega⟩)) gL_law_X4_setSlope rfl rfl (by decide +kernel) ⟨by decide, by decide⟩ ⟨show cq ≤ 600000 by omega, show zq ≤ 7302250 by omega⟩ rfl rfl (Nat.le_of_ble_eq_true rfl) dL_law_637 (fun v9 w9 hT9 => ?_)
      obtain ⟨rfl, rfl⟩ := hT9
      refine x_at (ws' := (kW cI cZ a (slS s (nI (1 + (lowN h 64)))))) (st' := [.int (kSl s)]) rfl rfl ?_
      refine x_iload hE 3 rfl dL_law_640 ?_
      refine x_icmp_ne hE 699 (by decide) dL_law_642 (fun c642 => ?_) (fun c642 => ?_)
      · skip
        exact absurd rfl c642
      · skip
        refine x_aload_n hE 5 rfl dL_law_645 ?_
        refine x_iload hE 1 rfl dL_law_646 ?_
        refine x_callK (n := 1) (st := []) hE (ck_velocity l D cI cZ a (slS s (nI (1 + (lowN h 64)))) ((hI.sl (nI (1 + (lowN h 64)))).ok (by omega)) (lowN g 300) (by omega)) gL_law_X4_velocity rfl rfl (by decide +kernel) ⟨by decide, by decide⟩ ⟨show cq ≤ 600000 by omega, show zq ≤ 7302250 by omega⟩ rfl rfl (Nat.le_of_ble_eq_true rfl) dL_law_648 (fun v9 w9 hT9 => ?_)
        obtain ⟨rfl, rfl⟩ := hT9
        refine x_at (ws' := (kW cI cZ a (slS s (nI (1 + (lowN h 64)))))) (st' := [.int (vaI (kSl (slS s (nI (1 + (lowN h 64))))) (nI (lowN g 300)))]) rfl rfl ?_
        refine x_iload hE 0 rfl dL_law_651 ?_
        refine x_icmp_ne hE 699 (by decide) dL_law_653 (fun c653 => ?_) (fun c653 => ?_)
        · skip
          exact absurd ((va_eq (nI (1 + (lowN h 64))) (nI (lowN g 300))).trans (by unfold vaM; simp only [if_neg c612, if_neg c623, if_pos c642, if_neg c653, reduceIte, Bool.false_eq_true, Bool.true_eq_false])) c653
        · skip
          refine x_aload_n hE 5 rfl dL_law_656 ?_
          refine x_iconst hE (nI 0) (by decide) dL_law_657 ?_
          refine x_callK (n := 1) (st := []) hE (ck_setSlope_lo l D cI cZ a (slS s (nI (1 + (lowN h 64)))) ((hI.sl (nI (1 + (lowN h 64)))).ok (by omega))  ) gL_law_X4_setSlope rfl rfl (by decide +kernel) ⟨by decide, by decide⟩ ⟨show cq ≤ 600000 by omega, show zq ≤ 7302250 by omega⟩ rfl rfl (Nat.le_of_ble_eq_true rfl) dL_law_658 (fun v9 w9 hT9 => ?_)
          obtain ⟨rfl, rfl⟩ := hT9
          refine x_at (ws' := (kW cI cZ a (slS s (nI (1 + (lowN h 64)))))) (st' := [.int (-2)]) rfl rfl ?_
          refine x_bipush hE (-2) (by decide) dL_law_661 ?_
          refine x_icmp_ne hE 699 (by decide) dL_law_663 (fun c663 => ?_) (fun c663 => ?_)
          · skip
            exact absurd rfl c663
          · skip
            refine x_aload_n hE 5 rfl dL_law_666 ?_
            refine x_bipush hE (nI 65) (by decide) dL_law_667 ?_
            refine x_callK (n := 1) (st := []) hE (ck_setSlope_hi l D cI cZ a (slS s (nI (1 + (lowN h 64)))) ((hI.sl (nI (1 + (lowN h 64)))).ok (by omega))  ) gL_law_X4_setSlope rfl rfl (by decide +kernel) ⟨by decide, by decide⟩ ⟨show cq ≤ 600000 by omega, show zq ≤ 7302250 by omega⟩ rfl rfl (Nat.le_of_ble_eq_true rfl) dL_law_669 (fun v9 w9 hT9 => ?_)
            obtain ⟨rfl, rfl⟩ := hT9
            refine x_at (ws' := (kW cI cZ a (slS s (nI (1 + (lowN h 64)))))) (st' := [.int (-2)]) rfl rfl ?_
            refine x_bipush hE (-2) (by decide) dL_law_672 ?_
            refine x_icmp_ne hE 699 (by decide) dL_law_674 (fun c674 => ?_) (fun c674 => ?_)
            · skip
              exact absurd rfl c674
            · skip
              refine x_aload_n hE 5 rfl dL_law_677 ?_
              refine x_sipush hE (nI 1001) (by decide) dL_law_678 ?_
              refine x_callK (n := 1) (st := []) hE (ck_velocity_hi l D cI cZ a (slS s (nI (1 + (lowN h 64)))) ((hI.sl (nI (1 + (lowN h 64)))).ok (by omega))  ) gL_law_X4_velocity rfl rfl (by decide +kernel) ⟨by decide, by decide⟩ ⟨show cq ≤ 600000 by omega, show zq ≤ 7302250 by omega⟩ rfl rfl (Nat.le_of_ble_eq_true rfl) dL_law_681 (fun v9 w9 hT9 => ?_)
              obtain ⟨rfl, rfl⟩ := hT9
              refine x_at (ws' := (kW cI cZ a (slS s (nI (1 + (lowN h 64)))))) (st' := [.int (-2)]) rfl rfl ?_
              refine x_bipush hE (-2) (by decide) dL_law_684 ?_
              refine x_icmp_ne hE 699 (by decide) dL_law_686 (fun c686 => ?_) (fun c686 => ?_)
              · skip
                exact absurd rfl c686
              · skip
                refine x_aload_n hE 5 rfl dL_law_689 ?_
                refine x_iconst hE (-1) (by decide) dL_law_690 ?_
                refine x_callK (n := 1) (st := []) hE (ck_velocity_lo l D cI cZ a (slS s (nI (1 + (lowN h 64)))) ((hI.sl (nI (1 + (lowN h 64)))).ok (by omega))  ) gL_law_X4_velocity rfl rfl (by decide +kernel) ⟨by decide, by decide⟩ ⟨show cq ≤ 600000 by omega, show zq ≤ 7302250 by omega⟩ rfl rfl (Nat.le_of_ble_eq_true rfl) dL_law_691 (fun v9 w9 hT9 => ?_)
                obtain ⟨rfl, rfl⟩ := hT9
                refine x_at (ws' := (kW cI cZ a (slS s (nI (1 + (lowN h 64)))))) (st' := [.int (-2)]) rfl rfl ?_
                refine x_bipush hE (-2) (by decide) dL_law_694 ?_
                refine x_icmp_eq hE 701 (by decide) dL_law_696 (fun c696 => ?_) (fun c696 => ?_)
                · skip
                  refine x_goto hE 874 (by decide) dL_law_701 ?_
                  refine x_lv [(0, .ref b), (1, .ref (aH a)), (3, .int (nI R)), (4, .int (nI C)), (5, .int (nI (R * C))), (6, .int (bI (kdio s))), (7, .int (bI (kSus s))), (8, .int (bI (kSos s))), (9, .int (kRu s)), (10, .int (nI (1 + (lowN h 64)))), (11, .int (nI V)), (12, .int (nI ev))] [4, 5, 6, 7, 8, 9, 10, 11, 12, 2, 13, 14] rfl ?_
                  refine x_widen (cq + 36) (zq + 2304) (by omega) (by omega) ?_
                  exact hk9 (slS s (nI (1 + (lowN h 64)))) V ((hI.sl _).le (by omega))
                · skip
                  exact absurd rfl c696
    · skip
      refine x_iconst hE (nI 1) (by decide) dL_law_626 ?_
      refine x_goto hE 632 (by decide) dL_law_627 ?_
      refine x_istore hE [(18, .int (nI 1)), (17, .int (nI (lowN g 300))), (10, .int (nI (1 + (lowN h 64)))), (16, .int (kSl s)), (0, .ref b), (1, .ref (aH a)), (3, .int (nI R)), (4, .int (nI C)), (5, .int (nI (R * C))), (6, .int (bI (kdio s))), (7, .int (bI (kSus s))), (8, .int (bI (kSos s))), (9, .int (kRu s)), (11, .int (nI V)), (12, .int (nI ev)), (13, .int g), (14, .int h)] (by decide) rfl dL_law_632 ?_
      refine x_aload_n hE 5 rfl dL_law_634 ?_
      refine x_iload hE 2 rfl dL_law_635 ?_
      refine x_callK (n := 1) (st := []) hE (ck_setSlope l D cI cZ a s hok (1 + (lowN h 64)) (⟨by omega, by omega⟩)) gL_law_X4_setSlope rfl rfl (by decide +kernel) ⟨by decide, by decide⟩ ⟨show cq ≤ 600000 by omega, show zq ≤ 7302250 by omega⟩ rfl rfl (Nat.le_of_ble_eq_true rfl) dL_law_637 (fun v9 w9 hT9 => ?_)
      obtain ⟨rfl, rfl⟩ := hT9
      refine x_at (ws' := (kW cI cZ a (slS s (nI (1 + (lowN h 64)))))) (st' := [.int (kSl s)]) rfl rfl ?_
      refine x_iload hE 3 rfl dL_law_640 ?_
      refine x_icmp_ne hE 699 (by decide) dL_law_642 (fun c642 => ?_) (fun c642 => ?_)
      · skip
        exact absurd rfl c642
      · skip
        refine x_aload_n hE 5 rfl dL_law_645 ?_
        refine x_iload hE 1 rfl dL_law_646 ?_
        refine x_callK (n := 1) (st := []) hE (ck_velocity l D cI cZ a (slS s (nI (1 + (lowN h 64)))) ((hI.sl (nI (1 + (lowN h 64)))).ok (by omega)) (lowN g 300) (by omega)) gL_law_X4_velocity rfl rfl (by decide +kernel) ⟨by decide, by decide⟩ ⟨show cq ≤ 600000 by omega, show zq ≤ 7302250 by omega⟩ rfl rfl (Nat.le_of_ble_eq_true rfl) dL_law_648 (fun v9 w9 hT9 => ?_)
        obtain ⟨rfl, rfl⟩ := hT9
        refine x_at (ws' := (kW cI cZ a (slS s (nI (1 + (lowN h 64)))))) (st' := [.int (vaI (kSl (slS s (nI (1 + (lowN h 64))))) (nI (lowN g 300)))]) rfl rfl ?_
        refine x_iload hE 0 rfl dL_law_651 ?_
        refine x_icmp_ne hE 699 (by decide) dL_law_653 (fun c653 => ?_) (fun c653 => ?_)
        · skip
          exact absurd ((va_eq (nI (1 + (lowN h 64))) (nI (lowN g 300))).trans (by unfold vaM; simp only [if_neg c612, if_pos c623, if_pos c642, if_neg c653, reduceIte, Bool.false_eq_true, Bool.true_eq_false])) c653
        · skip
          refine x_aload_n hE 5 rfl dL_law_656 ?_
          refine x_iconst hE (nI 0) (by decide) dL_law_657 ?_
          refine x_callK (n := 1) (st := []) hE (ck_setSlope_lo l D cI cZ a (slS s (nI (1 + (lowN h 64)))) ((hI.sl (nI (1 + (lowN h 64)))).ok (by omega))  ) gL_law_X4_setSlope rfl rfl (by decide +kernel) ⟨by decide, by decide⟩ ⟨show cq ≤ 600000 by omega, show zq ≤ 7302250 by omega⟩ rfl rfl (Nat.le_of_ble_eq_true rfl) dL_law_658 (fun v9 w9 hT9 => ?_)
          obtain ⟨rfl, rfl⟩ := hT9
          refine x_at (ws' := (kW cI cZ a (slS s (nI (1 + (lowN h 64)))))) (st' := [.int (-2)]) rfl rfl ?_
          refine x_bipush hE (-2) (by decide) dL_law_661 ?_
          refine x_icmp_ne hE 699 (by decide) dL_law_663 (fun c663 => ?_) (fun c663 => ?_)
          · skip
            exact absurd rfl c663
          · skip
            refine x_aload_n hE 5 rfl dL_law_666 ?_
            refine x_bipush hE (nI 65) (by decide) dL_law_667 ?_
            refine x_callK (n := 1) (st := []) hE (ck_setSlope_hi l D cI cZ a (slS s (nI (1 + (lowN h 64)))) ((hI.sl (nI (1 + (lowN h 64)))).ok (by omega))  ) gL_law_X4_setSlope rfl rfl (by decide +kernel) ⟨by decide, by decide⟩ ⟨show cq ≤ 600000 by omega, show zq ≤ 7302250 by omega⟩ rfl rfl (Nat.le_of_ble_eq_true rfl) dL_law_669 (fun v9 w9 hT9 => ?_)
            obtain ⟨rfl, rfl⟩ := hT9
            refine x_at (ws' := (kW cI cZ a (slS s (nI (1 + (lowN h 64)))))) (st' := [.int (-2)]) rfl rfl ?_
            refine x_bipush hE (-2) (by decide) dL_law_672 ?_
            refine x_icmp_ne hE 699 (by decide) dL_law_674 (fun c674 => ?_) (fun c674 => ?_)
            · skip
              exact absurd rfl c674
            · skip
              refine x_aload_n hE 5 rfl dL_law_677 ?_
              refine x_sipush hE (nI 1001) (by decide) dL_law_678 ?_
              refine x_callK (n := 1) (st := []) hE (ck_velocity_hi l D cI cZ a (slS s (nI (1 + (lowN h 64)))) ((hI.sl (nI (1 + (lowN h 64)))).ok (by omega))  ) gL_law_X4_velocity rfl rfl (by decide +kernel) ⟨by decide, by decide⟩ ⟨show cq ≤ 600000 by omega, show zq ≤ 7302250 by omega⟩ rfl rfl (Nat.le_of_ble_eq_true rfl) dL_law_681 (fun v9 w9 hT9 => ?_)
              obtain ⟨rfl, rfl⟩ := hT9
              refine x_at (ws' := (kW cI cZ a (slS s (nI (1 + (lowN h 64)))))) (st' := [.int (-2)]) rfl rfl ?_
              refine x_bipush hE (-2) (by decide) dL_law_684 ?_
              refine x_icmp_ne hE 699 (by decide) dL_law_686 (fun c686 => ?_) (fun c686 => ?_)
              · skip
                exact absurd rfl c686
              · skip
                refine x_aload_n hE 5 rfl dL_law_689 ?_
                refine x_iconst hE (-1) (by decide) dL_law_690 ?_
                refine x_callK (n := 1) (st := []) hE (ck_velocity_lo l D cI cZ a (slS s (nI (1 + (lowN h 64)))) ((hI.sl (nI (1 + (lowN h 64)))).ok (by omega))  ) gL_law_X4_velocity rfl rfl (by decide +kernel) ⟨by decide, by decide⟩ ⟨show cq ≤ 600000 by omega, show zq ≤ 7302250 by omega⟩ rfl rfl (Nat.le_of_ble_eq_true rfl) dL_law_691 (fun v9 w9 hT9 => ?_)
                obtain ⟨rfl, rfl⟩ := hT9
                refine x_at (ws' := (kW cI cZ a (slS s (nI (1 + (lowN h 64)))))) (st' := [.int (-2)]) rfl rfl ?_
                refine x_bipush hE (-2) (by decide) dL_law_694 ?_
                refine x_icmp_eq hE 701 (by decide) dL_law_696 (fun c696 => ?_) (fun c696 => ?_)
                · skip
                  refine x_goto hE 874 (by decide) dL_law_701 ?_
                  refine x_lv [(0, .ref b), (1, .ref (aH a)), (3, .int (nI R)), (4, .int (nI C)), (5, .int (nI (R * C))), (6, .int (bI (kdio s))), (7, .int (bI (kSus s))), (8, .int (bI (kSos s))), (9, .int (kRu s)), (10, .int (nI (1 + (lowN h 64)))), (11, .int (nI V)), (12, .int (nI ev))] [4, 5, 6, 7, 8, 9, 10, 11, 12, 2, 13, 14] rfl ?_
                  refine x_widen (cq + 36) (zq + 2304) (by omega) (by omega) ?_
                  exact hk9 (slS s (nI (1 + (lowN h 64)))) V ((hI.sl _).le (by omega))
                · skip
                  exact absurd rfl c696
  · skip
    refine x_bipush hE (nI 127) (by decide) dL_law_615 ?_
    refine x_goto hE 632 (by decide) dL_law_617 ?_
    refine x_istore hE [(18, .int (nI 127)), (17, .int (nI (lowN g 300))), (10, .int (nI (1 + (lowN h 64)))), (16, .int (kSl s)), (0, .ref b), (1, .ref (aH a)), (3, .int (nI R)), (4, .int (nI C)), (5, .int (nI (R * C))), (6, .int (bI (kdio s))), (7, .int (bI (kSus s))), (8, .int (bI (kSos s))), (9, .int (kRu s)), (11, .int (nI V)), (12, .int (nI ev)), (13, .int g), (14, .int h)] (by decide) rfl dL_law_632 ?_
    refine x_aload_n hE 5 rfl dL_law_634 ?_
    refine x_iload hE 2 rfl dL_law_635 ?_
    refine x_callK (n := 1) (st := []) hE (ck_setSlope l D cI cZ a s hok (1 + (lowN h 64)) (⟨by omega, by omega⟩)) gL_law_X4_setSlope rfl rfl (by decide +kernel) ⟨by decide, by decide⟩ ⟨show cq ≤ 600000 by omega, show zq ≤ 7302250 by omega⟩ rfl rfl (Nat.le_of_ble_eq_true rfl) dL_law_637 (fun v9 w9 hT9 => ?_)
    obtain ⟨rfl, rfl⟩ := hT9
    refine x_at (ws' := (kW cI cZ a (slS s (nI (1 + (lowN h 64)))))) (st' := [.int (kSl s)]) rfl rfl ?_
    refine x_iload hE 3 rfl dL_law_640 ?_
    refine x_icmp_ne hE 699 (by decide) dL_law_642 (fun c642 => ?_) (fun c642 => ?_)
    · skip
      exact absurd rfl c642
    · skip
      refine x_aload_n hE 5 rfl dL_law_645 ?_
      refine x_iload hE 1 rfl dL_law_646 ?_
      refine x_callK (n := 1) (st := []) hE (ck_velocity l D cI cZ a (slS s (nI (1 + (lowN h 64)))) ((hI.sl (nI (1 + (lowN h 64)))).ok (by omega)) (lowN g 300) (by omega)) gL_law_X4_velocity rfl rfl (by decide +kernel) ⟨by decide, by decide⟩ ⟨show cq ≤ 600000 by omega, show zq ≤ 7302250 by omega⟩ rfl rfl (Nat.le_of_ble_eq_true rfl) dL_law_648 (fun v9 w9 hT9 => ?_)
      obtain ⟨rfl, rfl⟩ := hT9
      refine x_at (ws' := (kW cI cZ a (slS s (nI (1 + (lowN h 64)))))) (st' := [.int (vaI (kSl (slS s (nI (1 + (lowN h 64))))) (nI (lowN g 300)))]) rfl rfl ?_
      refine x_iload hE 0 rfl dL_law_651 ?_
      refine x_icmp_ne hE 699 (by decide) dL_law_653 (fun c653 => ?_) (fun c653 => ?_)
      · skip
        exact absurd ((va_eq (nI (1 + (lowN h 64))) (nI (lowN g 300))).trans (by unfold vaM; simp only [if_pos c612, if_pos c642, if_neg c653, reduceIte, Bool.false_eq_true, Bool.true_eq_false])) c653
      · skip
        refine x_aload_n hE 5 rfl dL_law_656 ?_
        refine x_iconst hE (nI 0) (by decide) dL_law_657 ?_
        refine x_callK (n := 1) (st := []) hE (ck_setSlope_lo l D cI cZ a (slS s (nI (1 + (lowN h 64)))) ((hI.sl (nI (1 + (lowN h 64)))).ok (by omega))  ) gL_law_X4_setSlope rfl rfl (by decide +kernel) ⟨by decide, by decide⟩ ⟨show cq ≤ 600000 by omega, show zq ≤ 7302250 by omega⟩ rfl rfl (Nat.le_of_ble_eq_true rfl) dL_law_658 (fun v9 w9 hT9 => ?_)
        obtain ⟨rfl, rfl⟩ := hT9
        refine x_at (ws' := (kW cI cZ a (slS s (nI (1 + (lowN h 64)))))) (st' := [.int (-2)]) rfl rfl ?_
        refine x_bipush hE (-2) (by decide) dL_law_661 ?_
        refine x_icmp_ne hE 699 (by decide) dL_law_663 (fun c663 => ?_) (fun c663 => ?_)
        · skip
          exact absurd rfl c663
        · skip
          refine x_aload_n hE 5 rfl dL_law_666 ?_
          refine x_bipush hE (nI 65) (by decide) dL_law_667 ?_
          refine x_callK (n := 1) (st := []) hE (ck_setSlope_hi l D cI cZ a (slS s (nI (1 + (lowN h 64)))) ((hI.sl (nI (1 + (lowN h 64)))).ok (by omega))  ) gL_law_X4_setSlope rfl rfl (by decide +kernel) ⟨by decide, by decide⟩ ⟨show cq ≤ 600000 by omega, show zq ≤ 7302250 by omega⟩ rfl rfl (Nat.le_of_ble_eq_true rfl) dL_law_669 (fun v9 w9 hT9 => ?_)
          obtain ⟨rfl, rfl⟩ := hT9
          refine x_at (ws' := (kW cI cZ a (slS s (nI (1 + (lowN h 64)))))) (st' := [.int (-2)]) rfl rfl ?_
          refine x_bipush hE (-2) (by decide) dL_law_672 ?_
          refine x_icmp_ne hE 699 (by decide) dL_law_674 (fun c674 => ?_) (fun c674 => ?_)
          · skip
            exact absurd rfl c674
          · skip
            refine x_aload_n hE 5 rfl dL_law_677 ?_
            refine x_sipush hE (nI 1001) (by decide) dL_law_678 ?_
            refine x_callK (n := 1) (st := []) hE (ck_velocity_hi l D cI cZ a (slS s (nI (1 + (lowN h 64)))) ((hI.sl (nI (1 + (lowN h 64)))).ok (by omega))  ) gL_law_X4_velocity rfl rfl (by decide +kernel) ⟨by decide, by decide⟩ ⟨show cq ≤ 600000 by omega, show zq ≤ 7302250 by omega⟩ rfl rfl (Nat.le_of_ble_eq_true rfl) dL_law_681 (fun v9 w9 hT9 => ?_)
            obtain ⟨rfl, rfl⟩ := hT9
            refine x_at (ws' := (kW cI cZ a (slS s (nI (1 + (lowN h 64)))))) (st' := [.int (-2)]) rfl rfl ?_
            refine x_bipush hE (-2) (by decide) dL_law_684 ?_
            refine x_icmp_ne hE 699 (by decide) dL_law_686 (fun c686 => ?_) (fun c686 => ?_)
            · skip
              exact absurd rfl c686
            · skip
              refine x_aload_n hE 5 rfl dL_law_689 ?_
              refine x_iconst hE (-1) (by decide) dL_law_690 ?_
              refine x_callK (n := 1) (st := []) hE (ck_velocity_lo l D cI cZ a (slS s (nI (1 + (lowN h 64)))) ((hI.sl (nI (1 + (lowN h 64)))).ok (by omega))  ) gL_law_X4_velocity rfl rfl (by decide +kernel) ⟨by decide, by decide⟩ ⟨show cq ≤ 600000 by omega, show zq ≤ 7302250 by omega⟩ rfl rfl (Nat.le_of_ble_eq_true rfl) dL_law_691 (fun v9 w9 hT9 => ?_)
              obtain ⟨rfl, rfl⟩ := hT9
              refine x_at (ws' := (kW cI cZ a (slS s (nI (1 + (lowN h 64)))))) (st' := [.int (-2)]) rfl rfl ?_
              refine x_bipush hE (-2) (by decide) dL_law_694 ?_
              refine x_icmp_eq hE 701 (by decide) dL_law_696 (fun c696 => ?_) (fun c696 => ?_)
              · skip
                refine x_goto hE 874 (by decide) dL_law_701 ?_
                refine x_lv [(0, .ref b), (1, .ref (aH a)), (3, .int (nI R)), (4, .int (nI C)), (5, .int (nI (R * C))), (6, .int (bI (kdio s))), (7, .int (bI (kSus s))), (8, .int (bI (kSos s))), (9, .int (kRu s)), (10, .int (nI (1 + (lowN h 64)))), (11, .int (nI V)), (12, .int (nI ev))] [4, 5, 6, 7, 8, 9, 10, 11, 12, 2, 13, 14] rfl ?_
                refine x_widen (cq + 36) (zq + 2304) (by omega) (by omega) ?_
                exact hk9 (slS s (nI (1 + (lowN h 64)))) V ((hI.sl _).le (by omega))
              · skip
                exact absurd rfl c696
set_option maxHeartbeats 8000000 in
set_option maxRecDepth 100000 in
theorem lo_switch {p9 : Program} {l : Launch} {e9 : Env} {s9 : State} {m9 : MethodId} {args9 : Array Value} {below9 : List Frame} {meth9 : Method} {cd9 : Code} {Q : State → Prop} {D : va_G} {cI cZ : ClassId} {A : Nat → Prop} {b L : Nat} {xs : Nat → Int32} {a : KAd} {s : KSt} {R C V N cq zq ev : Nat} (hE : xE p9 s9 m9 args9 meth9 cd9 code RL wsL_law 19 D cI cZ A) (hS9 : va_X b L xs s9 s9.heap ∧ b < s9.heap.size ∧ ¬ A b ∧ L ≤ 1536) (hI : INV s R C V N) (hN : N ≤ 800) (hcz : cq + 36 ≤ 600000 ∧ zq + 2304 ≤ 7302250) (g : Int32) (h : Int32)  (hk9 : ∀ (s2 : KSt) (V2 : Nat), INV s2 R C V2 (N + 21) → X p9 l e9 room_1 s9 m9 args9 below9 meth9 cd9 (cq + 36) (zq + 2304) Q 19 D A (kW cI cZ a s2) [(0, .ref b), (1, .ref (aH a)), (3, .int (nI R)), (4, .int (nI C)), (5, .int (nI (R * C))), (6, .int (bI (kdio s2))), (7, .int (bI (kSus s2))), (8, .int (bI (kSos s2))), (9, .int (kRu s2)), (10, .int (kSl s2)), (11, .int (nI V2)), (12, .int (nI ev))] 874 []) : X p9 l e9 room_1 s9 m9 args9 below9 meth9 cd9 cq zq Q 19 D A (kW cI cZ a s) [(0, .ref b), (1, .ref (aH a)), (3, .int (nI R)), (4, .int (nI C)), (5, .int (nI (R * C))), (6, .int (bI (kdio s))), (7, .int (bI (kSus s))), (8, .int (bI (kSos s))), (9, .int (kRu s)), (10, .int (kSl s)), (11, .int (nI V)), (12, .int (nI ev)), (13, .int g), (14, .int h)] 711 [] := by
  have hok := hI.ok (by omega)
  obtain ⟨hRC, hRC1⟩ := hI.rc
  obtain ⟨hR, hC, hV, hpos⟩ : (1 ≤ R ∧ R ≤ 8) ∧ (1 ≤ C ∧ C ≤ 8) ∧ (1 ≤ V ∧ V ≤ 8) ∧ ∀ k, kpos s k ≤ 2 := ⟨hok.2.2.2.1, hok.2.2.2.2.1, hok.2.2.2.2.2.1, hok.2.2.2.2.2.2.1⟩
  have hc9 := hcz.1
  have hz9 := hcz.2
  refine x_iload hE 13 rfl dL_law_711 ?_
  refine x_iconst hE (nI 1) (by decide) dL_law_713 ?_
  refine x_iand hE (h &&& (nI 1)) rfl dL_law_714 ?_
  refine x_if_ne hE 722 (by decide) dL_law_715 (fun c715 => ?_) (fun c715 => ?_)
  · skip
    refine x_iconst hE (nI 0) (by decide) dL_law_722 ?_
    refine x_istore hE [(16, .int (nI 0)), (0, .ref b), (1, .ref (aH a)), (3, .int (nI R)), (4, .int (nI C)), (5, .int (nI (R * C))), (6, .int (bI (kdio s))), (7, .int (bI (kSus s))), (8, .int (bI (kSos s))), (9, .int (kRu s)), (10, .int (kSl s)), (11, .int (nI V)), (12, .int (nI ev)), (13, .int g), (14, .int h)] (by decide) rfl dL_law_723 ?_
    refine x_iload hE 13 rfl dL_law_725 ?_
    refine x_iconst hE (nI 1) (by decide) dL_law_727 ?_
    refine x_iand hE (g &&& (nI 1)) rfl dL_law_728 ?_
    refine x_if_ne hE 765 (by decide) dL_law_729 (fun c729 => ?_) (fun c729 => ?_)
    · skip
      refine x_aload_n hE 2 rfl dL_law_765 ?_
      refine x_iload hE 0 rfl dL_law_766 ?_
      refine x_callK (n := 1) (st := []) hE (ck_setLateRelease l D cI cZ a s hok false ) gL_law_X4_setLateRelease rfl rfl (by decide +kernel) ⟨by decide, by decide⟩ ⟨show cq ≤ 600000 by omega, show zq ≤ 7302250 by omega⟩ rfl rfl (Nat.le_of_ble_eq_true rfl) dL_law_768 (fun v9 w9 hT9 => ?_)
      obtain ⟨rfl, rfl⟩ := hT9
      refine x_at (ws' := (kW cI cZ a (ltS s false))) (st' := [.int (nI (b2n (decide (¬ kLt s = false))))]) rfl rfl ?_
      refine x_istore hE [(17, .int (nI (b2n (decide (¬ kLt s = false))))), (16, .int (nI 0)), (0, .ref b), (1, .ref (aH a)), (3, .int (nI R)), (4, .int (nI C)), (5, .int (nI (R * C))), (6, .int (bI (kdio s))), (7, .int (bI (kSus s))), (8, .int (bI (kSos s))), (9, .int (kRu s)), (10, .int (kSl s)), (11, .int (nI V)), (12, .int (nI ev)), (13, .int g), (14, .int h)] (by decide) rfl dL_law_771 ?_
      refine x_iload hE 0 rfl dL_law_773 ?_
      refine xn_if_lt hE (b2n_lt _) 793 (by decide) dL_law_775 (fun c775 => ?_) (fun c775 => ?_)
      · skip
        exact absurd c775 (Nat.not_lt_zero _)
      · skip
        refine x_iload hE 0 rfl dL_law_778 ?_
        refine x_iconst hE (nI 1) (by decide) dL_law_780 ?_
        refine xn_icmp_gt hE (b2n_lt _) (by decide) 793 (by decide) dL_law_781 (fun c781 => ?_) (fun c781 => ?_)
        · skip
          exact absurd c781 (Nat.not_lt.mpr (b2n_le _))
        · skip
          refine x_aload_n hE 3 rfl dL_law_784 ?_
          refine x_iload hE 1 rfl dL_law_785 ?_
          refine x_callK (n := 1) (st := []) hE (ck_setLateRelease l D cI cZ a (ltS s false) ((hI.lt false).ok (by omega)) false ) gL_law_X4_setLateRelease rfl rfl (by decide +kernel) ⟨by decide, by decide⟩ ⟨show cq ≤ 600000 by omega, show zq ≤ 7302250 by omega⟩ rfl rfl (Nat.le_of_ble_eq_true rfl) dL_law_787 (fun v9 w9 hT9 => ?_)
          obtain ⟨rfl, rfl⟩ := hT9
          refine x_at (ws' := (kW cI cZ a (ltS (ltS s false) false))) (st' := [.int (nI (b2n (decide (¬ kLt (ltS s false) = false))))]) rfl rfl ?_
          refine xn_if_eq hE (b2n_lt _) 795 (by decide) dL_law_790 (fun c790 => ?_) (fun c790 => ?_)
          · skip
            refine x_goto hE 874 (by decide) dL_law_795 ?_
            refine x_lv [(0, .ref b), (1, .ref (aH a)), (3, .int (nI R)), (4, .int (nI C)), (5, .int (nI (R * C))), (6, .int (bI (kdio s))), (7, .int (bI (kSus s))), (8, .int (bI (kSos s))), (9, .int (kRu s)), (10, .int (kSl s)), (11, .int (nI V)), (12, .int (nI ev))] [2, 3, 4, 5, 6, 7, 8, 9, 10, 11, 12, 13] rfl ?_
            refine x_widen (cq + 36) (zq + 2304) (by omega) (by omega) ?_
            exact hk9 (ltS (ltS s false) false) V (((hI.lt _).lt _).le (by omega))
          · skip
            exact (c790 (b2n_same rfl)).elim
    · skip
      refine x_aload_n hE 2 rfl dL_law_732 ?_
      refine x_iload hE 0 rfl dL_law_733 ?_
      refine x_callK (n := 1) (st := []) hE (ck_setBlocking l D cI cZ a s hok false ) gL_law_X4_setBlocking rfl rfl (by decide +kernel) ⟨by decide, by decide⟩ ⟨show cq ≤ 600000 by omega, show zq ≤ 7302250 by omega⟩ rfl rfl (Nat.le_of_ble_eq_true rfl) dL_law_735 (fun v9 w9 hT9 => ?_)
      obtain ⟨rfl, rfl⟩ := hT9
      refine x_at (ws' := (kW cI cZ a (bkS s false))) (st' := [.int (nI (b2n (decide (¬ kBk s = false))))]) rfl rfl ?_
      refine x_istore hE [(17, .int (nI (b2n (decide (¬ kBk s = false))))), (16, .int (nI 0)), (0, .ref b), (1, .ref (aH a)), (3, .int (nI R)), (4, .int (nI C)), (5, .int (nI (R * C))), (6, .int (bI (kdio s))), (7, .int (bI (kSus s))), (8, .int (bI (kSos s))), (9, .int (kRu s)), (10, .int (kSl s)), (11, .int (nI V)), (12, .int (nI ev)), (13, .int g), (14, .int h)] (by decide) rfl dL_law_738 ?_
      refine x_iload hE 0 rfl dL_law_740 ?_
      refine xn_if_lt hE (b2n_lt _) 760 (by decide) dL_law_742 (fun c742 => ?_) (fun c742 => ?_)
      · skip
        exact absurd c742 (Nat.not_lt_zero _)
      · skip
        refine x_iload hE 0 rfl dL_law_745 ?_
        refine x_iconst hE (nI 1) (by decide) dL_law_747 ?_
        refine xn_icmp_gt hE (b2n_lt _) (by decide) 760 (by decide) dL_law_748 (fun c748 => ?_) (fun c748 => ?_)
        · skip
          exact absurd c748 (Nat.not_lt.mpr (b2n_le _))
        · skip
          refine x_aload_n hE 3 rfl dL_law_751 ?_
          refine x_iload hE 1 rfl dL_law_752 ?_
          refine x_callK (n := 1) (st := []) hE (ck_setBlocking l D cI cZ a (bkS s false) ((hI.bk false).ok (by omega)) false ) gL_law_X4_setBlocking rfl rfl (by decide +kernel) ⟨by decide, by decide⟩ ⟨show cq ≤ 600000 by omega, show zq ≤ 7302250 by omega⟩ rfl rfl (Nat.le_of_ble_eq_true rfl) dL_law_754 (fun v9 w9 hT9 => ?_)
          obtain ⟨rfl, rfl⟩ := hT9
          refine x_at (ws' := (kW cI cZ a (bkS (bkS s false) false))) (st' := [.int (nI (b2n (decide (¬ kBk (bkS s false) = false))))]) rfl rfl ?_
          refine xn_if_eq hE (b2n_lt _) 762 (by decide) dL_law_757 (fun c757 => ?_) (fun c757 => ?_)
          · skip
            refine x_goto hE 795 (by decide) dL_law_762 ?_
            refine x_goto hE 874 (by decide) dL_law_795 ?_
            refine x_lv [(0, .ref b), (1, .ref (aH a)), (3, .int (nI R)), (4, .int (nI C)), (5, .int (nI (R * C))), (6, .int (bI (kdio s))), (7, .int (bI (kSus s))), (8, .int (bI (kSos s))), (9, .int (kRu s)), (10, .int (kSl s)), (11, .int (nI V)), (12, .int (nI ev))] [2, 3, 4, 5, 6, 7, 8, 9, 10, 11, 12, 13] rfl ?_
            refine x_widen (cq + 36) (zq + 2304) (by omega) (by omega) ?_
            exact hk9 (bkS (bkS s false) false) V (((hI.bk _).bk _).le (by omega))
          · skip
            exact (c757 (b2n_same rfl)).elim
  · skip
    refine x_iconst hE (nI 1) (by decide) dL_law_718 ?_
    refine x_goto hE 723 (by decide) dL_law_719 ?_
    refine x_istore hE [(16, .int (nI 1)), (0, .ref b), (1, .ref (aH a)), (3, .int (nI R)), (4, .int (nI C)), (5, .int (nI (R * C))), (6, .int (bI (kdio s))), (7, .int (bI (kSus s))), (8, .int (bI (kSos s))), (9, .int (kRu s)), (10, .int (kSl s)), (11, .int (nI V)), (12, .int (nI ev)), (13, .int g), (14, .int h)] (by decide) rfl dL_law_723 ?_
    refine x_iload hE 13 rfl dL_law_725 ?_
    refine x_iconst hE (nI 1) (by decide) dL_law_727 ?_
    refine x_iand hE (g &&& (nI 1)) rfl dL_law_728 ?_
    refine x_if_ne hE 765 (by decide) dL_law_729 (fun c729 => ?_) (fun c729 => ?_)
    · skip
      refine x_aload_n hE 2 rfl dL_law_765 ?_
      refine x_iload hE 0 rfl dL_law_766 ?_
      refine x_callK (n := 1) (st := []) hE (ck_setLateRelease l D cI cZ a s hok true ) gL_law_X4_setLateRelease rfl rfl (by decide +kernel) ⟨by decide, by decide⟩ ⟨show cq ≤ 600000 by omega, show zq ≤ 7302250 by omega⟩ rfl rfl (Nat.le_of_ble_eq_true rfl) dL_law_768 (fun v9 w9 hT9 => ?_)
      obtain ⟨rfl, rfl⟩ := hT9
      refine x_at (ws' := (kW cI cZ a (ltS s true))) (st' := [.int (nI (b2n (decide (¬ kLt s = true))))]) rfl rfl ?_
      refine x_istore hE [(17, .int (nI (b2n (decide (¬ kLt s = true))))), (16, .int (nI 1)), (0, .ref b), (1, .ref (aH a)), (3, .int (nI R)), (4, .int (nI C)), (5, .int (nI (R * C))), (6, .int (bI (kdio s))), (7, .int (bI (kSus s))), (8, .int (bI (kSos s))), (9, .int (kRu s)), (10, .int (kSl s)), (11, .int (nI V)), (12, .int (nI ev)), (13, .int g), (14, .int h)] (by decide) rfl dL_law_771 ?_
      refine x_iload hE 0 rfl dL_law_773 ?_
      refine xn_if_lt hE (b2n_lt _) 793 (by decide) dL_law_775 (fun c775 => ?_) (fun c775 => ?_)
      · skip
        exact absurd c775 (Nat.not_lt_zero _)
      · skip
        refine x_iload hE 0 rfl dL_law_778 ?_
        refine x_iconst hE (nI 1) (by decide) dL_law_780 ?_
        refine xn_icmp_gt hE (b2n_lt _) (by decide) 793 (by decide) dL_law_781 (fun c781 => ?_) (fun c781 => ?_)
        · skip
          exact absurd c781 (Nat.not_lt.mpr (b2n_le _))
        · skip
          refine x_aload_n hE 3 rfl dL_law_784 ?_
          refine x_iload hE 1 rfl dL_law_785 ?_
          refine x_callK (n := 1) (st := []) hE (ck_setLateRelease l D cI cZ a (ltS s true) ((hI.lt true).ok (by omega)) true ) gL_law_X4_setLateRelease rfl rfl (by decide +kernel) ⟨by decide, by decide⟩ ⟨show cq ≤ 600000 by omega, show zq ≤ 7302250 by omega⟩ rfl rfl (Nat.le_of_ble_eq_true rfl) dL_law_787 (fun v9 w9 hT9 => ?_)
          obtain ⟨rfl, rfl⟩ := hT9
          refine x_at (ws' := (kW cI cZ a (ltS (ltS s true) true))) (st' := [.int (nI (b2n (decide (¬ kLt (ltS s true) = true))))]) rfl rfl ?_
          refine xn_if_eq hE (b2n_lt _) 795 (by decide) dL_law_790 (fun c790 => ?_) (fun c790 => ?_)
          · skip
            refine x_goto hE 874 (by decide) dL_law_795 ?_
            refine x_lv [(0, .ref b), (1, .ref (aH a)), (3, .int (nI R)), (4, .int (nI C)), (5, .int (nI (R * C))), (6, .int (bI (kdio s))), (7, .int (bI (kSus s))), (8, .int (bI (kSos s))), (9, .int (kRu s)), (10, .int (kSl s)), (11, .int (nI V)), (12, .int (nI ev))] [2, 3, 4, 5, 6, 7, 8, 9, 10, 11, 12, 13] rfl ?_
            refine x_widen (cq + 36) (zq + 2304) (by omega) (by omega) ?_
            exact hk9 (ltS (ltS s true) true) V (((hI.lt _).lt _).le (by omega))
          · skip
            exact (c790 (b2n_same rfl)).elim
    · skip
      refine x_aload_n hE 2 rfl dL_law_732 ?_
      refine x_iload hE 0 rfl dL_law_733 ?_
      refine x_callK (n := 1) (st := []) hE (ck_setBlocking l D cI cZ a s hok true ) gL_law_X4_setBlocking rfl rfl (by decide +kernel) ⟨by decide, by decide⟩ ⟨show cq ≤ 600000 by omega, show zq ≤ 7302250 by omega⟩ rfl rfl (Nat.le_of_ble_eq_true rfl) dL_law_735 (fun v9 w9 hT9 => ?_)
      obtain ⟨rfl, rfl⟩ := hT9
      refine x_at (ws' := (kW cI cZ a (bkS s true))) (st' := [.int (nI (b2n (decide (¬ kBk s = true))))]) rfl rfl ?_
      refine x_istore hE [(17, .int (nI (b2n (decide (¬ kBk s = true))))), (16, .int (nI 1)), (0, .ref b), (1, .ref (aH a)), (3, .int (nI R)), (4, .int (nI C)), (5, .int (nI (R * C))), (6, .int (bI (kdio s))), (7, .int (bI (kSus s))), (8, .int (bI (kSos s))), (9, .int (kRu s)), (10, .int (kSl s)), (11, .int (nI V)), (12, .int (nI ev)), (13, .int g), (14, .int h)] (by decide) rfl dL_law_738 ?_
      refine x_iload hE 0 rfl dL_law_740 ?_
      refine xn_if_lt hE (b2n_lt _) 760 (by decide) dL_law_742 (fun c742 => ?_) (fun c742 => ?_)
      · skip
        exact absurd c742 (Nat.not_lt_zero _)
      · skip
        refine x_iload hE 0 rfl dL_law_745 ?_
        refine x_iconst hE (nI 1) (by decide) dL_law_747 ?_
        refine xn_icmp_gt hE (b2n_lt _) (by decide) 760 (by decide) dL_law_748 (fun c748 => ?_) (fun c748 => ?_)
        · skip
          exact absurd c748 (Nat.not_lt.mpr (b2n_le _))
        · skip
          refine x_aload_n hE 3 rfl dL_law_751 ?_
          refine x_iload hE 1 rfl dL_law_752 ?_
          refine x_callK (n := 1) (st := []) hE (ck_setBlocking l D cI cZ a (bkS s true) ((hI.bk true).ok (by omega)) true ) gL_law_X4_setBlocking rfl rfl (by decide +kernel) ⟨by decide, by decide⟩ ⟨show cq ≤ 600000 by omega, show zq ≤ 7302250 by omega⟩ rfl rfl (Nat.le_of_ble_eq_true rfl) dL_law_754 (fun v9 w9 hT9 => ?_)
          obtain ⟨rfl, rfl⟩ := hT9
          refine x_at (ws' := (kW cI cZ a (bkS (bkS s true) true))) (st' := [.int (nI (b2n (decide (¬ kBk (bkS s true) = true))))]) rfl rfl ?_
          refine xn_if_eq hE (b2n_lt _) 762 (by decide) dL_law_757 (fun c757 => ?_) (fun c757 => ?_)
          · skip
            refine x_goto hE 795 (by decide) dL_law_762 ?_
            refine x_goto hE 874 (by decide) dL_law_795 ?_
            refine x_lv [(0, .ref b), (1, .ref (aH a)), (3, .int (nI R)), (4, .int (nI C)), (5, .int (nI (R * C))), (6, .int (bI (kdio s))), (7, .int (bI (kSus s))), (8, .int (bI (kSos s))), (9, .int (kRu s)), (10, .int (kSl s)), (11, .int (nI V)), (12, .int (nI ev))] [2, 3, 4, 5, 6, 7, 8, 9, 10, 11, 12, 13] rfl ?_
            refine x_widen (cq + 36) (zq + 2304) (by omega) (by omega) ?_
            exact hk9 (bkS (bkS s true) true) V (((hI.bk _).bk _).le (by omega))
          · skip
            exact (c757 (b2n_same rfl)).elim
set_option maxHeartbeats 8000000 in
set_option maxRecDepth 100000 in
theorem lo_last {p9 : Program} {l : Launch} {e9 : Env} {s9 : State} {m9 : MethodId} {args9 : Array Value} {below9 : List Frame} {meth9 : Method} {cd9 : Code} {Q : State → Prop} {D : va_G} {cI cZ : ClassId} {A : Nat → Prop} {b L : Nat} {xs : Nat → Int32} {a : KAd} {s : KSt} {R C V N cq zq ev : Nat} (hE : xE p9 s9 m9 args9 meth9 cd9 code RL wsL_law 19 D cI cZ A) (hS9 : va_X b L xs s9 s9.heap ∧ b < s9.heap.size ∧ ¬ A b ∧ L ≤ 1536) (hI : INV s R C V N) (hN : N ≤ 800) (hcz : cq + 36 ≤ 600000 ∧ zq + 2304 ≤ 7302250) (g : Int32) (h : Int32)  (hk9 : ∀ (s2 : KSt) (V2 : Nat), INV s2 R C V2 (N + 21) → X p9 l e9 room_1 s9 m9 args9 below9 meth9 cd9 (cq + 36) (zq + 2304) Q 19 D A (kW cI cZ a s2) [(0, .ref b), (1, .ref (aH a)), (3, .int (nI R)), (4, .int (nI C)), (5, .int (nI (R * C))), (6, .int (bI (kdio s2))), (7, .int (bI (kSus s2))), (8, .int (bI (kSos s2))), (9, .int (kRu s2)), (10, .int (kSl s2)), (11, .int (nI V2)), (12, .int (nI ev))] 874 []) : X p9 l e9 room_1 s9 m9 args9 below9 meth9 cd9 cq zq Q 19 D A (kW cI cZ a s) [(0, .ref b), (1, .ref (aH a)), (3, .int (nI R)), (4, .int (nI C)), (5, .int (nI (R * C))), (6, .int (bI (kdio s))), (7, .int (bI (kSus s))), (8, .int (bI (kSos s))), (9, .int (kRu s)), (10, .int (kSl s)), (11, .int (nI V)), (12, .int (nI ev)), (13, .int g), (14, .int h)] 798 [] := by
  have hok := hI.ok (by omega)
  obtain ⟨hRC, hRC1⟩ := hI.rc
  obtain ⟨hR, hC, hV, hpos⟩ : (1 ≤ R ∧ R ≤ 8) ∧ (1 ≤ C ∧ C ≤ 8) ∧ (1 ≤ V ∧ V ≤ 8) ∧ ∀ k, kpos s k ≤ 2 := ⟨hok.2.2.2.1, hok.2.2.2.2.1, hok.2.2.2.2.2.1, hok.2.2.2.2.2.2.1⟩
  have hc9 := hcz.1
  have hz9 := hcz.2
  refine x_iload hE 13 rfl dL_law_798 ?_
  refine x_iconst hE (nI 3) (by decide) dL_law_800 ?_
  refine x_iand hE (h &&& (nI 3)) rfl dL_law_801 ?_
  refine x_if_ne hE 843 (by decide) dL_law_802 (fun c802 => ?_) (fun c802 => ?_)
  · skip
    refine x_aload_n hE 1 rfl dL_law_843 ?_
    refine x_iload hE 4 rfl dL_law_844 ?_
    refine x_iconst hE (nI 1) (by decide) dL_law_846 ?_
    refine x_iload hE 13 rfl dL_law_847 ?_
    refine x_iconst hE (nI 2) (by decide) dL_law_849 ?_
    refine x_ishr hE (h >>> ((nI 2) &&& 31)) rfl dL_law_850 ?_
    refine x_bipush hE (nI 20) (by decide) dL_law_851 ?_
    refine x_callS0 (n := 2) (st := [.int (nI 1), .int (nI (R * C)), .ref (aH a)]) hE (kL_low l D cI cZ (h >>> ((nI 2) &&& 31)) 20 (by omega) (by omega)) (fun v w h => h.2) gL_law_L_low rfl (by decide +kernel) ⟨by decide, by decide⟩ ⟨show cq ≤ 600000 by omega, show zq ≤ 7302250 by omega⟩ rfl rfl (Nat.le_of_ble_eq_true rfl) dL_law_853 (fun v9 hT9 => ?_)
    obtain ⟨rfl, -⟩ := hT9
    have hl853 : lowN (h >>> ((nI 2) &&& 31)) 20 < 20 := lowN_lt (by omega)
    refine x_at (ws' := (kW cI cZ a s)) (st' := [.int (nI (lowN (h >>> ((nI 2) &&& 31)) 20)), .int (nI 1), .int (nI (R * C)), .ref (aH a)]) rfl rfl ?_
    refine x_iadd hE (nI (1 + (lowN (h >>> ((nI 2) &&& 31)) 20))) (nI_add _ _) dL_law_856 ?_
    refine x_callSK (n := 3) (st := []) hE (kL_rests l D cI cZ a s (1 + (lowN (h >>> ((nI 2) &&& 31)) 20)) hI (by omega) ⟨by omega, by omega⟩) gL_law_L_rests rfl (by decide +kernel) ⟨by decide, by decide⟩ ⟨show cq ≤ 600000 by omega, show zq ≤ 7302250 by omega⟩ rfl rfl (Nat.le_of_ble_eq_true rfl) dL_law_857 (fun v9 w9 hT9 => ?_)
    obtain ⟨rfl, n857, hn857, rfl⟩ := hT9
    refine x_at (ws' := (kW cI cZ a (tickN n857 s))) (st' := [.int (bI true)]) rfl rfl ?_
    refine xb_if_eq hE 872 (by decide) dL_law_860 (fun c860 => ?_) (fun c860 => ?_)
    · skip
      exact absurd c860 (by decide)
    · skip
      refine x_aload_n hE 1 rfl dL_law_863 ?_
      refine x_iload hE 4 rfl dL_law_864 ?_
      refine x_callSK (n := 2) (st := []) hE (kL_worst l D cI cZ a (tickN n857 s)  (hI.tkN n857 (by omega)) (by omega)) gL_law_L_worst rfl (by decide +kernel) ⟨by decide, by decide⟩ ⟨show cq ≤ 600000 by omega, show zq ≤ 7302250 by omega⟩ rfl rfl (Nat.le_of_ble_eq_true rfl) dL_law_866 (fun v9 w9 hT9 => ?_)
      obtain ⟨rfl, rfl⟩ := hT9
      refine x_at (ws' := (kW cI cZ a (tickN n857 s))) (st' := [.int (bI true)]) rfl rfl ?_
      refine xb_if_ne hE 874 (by decide) dL_law_869 (fun c869 => ?_) (fun c869 => ?_)
      · skip
        refine x_lv [(0, .ref b), (1, .ref (aH a)), (3, .int (nI R)), (4, .int (nI C)), (5, .int (nI (R * C))), (6, .int (bI (kdio s))), (7, .int (bI (kSus s))), (8, .int (bI (kSos s))), (9, .int (kRu s)), (10, .int (kSl s)), (11, .int (nI V)), (12, .int (nI ev))] [0, 1, 2, 3, 4, 5, 6, 7, 8, 9, 10, 11] rfl ?_
        refine x_lve (lv2 := [(0, .ref b), (1, .ref (aH a)), (3, .int (nI R)), (4, .int (nI C)), (5, .int (nI (R * C))), (6, .int (bI (kdio (tickN n857 s)))), (7, .int (bI (kSus (tickN n857 s)))), (8, .int (bI (kSos (tickN n857 s)))), (9, .int (kRu (tickN n857 s))), (10, .int (kSl (tickN n857 s))), (11, .int (nI V)), (12, .int (nI ev))]) (by rw [(tickN_keep s _).1, (tickN_keep s _).2.1, (tickN_keep s _).2.2.1, (tickN_keep s _).2.2.2.1, (tickN_keep s _).2.2.2.2]) ?_
        refine x_widen (cq + 36) (zq + 2304) (by omega) (by omega) ?_
        exact hk9 (tickN n857 s) V ((hI.tkN _ (by omega)).le (by omega))
      · skip
        exact absurd c869 (by decide)
  · skip
    refine x_aload_n hE 1 rfl dL_law_805 ?_
    refine x_iconst hE (nI 2) (by decide) dL_law_806 ?_
    refine x_callK (n := 1) (st := []) hE (ck_count_2 l D cI cZ a s hok  ) gL_law_X4_count rfl rfl (by decide +kernel) ⟨by decide, by decide⟩ ⟨show cq ≤ 600000 by omega, show zq ≤ 7302250 by omega⟩ rfl rfl (Nat.le_of_ble_eq_true rfl) dL_law_807 (fun v9 w9 hT9 => ?_)
    obtain ⟨rfl, rfl⟩ := hT9
    refine x_at (ws' := (kW cI cZ a s)) (st' := [.int (nI (prN (kpos s) (R * C)))]) rfl rfl ?_
    refine x_istore hE [(16, .int (nI (prN (kpos s) (R * C)))), (0, .ref b), (1, .ref (aH a)), (3, .int (nI R)), (4, .int (nI C)), (5, .int (nI (R * C))), (6, .int (bI (kdio s))), (7, .int (bI (kSus s))), (8, .int (bI (kSos s))), (9, .int (kRu s)), (10, .int (kSl s)), (11, .int (nI V)), (12, .int (nI ev)), (13, .int g), (14, .int h)] (by decide) rfl dL_law_810 ?_
    refine x_aload_n hE 2 rfl dL_law_812 ?_
    refine x_callK (n := 0) (st := []) hE (ck_liftAll l D cI cZ a s hok  ) gL_law_X4_liftAll rfl rfl (by decide +kernel) ⟨by decide, by decide⟩ ⟨show cq ≤ 600000 by omega, show zq ≤ 7302250 by omega⟩ rfl rfl (Nat.le_of_ble_eq_true rfl) dL_law_813 (fun v9 w9 hT9 => ?_)
    obtain ⟨rfl, rfl⟩ := hT9
    refine x_at (ws' := (kW cI cZ a (liS s))) (st' := [.int (nI (prN (kpos s) (R * C)))]) rfl rfl ?_
    refine x_iload hE 0 rfl dL_law_816 ?_
    refine xn_icmp_ne hE (prN_lt (by omega)) (prN_lt (by omega)) 838 (by decide) dL_law_818 (fun c818 => ?_) (fun c818 => ?_)
    · skip
      exact absurd rfl c818
    · skip
      refine x_aload_n hE 2 rfl dL_law_821 ?_
      refine x_iconst hE (nI 2) (by decide) dL_law_822 ?_
      refine x_callK (n := 1) (st := []) hE (ck_count_2 l D cI cZ a (liS s) (hI.li.ok (by omega))  ) gL_law_X4_count rfl rfl (by decide +kernel) ⟨by decide, by decide⟩ ⟨show cq ≤ 600000 by omega, show zq ≤ 7302250 by omega⟩ rfl rfl (Nat.le_of_ble_eq_true rfl) dL_law_823 (fun v9 w9 hT9 => ?_)
      obtain ⟨rfl, rfl⟩ := hT9
      refine x_at (ws' := (kW cI cZ a (liS s))) (st' := [.int (nI (prN (kpos (liS s)) (R * C)))]) rfl rfl ?_
      refine xn_if_ne hE (prN_lt (by omega)) 838 (by decide) dL_law_826 (fun c826 => ?_) (fun c826 => ?_)
      · skip
        exact absurd (li_pr hI) c826
      · skip
        refine x_aload_n hE 2 rfl dL_law_829 ?_
        refine x_callK (n := 0) (st := []) hE (ck_worstKey l D cI cZ a (liS s) (hI.li.ok (by omega))  (hI.li.nt)) gL_law_X4_worstKey rfl rfl (by decide +kernel) ⟨by decide, by decide⟩ ⟨show cq ≤ 600000 by omega, show zq ≤ 7302250 by omega⟩ rfl rfl (Nat.le_of_ble_eq_true rfl) dL_law_830 (fun v9 w9 hT9 => ?_)
        obtain ⟨rfl, rfl⟩ := hT9
        refine x_at (ws' := (kW cI cZ a (liS s))) (st' := [.int (wxL (kpos (liS s)) (gwN (kdio (liS s)) (kcl (liS s)) (kjn (liS s)) (kdl (liS s)) (kdn (liS s)) R C) 0 (R * C) ((-3), kgc (liS s)))]) rfl rfl ?_
        refine x_bipush hE (-3) (by decide) dL_law_833 ?_
        refine x_icmp_eq hE 840 (by decide) dL_law_835 (fun c835 => ?_) (fun c835 => ?_)
        · skip
          refine x_goto hE 874 (by decide) dL_law_840 ?_
          refine x_lv [(0, .ref b), (1, .ref (aH a)), (3, .int (nI R)), (4, .int (nI C)), (5, .int (nI (R * C))), (6, .int (bI (kdio s))), (7, .int (bI (kSus s))), (8, .int (bI (kSos s))), (9, .int (kRu s)), (10, .int (kSl s)), (11, .int (nI V)), (12, .int (nI ev))] [1, 2, 3, 4, 5, 6, 7, 8, 9, 10, 11, 12] rfl ?_
          skip
          refine x_widen (cq + 36) (zq + 2304) (by omega) (by omega) ?_
          exact hk9 (liS s) V (hI.li.le (by omega))
        · skip
          exact absurd (li_worst hI _ _ _) c835
