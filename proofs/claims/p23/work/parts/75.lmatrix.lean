set_option maxHeartbeats 8000000 in
set_option maxRecDepth 100000 in
theorem kL_matrix (l : Launch) (D : va_G) (cI cZ : ClassId) (a : KAd) (s : KSt) {R C V N : Nat}  (hI : INV s R C V N) (hN : N ≤ 3000) : xC l yL_matrix wsL_matrix 4 0 0 90 D cI cZ [.ref (aH a), .int (nI R), .int (nI C), .int (bI (kdio s))] (kW cI cZ a s) (fun v8 w8 => v8 = some (.int (bI true)) ∧ w8 = kW cI cZ a s) := by
  refine xC.of (bytes := cL_matrix) (maxL := 21) (ret := (some .boolean)) (own := RL) (by decide +kernel) rfl (Nat.le_of_ble_eq_true rfl) rfl ?_
  intro p9 e9 s9 m9 args9 below9 meth9 cd9 A hE hr hin2 hA9
  have hok := hI.ok (by omega)
  obtain ⟨hRC, hRC1⟩ := hI.rc
  obtain ⟨hR, hC, hV, hpos⟩ : (1 ≤ R ∧ R ≤ 8) ∧ (1 ≤ C ∧ C ≤ 8) ∧ (1 ≤ V ∧ V ≤ 8) ∧ ∀ k, kpos s k ≤ 2 := ⟨hok.2.2.2.1, hok.2.2.2.2.1, hok.2.2.2.2.2.1, hok.2.2.2.2.2.2.1⟩
  have hcl : ∀ r, r < R → kcon s r < 65536 := fun r hr => kcon_lt hok hr
  have hgl := kgc_le hok
  have hmx := hI.mx
  have sg67 : ∀ (r : Nat) (q : Nat) (g4 : Nat) (g5 : Nat) (g6 : Nat) (hr : r < R) (hq : q < R) (hx : X p9 l e9 { frames := 4, cells := 0, slots := 0, locals := 90 } s9 m9 args9 below9 meth9 cd9 0 0 (MQ below9 (xQ D (fun v8 w8 => v8 = some (.int (bI true)) ∧ w8 = kW cI cZ a s) A) args9 s9 0 0 A) 21 D A (kW cI cZ a s) [(0, .ref (aH a)), (1, .int (nI R)), (2, .int (nI C)), (3, .int (bI (kdio s))), (4, .int (nI g4)), (5, .int (nI g5)), (6, .int (nI g6)), (7, .int (nI r)), (8, .int (nI (kcon s r))), (9, .int (nI q))] 141 []), X p9 l e9 { frames := 4, cells := 0, slots := 0, locals := 90 } s9 m9 args9 below9 meth9 cd9 0 0 (MQ below9 (xQ D (fun v8 w8 => v8 = some (.int (bI true)) ∧ w8 = kW cI cZ a s) A) args9 s9 0 0 A) 21 D A (kW cI cZ a s) [(0, .ref (aH a)), (1, .int (nI R)), (2, .int (nI C)), (3, .int (bI (kdio s))), (4, .int (nI g4)), (5, .int (nI g5)), (6, .int (nI g6)), (7, .int (nI r)), (8, .int (nI (kcon s r))), (9, .int (nI q))] 67 [] := by
    intro r q g4 g5 g6 hr hq hx
    have hcr := hcl r hr
    have hcq := hcl q hq
    have hb1 : (kcon s r >>> q) &&& 1 < 2 ^ 31 := Nat.lt_of_le_of_lt Nat.and_le_right (by decide)
    have hb2 : (kcon s q >>> r) &&& 1 < 2 ^ 31 := Nat.lt_of_le_of_lt Nat.and_le_right (by decide)
    have hb3 : (kcon s r >>> 8) &&& (kcon s q >>> 8) < 2 ^ 31 := Nat.lt_of_le_of_lt Nat.and_le_left (shr_lt hcr)
    refine x_iload hE 8 rfl dL_matrix_67 ?_
    refine x_iload hE 9 rfl dL_matrix_69 ?_
    refine x_ishr hE (nI ((kcon s r) >>> q)) (xI_shr (by omega) (by omega)) dL_matrix_71 ?_
    refine x_iconst hE (nI 1) (by decide) dL_matrix_72 ?_
    refine x_iand hE (nI (((kcon s r) >>> q) &&& 1)) (fa_and _ _) dL_matrix_73 ?_
    refine x_iconst hE (nI 1) (by decide) dL_matrix_74 ?_
    refine xn_icmp_ne hE (by omega) (by decide) 82 (by decide) dL_matrix_75 (fun c75 => ?_) (fun c75 => ?_)
    · skip
      refine x_iconst hE (nI 0) (by decide) dL_matrix_82 ?_
      refine x_istore hE [(10, .int (nI 0)), (0, .ref (aH a)), (1, .int (nI R)), (2, .int (nI C)), (3, .int (bI (kdio s))), (4, .int (nI g4)), (5, .int (nI g5)), (6, .int (nI g6)), (7, .int (nI r)), (8, .int (nI (kcon s r))), (9, .int (nI q))] (by decide) rfl dL_matrix_83 ?_
      refine x_iload hE 0 rfl dL_matrix_85 ?_
      refine xn_if_eq hE (by decide) 101 (by decide) dL_matrix_87 (fun c87 => ?_) (fun c87 => ?_)
      · skip
        refine x_iload hE 0 rfl dL_matrix_101 ?_
        refine xn_if_ne hE (by decide) 141 (by decide) dL_matrix_103 (fun c103 => ?_) (fun c103 => ?_)
        · skip
          exact absurd (by decide) c103
        · skip
          refine x_aload_n hE 1 rfl dL_matrix_106 ?_
          refine x_iload hE 10 rfl dL_matrix_107 ?_
          refine x_callK (n := 1) (st := []) hE (ck_connected l D cI cZ a s hok q (by omega)) gL_matrix_X4_connected rfl rfl (by decide +kernel) ⟨by decide, by decide⟩ ⟨by decide, by decide⟩ rfl rfl (Nat.le_of_ble_eq_true rfl) dL_matrix_109 (fun v9 w9 hT9 => ?_)
          obtain ⟨rfl, rfl⟩ := hT9
          refine x_at (ws' := (kW cI cZ a s)) (st' := [.int (nI (kcon s q))]) rfl rfl ?_
          refine x_iload hE 8 rfl dL_matrix_112 ?_
          refine x_ishr hE (nI ((kcon s q) >>> r)) (xI_shr (by omega) (by omega)) dL_matrix_114 ?_
          refine x_iconst hE (nI 1) (by decide) dL_matrix_115 ?_
          refine x_iand hE (nI (((kcon s q) >>> r) &&& 1)) (fa_and _ _) dL_matrix_116 ?_
          refine x_iconst hE (nI 1) (by decide) dL_matrix_117 ?_
          refine xn_icmp_eq hE (by omega) (by decide) 139 (by decide) dL_matrix_118 (fun c118 => ?_) (fun c118 => ?_)
          · skip
            exact absurd c118 (hmx.2.2.1 r q hr hq c75)
          · skip
            refine x_iload hE 9 rfl dL_matrix_121 ?_
            refine x_bipush hE (nI 8) (by decide) dL_matrix_123 ?_
            refine x_ishr hE (nI ((kcon s r) >>> 8)) (xI_shr (by omega) (by omega)) dL_matrix_125 ?_
            refine x_aload_n hE 1 rfl dL_matrix_126 ?_
            refine x_iload hE 10 rfl dL_matrix_127 ?_
            refine x_callK (n := 1) (st := [.int (nI ((kcon s r) >>> 8))]) hE (ck_connected l D cI cZ a s hok q (by omega)) gL_matrix_X4_connected rfl rfl (by decide +kernel) ⟨by decide, by decide⟩ ⟨by decide, by decide⟩ rfl rfl (Nat.le_of_ble_eq_true rfl) dL_matrix_129 (fun v9 w9 hT9 => ?_)
            obtain ⟨rfl, rfl⟩ := hT9
            refine x_at (ws' := (kW cI cZ a s)) (st' := [.int (nI (kcon s q)), .int (nI ((kcon s r) >>> 8))]) rfl rfl ?_
            refine x_bipush hE (nI 8) (by decide) dL_matrix_132 ?_
            refine x_ishr hE (nI ((kcon s q) >>> 8)) (xI_shr (by omega) (by omega)) dL_matrix_134 ?_
            refine x_iand hE (nI (((kcon s r) >>> 8) &&& ((kcon s q) >>> 8))) (fa_and _ _) dL_matrix_135 ?_
            refine xn_if_eq hE (by omega) 141 (by decide) dL_matrix_136 (fun c136 => ?_) (fun c136 => ?_)
            · skip
              refine x_lv [(0, .ref (aH a)), (1, .int (nI R)), (2, .int (nI C)), (3, .int (bI (kdio s))), (4, .int (nI g4)), (5, .int (nI g5)), (6, .int (nI g6)), (7, .int (nI r)), (8, .int (nI (kcon s r))), (9, .int (nI q))] [1, 2, 3, 4, 5, 6, 7, 8, 9, 10] rfl ?_
              exact hx
            · skip
              exact absurd (hmx.2.2.2.1 r q hr hq c75) c136
      · skip
        exact absurd (by decide) c87
    · skip
      refine x_iconst hE (nI 1) (by decide) dL_matrix_78 ?_
      refine x_goto hE 83 (by decide) dL_matrix_79 ?_
      refine x_istore hE [(10, .int (nI 1)), (0, .ref (aH a)), (1, .int (nI R)), (2, .int (nI C)), (3, .int (bI (kdio s))), (4, .int (nI g4)), (5, .int (nI g5)), (6, .int (nI g6)), (7, .int (nI r)), (8, .int (nI (kcon s r))), (9, .int (nI q))] (by decide) rfl dL_matrix_83 ?_
      refine x_iload hE 0 rfl dL_matrix_85 ?_
      refine xn_if_eq hE (by decide) 101 (by decide) dL_matrix_87 (fun c87 => ?_) (fun c87 => ?_)
      · skip
        exact absurd c87 (by decide)
      · skip
        refine x_aload_n hE 1 rfl dL_matrix_90 ?_
        refine x_iload hE 10 rfl dL_matrix_91 ?_
        refine x_callK (n := 1) (st := []) hE (ck_connected l D cI cZ a s hok q (by omega)) gL_matrix_X4_connected rfl rfl (by decide +kernel) ⟨by decide, by decide⟩ ⟨by decide, by decide⟩ rfl rfl (Nat.le_of_ble_eq_true rfl) dL_matrix_93 (fun v9 w9 hT9 => ?_)
        obtain ⟨rfl, rfl⟩ := hT9
        refine x_at (ws' := (kW cI cZ a s)) (st' := [.int (nI (kcon s q))]) rfl rfl ?_
        refine x_iload hE 9 rfl dL_matrix_96 ?_
        refine xn_icmp_ne hE (Nat.lt_trans (hcl q (by omega)) (by decide)) (Nat.lt_trans (hcl r (by omega)) (by decide)) 139 (by decide) dL_matrix_98 (fun c98 => ?_) (fun c98 => ?_)
        · skip
          exact absurd (hmx.2.1 r q hr hq c75) c98
        · skip
          refine x_iload hE 0 rfl dL_matrix_101 ?_
          refine xn_if_ne hE (by decide) 141 (by decide) dL_matrix_103 (fun c103 => ?_) (fun c103 => ?_)
          · skip
            refine x_lv [(0, .ref (aH a)), (1, .int (nI R)), (2, .int (nI C)), (3, .int (bI (kdio s))), (4, .int (nI g4)), (5, .int (nI g5)), (6, .int (nI g6)), (7, .int (nI r)), (8, .int (nI (kcon s r))), (9, .int (nI q))] [1, 2, 3, 4, 5, 6, 7, 8, 9, 10] rfl ?_
            exact hx
          · skip
            exact absurd c103 (by decide)
  have sg61 : ∀ (n : Nat) (q : Nat) (r : Nat) (g4 : Nat) (g5 : Nat) (g6 : Nat) (hi : q + n = R) (hr : r < R) (hx : X p9 l e9 { frames := 4, cells := 0, slots := 0, locals := 90 } s9 m9 args9 below9 meth9 cd9 0 0 (MQ below9 (xQ D (fun v8 w8 => v8 = some (.int (bI true)) ∧ w8 = kW cI cZ a s) A) args9 s9 0 0 A) 21 D A (kW cI cZ a s) [(0, .ref (aH a)), (1, .int (nI R)), (2, .int (nI C)), (3, .int (bI (kdio s))), (4, .int (nI g4)), (5, .int (nI g5)), (6, .int (nI g6)), (7, .int (nI r)), (8, .int (nI (kcon s r)))] 147 []), X p9 l e9 { frames := 4, cells := 0, slots := 0, locals := 90 } s9 m9 args9 below9 meth9 cd9 0 0 (MQ below9 (xQ D (fun v8 w8 => v8 = some (.int (bI true)) ∧ w8 = kW cI cZ a s) A) args9 s9 0 0 A) 21 D A (kW cI cZ a s) [(0, .ref (aH a)), (1, .int (nI R)), (2, .int (nI C)), (3, .int (bI (kdio s))), (4, .int (nI g4)), (5, .int (nI g5)), (6, .int (nI g6)), (7, .int (nI r)), (8, .int (nI (kcon s r))), (9, .int (nI q))] 61 [] := by
    intro n
    induction n with
    | zero =>
      intro q r g4 g5 g6 hi hr hx
      refine x_iload hE 9 rfl dL_matrix_61 ?_
      refine x_iload_n hE 1 rfl dL_matrix_63 ?_
      refine xn_icmp_ge hE (by omega) (by omega) 147 (by decide) dL_matrix_64 (fun c64 => ?_) (fun c64 => ?_)
      · skip
        refine x_lv [(0, .ref (aH a)), (1, .int (nI R)), (2, .int (nI C)), (3, .int (bI (kdio s))), (4, .int (nI g4)), (5, .int (nI g5)), (6, .int (nI g6)), (7, .int (nI r)), (8, .int (nI (kcon s r)))] [0, 1, 2, 3, 4, 5, 6, 7, 8] rfl ?_
        exact hx
      · skip
        exfalso; omega
    | succ n ih =>
      intro q r g4 g5 g6 hi hr hx
      refine x_iload hE 9 rfl dL_matrix_61 ?_
      refine x_iload_n hE 1 rfl dL_matrix_63 ?_
      refine xn_icmp_ge hE (by omega) (by omega) 147 (by decide) dL_matrix_64 (fun c64 => ?_) (fun c64 => ?_)
      · skip
        exfalso; omega
      · skip
        refine sg67 r q g4 g5 g6 (by omega) (by omega) ?_
        refine x_iinc hE (nI (q + 1)) [(9, .int (nI (q + 1))), (0, .ref (aH a)), (1, .int (nI R)), (2, .int (nI C)), (3, .int (bI (kdio s))), (4, .int (nI g4)), (5, .int (nI g5)), (6, .int (nI g6)), (7, .int (nI r)), (8, .int (nI (kcon s r)))] 9 rfl (nI_add _ _) (by decide) rfl dL_matrix_141 ?_
        refine x_goto hE 61 (by decide) dL_matrix_144 ?_
        refine x_lv [(0, .ref (aH a)), (1, .int (nI R)), (2, .int (nI C)), (3, .int (bI (kdio s))), (4, .int (nI g4)), (5, .int (nI g5)), (6, .int (nI g6)), (7, .int (nI r)), (8, .int (nI (kcon s r))), (9, .int (nI (q + 1)))] [1, 2, 3, 4, 5, 6, 7, 8, 9, 0] rfl ?_
        exact ih (q + 1) r g4 g5 g6 (by omega) (hr) hx
  have sg204 : ∀ (r : Nat) (c : Nat) (g4 : Nat) (g5 : Nat) (g6 : Nat) (hr : r < R) (hc : c < C) (hx : X p9 l e9 { frames := 4, cells := 0, slots := 0, locals := 90 } s9 m9 args9 below9 meth9 cd9 0 0 (MQ below9 (xQ D (fun v8 w8 => v8 = some (.int (bI true)) ∧ w8 = kW cI cZ a s) A) args9 s9 0 0 A) 21 D A (kW cI cZ a s) [(0, .ref (aH a)), (1, .int (nI R)), (2, .int (nI C)), (3, .int (bI (kdio s))), (4, .int (nI g4)), (5, .int (nI g5)), (6, .int (nI g6)), (7, .int (nI r)), (8, .int (nI (kcon s r))), (9, .int (nI c)), (10, .int (nI (r * C + c))), (11, .int (nI (kpos s (r * C + c)))), (12, .int (nI (b2n (kF s (r * C + c))))), (13, .int (nI (b2n (kG s (r * C + c))))), (14, .int (nI ((kcon s r >>> (8 + c)) &&& 1)))] 237 []), X p9 l e9 { frames := 4, cells := 0, slots := 0, locals := 90 } s9 m9 args9 below9 meth9 cd9 0 0 (MQ below9 (xQ D (fun v8 w8 => v8 = some (.int (bI true)) ∧ w8 = kW cI cZ a s) A) args9 s9 0 0 A) 21 D A (kW cI cZ a s) [(0, .ref (aH a)), (1, .int (nI R)), (2, .int (nI C)), (3, .int (bI (kdio s))), (4, .int (nI g4)), (5, .int (nI g5)), (6, .int (nI g6)), (7, .int (nI r)), (8, .int (nI (kcon s r))), (9, .int (nI c)), (10, .int (nI (r * C + c))), (11, .int (nI (kpos s (r * C + c)))), (12, .int (nI (b2n (kF s (r * C + c))))), (13, .int (nI (b2n (kG s (r * C + c))))), (14, .int (nI ((kcon s r >>> (8 + c)) &&& 1)))] 204 [] := by
    intro r c g4 g5 g6 hr hc hx
    have hb1 : (kcon s r >>> (8 + c)) &&& 1 < 2 ^ 31 := Nat.lt_of_le_of_lt Nat.and_le_right (by decide)
    refine x_iload hE 11 rfl dL_matrix_204 ?_
    refine xn_if_le hE (kpos_lt hok _) 214 (by decide) dL_matrix_206 (fun c206 => ?_) (fun c206 => ?_)
    · skip
      refine x_iload hE 11 rfl dL_matrix_214 ?_
      refine xn_if_le hE (kpos_lt hok _) 224 (by decide) dL_matrix_216 (fun c216 => ?_) (fun c216 => ?_)
      · skip
        refine x_iload hE 11 rfl dL_matrix_224 ?_
        refine x_iconst hE (nI 2) (by decide) dL_matrix_226 ?_
        refine xn_icmp_ne hE (kpos_lt hok _) (by decide) 237 (by decide) dL_matrix_227 (fun c227 => ?_) (fun c227 => ?_)
        · skip
          exact hx
        · skip
          refine x_iload hE 13 rfl dL_matrix_230 ?_
          refine xn_if_ne hE (b2n_lt _) 237 (by decide) dL_matrix_232 (fun c232 => ?_) (fun c232 => ?_)
          · skip
            exact hx
          · skip
            exact absurd c232 (hmx.2.2.2.2.2.2 r c hr hc c227)
      · skip
        exact absurd c216 c206
    · skip
      refine x_iload hE 14 rfl dL_matrix_209 ?_
      refine xn_if_eq hE (Nat.lt_of_le_of_lt Nat.and_le_right (by decide)) 235 (by decide) dL_matrix_211 (fun c211 => ?_) (fun c211 => ?_)
      · skip
        exact absurd c211 (hmx.2.2.2.2.1 r c hr hc c206)
      · skip
        refine x_iload hE 11 rfl dL_matrix_214 ?_
        refine xn_if_le hE (kpos_lt hok _) 224 (by decide) dL_matrix_216 (fun c216 => ?_) (fun c216 => ?_)
        · skip
          exact absurd c206 c216
        · skip
          refine x_iload hE 12 rfl dL_matrix_219 ?_
          refine xn_if_eq hE (b2n_lt _) 235 (by decide) dL_matrix_221 (fun c221 => ?_) (fun c221 => ?_)
          · skip
            exact absurd c221 (hmx.2.2.2.2.2.1 r c hr hc c216)
          · skip
            refine x_iload hE 11 rfl dL_matrix_224 ?_
            refine x_iconst hE (nI 2) (by decide) dL_matrix_226 ?_
            refine xn_icmp_ne hE (kpos_lt hok _) (by decide) 237 (by decide) dL_matrix_227 (fun c227 => ?_) (fun c227 => ?_)
            · skip
              exact hx
            · skip
              refine x_iload hE 13 rfl dL_matrix_230 ?_
              refine xn_if_ne hE (b2n_lt _) 237 (by decide) dL_matrix_232 (fun c232 => ?_) (fun c232 => ?_)
              · skip
                exact hx
              · skip
                exact absurd c232 (hmx.2.2.2.2.2.2 r c hr hc c227)
  have sg237 : ∀ (r : Nat) (c : Nat) (g4 : Nat) (g5 : Nat) (g6 : Nat) (hr : r < R) (hc : c < C) (hx : X p9 l e9 { frames := 4, cells := 0, slots := 0, locals := 90 } s9 m9 args9 below9 meth9 cd9 0 0 (MQ below9 (xQ D (fun v8 w8 => v8 = some (.int (bI true)) ∧ w8 = kW cI cZ a s) A) args9 s9 0 0 A) 21 D A (kW cI cZ a s) [(0, .ref (aH a)), (1, .int (nI R)), (2, .int (nI C)), (3, .int (bI (kdio s))), (4, .int (nI g4)), (5, .int (nI g5)), (6, .int (nI g6)), (7, .int (nI r)), (8, .int (nI (kcon s r))), (9, .int (nI c)), (10, .int (nI (r * C + c))), (11, .int (nI (kpos s (r * C + c)))), (12, .int (nI (b2n (kF s (r * C + c))))), (13, .int (nI (b2n (kG s (r * C + c))))), (14, .int (nI ((kcon s r >>> (8 + c)) &&& 1)))] 299 []), X p9 l e9 { frames := 4, cells := 0, slots := 0, locals := 90 } s9 m9 args9 below9 meth9 cd9 0 0 (MQ below9 (xQ D (fun v8 w8 => v8 = some (.int (bI true)) ∧ w8 = kW cI cZ a s) A) args9 s9 0 0 A) 21 D A (kW cI cZ a s) [(0, .ref (aH a)), (1, .int (nI R)), (2, .int (nI C)), (3, .int (bI (kdio s))), (4, .int (nI g4)), (5, .int (nI g5)), (6, .int (nI g6)), (7, .int (nI r)), (8, .int (nI (kcon s r))), (9, .int (nI c)), (10, .int (nI (r * C + c))), (11, .int (nI (kpos s (r * C + c)))), (12, .int (nI (b2n (kF s (r * C + c))))), (13, .int (nI (b2n (kG s (r * C + c))))), (14, .int (nI ((kcon s r >>> (8 + c)) &&& 1)))] 237 [] := by
    intro r c g4 g5 g6 hr hc hx
    have hb1 : (kcon s r >>> (8 + c)) &&& 1 < 2 ^ 31 := Nat.lt_of_le_of_lt Nat.and_le_right (by decide)
    refine x_iload_n hE 3 rfl dL_matrix_237 ?_
    refine xb_if_eq hE 275 (by decide) dL_matrix_238 (fun c238 => ?_) (fun c238 => ?_)
    · skip
      refine x_iload hE 12 rfl dL_matrix_275 ?_
      refine x_iload hE 14 rfl dL_matrix_277 ?_
      refine x_iconst hE (nI 1) (by decide) dL_matrix_279 ?_
      refine xn_icmp_eq hE (Nat.lt_of_le_of_lt Nat.and_le_right (by decide)) (by decide) 289 (by decide) dL_matrix_280 (fun c280 => ?_) (fun c280 => ?_)
      · skip
        refine x_iconst hE (nI 1) (by decide) dL_matrix_289 ?_
        refine x_goto hE 294 (by decide) dL_matrix_290 ?_
        refine xn_icmp_eq hE (b2n_lt _) (by decide) 299 (by decide) dL_matrix_294 (fun c294 => ?_) (fun c294 => ?_)
        · skip
          exact hx
        · skip
          exact absurd (by first | exact hI.nod_1 c238 hr hc (Or.inl c280) | exact hI.nod_1 c238 hr hc (Or.inr c286) | exact hI.nod_0 c238 hr hc c280 c286) c294
      · skip
        refine x_iload hE 13 rfl dL_matrix_283 ?_
        refine x_iconst hE (nI 1) (by decide) dL_matrix_285 ?_
        refine xn_icmp_ne hE (b2n_lt _) (by decide) 293 (by decide) dL_matrix_286 (fun c286 => ?_) (fun c286 => ?_)
        · skip
          refine x_iconst hE (nI 0) (by decide) dL_matrix_293 ?_
          refine xn_icmp_eq hE (b2n_lt _) (by decide) 299 (by decide) dL_matrix_294 (fun c294 => ?_) (fun c294 => ?_)
          · skip
            exact hx
          · skip
            exact absurd (by first | exact hI.nod_1 c238 hr hc (Or.inl c280) | exact hI.nod_1 c238 hr hc (Or.inr c286) | exact hI.nod_0 c238 hr hc c280 c286) c294
        · skip
          refine x_iconst hE (nI 1) (by decide) dL_matrix_289 ?_
          refine x_goto hE 294 (by decide) dL_matrix_290 ?_
          refine xn_icmp_eq hE (b2n_lt _) (by decide) 299 (by decide) dL_matrix_294 (fun c294 => ?_) (fun c294 => ?_)
          · skip
            exact hx
          · skip
            exact absurd (by first | exact hI.nod_1 c238 hr hc (Or.inl c280) | exact hI.nod_1 c238 hr hc (Or.inr c286) | exact hI.nod_0 c238 hr hc c280 c286) c294
    · skip
      refine x_iload hE 12 rfl dL_matrix_241 ?_
      refine x_iload hE 11 rfl dL_matrix_243 ?_
      refine xn_if_le hE (kpos_lt hok _) 252 (by decide) dL_matrix_245 (fun c245 => ?_) (fun c245 => ?_)
      · skip
        refine x_iconst hE (nI 0) (by decide) dL_matrix_252 ?_
        refine xn_icmp_ne hE (b2n_lt _) (by decide) 297 (by decide) dL_matrix_253 (fun c253 => ?_) (fun c253 => ?_)
        · skip
          exact absurd (by first | exact hI.dio_f1 c238 hr hc c245 | exact hI.dio_f0 c238 hr hc c245) c253
        · skip
          refine x_iload hE 13 rfl dL_matrix_256 ?_
          refine x_iload hE 11 rfl dL_matrix_258 ?_
          refine x_iconst hE (nI 2) (by decide) dL_matrix_260 ?_
          refine xn_icmp_ne hE (kpos_lt hok _) (by decide) 268 (by decide) dL_matrix_261 (fun c261 => ?_) (fun c261 => ?_)
          · skip
            refine x_iconst hE (nI 0) (by decide) dL_matrix_268 ?_
            refine xn_icmp_eq hE (b2n_lt _) (by decide) 299 (by decide) dL_matrix_269 (fun c269 => ?_) (fun c269 => ?_)
            · skip
              exact hx
            · skip
              exact absurd (by first | exact hI.dio_s1 c238 hr hc c261 | exact hI.dio_s0 c238 hr hc c261) c269
          · skip
            refine x_iconst hE (nI 1) (by decide) dL_matrix_264 ?_
            refine x_goto hE 269 (by decide) dL_matrix_265 ?_
            refine xn_icmp_eq hE (b2n_lt _) (by decide) 299 (by decide) dL_matrix_269 (fun c269 => ?_) (fun c269 => ?_)
            · skip
              exact hx
            · skip
              exact absurd (by first | exact hI.dio_s1 c238 hr hc c261 | exact hI.dio_s0 c238 hr hc c261) c269
      · skip
        refine x_iconst hE (nI 1) (by decide) dL_matrix_248 ?_
        refine x_goto hE 253 (by decide) dL_matrix_249 ?_
        refine xn_icmp_ne hE (b2n_lt _) (by decide) 297 (by decide) dL_matrix_253 (fun c253 => ?_) (fun c253 => ?_)
        · skip
          exact absurd (by first | exact hI.dio_f1 c238 hr hc c245 | exact hI.dio_f0 c238 hr hc c245) c253
        · skip
          refine x_iload hE 13 rfl dL_matrix_256 ?_
          refine x_iload hE 11 rfl dL_matrix_258 ?_
          refine x_iconst hE (nI 2) (by decide) dL_matrix_260 ?_
          refine xn_icmp_ne hE (kpos_lt hok _) (by decide) 268 (by decide) dL_matrix_261 (fun c261 => ?_) (fun c261 => ?_)
          · skip
            refine x_iconst hE (nI 0) (by decide) dL_matrix_268 ?_
            refine xn_icmp_eq hE (b2n_lt _) (by decide) 299 (by decide) dL_matrix_269 (fun c269 => ?_) (fun c269 => ?_)
            · skip
              exact hx
            · skip
              exact absurd (by first | exact hI.dio_s1 c238 hr hc c261 | exact hI.dio_s0 c238 hr hc c261) c269
          · skip
            refine x_iconst hE (nI 1) (by decide) dL_matrix_264 ?_
            refine x_goto hE 269 (by decide) dL_matrix_265 ?_
            refine xn_icmp_eq hE (b2n_lt _) (by decide) 299 (by decide) dL_matrix_269 (fun c269 => ?_) (fun c269 => ?_)
            · skip
              exact hx
            · skip
              exact absurd (by first | exact hI.dio_s1 c238 hr hc c261 | exact hI.dio_s0 c238 hr hc c261) c269
  have sg299 : ∀ (r : Nat) (c : Nat) (g4 : Nat) (g5 : Nat) (g6 : Nat) (hr : r < R) (hc : c < C) (hx : X p9 l e9 { frames := 4, cells := 0, slots := 0, locals := 90 } s9 m9 args9 below9 meth9 cd9 0 0 (MQ below9 (xQ D (fun v8 w8 => v8 = some (.int (bI true)) ∧ w8 = kW cI cZ a s) A) args9 s9 0 0 A) 21 D A (kW cI cZ a s) [(0, .ref (aH a)), (1, .int (nI R)), (2, .int (nI C)), (3, .int (bI (kdio s))), (4, .int (nI g4)), (5, .int (nI g5)), (6, .int (nI g6)), (7, .int (nI r)), (8, .int (nI (kcon s r))), (9, .int (nI c)), (10, .int (nI (r * C + c))), (11, .int (nI (kpos s (r * C + c)))), (12, .int (nI (b2n (kF s (r * C + c))))), (13, .int (nI (b2n (kG s (r * C + c)))))] 327 [.int (nI (b2n (ghM (kF s) (kG s) (kpos s) (r * C + c))))]), X p9 l e9 { frames := 4, cells := 0, slots := 0, locals := 90 } s9 m9 args9 below9 meth9 cd9 0 0 (MQ below9 (xQ D (fun v8 w8 => v8 = some (.int (bI true)) ∧ w8 = kW cI cZ a s) A) args9 s9 0 0 A) 21 D A (kW cI cZ a s) [(0, .ref (aH a)), (1, .int (nI R)), (2, .int (nI C)), (3, .int (bI (kdio s))), (4, .int (nI g4)), (5, .int (nI g5)), (6, .int (nI g6)), (7, .int (nI r)), (8, .int (nI (kcon s r))), (9, .int (nI c)), (10, .int (nI (r * C + c))), (11, .int (nI (kpos s (r * C + c)))), (12, .int (nI (b2n (kF s (r * C + c))))), (13, .int (nI (b2n (kG s (r * C + c)))))] 299 [] := by
    intro r c g4 g5 g6 hr hc hx
    refine x_iload hE 12 rfl dL_matrix_299 ?_
    refine x_iconst hE (nI 1) (by decide) dL_matrix_301 ?_
    refine xn_icmp_ne hE (b2n_lt _) (by decide) 310 (by decide) dL_matrix_302 (fun c302 => ?_) (fun c302 => ?_)
    · skip
      refine x_iload hE 13 rfl dL_matrix_310 ?_
      refine x_iconst hE (nI 1) (by decide) dL_matrix_312 ?_
      refine xn_icmp_ne hE (b2n_lt _) (by decide) 326 (by decide) dL_matrix_313 (fun c313 => ?_) (fun c313 => ?_)
      · skip
        refine x_iconst hE (nI 0) (by decide) dL_matrix_326 ?_
        refine x_eq (nI (b2n (ghM (kF s) (kG s) (kpos s) (r * C + c)))) (bn_0 (ghm_of (by simp only [gh_f, if_neg c302, if_neg c313, reduceIte, Bool.false_eq_true, Bool.true_eq_false]))) ?_
        exact hx
      · skip
        refine x_iload hE 11 rfl dL_matrix_316 ?_
        refine x_iconst hE (nI 2) (by decide) dL_matrix_318 ?_
        refine xn_icmp_ge hE (kpos_lt hok _) (by decide) 326 (by decide) dL_matrix_319 (fun c319 => ?_) (fun c319 => ?_)
        · skip
          refine x_iconst hE (nI 0) (by decide) dL_matrix_326 ?_
          refine x_eq (nI (b2n (ghM (kF s) (kG s) (kpos s) (r * C + c)))) (bn_0 (ghm_of (by simp only [gh_f, if_neg c302, if_pos c313, if_neg c319, reduceIte, Bool.false_eq_true, Bool.true_eq_false]))) ?_
          exact hx
        · skip
          refine x_iconst hE (nI 1) (by decide) dL_matrix_322 ?_
          refine x_goto hE 327 (by decide) dL_matrix_323 ?_
          refine x_eq (nI (b2n (ghM (kF s) (kG s) (kpos s) (r * C + c)))) (bn_1 (ghm_of (by simp only [gh_f, if_neg c302, if_pos c313, if_pos c319, reduceIte, Bool.false_eq_true, Bool.true_eq_false]))) ?_
          exact hx
    · skip
      refine x_iload hE 11 rfl dL_matrix_305 ?_
      refine xn_if_eq hE (kpos_lt hok _) 322 (by decide) dL_matrix_307 (fun c307 => ?_) (fun c307 => ?_)
      · skip
        refine x_iconst hE (nI 1) (by decide) dL_matrix_322 ?_
        refine x_goto hE 327 (by decide) dL_matrix_323 ?_
        refine x_eq (nI (b2n (ghM (kF s) (kG s) (kpos s) (r * C + c)))) (bn_1 (ghm_of (by simp only [gh_f, if_pos c302, if_pos c307, reduceIte, Bool.false_eq_true, Bool.true_eq_false]))) ?_
        exact hx
      · skip
        refine x_iload hE 13 rfl dL_matrix_310 ?_
        refine x_iconst hE (nI 1) (by decide) dL_matrix_312 ?_
        refine xn_icmp_ne hE (b2n_lt _) (by decide) 326 (by decide) dL_matrix_313 (fun c313 => ?_) (fun c313 => ?_)
        · skip
          refine x_iconst hE (nI 0) (by decide) dL_matrix_326 ?_
          refine x_eq (nI (b2n (ghM (kF s) (kG s) (kpos s) (r * C + c)))) (bn_0 (ghm_of (by simp only [gh_f, if_pos c302, if_neg c307, if_neg c313, reduceIte, Bool.false_eq_true, Bool.true_eq_false]))) ?_
          exact hx
        · skip
          refine x_iload hE 11 rfl dL_matrix_316 ?_
          refine x_iconst hE (nI 2) (by decide) dL_matrix_318 ?_
          refine xn_icmp_ge hE (kpos_lt hok _) (by decide) 326 (by decide) dL_matrix_319 (fun c319 => ?_) (fun c319 => ?_)
          · skip
            refine x_iconst hE (nI 0) (by decide) dL_matrix_326 ?_
            refine x_eq (nI (b2n (ghM (kF s) (kG s) (kpos s) (r * C + c)))) (bn_0 (ghm_of (by simp only [gh_f, if_pos c302, if_neg c307, if_pos c313, if_neg c319, reduceIte, Bool.false_eq_true, Bool.true_eq_false]))) ?_
            exact hx
          · skip
            refine x_iconst hE (nI 1) (by decide) dL_matrix_322 ?_
            refine x_goto hE 327 (by decide) dL_matrix_323 ?_
            refine x_eq (nI (b2n (ghM (kF s) (kG s) (kpos s) (r * C + c)))) (bn_1 (ghm_of (by simp only [gh_f, if_pos c302, if_neg c307, if_pos c313, if_pos c319, reduceIte, Bool.false_eq_true, Bool.true_eq_false]))) ?_
            exact hx
  have sg355 : ∀ (r : Nat) (c : Nat) (g4 : Nat) (g5 : Nat) (g6 : Nat) (x : Nat) (d : Nat) (hr : r < R) (hc : c < C) (hx9 : x < R * C) (hx : X p9 l e9 { frames := 4, cells := 0, slots := 0, locals := 90 } s9 m9 args9 below9 meth9 cd9 0 0 (MQ below9 (xQ D (fun v8 w8 => v8 = some (.int (bI true)) ∧ w8 = kW cI cZ a s) A) args9 s9 0 0 A) 21 D A (kW cI cZ a s) [(0, .ref (aH a)), (1, .int (nI R)), (2, .int (nI C)), (3, .int (bI (kdio s))), (4, .int (nI g4)), (5, .int (nI g5)), (6, .int (nI g6)), (7, .int (nI r)), (8, .int (nI (kcon s r))), (9, .int (nI c)), (10, .int (nI (r * C + c))), (11, .int (nI (kpos s (r * C + c)))), (12, .int (nI (b2n (kF s (r * C + c))))), (15, .int (nI (b2n (ghM (kF s) (kG s) (kpos s) (r * C + c))))), (16, .int (nI d)), (17, .int (nI x)), (18, .int (nI (x / C))), (19, .int (nI (x % C)))] 423 [.int (nI (b2n (dmQ (kF s) C (r * C + c) x)))]), X p9 l e9 { frames := 4, cells := 0, slots := 0, locals := 90 } s9 m9 args9 below9 meth9 cd9 0 0 (MQ below9 (xQ D (fun v8 w8 => v8 = some (.int (bI true)) ∧ w8 = kW cI cZ a s) A) args9 s9 0 0 A) 21 D A (kW cI cZ a s) [(0, .ref (aH a)), (1, .int (nI R)), (2, .int (nI C)), (3, .int (bI (kdio s))), (4, .int (nI g4)), (5, .int (nI g5)), (6, .int (nI g6)), (7, .int (nI r)), (8, .int (nI (kcon s r))), (9, .int (nI c)), (10, .int (nI (r * C + c))), (11, .int (nI (kpos s (r * C + c)))), (12, .int (nI (b2n (kF s (r * C + c))))), (15, .int (nI (b2n (ghM (kF s) (kG s) (kpos s) (r * C + c))))), (16, .int (nI d)), (17, .int (nI x)), (18, .int (nI (x / C))), (19, .int (nI (x % C)))] 355 [] := by
    intro r c g4 g5 g6 x d hr hc hx9 hx
    refine x_iload hE 16 rfl dL_matrix_355 ?_
    refine x_iload hE 7 rfl dL_matrix_357 ?_
    refine xn_icmp_eq hE (Nat.lt_of_le_of_lt (Nat.div_le_self _ _) (by omega)) (by omega) 422 (by decide) dL_matrix_359 (fun c359 => ?_) (fun c359 => ?_)
    · skip
      refine x_iconst hE (nI 0) (by decide) dL_matrix_422 ?_
      refine x_eq (nI (b2n (dmQ (kF s) C (r * C + c) x))) (bn_0 (dmq_of (by omega) (by simp only [dm_f, if_pos c359, reduceIte, Bool.false_eq_true, Bool.true_eq_false]))) ?_
      exact hx
    · skip
      refine x_iload hE 17 rfl dL_matrix_362 ?_
      refine x_iload hE 9 rfl dL_matrix_364 ?_
      refine xn_icmp_eq hE (Nat.lt_of_le_of_lt (Nat.mod_le _ _) (by omega)) (by omega) 422 (by decide) dL_matrix_366 (fun c366 => ?_) (fun c366 => ?_)
      · skip
        refine x_iconst hE (nI 0) (by decide) dL_matrix_422 ?_
        refine x_eq (nI (b2n (dmQ (kF s) C (r * C + c) x))) (bn_0 (dmq_of (by omega) (by simp only [dm_f, if_neg c359, if_pos c366, reduceIte, Bool.false_eq_true, Bool.true_eq_false]))) ?_
        exact hx
      · skip
        refine x_iload hE 12 rfl dL_matrix_369 ?_
        refine x_iconst hE (nI 1) (by decide) dL_matrix_371 ?_
        refine xn_icmp_ne hE (b2n_lt _) (by decide) 422 (by decide) dL_matrix_372 (fun c372 => ?_) (fun c372 => ?_)
        · skip
          refine x_iconst hE (nI 0) (by decide) dL_matrix_422 ?_
          refine x_eq (nI (b2n (dmQ (kF s) C (r * C + c) x))) (bn_0 (dmq_of (by omega) (by simp only [dm_f, if_neg c359, if_neg c366, if_neg c372, reduceIte, Bool.false_eq_true, Bool.true_eq_false]))) ?_
          exact hx
        · skip
          refine x_aload_n hE 0 rfl dL_matrix_375 ?_
          refine x_iload hE 15 rfl dL_matrix_376 ?_
          refine x_iconst hE (nI 4) (by decide) dL_matrix_378 ?_
          refine x_callK (n := 2) (st := []) hE (ck_key_4 l D cI cZ a s hok x (by omega)) gL_matrix_X4_key rfl rfl (by decide +kernel) ⟨by decide, by decide⟩ ⟨by decide, by decide⟩ rfl rfl (Nat.le_of_ble_eq_true rfl) dL_matrix_379 (fun v9 w9 hT9 => ?_)
          obtain ⟨rfl, rfl⟩ := hT9
          refine x_at (ws' := (kW cI cZ a s)) (st' := [.int (nI (b2n (kF s x)))]) rfl rfl ?_
          refine x_iconst hE (nI 1) (by decide) dL_matrix_382 ?_
          refine xn_icmp_ne hE (b2n_lt _) (by decide) 422 (by decide) dL_matrix_383 (fun c383 => ?_) (fun c383 => ?_)
          · skip
            refine x_iconst hE (nI 0) (by decide) dL_matrix_422 ?_
            refine x_eq (nI (b2n (dmQ (kF s) C (r * C + c) x))) (bn_0 (dmq_of (by omega) (by simp only [dm_f, if_neg c359, if_neg c366, if_pos c372, if_neg c383, reduceIte, Bool.false_eq_true, Bool.true_eq_false]))) ?_
            exact hx
          · skip
            refine x_aload_n hE 0 rfl dL_matrix_386 ?_
            refine x_iload hE 16 rfl dL_matrix_387 ?_
            refine x_iload_n hE 2 rfl dL_matrix_389 ?_
            refine x_imul hE (nI ((x / C) * C)) (xI_mul _ _) dL_matrix_390 ?_
            refine x_iload hE 9 rfl dL_matrix_391 ?_
            refine x_iadd hE (nI (((x / C) * C) + c)) (nI_add _ _) dL_matrix_393 ?_
            refine x_iconst hE (nI 4) (by decide) dL_matrix_394 ?_
            refine x_callK (n := 2) (st := []) hE (ck_key_4 l D cI cZ a s hok (((x / C) * C) + c) (rc_lt (kqr hx9 hC.1).1 hc)) gL_matrix_X4_key rfl rfl (by decide +kernel) ⟨by decide, by decide⟩ ⟨by decide, by decide⟩ rfl rfl (Nat.le_of_ble_eq_true rfl) dL_matrix_395 (fun v9 w9 hT9 => ?_)
            obtain ⟨rfl, rfl⟩ := hT9
            refine x_at (ws' := (kW cI cZ a s)) (st' := [.int (nI (b2n (kF s (((x / C) * C) + c))))]) rfl rfl ?_
            refine x_iconst hE (nI 1) (by decide) dL_matrix_398 ?_
            refine xn_icmp_ne hE (b2n_lt _) (by decide) 422 (by decide) dL_matrix_399 (fun c399 => ?_) (fun c399 => ?_)
            · skip
              refine x_iconst hE (nI 0) (by decide) dL_matrix_422 ?_
              refine x_eq (nI (b2n (dmQ (kF s) C (r * C + c) x))) (bn_0 (dmq_of (by omega) (by simp only [dm_f, if_neg c359, if_neg c366, if_pos c372, if_pos c383, if_neg c399, reduceIte, Bool.false_eq_true, Bool.true_eq_false]))) ?_
              exact hx
            · skip
              refine x_aload_n hE 0 rfl dL_matrix_402 ?_
              refine x_iload hE 7 rfl dL_matrix_403 ?_
              refine x_iload_n hE 2 rfl dL_matrix_405 ?_
              refine x_imul hE (nI (r * C)) (xI_mul _ _) dL_matrix_406 ?_
              refine x_iload hE 17 rfl dL_matrix_407 ?_
              refine x_iadd hE (nI ((r * C) + (x % C))) (nI_add _ _) dL_matrix_409 ?_
              refine x_iconst hE (nI 4) (by decide) dL_matrix_410 ?_
              refine x_callK (n := 2) (st := []) hE (ck_key_4 l D cI cZ a s hok ((r * C) + (x % C)) (rc_lt hr (kqr hx9 hC.1).2)) gL_matrix_X4_key rfl rfl (by decide +kernel) ⟨by decide, by decide⟩ ⟨by decide, by decide⟩ rfl rfl (Nat.le_of_ble_eq_true rfl) dL_matrix_411 (fun v9 w9 hT9 => ?_)
              obtain ⟨rfl, rfl⟩ := hT9
              refine x_at (ws' := (kW cI cZ a s)) (st' := [.int (nI (b2n (kF s ((r * C) + (x % C)))))]) rfl rfl ?_
              refine x_iconst hE (nI 1) (by decide) dL_matrix_414 ?_
              refine xn_icmp_ne hE (b2n_lt _) (by decide) 422 (by decide) dL_matrix_415 (fun c415 => ?_) (fun c415 => ?_)
              · skip
                refine x_iconst hE (nI 0) (by decide) dL_matrix_422 ?_
                refine x_eq (nI (b2n (dmQ (kF s) C (r * C + c) x))) (bn_0 (dmq_of (by omega) (by simp only [dm_f, if_neg c359, if_neg c366, if_pos c372, if_pos c383, if_pos c399, if_neg c415, reduceIte, Bool.false_eq_true, Bool.true_eq_false]))) ?_
                exact hx
              · skip
                refine x_iconst hE (nI 1) (by decide) dL_matrix_418 ?_
                refine x_goto hE 423 (by decide) dL_matrix_419 ?_
                refine x_eq (nI (b2n (dmQ (kF s) C (r * C + c) x))) (bn_1 (dmq_of (by omega) (by simp only [dm_f, if_neg c359, if_neg c366, if_pos c372, if_pos c383, if_pos c399, if_pos c415, reduceIte, Bool.false_eq_true, Bool.true_eq_false]))) ?_
                exact hx
  have sg425 : ∀ (r : Nat) (c : Nat) (g4 : Nat) (g5 : Nat) (g6 : Nat) (x : Nat) (d : Nat) (hr : r < R) (hc : c < C) (hd : d = b2n (lany (dmQ (kF s) C (r * C + c)) 0 x)) (hx : X p9 l e9 { frames := 4, cells := 0, slots := 0, locals := 90 } s9 m9 args9 below9 meth9 cd9 0 0 (MQ below9 (xQ D (fun v8 w8 => v8 = some (.int (bI true)) ∧ w8 = kW cI cZ a s) A) args9 s9 0 0 A) 21 D A (kW cI cZ a s) [(0, .ref (aH a)), (1, .int (nI R)), (2, .int (nI C)), (3, .int (bI (kdio s))), (4, .int (nI g4)), (5, .int (nI g5)), (6, .int (nI g6)), (7, .int (nI r)), (8, .int (nI (kcon s r))), (9, .int (nI c)), (10, .int (nI (r * C + c))), (11, .int (nI (kpos s (r * C + c)))), (12, .int (nI (b2n (kF s (r * C + c))))), (15, .int (nI (b2n (ghM (kF s) (kG s) (kpos s) (r * C + c))))), (16, .int (nI d)), (17, .int (nI x)), (20, .int (nI (b2n (dmQ (kF s) C (r * C + c) x))))] 436 [.int (nI (b2n (lany (dmQ (kF s) C (r * C + c)) 0 (x + 1))))]), X p9 l e9 { frames := 4, cells := 0, slots := 0, locals := 90 } s9 m9 args9 below9 meth9 cd9 0 0 (MQ below9 (xQ D (fun v8 w8 => v8 = some (.int (bI true)) ∧ w8 = kW cI cZ a s) A) args9 s9 0 0 A) 21 D A (kW cI cZ a s) [(0, .ref (aH a)), (1, .int (nI R)), (2, .int (nI C)), (3, .int (bI (kdio s))), (4, .int (nI g4)), (5, .int (nI g5)), (6, .int (nI g6)), (7, .int (nI r)), (8, .int (nI (kcon s r))), (9, .int (nI c)), (10, .int (nI (r * C + c))), (11, .int (nI (kpos s (r * C + c)))), (12, .int (nI (b2n (kF s (r * C + c))))), (15, .int (nI (b2n (ghM (kF s) (kG s) (kpos s) (r * C + c))))), (16, .int (nI d)), (17, .int (nI x)), (20, .int (nI (b2n (dmQ (kF s) C (r * C + c) x))))] 425 [] := by
    intro r c g4 g5 g6 x d hr hc hd hx
    refine x_iload hE 16 rfl dL_matrix_425 ?_
    refine xn_if_eq hE (b2n_lt _) 434 (by decide) dL_matrix_427 (fun c427 => ?_) (fun c427 => ?_)
    · skip
      refine x_iload hE 14 rfl dL_matrix_434 ?_
      refine x_eq (nI (b2n (lany (dmQ (kF s) C (r * C + c)) 0 (x + 1)))) (by rw [hd, lany_last0 (b2n_0 c427)]) ?_
      exact hx
    · skip
      refine x_iconst hE (nI 1) (by decide) dL_matrix_430 ?_
      refine x_goto hE 436 (by decide) dL_matrix_431 ?_
      refine x_eq (nI (b2n (lany (dmQ (kF s) C (r * C + c)) 0 (x + 1)))) (bn_1 (lany_last1 (b2n_n0 c427))) ?_
      exact hx
  have sg335 : ∀ (n : Nat) (x : Nat) (d : Nat) (r : Nat) (c : Nat) (g4 : Nat) (g5 : Nat) (g6 : Nat) (hi : x + n = R * C) (hr : r < R) (hc : c < C) (hd : d = b2n (lany (dmQ (kF s) C (r * C + c)) 0 x)) (hx : X p9 l e9 { frames := 4, cells := 0, slots := 0, locals := 90 } s9 m9 args9 below9 meth9 cd9 0 0 (MQ below9 (xQ D (fun v8 w8 => v8 = some (.int (bI true)) ∧ w8 = kW cI cZ a s) A) args9 s9 0 0 A) 21 D A (kW cI cZ a s) [(0, .ref (aH a)), (1, .int (nI R)), (2, .int (nI C)), (3, .int (bI (kdio s))), (4, .int (nI g4)), (5, .int (nI g5)), (6, .int (nI g6)), (7, .int (nI r)), (8, .int (nI (kcon s r))), (9, .int (nI c)), (10, .int (nI (r * C + c))), (11, .int (nI (kpos s (r * C + c)))), (12, .int (nI (b2n (kF s (r * C + c))))), (15, .int (nI (b2n (ghM (kF s) (kG s) (kpos s) (r * C + c))))), (16, .int (nI (b2n (lany (dmQ (kF s) C (r * C + c)) 0 (R * C)))))] 444 []), X p9 l e9 { frames := 4, cells := 0, slots := 0, locals := 90 } s9 m9 args9 below9 meth9 cd9 0 0 (MQ below9 (xQ D (fun v8 w8 => v8 = some (.int (bI true)) ∧ w8 = kW cI cZ a s) A) args9 s9 0 0 A) 21 D A (kW cI cZ a s) [(0, .ref (aH a)), (1, .int (nI R)), (2, .int (nI C)), (3, .int (bI (kdio s))), (4, .int (nI g4)), (5, .int (nI g5)), (6, .int (nI g6)), (7, .int (nI r)), (8, .int (nI (kcon s r))), (9, .int (nI c)), (10, .int (nI (r * C + c))), (11, .int (nI (kpos s (r * C + c)))), (12, .int (nI (b2n (kF s (r * C + c))))), (15, .int (nI (b2n (ghM (kF s) (kG s) (kpos s) (r * C + c))))), (16, .int (nI d)), (17, .int (nI x))] 335 [] := by
    intro n
    induction n with
    | zero =>
      intro x d r c g4 g5 g6 hi hr hc hd hx
      have hd1 : d ≤ 1 := by rw [hd]; exact b2n_le _
      refine x_iload hE 15 rfl dL_matrix_335 ?_
      refine x_iload_n hE 1 rfl dL_matrix_337 ?_
      refine x_iload_n hE 2 rfl dL_matrix_338 ?_
      refine x_imul hE (nI (R * C)) (xI_mul _ _) dL_matrix_339 ?_
      refine xn_icmp_ge hE (by omega) (by omega) 444 (by decide) dL_matrix_340 (fun c340 => ?_) (fun c340 => ?_)
      · skip
        refine x_lv [(0, .ref (aH a)), (1, .int (nI R)), (2, .int (nI C)), (3, .int (bI (kdio s))), (4, .int (nI g4)), (5, .int (nI g5)), (6, .int (nI g6)), (7, .int (nI r)), (8, .int (nI (kcon s r))), (9, .int (nI c)), (10, .int (nI (r * C + c))), (11, .int (nI (kpos s (r * C + c)))), (12, .int (nI (b2n (kF s (r * C + c))))), (15, .int (nI (b2n (ghM (kF s) (kG s) (kpos s) (r * C + c))))), (16, .int (nI d))] [0, 1, 2, 3, 4, 5, 6, 7, 8, 9, 10, 11, 12, 13, 14] rfl ?_
        obtain rfl : x = R * C := by omega
        subst hd
        exact hx
      · skip
        exfalso; omega
    | succ n ih =>
      intro x d r c g4 g5 g6 hi hr hc hd hx
      have hd1 : d ≤ 1 := by rw [hd]; exact b2n_le _
      refine x_iload hE 15 rfl dL_matrix_335 ?_
      refine x_iload_n hE 1 rfl dL_matrix_337 ?_
      refine x_iload_n hE 2 rfl dL_matrix_338 ?_
      refine x_imul hE (nI (R * C)) (xI_mul _ _) dL_matrix_339 ?_
      refine xn_icmp_ge hE (by omega) (by omega) 444 (by decide) dL_matrix_340 (fun c340 => ?_) (fun c340 => ?_)
      · skip
        exfalso; omega
      · skip
        refine x_iload hE 15 rfl dL_matrix_343 ?_
        refine x_iload_n hE 2 rfl dL_matrix_345 ?_
        refine x_idiv hE (nI (x / C)) (nI_ne0 (by omega) (by omega)) (xI_div (by omega) (by omega) (by omega)) dL_matrix_346 ?_
        refine x_istore hE [(18, .int (nI (x / C))), (0, .ref (aH a)), (1, .int (nI R)), (2, .int (nI C)), (3, .int (bI (kdio s))), (4, .int (nI g4)), (5, .int (nI g5)), (6, .int (nI g6)), (7, .int (nI r)), (8, .int (nI (kcon s r))), (9, .int (nI c)), (10, .int (nI (r * C + c))), (11, .int (nI (kpos s (r * C + c)))), (12, .int (nI (b2n (kF s (r * C + c))))), (15, .int (nI (b2n (ghM (kF s) (kG s) (kpos s) (r * C + c))))), (16, .int (nI d)), (17, .int (nI x))] (by decide) rfl dL_matrix_347 ?_
        refine x_iload hE 16 rfl dL_matrix_349 ?_
        refine x_iload_n hE 3 rfl dL_matrix_351 ?_
        refine x_irem hE (nI (x % C)) (nI_ne0 (by omega) (by omega)) (xI_rem (by omega) (by omega) (by omega)) dL_matrix_352 ?_
        refine x_istore hE [(19, .int (nI (x % C))), (18, .int (nI (x / C))), (0, .ref (aH a)), (1, .int (nI R)), (2, .int (nI C)), (3, .int (bI (kdio s))), (4, .int (nI g4)), (5, .int (nI g5)), (6, .int (nI g6)), (7, .int (nI r)), (8, .int (nI (kcon s r))), (9, .int (nI c)), (10, .int (nI (r * C + c))), (11, .int (nI (kpos s (r * C + c)))), (12, .int (nI (b2n (kF s (r * C + c))))), (15, .int (nI (b2n (ghM (kF s) (kG s) (kpos s) (r * C + c))))), (16, .int (nI d)), (17, .int (nI x))] (by decide) rfl dL_matrix_353 ?_
        refine x_lv [(0, .ref (aH a)), (1, .int (nI R)), (2, .int (nI C)), (3, .int (bI (kdio s))), (4, .int (nI g4)), (5, .int (nI g5)), (6, .int (nI g6)), (7, .int (nI r)), (8, .int (nI (kcon s r))), (9, .int (nI c)), (10, .int (nI (r * C + c))), (11, .int (nI (kpos s (r * C + c)))), (12, .int (nI (b2n (kF s (r * C + c))))), (15, .int (nI (b2n (ghM (kF s) (kG s) (kpos s) (r * C + c))))), (16, .int (nI d)), (17, .int (nI x)), (18, .int (nI (x / C))), (19, .int (nI (x % C)))] [2, 3, 4, 5, 6, 7, 8, 9, 10, 11, 12, 13, 14, 15, 16, 17, 1, 0] rfl ?_
        refine sg355 r c g4 g5 g6 x d (by omega) (by omega) (by omega) ?_
        refine x_istore hE [(20, .int (nI (b2n (dmQ (kF s) C (r * C + c) x)))), (0, .ref (aH a)), (1, .int (nI R)), (2, .int (nI C)), (3, .int (bI (kdio s))), (4, .int (nI g4)), (5, .int (nI g5)), (6, .int (nI g6)), (7, .int (nI r)), (8, .int (nI (kcon s r))), (9, .int (nI c)), (10, .int (nI (r * C + c))), (11, .int (nI (kpos s (r * C + c)))), (12, .int (nI (b2n (kF s (r * C + c))))), (15, .int (nI (b2n (ghM (kF s) (kG s) (kpos s) (r * C + c))))), (16, .int (nI d)), (17, .int (nI x)), (18, .int (nI (x / C))), (19, .int (nI (x % C)))] (by decide) rfl dL_matrix_423 ?_
        refine x_lv [(0, .ref (aH a)), (1, .int (nI R)), (2, .int (nI C)), (3, .int (bI (kdio s))), (4, .int (nI g4)), (5, .int (nI g5)), (6, .int (nI g6)), (7, .int (nI r)), (8, .int (nI (kcon s r))), (9, .int (nI c)), (10, .int (nI (r * C + c))), (11, .int (nI (kpos s (r * C + c)))), (12, .int (nI (b2n (kF s (r * C + c))))), (15, .int (nI (b2n (ghM (kF s) (kG s) (kpos s) (r * C + c))))), (16, .int (nI d)), (17, .int (nI x)), (20, .int (nI (b2n (dmQ (kF s) C (r * C + c) x))))] [1, 2, 3, 4, 5, 6, 7, 8, 9, 10, 11, 12, 13, 14, 15, 16, 0] rfl ?_
        refine sg425 r c g4 g5 g6 x d (by omega) (by omega) (hd) ?_
        refine x_istore hE [(16, .int (nI (b2n (lany (dmQ (kF s) C (r * C + c)) 0 (x + 1))))), (0, .ref (aH a)), (1, .int (nI R)), (2, .int (nI C)), (3, .int (bI (kdio s))), (4, .int (nI g4)), (5, .int (nI g5)), (6, .int (nI g6)), (7, .int (nI r)), (8, .int (nI (kcon s r))), (9, .int (nI c)), (10, .int (nI (r * C + c))), (11, .int (nI (kpos s (r * C + c)))), (12, .int (nI (b2n (kF s (r * C + c))))), (15, .int (nI (b2n (ghM (kF s) (kG s) (kpos s) (r * C + c))))), (17, .int (nI x)), (20, .int (nI (b2n (dmQ (kF s) C (r * C + c) x))))] (by decide) rfl dL_matrix_436 ?_
        refine x_iinc hE (nI (x + 1)) [(17, .int (nI (x + 1))), (16, .int (nI (b2n (lany (dmQ (kF s) C (r * C + c)) 0 (x + 1))))), (0, .ref (aH a)), (1, .int (nI R)), (2, .int (nI C)), (3, .int (bI (kdio s))), (4, .int (nI g4)), (5, .int (nI g5)), (6, .int (nI g6)), (7, .int (nI r)), (8, .int (nI (kcon s r))), (9, .int (nI c)), (10, .int (nI (r * C + c))), (11, .int (nI (kpos s (r * C + c)))), (12, .int (nI (b2n (kF s (r * C + c))))), (15, .int (nI (b2n (ghM (kF s) (kG s) (kpos s) (r * C + c))))), (20, .int (nI (b2n (dmQ (kF s) C (r * C + c) x))))] 15 rfl (nI_add _ _) (by decide) rfl dL_matrix_438 ?_
        refine x_goto hE 335 (by decide) dL_matrix_441 ?_
        refine x_lv [(0, .ref (aH a)), (1, .int (nI R)), (2, .int (nI C)), (3, .int (bI (kdio s))), (4, .int (nI g4)), (5, .int (nI g5)), (6, .int (nI g6)), (7, .int (nI r)), (8, .int (nI (kcon s r))), (9, .int (nI c)), (10, .int (nI (r * C + c))), (11, .int (nI (kpos s (r * C + c)))), (12, .int (nI (b2n (kF s (r * C + c))))), (15, .int (nI (b2n (ghM (kF s) (kG s) (kpos s) (r * C + c))))), (16, .int (nI (b2n (lany (dmQ (kF s) C (r * C + c)) 0 (x + 1))))), (17, .int (nI (x + 1)))] [2, 3, 4, 5, 6, 7, 8, 9, 10, 11, 12, 13, 14, 15, 1, 0] rfl ?_
        exact ih (x + 1) (b2n (lany (dmQ (kF s) C (r * C + c)) 0 (x + 1))) r c g4 g5 g6 (by omega) (hr) (hc) (rfl) hx
  have sg444 : ∀ (r : Nat) (c : Nat) (g4 : Nat) (g5 : Nat) (g6 : Nat) (hr : r < R) (hc : c < C) (e4 : g4 = gcM (kF s) (kG s) (kpos s) (r * C + c)) (e5 : g5 = dcP (kF s) R C (r * C + c)) (e6 : g6 = prM (kpos s) (r * C + c)) (h4 : g4 ≤ 64) (h5 : g5 ≤ 64) (h6 : g6 ≤ 64) (hx : X p9 l e9 { frames := 4, cells := 0, slots := 0, locals := 90 } s9 m9 args9 below9 meth9 cd9 0 0 (MQ below9 (xQ D (fun v8 w8 => v8 = some (.int (bI true)) ∧ w8 = kW cI cZ a s) A) args9 s9 0 0 A) 21 D A (kW cI cZ a s) [(0, .ref (aH a)), (1, .int (nI R)), (2, .int (nI C)), (3, .int (bI (kdio s))), (4, .int (nI (gcM (kF s) (kG s) (kpos s) (r * C + c + 1)))), (5, .int (nI (dcP (kF s) R C (r * C + c + 1)))), (6, .int (nI (prM (kpos s) (r * C + c + 1)))), (7, .int (nI r)), (8, .int (nI (kcon s r))), (9, .int (nI c)), (10, .int (nI (r * C + c))), (15, .int (nI (b2n (ghM (kF s) (kG s) (kpos s) (r * C + c))))), (16, .int (nI (b2n (lany (dmQ (kF s) C (r * C + c)) 0 (R * C)))))] 473 []), X p9 l e9 { frames := 4, cells := 0, slots := 0, locals := 90 } s9 m9 args9 below9 meth9 cd9 0 0 (MQ below9 (xQ D (fun v8 w8 => v8 = some (.int (bI true)) ∧ w8 = kW cI cZ a s) A) args9 s9 0 0 A) 21 D A (kW cI cZ a s) [(0, .ref (aH a)), (1, .int (nI R)), (2, .int (nI C)), (3, .int (bI (kdio s))), (4, .int (nI g4)), (5, .int (nI g5)), (6, .int (nI g6)), (7, .int (nI r)), (8, .int (nI (kcon s r))), (9, .int (nI c)), (10, .int (nI (r * C + c))), (11, .int (nI (kpos s (r * C + c)))), (12, .int (nI (b2n (kF s (r * C + c))))), (15, .int (nI (b2n (ghM (kF s) (kG s) (kpos s) (r * C + c))))), (16, .int (nI (b2n (lany (dmQ (kF s) C (r * C + c)) 0 (R * C)))))] 444 [] := by
    intro r c g4 g5 g6 hr hc e4 e5 e6 h4 h5 h6 hx
    refine x_iload hE 4 rfl dL_matrix_444 ?_
    refine x_iload hE 13 rfl dL_matrix_446 ?_
    refine x_iadd hE (nI (g4 + (b2n (ghM (kF s) (kG s) (kpos s) (r * C + c))))) (nI_add _ _) dL_matrix_448 ?_
    refine x_istore hE [(4, .int (nI (g4 + (b2n (ghM (kF s) (kG s) (kpos s) (r * C + c)))))), (0, .ref (aH a)), (1, .int (nI R)), (2, .int (nI C)), (3, .int (bI (kdio s))), (5, .int (nI g5)), (6, .int (nI g6)), (7, .int (nI r)), (8, .int (nI (kcon s r))), (9, .int (nI c)), (10, .int (nI (r * C + c))), (11, .int (nI (kpos s (r * C + c)))), (12, .int (nI (b2n (kF s (r * C + c))))), (15, .int (nI (b2n (ghM (kF s) (kG s) (kpos s) (r * C + c))))), (16, .int (nI (b2n (lany (dmQ (kF s) C (r * C + c)) 0 (R * C)))))] (by decide) rfl dL_matrix_449 ?_
    refine x_iload hE 5 rfl dL_matrix_451 ?_
    refine x_iload hE 14 rfl dL_matrix_453 ?_
    refine x_iadd hE (nI (g5 + (b2n (lany (dmQ (kF s) C (r * C + c)) 0 (R * C))))) (nI_add _ _) dL_matrix_455 ?_
    refine x_istore hE [(5, .int (nI (g5 + (b2n (lany (dmQ (kF s) C (r * C + c)) 0 (R * C)))))), (4, .int (nI (g4 + (b2n (ghM (kF s) (kG s) (kpos s) (r * C + c)))))), (0, .ref (aH a)), (1, .int (nI R)), (2, .int (nI C)), (3, .int (bI (kdio s))), (6, .int (nI g6)), (7, .int (nI r)), (8, .int (nI (kcon s r))), (9, .int (nI c)), (10, .int (nI (r * C + c))), (11, .int (nI (kpos s (r * C + c)))), (12, .int (nI (b2n (kF s (r * C + c))))), (15, .int (nI (b2n (ghM (kF s) (kG s) (kpos s) (r * C + c))))), (16, .int (nI (b2n (lany (dmQ (kF s) C (r * C + c)) 0 (R * C)))))] (by decide) rfl dL_matrix_456 ?_
    refine x_iload hE 6 rfl dL_matrix_458 ?_
    refine x_iload hE 11 rfl dL_matrix_460 ?_
    refine xn_if_le hE (kpos_lt hok _) 469 (by decide) dL_matrix_462 (fun c462 => ?_) (fun c462 => ?_)
    · skip
      refine x_iconst hE (nI 0) (by decide) dL_matrix_469 ?_
      refine x_iadd hE (nI (g6 + 0)) (nI_add _ _) dL_matrix_470 ?_
      refine x_istore hE [(6, .int (nI (g6 + 0))), (5, .int (nI (g5 + (b2n (lany (dmQ (kF s) C (r * C + c)) 0 (R * C)))))), (4, .int (nI (g4 + (b2n (ghM (kF s) (kG s) (kpos s) (r * C + c)))))), (0, .ref (aH a)), (1, .int (nI R)), (2, .int (nI C)), (3, .int (bI (kdio s))), (7, .int (nI r)), (8, .int (nI (kcon s r))), (9, .int (nI c)), (10, .int (nI (r * C + c))), (11, .int (nI (kpos s (r * C + c)))), (12, .int (nI (b2n (kF s (r * C + c))))), (15, .int (nI (b2n (ghM (kF s) (kG s) (kpos s) (r * C + c))))), (16, .int (nI (b2n (lany (dmQ (kF s) C (r * C + c)) 0 (R * C)))))] (by decide) rfl dL_matrix_471 ?_
      refine x_lv [(0, .ref (aH a)), (1, .int (nI R)), (2, .int (nI C)), (3, .int (bI (kdio s))), (4, .int (nI (g4 + (b2n (ghM (kF s) (kG s) (kpos s) (r * C + c)))))), (5, .int (nI (g5 + (b2n (lany (dmQ (kF s) C (r * C + c)) 0 (R * C)))))), (6, .int (nI (g6 + 0))), (7, .int (nI r)), (8, .int (nI (kcon s r))), (9, .int (nI c)), (10, .int (nI (r * C + c))), (15, .int (nI (b2n (ghM (kF s) (kG s) (kpos s) (r * C + c))))), (16, .int (nI (b2n (lany (dmQ (kF s) C (r * C + c)) 0 (R * C)))))] [3, 4, 5, 6, 2, 1, 0, 7, 8, 9, 10, 13, 14] rfl ?_
      have f4 : gcM (kF s) (kG s) (kpos s) (r * C + c + 1) = g4 + (b2n (ghM (kF s) (kG s) (kpos s) (r * C + c))) := by rw [gcM_succ, ← e4]; rfl
      have f5 : dcP (kF s) R C (r * C + c + 1) = g5 + (b2n (lany (dmQ (kF s) C (r * C + c)) 0 (R * C))) := by rw [dcP_succ, ← e5]
      have f6 : prM (kpos s) (r * C + c + 1) = g6 + 0 := by rw [prM_succ, ← e6]; first | rw [if_pos c462] | rw [if_neg c462]
      refine x_lve (lv2 := [(0, .ref (aH a)), (1, .int (nI R)), (2, .int (nI C)), (3, .int (bI (kdio s))), (4, .int (nI (gcM (kF s) (kG s) (kpos s) (r * C + c + 1)))), (5, .int (nI (dcP (kF s) R C (r * C + c + 1)))), (6, .int (nI (prM (kpos s) (r * C + c + 1)))), (7, .int (nI r)), (8, .int (nI (kcon s r))), (9, .int (nI c)), (10, .int (nI (r * C + c))), (15, .int (nI (b2n (ghM (kF s) (kG s) (kpos s) (r * C + c))))), (16, .int (nI (b2n (lany (dmQ (kF s) C (r * C + c)) 0 (R * C)))))]) (by rw [f4, f5, f6]) ?_
      exact hx
    · skip
      refine x_iconst hE (nI 1) (by decide) dL_matrix_465 ?_
      refine x_goto hE 470 (by decide) dL_matrix_466 ?_
      refine x_iadd hE (nI (g6 + 1)) (nI_add _ _) dL_matrix_470 ?_
      refine x_istore hE [(6, .int (nI (g6 + 1))), (5, .int (nI (g5 + (b2n (lany (dmQ (kF s) C (r * C + c)) 0 (R * C)))))), (4, .int (nI (g4 + (b2n (ghM (kF s) (kG s) (kpos s) (r * C + c)))))), (0, .ref (aH a)), (1, .int (nI R)), (2, .int (nI C)), (3, .int (bI (kdio s))), (7, .int (nI r)), (8, .int (nI (kcon s r))), (9, .int (nI c)), (10, .int (nI (r * C + c))), (11, .int (nI (kpos s (r * C + c)))), (12, .int (nI (b2n (kF s (r * C + c))))), (15, .int (nI (b2n (ghM (kF s) (kG s) (kpos s) (r * C + c))))), (16, .int (nI (b2n (lany (dmQ (kF s) C (r * C + c)) 0 (R * C)))))] (by decide) rfl dL_matrix_471 ?_
      refine x_lv [(0, .ref (aH a)), (1, .int (nI R)), (2, .int (nI C)), (3, .int (bI (kdio s))), (4, .int (nI (g4 + (b2n (ghM (kF s) (kG s) (kpos s) (r * C + c)))))), (5, .int (nI (g5 + (b2n (lany (dmQ (kF s) C (r * C + c)) 0 (R * C)))))), (6, .int (nI (g6 + 1))), (7, .int (nI r)), (8, .int (nI (kcon s r))), (9, .int (nI c)), (10, .int (nI (r * C + c))), (15, .int (nI (b2n (ghM (kF s) (kG s) (kpos s) (r * C + c))))), (16, .int (nI (b2n (lany (dmQ (kF s) C (r * C + c)) 0 (R * C)))))] [3, 4, 5, 6, 2, 1, 0, 7, 8, 9, 10, 13, 14] rfl ?_
      have f4 : gcM (kF s) (kG s) (kpos s) (r * C + c + 1) = g4 + (b2n (ghM (kF s) (kG s) (kpos s) (r * C + c))) := by rw [gcM_succ, ← e4]; rfl
      have f5 : dcP (kF s) R C (r * C + c + 1) = g5 + (b2n (lany (dmQ (kF s) C (r * C + c)) 0 (R * C))) := by rw [dcP_succ, ← e5]
      have f6 : prM (kpos s) (r * C + c + 1) = g6 + 1 := by rw [prM_succ, ← e6]; first | rw [if_pos c462] | rw [if_neg c462]
      refine x_lve (lv2 := [(0, .ref (aH a)), (1, .int (nI R)), (2, .int (nI C)), (3, .int (bI (kdio s))), (4, .int (nI (gcM (kF s) (kG s) (kpos s) (r * C + c + 1)))), (5, .int (nI (dcP (kF s) R C (r * C + c + 1)))), (6, .int (nI (prM (kpos s) (r * C + c + 1)))), (7, .int (nI r)), (8, .int (nI (kcon s r))), (9, .int (nI c)), (10, .int (nI (r * C + c))), (15, .int (nI (b2n (ghM (kF s) (kG s) (kpos s) (r * C + c))))), (16, .int (nI (b2n (lany (dmQ (kF s) C (r * C + c)) 0 (R * C)))))]) (by rw [f4, f5, f6]) ?_
      exact hx
  have sg150 : ∀ (n : Nat) (c : Nat) (r : Nat) (g4 : Nat) (g5 : Nat) (g6 : Nat) (hi : c + n = C) (hr : r < R) (e4 : g4 = gcM (kF s) (kG s) (kpos s) (r * C + c)) (e5 : g5 = dcP (kF s) R C (r * C + c)) (e6 : g6 = prM (kpos s) (r * C + c)) (hx : X p9 l e9 { frames := 4, cells := 0, slots := 0, locals := 90 } s9 m9 args9 below9 meth9 cd9 0 0 (MQ below9 (xQ D (fun v8 w8 => v8 = some (.int (bI true)) ∧ w8 = kW cI cZ a s) A) args9 s9 0 0 A) 21 D A (kW cI cZ a s) [(0, .ref (aH a)), (1, .int (nI R)), (2, .int (nI C)), (3, .int (bI (kdio s))), (4, .int (nI (gcM (kF s) (kG s) (kpos s) (r * C + C)))), (5, .int (nI (dcP (kF s) R C (r * C + C)))), (6, .int (nI (prM (kpos s) (r * C + C)))), (7, .int (nI r))] 520 []), X p9 l e9 { frames := 4, cells := 0, slots := 0, locals := 90 } s9 m9 args9 below9 meth9 cd9 0 0 (MQ below9 (xQ D (fun v8 w8 => v8 = some (.int (bI true)) ∧ w8 = kW cI cZ a s) A) args9 s9 0 0 A) 21 D A (kW cI cZ a s) [(0, .ref (aH a)), (1, .int (nI R)), (2, .int (nI C)), (3, .int (bI (kdio s))), (4, .int (nI g4)), (5, .int (nI g5)), (6, .int (nI g6)), (7, .int (nI r)), (8, .int (nI (kcon s r))), (9, .int (nI c))] 150 [] := by
    intro n
    induction n with
    | zero =>
      intro c r g4 g5 g6 hi hr e4 e5 e6 hx
      have hcr := hcl r hr
      have hb1 : (kcon s r >>> (8 + c)) &&& 1 < 2 ^ 31 := Nat.lt_of_le_of_lt Nat.and_le_right (by decide)
      have hcC : c ≤ C := by omega
      have hk9 : r * C + c ≤ R * C := rc_le hr hcC
      have h4 : g4 ≤ 64 := by rw [e4]; exact Nat.le_trans (gcM_le _ _ _ _) (by omega)
      have h5 : g5 ≤ 64 := by rw [e5]; exact Nat.le_trans (dcP_le _ _ _ _) (by omega)
      have h6 : g6 ≤ 64 := by rw [e6]; exact Nat.le_trans (prM_le _ _) (by omega)
      refine x_iload hE 9 rfl dL_matrix_150 ?_
      refine x_iload_n hE 2 rfl dL_matrix_152 ?_
      refine xn_icmp_ge hE (by omega) (by omega) 520 (by decide) dL_matrix_153 (fun c153 => ?_) (fun c153 => ?_)
      · skip
        refine x_lv [(0, .ref (aH a)), (1, .int (nI R)), (2, .int (nI C)), (3, .int (bI (kdio s))), (4, .int (nI g4)), (5, .int (nI g5)), (6, .int (nI g6)), (7, .int (nI r))] [0, 1, 2, 3, 4, 5, 6, 7] rfl ?_
        obtain rfl : c = C := by omega
        subst e4
        subst e5
        subst e6
        exact hx
      · skip
        exfalso; omega
    | succ n ih =>
      intro c r g4 g5 g6 hi hr e4 e5 e6 hx
      have hcr := hcl r hr
      have hb1 : (kcon s r >>> (8 + c)) &&& 1 < 2 ^ 31 := Nat.lt_of_le_of_lt Nat.and_le_right (by decide)
      have hcC : c ≤ C := by omega
      have hk9 : r * C + c ≤ R * C := rc_le hr hcC
      have h4 : g4 ≤ 64 := by rw [e4]; exact Nat.le_trans (gcM_le _ _ _ _) (by omega)
      have h5 : g5 ≤ 64 := by rw [e5]; exact Nat.le_trans (dcP_le _ _ _ _) (by omega)
      have h6 : g6 ≤ 64 := by rw [e6]; exact Nat.le_trans (prM_le _ _) (by omega)
      refine x_iload hE 9 rfl dL_matrix_150 ?_
      refine x_iload_n hE 2 rfl dL_matrix_152 ?_
      refine xn_icmp_ge hE (by omega) (by omega) 520 (by decide) dL_matrix_153 (fun c153 => ?_) (fun c153 => ?_)
      · skip
        exfalso; omega
      · skip
        have hc : c < C := c153
        refine x_iload hE 7 rfl dL_matrix_156 ?_
        refine x_iload_n hE 2 rfl dL_matrix_158 ?_
        refine x_imul hE (nI (r * C)) (xI_mul _ _) dL_matrix_159 ?_
        refine x_iload hE 9 rfl dL_matrix_160 ?_
        refine x_iadd hE (nI ((r * C) + c)) (nI_add _ _) dL_matrix_162 ?_
        refine x_istore hE [(10, .int (nI ((r * C) + c))), (0, .ref (aH a)), (1, .int (nI R)), (2, .int (nI C)), (3, .int (bI (kdio s))), (4, .int (nI g4)), (5, .int (nI g5)), (6, .int (nI g6)), (7, .int (nI r)), (8, .int (nI (kcon s r))), (9, .int (nI c))] (by decide) rfl dL_matrix_163 ?_
        refine x_aload_n hE 1 rfl dL_matrix_165 ?_
        refine x_iload hE 0 rfl dL_matrix_166 ?_
        refine x_iconst hE (nI 0) (by decide) dL_matrix_168 ?_
        refine x_callK (n := 2) (st := []) hE (ck_key_0 l D cI cZ a s hok ((r * C) + c) (rc_lt hr (by omega))) gL_matrix_X4_key rfl rfl (by decide +kernel) ⟨by decide, by decide⟩ ⟨by decide, by decide⟩ rfl rfl (Nat.le_of_ble_eq_true rfl) dL_matrix_169 (fun v9 w9 hT9 => ?_)
        obtain ⟨rfl, rfl⟩ := hT9
        refine x_at (ws' := (kW cI cZ a s)) (st' := [.int (nI (kpos s ((r * C) + c)))]) rfl rfl ?_
        refine x_istore hE [(11, .int (nI (kpos s ((r * C) + c)))), (10, .int (nI ((r * C) + c))), (0, .ref (aH a)), (1, .int (nI R)), (2, .int (nI C)), (3, .int (bI (kdio s))), (4, .int (nI g4)), (5, .int (nI g5)), (6, .int (nI g6)), (7, .int (nI r)), (8, .int (nI (kcon s r))), (9, .int (nI c))] (by decide) rfl dL_matrix_172 ?_
        refine x_aload_n hE 2 rfl dL_matrix_174 ?_
        refine x_iload hE 1 rfl dL_matrix_175 ?_
        refine x_iconst hE (nI 4) (by decide) dL_matrix_177 ?_
        refine x_callK (n := 2) (st := []) hE (ck_key_4 l D cI cZ a s hok ((r * C) + c) (rc_lt hr (by omega))) gL_matrix_X4_key rfl rfl (by decide +kernel) ⟨by decide, by decide⟩ ⟨by decide, by decide⟩ rfl rfl (Nat.le_of_ble_eq_true rfl) dL_matrix_178 (fun v9 w9 hT9 => ?_)
        obtain ⟨rfl, rfl⟩ := hT9
        refine x_at (ws' := (kW cI cZ a s)) (st' := [.int (nI (b2n (kF s ((r * C) + c))))]) rfl rfl ?_
        refine x_istore hE [(12, .int (nI (b2n (kF s ((r * C) + c))))), (11, .int (nI (kpos s ((r * C) + c)))), (10, .int (nI ((r * C) + c))), (0, .ref (aH a)), (1, .int (nI R)), (2, .int (nI C)), (3, .int (bI (kdio s))), (4, .int (nI g4)), (5, .int (nI g5)), (6, .int (nI g6)), (7, .int (nI r)), (8, .int (nI (kcon s r))), (9, .int (nI c))] (by decide) rfl dL_matrix_181 ?_
        refine x_aload_n hE 3 rfl dL_matrix_183 ?_
        refine x_iload hE 2 rfl dL_matrix_184 ?_
        refine x_iconst hE (nI 5) (by decide) dL_matrix_186 ?_
        refine x_callK (n := 2) (st := []) hE (ck_key_5 l D cI cZ a s hok ((r * C) + c) (rc_lt hr (by omega))) gL_matrix_X4_key rfl rfl (by decide +kernel) ⟨by decide, by decide⟩ ⟨by decide, by decide⟩ rfl rfl (Nat.le_of_ble_eq_true rfl) dL_matrix_187 (fun v9 w9 hT9 => ?_)
        obtain ⟨rfl, rfl⟩ := hT9
        refine x_at (ws' := (kW cI cZ a s)) (st' := [.int (nI (b2n (kG s ((r * C) + c))))]) rfl rfl ?_
        refine x_istore hE [(13, .int (nI (b2n (kG s ((r * C) + c))))), (12, .int (nI (b2n (kF s ((r * C) + c))))), (11, .int (nI (kpos s ((r * C) + c)))), (10, .int (nI ((r * C) + c))), (0, .ref (aH a)), (1, .int (nI R)), (2, .int (nI C)), (3, .int (bI (kdio s))), (4, .int (nI g4)), (5, .int (nI g5)), (6, .int (nI g6)), (7, .int (nI r)), (8, .int (nI (kcon s r))), (9, .int (nI c))] (by decide) rfl dL_matrix_190 ?_
        refine x_iload hE 12 rfl dL_matrix_192 ?_
        refine x_bipush hE (nI 8) (by decide) dL_matrix_194 ?_
        refine x_iload hE 13 rfl dL_matrix_196 ?_
        refine x_iadd hE (nI (8 + c)) (nI_add _ _) dL_matrix_198 ?_
        refine x_ishr hE (nI ((kcon s r) >>> (8 + c))) (xI_shr (by omega) (by omega)) dL_matrix_199 ?_
        refine x_iconst hE (nI 1) (by decide) dL_matrix_200 ?_
        refine x_iand hE (nI (((kcon s r) >>> (8 + c)) &&& 1)) (fa_and _ _) dL_matrix_201 ?_
        refine x_istore hE [(14, .int (nI (((kcon s r) >>> (8 + c)) &&& 1))), (13, .int (nI (b2n (kG s ((r * C) + c))))), (12, .int (nI (b2n (kF s ((r * C) + c))))), (11, .int (nI (kpos s ((r * C) + c)))), (10, .int (nI ((r * C) + c))), (0, .ref (aH a)), (1, .int (nI R)), (2, .int (nI C)), (3, .int (bI (kdio s))), (4, .int (nI g4)), (5, .int (nI g5)), (6, .int (nI g6)), (7, .int (nI r)), (8, .int (nI (kcon s r))), (9, .int (nI c))] (by decide) rfl dL_matrix_202 ?_
        refine x_lv [(0, .ref (aH a)), (1, .int (nI R)), (2, .int (nI C)), (3, .int (bI (kdio s))), (4, .int (nI g4)), (5, .int (nI g5)), (6, .int (nI g6)), (7, .int (nI r)), (8, .int (nI (kcon s r))), (9, .int (nI c)), (10, .int (nI ((r * C) + c))), (11, .int (nI (kpos s ((r * C) + c)))), (12, .int (nI (b2n (kF s ((r * C) + c))))), (13, .int (nI (b2n (kG s ((r * C) + c))))), (14, .int (nI (((kcon s r) >>> (8 + c)) &&& 1)))] [5, 6, 7, 8, 9, 10, 11, 12, 13, 14, 4, 3, 2, 1, 0] rfl ?_
        refine sg204 r c g4 g5 g6 (by omega) (by omega) ?_
        refine sg237 r c g4 g5 g6 (by omega) (by omega) ?_
        refine x_lv [(0, .ref (aH a)), (1, .int (nI R)), (2, .int (nI C)), (3, .int (bI (kdio s))), (4, .int (nI g4)), (5, .int (nI g5)), (6, .int (nI g6)), (7, .int (nI r)), (8, .int (nI (kcon s r))), (9, .int (nI c)), (10, .int (nI (r * C + c))), (11, .int (nI (kpos s (r * C + c)))), (12, .int (nI (b2n (kF s (r * C + c))))), (13, .int (nI (b2n (kG s (r * C + c)))))] [0, 1, 2, 3, 4, 5, 6, 7, 8, 9, 10, 11, 12, 13] rfl ?_
        refine sg299 r c g4 g5 g6 (by omega) (by omega) ?_
        refine x_istore hE [(15, .int (nI (b2n (ghM (kF s) (kG s) (kpos s) (r * C + c))))), (0, .ref (aH a)), (1, .int (nI R)), (2, .int (nI C)), (3, .int (bI (kdio s))), (4, .int (nI g4)), (5, .int (nI g5)), (6, .int (nI g6)), (7, .int (nI r)), (8, .int (nI (kcon s r))), (9, .int (nI c)), (10, .int (nI (r * C + c))), (11, .int (nI (kpos s (r * C + c)))), (12, .int (nI (b2n (kF s (r * C + c))))), (13, .int (nI (b2n (kG s (r * C + c)))))] (by decide) rfl dL_matrix_327 ?_
        refine x_iconst hE (nI 0) (by decide) dL_matrix_329 ?_
        refine x_istore hE [(16, .int (nI 0)), (15, .int (nI (b2n (ghM (kF s) (kG s) (kpos s) (r * C + c))))), (0, .ref (aH a)), (1, .int (nI R)), (2, .int (nI C)), (3, .int (bI (kdio s))), (4, .int (nI g4)), (5, .int (nI g5)), (6, .int (nI g6)), (7, .int (nI r)), (8, .int (nI (kcon s r))), (9, .int (nI c)), (10, .int (nI (r * C + c))), (11, .int (nI (kpos s (r * C + c)))), (12, .int (nI (b2n (kF s (r * C + c))))), (13, .int (nI (b2n (kG s (r * C + c)))))] (by decide) rfl dL_matrix_330 ?_
        refine x_iconst hE (nI 0) (by decide) dL_matrix_332 ?_
        refine x_istore hE [(17, .int (nI 0)), (16, .int (nI 0)), (15, .int (nI (b2n (ghM (kF s) (kG s) (kpos s) (r * C + c))))), (0, .ref (aH a)), (1, .int (nI R)), (2, .int (nI C)), (3, .int (bI (kdio s))), (4, .int (nI g4)), (5, .int (nI g5)), (6, .int (nI g6)), (7, .int (nI r)), (8, .int (nI (kcon s r))), (9, .int (nI c)), (10, .int (nI (r * C + c))), (11, .int (nI (kpos s (r * C + c)))), (12, .int (nI (b2n (kF s (r * C + c))))), (13, .int (nI (b2n (kG s (r * C + c)))))] (by decide) rfl dL_matrix_333 ?_
        refine x_lv [(0, .ref (aH a)), (1, .int (nI R)), (2, .int (nI C)), (3, .int (bI (kdio s))), (4, .int (nI g4)), (5, .int (nI g5)), (6, .int (nI g6)), (7, .int (nI r)), (8, .int (nI (kcon s r))), (9, .int (nI c)), (10, .int (nI (r * C + c))), (11, .int (nI (kpos s (r * C + c)))), (12, .int (nI (b2n (kF s (r * C + c))))), (15, .int (nI (b2n (ghM (kF s) (kG s) (kpos s) (r * C + c))))), (16, .int (nI 0)), (17, .int (nI 0))] [3, 4, 5, 6, 7, 8, 9, 10, 11, 12, 13, 14, 15, 2, 1, 0] rfl ?_
        refine sg335 (R * C) 0 0 r c g4 g5 g6 (Nat.zero_add _) (by omega) (by omega) (rfl) ?_
        refine sg444 r c g4 g5 g6 (by omega) (by omega) (e4) (e5) (e6) (by omega) (by omega) (by omega) ?_
        refine x_aload_n hE 0 rfl dL_matrix_473 ?_
        refine x_iload hE 10 rfl dL_matrix_474 ?_
        refine x_bipush hE (nI 6) (by decide) dL_matrix_476 ?_
        refine x_callK (n := 2) (st := []) hE (ck_key_6 l D cI cZ a s hok (r * C + c) (rc_lt hr hc)) gL_matrix_X4_key rfl rfl (by decide +kernel) ⟨by decide, by decide⟩ ⟨by decide, by decide⟩ rfl rfl (Nat.le_of_ble_eq_true rfl) dL_matrix_478 (fun v9 w9 hT9 => ?_)
        obtain ⟨rfl, rfl⟩ := hT9
        refine x_at (ws' := (kW cI cZ a s)) (st' := [.int (nI (b2n (kH s (r * C + c))))]) rfl rfl ?_
        refine x_iload hE 11 rfl dL_matrix_481 ?_
        refine xn_icmp_ne hE (b2n_lt _) (b2n_lt _) 512 (by decide) dL_matrix_483 (fun c483 => ?_) (fun c483 => ?_)
        · skip
          exact absurd (hI.gh_key hr hc) c483
        · skip
          refine x_aload_n hE 0 rfl dL_matrix_486 ?_
          refine x_iload hE 10 rfl dL_matrix_487 ?_
          refine x_bipush hE (nI 7) (by decide) dL_matrix_489 ?_
          refine x_callK (n := 2) (st := []) hE (ck_key_7 l D cI cZ a s hok (r * C + c) (rc_lt hr hc)) gL_matrix_X4_key rfl rfl (by decide +kernel) ⟨by decide, by decide⟩ ⟨by decide, by decide⟩ rfl rfl (Nat.le_of_ble_eq_true rfl) dL_matrix_491 (fun v9 w9 hT9 => ?_)
          obtain ⟨rfl, rfl⟩ := hT9
          refine x_at (ws' := (kW cI cZ a s)) (st' := [.int (nI (b2n (kD s (r * C + c))))]) rfl rfl ?_
          refine x_iload hE 12 rfl dL_matrix_494 ?_
          refine xn_icmp_ne hE (b2n_lt _) (b2n_lt _) 512 (by decide) dL_matrix_496 (fun c496 => ?_) (fun c496 => ?_)
          · skip
            exact absurd (hI.db_key hr hc) c496
          · skip
            refine x_aload_n hE 0 rfl dL_matrix_499 ?_
            refine x_iload hE 10 rfl dL_matrix_500 ?_
            refine x_bipush hE (nI 8) (by decide) dL_matrix_502 ?_
            refine x_callK (n := 2) (st := []) hE (ck_key_8 l D cI cZ a s hok (r * C + c) (rc_lt hr hc)) gL_matrix_X4_key rfl rfl (by decide +kernel) ⟨by decide, by decide⟩ ⟨by decide, by decide⟩ rfl rfl (Nat.le_of_ble_eq_true rfl) dL_matrix_504 (fun v9 w9 hT9 => ?_)
            obtain ⟨rfl, rfl⟩ := hT9
            refine x_at (ws' := (kW cI cZ a s)) (st' := [.int (-2)]) rfl rfl ?_
            refine x_bipush hE (-2) (by decide) dL_matrix_507 ?_
            refine x_icmp_eq hE 514 (by decide) dL_matrix_509 (fun c509 => ?_) (fun c509 => ?_)
            · skip
              refine x_iinc hE (nI (c + 1)) [(9, .int (nI (c + 1))), (0, .ref (aH a)), (1, .int (nI R)), (2, .int (nI C)), (3, .int (bI (kdio s))), (4, .int (nI (gcM (kF s) (kG s) (kpos s) (r * C + c + 1)))), (5, .int (nI (dcP (kF s) R C (r * C + c + 1)))), (6, .int (nI (prM (kpos s) (r * C + c + 1)))), (7, .int (nI r)), (8, .int (nI (kcon s r))), (10, .int (nI (r * C + c))), (15, .int (nI (b2n (ghM (kF s) (kG s) (kpos s) (r * C + c))))), (16, .int (nI (b2n (lany (dmQ (kF s) C (r * C + c)) 0 (R * C)))))] 9 rfl (nI_add _ _) (by decide) rfl dL_matrix_514 ?_
              refine x_goto hE 150 (by decide) dL_matrix_517 ?_
              refine x_lv [(0, .ref (aH a)), (1, .int (nI R)), (2, .int (nI C)), (3, .int (bI (kdio s))), (4, .int (nI (gcM (kF s) (kG s) (kpos s) (r * C + c + 1)))), (5, .int (nI (dcP (kF s) R C (r * C + c + 1)))), (6, .int (nI (prM (kpos s) (r * C + c + 1)))), (7, .int (nI r)), (8, .int (nI (kcon s r))), (9, .int (nI (c + 1)))] [1, 2, 3, 4, 5, 6, 7, 8, 9, 0] rfl ?_
              exact ih (c + 1) r (gcM (kF s) (kG s) (kpos s) (r * C + c + 1)) (dcP (kF s) R C (r * C + c + 1)) (prM (kpos s) (r * C + c + 1)) (by omega) (hr) (by rw [Nat.add_assoc]) (by rw [Nat.add_assoc]) (by rw [Nat.add_assoc]) hx
            · skip
              exact absurd rfl c509
  have sg12 : ∀ (n : Nat) (r : Nat) (g4 : Nat) (g5 : Nat) (g6 : Nat) (hi : r + n = R) (e4 : g4 = gcM (kF s) (kG s) (kpos s) (r * C)) (e5 : g5 = dcP (kF s) R C (r * C)) (e6 : g6 = prM (kpos s) (r * C)) (hx : X p9 l e9 { frames := 4, cells := 0, slots := 0, locals := 90 } s9 m9 args9 below9 meth9 cd9 0 0 (MQ below9 (xQ D (fun v8 w8 => v8 = some (.int (bI true)) ∧ w8 = kW cI cZ a s) A) args9 s9 0 0 A) 21 D A (kW cI cZ a s) [(0, .ref (aH a)), (1, .int (nI R)), (2, .int (nI C)), (3, .int (bI (kdio s))), (4, .int (nI (gcM (kF s) (kG s) (kpos s) (R * C)))), (5, .int (nI (dcP (kF s) R C (R * C)))), (6, .int (nI (prM (kpos s) (R * C))))] 526 []), X p9 l e9 { frames := 4, cells := 0, slots := 0, locals := 90 } s9 m9 args9 below9 meth9 cd9 0 0 (MQ below9 (xQ D (fun v8 w8 => v8 = some (.int (bI true)) ∧ w8 = kW cI cZ a s) A) args9 s9 0 0 A) 21 D A (kW cI cZ a s) [(0, .ref (aH a)), (1, .int (nI R)), (2, .int (nI C)), (3, .int (bI (kdio s))), (4, .int (nI g4)), (5, .int (nI g5)), (6, .int (nI g6)), (7, .int (nI r))] 12 [] := by
    intro n
    induction n with
    | zero =>
      intro r g4 g5 g6 hi e4 e5 e6 hx
      refine x_iload hE 7 rfl dL_matrix_12 ?_
      refine x_iload_n hE 1 rfl dL_matrix_14 ?_
      refine xn_icmp_ge hE (by omega) (by omega) 526 (by decide) dL_matrix_15 (fun c15 => ?_) (fun c15 => ?_)
      · skip
        refine x_lv [(0, .ref (aH a)), (1, .int (nI R)), (2, .int (nI C)), (3, .int (bI (kdio s))), (4, .int (nI g4)), (5, .int (nI g5)), (6, .int (nI g6))] [0, 1, 2, 3, 4, 5, 6] rfl ?_
        obtain rfl : r = R := by omega
        subst e4
        subst e5
        subst e6
        exact hx
      · skip
        exfalso; omega
    | succ n ih =>
      intro r g4 g5 g6 hi e4 e5 e6 hx
      refine x_iload hE 7 rfl dL_matrix_12 ?_
      refine x_iload_n hE 1 rfl dL_matrix_14 ?_
      refine xn_icmp_ge hE (by omega) (by omega) 526 (by decide) dL_matrix_15 (fun c15 => ?_) (fun c15 => ?_)
      · skip
        exfalso; omega
      · skip
        refine x_aload_n hE 0 rfl dL_matrix_18 ?_
        refine x_iload hE 7 rfl dL_matrix_19 ?_
        refine x_callK (n := 1) (st := []) hE (ck_connected l D cI cZ a s hok r (by omega)) gL_matrix_X4_connected rfl rfl (by decide +kernel) ⟨by decide, by decide⟩ ⟨by decide, by decide⟩ rfl rfl (Nat.le_of_ble_eq_true rfl) dL_matrix_21 (fun v9 w9 hT9 => ?_)
        obtain ⟨rfl, rfl⟩ := hT9
        refine x_at (ws' := (kW cI cZ a s)) (st' := [.int (nI (kcon s r))]) rfl rfl ?_
        refine x_istore hE [(8, .int (nI (kcon s r))), (0, .ref (aH a)), (1, .int (nI R)), (2, .int (nI C)), (3, .int (bI (kdio s))), (4, .int (nI g4)), (5, .int (nI g5)), (6, .int (nI g6)), (7, .int (nI r))] (by decide) rfl dL_matrix_24 ?_
        have hcr := hcl r (by omega)
        have hb1 : (kcon s r >>> r) &&& 1 < 2 ^ 31 := Nat.lt_of_le_of_lt Nat.and_le_right (by decide)
        refine x_iload hE 0 rfl dL_matrix_26 ?_
        refine x_iload hE 8 rfl dL_matrix_28 ?_
        refine x_ishr hE (nI ((kcon s r) >>> r)) (xI_shr (by omega) (by omega)) dL_matrix_30 ?_
        refine x_iconst hE (nI 1) (by decide) dL_matrix_31 ?_
        refine x_iand hE (nI (((kcon s r) >>> r) &&& 1)) (fa_and _ _) dL_matrix_32 ?_
        refine xn_if_eq hE (by omega) 56 (by decide) dL_matrix_33 (fun c33 => ?_) (fun c33 => ?_)
        · skip
          exact absurd c33 (hmx.1 r (by omega))
        · skip
          refine x_aload_n hE 1 rfl dL_matrix_36 ?_
          refine x_iload_n hE 2 rfl dL_matrix_37 ?_
          refine x_callK (n := 1) (st := []) hE (ck_connected_hi l D cI cZ a s hok  ) gL_matrix_X4_connected rfl rfl (by decide +kernel) ⟨by decide, by decide⟩ ⟨by decide, by decide⟩ rfl rfl (Nat.le_of_ble_eq_true rfl) dL_matrix_38 (fun v9 w9 hT9 => ?_)
          obtain ⟨rfl, rfl⟩ := hT9
          refine x_at (ws' := (kW cI cZ a s)) (st' := [.int (-2)]) rfl rfl ?_
          refine x_bipush hE (-2) (by decide) dL_matrix_41 ?_
          refine x_icmp_ne hE 56 (by decide) dL_matrix_43 (fun c43 => ?_) (fun c43 => ?_)
          · skip
            exact absurd rfl c43
          · skip
            refine x_aload_n hE 1 rfl dL_matrix_46 ?_
            refine x_iconst hE (-1) (by decide) dL_matrix_47 ?_
            refine x_callK (n := 1) (st := []) hE (ck_connected_lo l D cI cZ a s hok  ) gL_matrix_X4_connected rfl rfl (by decide +kernel) ⟨by decide, by decide⟩ ⟨by decide, by decide⟩ rfl rfl (Nat.le_of_ble_eq_true rfl) dL_matrix_48 (fun v9 w9 hT9 => ?_)
            obtain ⟨rfl, rfl⟩ := hT9
            refine x_at (ws' := (kW cI cZ a s)) (st' := [.int (-2)]) rfl rfl ?_
            refine x_bipush hE (-2) (by decide) dL_matrix_51 ?_
            refine x_icmp_eq hE 58 (by decide) dL_matrix_53 (fun c53 => ?_) (fun c53 => ?_)
            · skip
              refine x_iconst hE (nI 0) (by decide) dL_matrix_58 ?_
              refine x_istore hE [(9, .int (nI 0)), (8, .int (nI (kcon s r))), (0, .ref (aH a)), (1, .int (nI R)), (2, .int (nI C)), (3, .int (bI (kdio s))), (4, .int (nI g4)), (5, .int (nI g5)), (6, .int (nI g6)), (7, .int (nI r))] (by decide) rfl dL_matrix_59 ?_
              refine x_lv [(0, .ref (aH a)), (1, .int (nI R)), (2, .int (nI C)), (3, .int (bI (kdio s))), (4, .int (nI g4)), (5, .int (nI g5)), (6, .int (nI g6)), (7, .int (nI r)), (8, .int (nI (kcon s r))), (9, .int (nI 0))] [2, 3, 4, 5, 6, 7, 8, 9, 1, 0] rfl ?_
              refine sg61 R 0 r g4 g5 g6 (Nat.zero_add _) (by omega) ?_
              refine x_iconst hE (nI 0) (by decide) dL_matrix_147 ?_
              refine x_istore hE [(9, .int (nI 0)), (0, .ref (aH a)), (1, .int (nI R)), (2, .int (nI C)), (3, .int (bI (kdio s))), (4, .int (nI g4)), (5, .int (nI g5)), (6, .int (nI g6)), (7, .int (nI r)), (8, .int (nI (kcon s r)))] (by decide) rfl dL_matrix_148 ?_
              refine x_lv [(0, .ref (aH a)), (1, .int (nI R)), (2, .int (nI C)), (3, .int (bI (kdio s))), (4, .int (nI g4)), (5, .int (nI g5)), (6, .int (nI g6)), (7, .int (nI r)), (8, .int (nI (kcon s r))), (9, .int (nI 0))] [1, 2, 3, 4, 5, 6, 7, 8, 9, 0] rfl ?_
              refine sg150 C 0 r g4 g5 g6 (Nat.zero_add _) (by omega) (e4) (e5) (e6) ?_
              refine x_iinc hE (nI (r + 1)) [(7, .int (nI (r + 1))), (0, .ref (aH a)), (1, .int (nI R)), (2, .int (nI C)), (3, .int (bI (kdio s))), (4, .int (nI (gcM (kF s) (kG s) (kpos s) (r * C + C)))), (5, .int (nI (dcP (kF s) R C (r * C + C)))), (6, .int (nI (prM (kpos s) (r * C + C))))] 7 rfl (nI_add _ _) (by decide) rfl dL_matrix_520 ?_
              refine x_goto hE 12 (by decide) dL_matrix_523 ?_
              refine x_lv [(0, .ref (aH a)), (1, .int (nI R)), (2, .int (nI C)), (3, .int (bI (kdio s))), (4, .int (nI (gcM (kF s) (kG s) (kpos s) (r * C + C)))), (5, .int (nI (dcP (kF s) R C (r * C + C)))), (6, .int (nI (prM (kpos s) (r * C + C)))), (7, .int (nI (r + 1)))] [1, 2, 3, 4, 5, 6, 7, 0] rfl ?_
              exact ih (r + 1) (gcM (kF s) (kG s) (kpos s) (r * C + C)) (dcP (kF s) R C (r * C + C)) (prM (kpos s) (r * C + C)) (by omega) (by rw [Nat.succ_mul]) (by rw [Nat.succ_mul]) (by rw [Nat.succ_mul]) hx
            · skip
              exact absurd rfl c53
  refine x_at (ws' := (kW cI cZ a s)) (st' := []) rfl rfl ?_
  refine x_lv [(0, .ref (aH a)), (1, .int (nI R)), (2, .int (nI C)), (3, .int (bI (kdio s)))] [0, 1, 2, 3] rfl ?_
  refine x_iconst hE (nI 0) (by decide) dL_matrix_0 ?_
  refine x_istore hE [(4, .int (nI 0)), (0, .ref (aH a)), (1, .int (nI R)), (2, .int (nI C)), (3, .int (bI (kdio s)))] (by decide) rfl dL_matrix_1 ?_
  refine x_iconst hE (nI 0) (by decide) dL_matrix_3 ?_
  refine x_istore hE [(5, .int (nI 0)), (4, .int (nI 0)), (0, .ref (aH a)), (1, .int (nI R)), (2, .int (nI C)), (3, .int (bI (kdio s)))] (by decide) rfl dL_matrix_4 ?_
  refine x_iconst hE (nI 0) (by decide) dL_matrix_6 ?_
  refine x_istore hE [(6, .int (nI 0)), (5, .int (nI 0)), (4, .int (nI 0)), (0, .ref (aH a)), (1, .int (nI R)), (2, .int (nI C)), (3, .int (bI (kdio s)))] (by decide) rfl dL_matrix_7 ?_
  refine x_iconst hE (nI 0) (by decide) dL_matrix_9 ?_
  refine x_istore hE [(7, .int (nI 0)), (6, .int (nI 0)), (5, .int (nI 0)), (4, .int (nI 0)), (0, .ref (aH a)), (1, .int (nI R)), (2, .int (nI C)), (3, .int (bI (kdio s)))] (by decide) rfl dL_matrix_10 ?_
  refine x_lv [(0, .ref (aH a)), (1, .int (nI R)), (2, .int (nI C)), (3, .int (bI (kdio s))), (4, .int (nI 0)), (5, .int (nI 0)), (6, .int (nI 0)), (7, .int (nI 0))] [4, 5, 6, 7, 3, 2, 1, 0] rfl ?_
  refine sg12 R 0 0 0 0 (Nat.zero_add _) (by rw [Nat.zero_mul]; rfl) (by rw [Nat.zero_mul]; rfl) (by rw [Nat.zero_mul]; rfl) ?_
  have hs4 := gcM_le (kF s) (kG s) (kpos s) (R * C)
  have hs5 := dcP_le (kF s) R C (R * C)
  have hs6 := prM_le (kpos s) (R * C)
  have hs7 := hI.dc_all
  have hs8 := pr_eq (kpos s) (R * C)
  refine x_aload_n hE 0 rfl dL_matrix_526 ?_
  refine x_iconst hE (nI 1) (by decide) dL_matrix_527 ?_
  refine x_callK (n := 1) (st := []) hE (ck_count_1 l D cI cZ a s hok  ) gL_matrix_X4_count rfl rfl (by decide +kernel) ⟨by decide, by decide⟩ ⟨by decide, by decide⟩ rfl rfl (Nat.le_of_ble_eq_true rfl) dL_matrix_528 (fun v9 w9 hT9 => ?_)
  obtain ⟨rfl, rfl⟩ := hT9
  refine x_at (ws' := (kW cI cZ a s)) (st' := [.int (nI (R * C))]) rfl rfl ?_
  refine x_iload_n hE 1 rfl dL_matrix_531 ?_
  refine x_iload_n hE 2 rfl dL_matrix_532 ?_
  refine x_imul hE (nI (R * C)) (xI_mul _ _) dL_matrix_533 ?_
  refine xn_icmp_ne hE (by omega) (by omega) 580 (by decide) dL_matrix_534 (fun c534 => ?_) (fun c534 => ?_)
  · skip
    exact absurd rfl c534
  · skip
    refine x_aload_n hE 0 rfl dL_matrix_537 ?_
    refine x_iconst hE (nI 2) (by decide) dL_matrix_538 ?_
    refine x_callK (n := 1) (st := []) hE (ck_count_2 l D cI cZ a s hok  ) gL_matrix_X4_count rfl rfl (by decide +kernel) ⟨by decide, by decide⟩ ⟨by decide, by decide⟩ rfl rfl (Nat.le_of_ble_eq_true rfl) dL_matrix_539 (fun v9 w9 hT9 => ?_)
    obtain ⟨rfl, rfl⟩ := hT9
    refine x_at (ws' := (kW cI cZ a s)) (st' := [.int (nI (prN (kpos s) (R * C)))]) rfl rfl ?_
    refine x_iload hE 6 rfl dL_matrix_542 ?_
    refine xn_icmp_ne hE (by omega) (by omega) 580 (by decide) dL_matrix_544 (fun c544 => ?_) (fun c544 => ?_)
    · skip
      exact absurd (pr_eq _ _) c544
    · skip
      refine x_aload_n hE 0 rfl dL_matrix_547 ?_
      refine x_iconst hE (nI 3) (by decide) dL_matrix_548 ?_
      refine x_callK (n := 1) (st := []) hE (ck_count_3 l D cI cZ a s hok  ) gL_matrix_X4_count rfl rfl (by decide +kernel) ⟨by decide, by decide⟩ ⟨by decide, by decide⟩ rfl rfl (Nat.le_of_ble_eq_true rfl) dL_matrix_549 (fun v9 w9 hT9 => ?_)
      obtain ⟨rfl, rfl⟩ := hT9
      refine x_at (ws' := (kW cI cZ a s)) (st' := [.int (nI (kgc s))]) rfl rfl ?_
      refine x_iload hE 4 rfl dL_matrix_552 ?_
      refine xn_icmp_ne hE (by omega) (by omega) 580 (by decide) dL_matrix_554 (fun c554 => ?_) (fun c554 => ?_)
      · skip
        exact absurd hI.gc_all c554
      · skip
        refine x_aload_n hE 0 rfl dL_matrix_557 ?_
        refine x_iconst hE (nI 4) (by decide) dL_matrix_558 ?_
        refine x_callK (n := 1) (st := []) hE (ck_count_4 l D cI cZ a s hok  ) gL_matrix_X4_count rfl rfl (by decide +kernel) ⟨by decide, by decide⟩ ⟨by decide, by decide⟩ rfl rfl (Nat.le_of_ble_eq_true rfl) dL_matrix_559 (fun v9 w9 hT9 => ?_)
        obtain ⟨rfl, rfl⟩ := hT9
        refine x_at (ws' := (kW cI cZ a s)) (st' := [.int (nI (dcN (seenN (kdio s) (kcl s) (kjn s)) R C))]) rfl rfl ?_
        refine x_iload hE 5 rfl dL_matrix_562 ?_
        refine xn_icmp_ne hE (by omega) (by omega) 580 (by decide) dL_matrix_564 (fun c564 => ?_) (fun c564 => ?_)
        · skip
          exact absurd hI.dc_all c564
        · skip
          refine x_iload_n hE 3 rfl dL_matrix_567 ?_
          refine xb_if_eq hE 576 (by decide) dL_matrix_568 (fun c568 => ?_) (fun c568 => ?_)
          · skip
            refine x_iconst hE (nI 1) (by decide) dL_matrix_576 ?_
            refine x_goto hE 581 (by decide) dL_matrix_577 ?_
            refine x_eq (bI true) rfl ?_
            exact x_zret hE hr (⟨rfl, rfl⟩) dL_matrix_581
          · skip
            refine x_iload hE 4 rfl dL_matrix_571 ?_
            refine xn_if_ne hE (by omega) 580 (by decide) dL_matrix_573 (fun c573 => ?_) (fun c573 => ?_)
            · skip
              exact absurd (hI.gc_dio c568) c573
            · skip
              refine x_iconst hE (nI 1) (by decide) dL_matrix_576 ?_
              refine x_goto hE 581 (by decide) dL_matrix_577 ?_
              refine x_eq (bI true) rfl ?_
              exact x_zret hE hr (⟨rfl, rfl⟩) dL_matrix_581
