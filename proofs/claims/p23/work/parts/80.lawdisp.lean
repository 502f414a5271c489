set_option maxHeartbeats 8000000 in
set_option maxRecDepth 100000 in
theorem lo_disp {p9 : Program} {l : Launch} {e9 : Env} {s9 : State} {m9 : MethodId} {args9 : Array Value} {below9 : List Frame} {meth9 : Method} {cd9 : Code} {Q : State → Prop} {D : va_G} {cI cZ : ClassId} {A : Nat → Prop} {b L : Nat} {xs : Nat → Int32} {a : KAd} {s : KSt} {R C V N cq zq ev : Nat} (hE : xE p9 s9 m9 args9 meth9 cd9 code RL wsL_law 19 D cI cZ A) (hS9 : va_X b L xs s9 s9.heap ∧ b < s9.heap.size ∧ ¬ A b ∧ L ≤ 1536) (hI : INV s R C V N) (hN : N ≤ 800) (hcz : cq + 36 ≤ 600000 ∧ zq + 2304 ≤ 7302250)  (hev : ev < 34) (hk9 : ∀ (s2 : KSt) (V2 : Nat), INV s2 R C V2 (N + 21) → X p9 l e9 room_1 s9 m9 args9 below9 meth9 cd9 (cq + 36) (zq + 2304) Q 19 D A (kW cI cZ a s2) [(0, .ref b), (1, .ref (aH a)), (3, .int (nI R)), (4, .int (nI C)), (5, .int (nI (R * C))), (6, .int (bI (kdio s2))), (7, .int (bI (kSus s2))), (8, .int (bI (kSos s2))), (9, .int (kRu s2)), (10, .int (kSl s2)), (11, .int (nI V2)), (12, .int (nI ev))] 874 []) : X p9 l e9 room_1 s9 m9 args9 below9 meth9 cd9 cq zq Q 19 D A (kW cI cZ a s) [(0, .ref b), (1, .ref (aH a)), (3, .int (nI R)), (4, .int (nI C)), (5, .int (nI (R * C))), (6, .int (bI (kdio s))), (7, .int (bI (kSus s))), (8, .int (bI (kSos s))), (9, .int (kRu s)), (10, .int (kSl s)), (11, .int (nI V)), (12, .int (nI ev))] 98 [] := by
  have hok := hI.ok (by omega)
  obtain ⟨hRC, hRC1⟩ := hI.rc
  obtain ⟨hR, hC, hV, hpos⟩ : (1 ≤ R ∧ R ≤ 8) ∧ (1 ≤ C ∧ C ≤ 8) ∧ (1 ≤ V ∧ V ≤ 8) ∧ ∀ k, kpos s k ≤ 2 := ⟨hok.2.2.2.1, hok.2.2.2.2.1, hok.2.2.2.2.2.1, hok.2.2.2.2.2.2.1⟩
  have hc9 := hcz.1
  have hz9 := hcz.2
  refine x_iload hE 11 rfl dL_law_98 ?_
  refine x_bipush hE (nI 34) (by decide) dL_law_100 ?_
  refine xn_icmp_ge hE (by omega) (by decide) 909 (by decide) dL_law_102 (fun c102 => ?_) (fun c102 => ?_)
  · skip
    exact absurd hev c102
  · skip
    refine x_aload_n hE 0 rfl dL_law_105 ?_
    refine x_iconst hE (nI 1) (by decide) dL_law_106 ?_
    refine x_iconst hE (nI 2) (by decide) dL_law_107 ?_
    refine x_iload hE 11 rfl dL_law_108 ?_
    refine x_imul hE (nI (2 * ev)) (xI_mul _ _) dL_law_110 ?_
    refine x_iadd hE (nI (1 + (2 * ev))) (nI_add _ _) dL_law_111 ?_
    refine x_callCs (n := 2) (st := []) hE hS9 (kL_cell l D cI cZ hS9.2.2.2 (1 + (2 * ev)) (by omega)) (fun v w h => h.2) gL_law_L_cell rfl (by decide +kernel) ⟨by decide, by decide⟩ ⟨show cq ≤ 600000 by omega, show zq ≤ 7302250 by omega⟩ rfl rfl (Nat.le_of_ble_eq_true rfl) dL_law_112 (fun v9 hT9 => ?_)
    obtain ⟨rfl, -⟩ := hT9
    refine x_at (ws' := (kW cI cZ a s)) (st' := [.int (cellV L xs (1 + (2 * ev)))]) rfl rfl ?_
    refine x_istore hE [(13, .int (cellV L xs (1 + (2 * ev)))), (0, .ref b), (1, .ref (aH a)), (3, .int (nI R)), (4, .int (nI C)), (5, .int (nI (R * C))), (6, .int (bI (kdio s))), (7, .int (bI (kSus s))), (8, .int (bI (kSos s))), (9, .int (kRu s)), (10, .int (kSl s)), (11, .int (nI V)), (12, .int (nI ev))] (by decide) rfl dL_law_115 ?_
    refine x_aload_n hE 1 rfl dL_law_117 ?_
    refine x_iconst hE (nI 2) (by decide) dL_law_118 ?_
    refine x_iconst hE (nI 2) (by decide) dL_law_119 ?_
    refine x_iload hE 12 rfl dL_law_120 ?_
    refine x_imul hE (nI (2 * ev)) (xI_mul _ _) dL_law_122 ?_
    refine x_iadd hE (nI (2 + (2 * ev))) (nI_add _ _) dL_law_123 ?_
    refine x_callCs (n := 2) (st := []) hE hS9 (kL_cell l D cI cZ hS9.2.2.2 (2 + (2 * ev)) (by omega)) (fun v w h => h.2) gL_law_L_cell rfl (by decide +kernel) ⟨by decide, by decide⟩ ⟨show cq ≤ 600000 by omega, show zq ≤ 7302250 by omega⟩ rfl rfl (Nat.le_of_ble_eq_true rfl) dL_law_124 (fun v9 hT9 => ?_)
    obtain ⟨rfl, -⟩ := hT9
    refine x_at (ws' := (kW cI cZ a s)) (st' := [.int (cellV L xs (2 + (2 * ev)))]) rfl rfl ?_
    refine x_istore hE [(14, .int (cellV L xs (2 + (2 * ev)))), (13, .int (cellV L xs (1 + (2 * ev)))), (0, .ref b), (1, .ref (aH a)), (3, .int (nI R)), (4, .int (nI C)), (5, .int (nI (R * C))), (6, .int (bI (kdio s))), (7, .int (bI (kSus s))), (8, .int (bI (kSos s))), (9, .int (kRu s)), (10, .int (kSl s)), (11, .int (nI V)), (12, .int (nI ev))] (by decide) rfl dL_law_127 ?_
    refine x_iload hE 1 rfl dL_law_129 ?_
    refine x_bipush hE (nI 13) (by decide) dL_law_131 ?_
    refine x_callS0 (n := 2) (st := []) hE (kL_low l D cI cZ (cellV L xs (1 + (2 * ev))) 13 (by omega) (by omega)) (fun v w h => h.2) gL_law_L_low rfl (by decide +kernel) ⟨by decide, by decide⟩ ⟨show cq ≤ 600000 by omega, show zq ≤ 7302250 by omega⟩ rfl rfl (Nat.le_of_ble_eq_true rfl) dL_law_133 (fun v9 hT9 => ?_)
    obtain ⟨rfl, -⟩ := hT9
    have hl133 : lowN (cellV L xs (1 + (2 * ev))) 13 < 13 := lowN_lt (by omega)
    refine x_at (ws' := (kW cI cZ a s)) (st' := [.int (nI (lowN (cellV L xs (1 + (2 * ev))) 13))]) rfl rfl ?_
    refine x_istore hE [(15, .int (nI (lowN (cellV L xs (1 + (2 * ev))) 13))), (14, .int (cellV L xs (2 + (2 * ev)))), (13, .int (cellV L xs (1 + (2 * ev)))), (0, .ref b), (1, .ref (aH a)), (3, .int (nI R)), (4, .int (nI C)), (5, .int (nI (R * C))), (6, .int (bI (kdio s))), (7, .int (bI (kSus s))), (8, .int (bI (kSos s))), (9, .int (kRu s)), (10, .int (kSl s)), (11, .int (nI V)), (12, .int (nI ev))] (by decide) rfl dL_law_136 ?_
    refine x_iload hE 2 rfl dL_law_138 ?_
    refine x_iconst hE (nI 4) (by decide) dL_law_140 ?_
    refine x_ishr hE ((cellV L xs (1 + (2 * ev))) >>> ((nI 4) &&& 31)) rfl dL_law_141 ?_
    refine x_istore hE [(13, .int ((cellV L xs (1 + (2 * ev))) >>> ((nI 4) &&& 31))), (15, .int (nI (lowN (cellV L xs (1 + (2 * ev))) 13))), (14, .int (cellV L xs (2 + (2 * ev)))), (0, .ref b), (1, .ref (aH a)), (3, .int (nI R)), (4, .int (nI C)), (5, .int (nI (R * C))), (6, .int (bI (kdio s))), (7, .int (bI (kSus s))), (8, .int (bI (kSos s))), (9, .int (kRu s)), (10, .int (kSl s)), (11, .int (nI V)), (12, .int (nI ev))] (by decide) rfl dL_law_142 ?_
    refine x_iload hE 1 rfl dL_law_144 ?_
    refine x_iconst hE (nI 4) (by decide) dL_law_146 ?_
    refine xn_icmp_ge hE (by omega) (by decide) 247 (by decide) dL_law_147 (fun c147 => ?_) (fun c147 => ?_)
    · skip
      refine x_iload hE 1 rfl dL_law_247 ?_
      refine x_bipush hE (nI 7) (by decide) dL_law_249 ?_
      refine xn_icmp_ge hE (by omega) (by decide) 299 (by decide) dL_law_251 (fun c251 => ?_) (fun c251 => ?_)
      · skip
        refine x_iload hE 1 rfl dL_law_299 ?_
        refine x_bipush hE (nI 7) (by decide) dL_law_301 ?_
        refine xn_icmp_ne hE (by omega) (by decide) 395 (by decide) dL_law_303 (fun c303 => ?_) (fun c303 => ?_)
        · skip
          refine x_iload hE 1 rfl dL_law_395 ?_
          refine x_bipush hE (nI 8) (by decide) dL_law_397 ?_
          refine xn_icmp_ne hE (by omega) (by decide) 432 (by decide) dL_law_399 (fun c399 => ?_) (fun c399 => ?_)
          · skip
            refine x_iload hE 1 rfl dL_law_432 ?_
            refine x_bipush hE (nI 9) (by decide) dL_law_434 ?_
            refine xn_icmp_ne hE (by omega) (by decide) 565 (by decide) dL_law_436 (fun c436 => ?_) (fun c436 => ?_)
            · skip
              refine x_iload hE 1 rfl dL_law_565 ?_
              refine x_bipush hE (nI 10) (by decide) dL_law_567 ?_
              refine xn_icmp_ne hE (by omega) (by decide) 704 (by decide) dL_law_569 (fun c569 => ?_) (fun c569 => ?_)
              · skip
                refine x_iload hE 1 rfl dL_law_704 ?_
                refine x_bipush hE (nI 11) (by decide) dL_law_706 ?_
                refine xn_icmp_ne hE (by omega) (by decide) 798 (by decide) dL_law_708 (fun c708 => ?_) (fun c708 => ?_)
                · skip
                  refine x_lv [(0, .ref b), (1, .ref (aH a)), (3, .int (nI R)), (4, .int (nI C)), (5, .int (nI (R * C))), (6, .int (bI (kdio s))), (7, .int (bI (kSus s))), (8, .int (bI (kSos s))), (9, .int (kRu s)), (10, .int (kSl s)), (11, .int (nI V)), (12, .int (nI ev)), (13, .int ((cellV L xs (1 + (2 * ev))) >>> ((nI 4) &&& 31))), (14, .int (cellV L xs (2 + (2 * ev))))] [3, 4, 5, 6, 7, 8, 9, 10, 11, 12, 13, 14, 0, 2] rfl ?_
                  exact lo_last hE hS9 hI hN hcz ((cellV L xs (1 + (2 * ev))) >>> ((nI 4) &&& 31)) (cellV L xs (2 + (2 * ev))) hk9
                · skip
                  refine x_lv [(0, .ref b), (1, .ref (aH a)), (3, .int (nI R)), (4, .int (nI C)), (5, .int (nI (R * C))), (6, .int (bI (kdio s))), (7, .int (bI (kSus s))), (8, .int (bI (kSos s))), (9, .int (kRu s)), (10, .int (kSl s)), (11, .int (nI V)), (12, .int (nI ev)), (13, .int ((cellV L xs (1 + (2 * ev))) >>> ((nI 4) &&& 31))), (14, .int (cellV L xs (2 + (2 * ev))))] [3, 4, 5, 6, 7, 8, 9, 10, 11, 12, 13, 14, 0, 2] rfl ?_
                  exact lo_switch hE hS9 hI hN hcz ((cellV L xs (1 + (2 * ev))) >>> ((nI 4) &&& 31)) (cellV L xs (2 + (2 * ev))) hk9
              · skip
                refine x_lv [(0, .ref b), (1, .ref (aH a)), (3, .int (nI R)), (4, .int (nI C)), (5, .int (nI (R * C))), (6, .int (bI (kdio s))), (7, .int (bI (kSus s))), (8, .int (bI (kSos s))), (9, .int (kRu s)), (10, .int (kSl s)), (11, .int (nI V)), (12, .int (nI ev)), (13, .int ((cellV L xs (1 + (2 * ev))) >>> ((nI 4) &&& 31))), (14, .int (cellV L xs (2 + (2 * ev))))] [3, 4, 5, 6, 7, 8, 9, 10, 11, 12, 13, 14, 0, 2] rfl ?_
                exact lo_slope hE hS9 hI hN hcz ((cellV L xs (1 + (2 * ev))) >>> ((nI 4) &&& 31)) (cellV L xs (2 + (2 * ev))) hk9
            · skip
              refine x_lv [(0, .ref b), (1, .ref (aH a)), (3, .int (nI R)), (4, .int (nI C)), (5, .int (nI (R * C))), (6, .int (bI (kdio s))), (7, .int (bI (kSus s))), (8, .int (bI (kSos s))), (9, .int (kRu s)), (10, .int (kSl s)), (11, .int (nI V)), (12, .int (nI ev)), (13, .int ((cellV L xs (1 + (2 * ev))) >>> ((nI 4) &&& 31))), (14, .int (cellV L xs (2 + (2 * ev))))] [3, 4, 5, 6, 7, 8, 9, 10, 11, 12, 13, 14, 0, 2] rfl ?_
              exact lo_voices hE hS9 hI hN hcz ((cellV L xs (1 + (2 * ev))) >>> ((nI 4) &&& 31)) (cellV L xs (2 + (2 * ev))) hk9
          · skip
            refine x_lv [(0, .ref b), (1, .ref (aH a)), (3, .int (nI R)), (4, .int (nI C)), (5, .int (nI (R * C))), (6, .int (bI (kdio s))), (7, .int (bI (kSus s))), (8, .int (bI (kSos s))), (9, .int (kRu s)), (10, .int (kSl s)), (11, .int (nI V)), (12, .int (nI ev)), (13, .int ((cellV L xs (1 + (2 * ev))) >>> ((nI 4) &&& 31))), (14, .int (cellV L xs (2 + (2 * ev))))] [3, 4, 5, 6, 7, 8, 9, 10, 11, 12, 13, 14, 0, 2] rfl ?_
            exact lo_diodes hE hS9 hI hN hcz ((cellV L xs (1 + (2 * ev))) >>> ((nI 4) &&& 31)) (cellV L xs (2 + (2 * ev))) hk9
        · skip
          refine x_lv [(0, .ref b), (1, .ref (aH a)), (3, .int (nI R)), (4, .int (nI C)), (5, .int (nI (R * C))), (6, .int (bI (kdio s))), (7, .int (bI (kSus s))), (8, .int (bI (kSos s))), (9, .int (kRu s)), (10, .int (kSl s)), (11, .int (nI V)), (12, .int (nI ev)), (13, .int ((cellV L xs (1 + (2 * ev))) >>> ((nI 4) &&& 31))), (14, .int (cellV L xs (2 + (2 * ev))))] [3, 4, 5, 6, 7, 8, 9, 10, 11, 12, 13, 14, 0, 2] rfl ?_
          exact lo_pedals hE hS9 hI hN hcz ((cellV L xs (1 + (2 * ev))) >>> ((nI 4) &&& 31)) (cellV L xs (2 + (2 * ev))) hk9
      · skip
        refine x_lv [(0, .ref b), (1, .ref (aH a)), (3, .int (nI R)), (4, .int (nI C)), (5, .int (nI (R * C))), (6, .int (bI (kdio s))), (7, .int (bI (kSus s))), (8, .int (bI (kSos s))), (9, .int (kRu s)), (10, .int (kSl s)), (11, .int (nI V)), (12, .int (nI ev)), (13, .int ((cellV L xs (1 + (2 * ev))) >>> ((nI 4) &&& 31))), (14, .int (cellV L xs (2 + (2 * ev))))] [3, 4, 5, 6, 7, 8, 9, 10, 11, 12, 13, 14, 0, 2] rfl ?_
        exact lo_ticks hE hS9 hI hN hcz ((cellV L xs (1 + (2 * ev))) >>> ((nI 4) &&& 31)) (cellV L xs (2 + (2 * ev))) hk9
    · skip
      refine x_lv [(0, .ref b), (1, .ref (aH a)), (3, .int (nI R)), (4, .int (nI C)), (5, .int (nI (R * C))), (6, .int (bI (kdio s))), (7, .int (bI (kSus s))), (8, .int (bI (kSos s))), (9, .int (kRu s)), (10, .int (kSl s)), (11, .int (nI V)), (12, .int (nI ev)), (13, .int ((cellV L xs (1 + (2 * ev))) >>> ((nI 4) &&& 31))), (14, .int (cellV L xs (2 + (2 * ev))))] [3, 4, 5, 6, 7, 8, 9, 10, 11, 12, 13, 14, 0, 2] rfl ?_
      exact lo_key hE hS9 hI hN hcz ((cellV L xs (1 + (2 * ev))) >>> ((nI 4) &&& 31)) (cellV L xs (2 + (2 * ev))) hk9
set_option maxHeartbeats 8000000 in
set_option maxRecDepth 100000 in
theorem lo_tail {p9 : Program} {l : Launch} {e9 : Env} {s9 : State} {m9 : MethodId} {args9 : Array Value} {below9 : List Frame} {meth9 : Method} {cd9 : Code} {Q : State → Prop} {D : va_G} {cI cZ : ClassId} {A : Nat → Prop} {b L : Nat} {xs : Nat → Int32} {a : KAd} {s : KSt} {R C V N cq zq ev : Nat} (hE : xE p9 s9 m9 args9 meth9 cd9 code RL wsL_law 19 D cI cZ A) (hS9 : va_X b L xs s9 s9.heap ∧ b < s9.heap.size ∧ ¬ A b ∧ L ≤ 1536) (hI : INV s R C V N) (hN : N ≤ 900) (hc9 : cq ≤ 600000) (hz9 : zq ≤ 7302250) (hev : ev < 34) (hk9 : X p9 l e9 room_1 s9 m9 args9 below9 meth9 cd9 cq zq Q 19 D A (kW cI cZ a s) [(0, .ref b), (1, .ref (aH a)), (3, .int (nI R)), (4, .int (nI C)), (5, .int (nI (R * C))), (6, .int (bI (kdio s))), (7, .int (bI (kSus s))), (8, .int (bI (kSos s))), (9, .int (kRu s)), (10, .int (kSl s)), (11, .int (nI V)), (12, .int (nI (ev + 1)))] 98 []) : X p9 l e9 room_1 s9 m9 args9 below9 meth9 cd9 cq zq Q 19 D A (kW cI cZ a s) [(0, .ref b), (1, .ref (aH a)), (3, .int (nI R)), (4, .int (nI C)), (5, .int (nI (R * C))), (6, .int (bI (kdio s))), (7, .int (bI (kSus s))), (8, .int (bI (kSos s))), (9, .int (kRu s)), (10, .int (kSl s)), (11, .int (nI V)), (12, .int (nI ev))] 874 [] := by
  obtain ⟨hRC, hRC1⟩ := hI.rc
  have hok := hI.ok (by omega)
  obtain ⟨hR, hC, hV⟩ : (1 ≤ R ∧ R ≤ 8) ∧ (1 ≤ C ∧ C ≤ 8) ∧ (1 ≤ V ∧ V ≤ 8) := ⟨hok.2.2.2.1, hok.2.2.2.2.1, hok.2.2.2.2.2.1⟩
  refine x_aload_n hE 1 rfl dL_law_874 ?_
  refine x_iload_n hE 2 rfl dL_law_875 ?_
  refine x_iload hE 3 rfl dL_law_876 ?_
  refine x_iload hE 5 rfl dL_law_878 ?_
  refine x_callSK (n := 4) (st := []) hE (kL_matrix l D cI cZ a s  hI (by omega)) gL_law_L_matrix rfl (by decide +kernel) ⟨by decide, by decide⟩ ⟨show cq ≤ 600000 by omega, show zq ≤ 7302250 by omega⟩ rfl rfl (Nat.le_of_ble_eq_true rfl) dL_law_880 (fun v9 w9 hT9 => ?_)
  obtain ⟨rfl, rfl⟩ := hT9
  refine x_at (ws' := (kW cI cZ a s)) (st' := [.int (bI true)]) rfl rfl ?_
  refine xb_if_eq hE 901 (by decide) dL_law_883 (fun c883 => ?_) (fun c883 => ?_)
  · skip
    exact absurd c883 (by decide)
  · skip
    refine x_aload_n hE 1 rfl dL_law_886 ?_
    refine x_iload hE 8 rfl dL_law_887 ?_
    refine x_iload hE 6 rfl dL_law_889 ?_
    refine x_iload hE 7 rfl dL_law_891 ?_
    refine x_iload hE 4 rfl dL_law_893 ?_
    refine x_callSK (n := 5) (st := []) hE (kL_voices l D cI cZ a s  hI (by omega)) gL_law_L_voices rfl (by decide +kernel) ⟨by decide, by decide⟩ ⟨show cq ≤ 600000 by omega, show zq ≤ 7302250 by omega⟩ rfl rfl (Nat.le_of_ble_eq_true rfl) dL_law_895 (fun v9 w9 hT9 => ?_)
    obtain ⟨rfl, rfl⟩ := hT9
    refine x_at (ws' := (kW cI cZ a s)) (st' := [.int (bI true)]) rfl rfl ?_
    refine xb_if_ne hE 903 (by decide) dL_law_898 (fun c898 => ?_) (fun c898 => ?_)
    · skip
      refine x_iinc hE (nI (ev + 1)) [(12, .int (nI (ev + 1))), (0, .ref b), (1, .ref (aH a)), (3, .int (nI R)), (4, .int (nI C)), (5, .int (nI (R * C))), (6, .int (bI (kdio s))), (7, .int (bI (kSus s))), (8, .int (bI (kSos s))), (9, .int (kRu s)), (10, .int (kSl s)), (11, .int (nI V))] 11 rfl (nI_add _ _) (by decide) rfl dL_law_903 ?_
      refine x_goto hE 98 (by decide) dL_law_906 ?_
      refine x_lv [(0, .ref b), (1, .ref (aH a)), (3, .int (nI R)), (4, .int (nI C)), (5, .int (nI (R * C))), (6, .int (bI (kdio s))), (7, .int (bI (kSus s))), (8, .int (bI (kSos s))), (9, .int (kRu s)), (10, .int (kSl s)), (11, .int (nI V)), (12, .int (nI (ev + 1)))] [1, 2, 3, 4, 5, 6, 7, 8, 9, 10, 11, 0] rfl ?_
      exact hk9
    · skip
      exact absurd c898 (by decide)
set_option maxHeartbeats 8000000 in
set_option maxRecDepth 100000 in
theorem lo_start {p9 : Program} {l : Launch} {e9 : Env} {s9 : State} {m9 : MethodId} {args9 : Array Value} {below9 : List Frame} {meth9 : Method} {cd9 : Code} {Q : State → Prop} {D : va_G} {cI cZ : ClassId} {A : Nat → Prop} {b L : Nat} {xs : Nat → Int32} {a : KAd} {cq zq : Nat} (hE : xE p9 s9 m9 args9 meth9 cd9 code RL wsL_law 19 D cI cZ A) (hS9 : va_X b L xs s9 s9.heap ∧ b < s9.heap.size ∧ ¬ A b ∧ L ≤ 1536) (hc9 : cq ≤ 600000) (hz9 : zq ≤ 7302250) (hk9 : ∀ R C : Nat, 1 ≤ R ∧ R ≤ 8 → 1 ≤ C ∧ C ≤ 8 → X p9 l e9 room_1 s9 m9 args9 below9 meth9 cd9 cq zq Q 19 D A (kW cI cZ a (rsS K0 R C)) [(0, .ref b), (1, .ref (aH a)), (3, .int (nI R)), (4, .int (nI C)), (5, .int (nI (R * C))), (6, .int (bI (kdio (rsS K0 R C)))), (7, .int (bI (kSus (rsS K0 R C)))), (8, .int (bI (kSos (rsS K0 R C)))), (9, .int (kRu (rsS K0 R C))), (10, .int (kSl (rsS K0 R C))), (11, .int (nI 4)), (12, .int (nI 0))] 98 []) : X p9 l e9 room_1 s9 m9 args9 below9 meth9 cd9 cq zq Q 19 D A (kW cI cZ a K0) [(0, .ref b)] 7 [.ref (aH a)] := by
  refine x_astore_n hE [(1, .ref (aH a)), (0, .ref b)] (by decide) rfl dL_law_7 ?_
  refine x_aload_n hE 1 rfl dL_law_8 ?_
  refine x_iconst hE (nI 0) (by decide) dL_law_9 ?_
  refine x_callCs (n := 2) (st := []) hE hS9 (kL_cell l D cI cZ hS9.2.2.2 0 (by omega)) (fun v w h => h.2) gL_law_L_cell rfl (by decide +kernel) ⟨by decide, by decide⟩ ⟨show cq ≤ 600000 by omega, show zq ≤ 7302250 by omega⟩ rfl rfl (Nat.le_of_ble_eq_true rfl) dL_law_10 (fun v9 hT9 => ?_)
  obtain ⟨rfl, -⟩ := hT9
  refine x_at (ws' := (kW cI cZ a K0)) (st' := [.int (cellV L xs 0)]) rfl rfl ?_
  refine x_istore_n hE [(2, .int (cellV L xs 0)), (1, .ref (aH a)), (0, .ref b)] (by decide) rfl dL_law_13 ?_
  refine x_iconst hE (nI 1) (by decide) dL_law_14 ?_
  refine x_iload_n hE 0 rfl dL_law_15 ?_
  refine x_iconst hE (nI 5) (by decide) dL_law_16 ?_
  refine x_callS0 (n := 2) (st := [.int (nI 1)]) hE (kL_low l D cI cZ (cellV L xs 0) 5 (by omega) (by omega)) (fun v w h => h.2) gL_law_L_low rfl (by decide +kernel) ⟨by decide, by decide⟩ ⟨show cq ≤ 600000 by omega, show zq ≤ 7302250 by omega⟩ rfl rfl (Nat.le_of_ble_eq_true rfl) dL_law_17 (fun v9 hT9 => ?_)
  obtain ⟨rfl, -⟩ := hT9
  have hl17 : lowN (cellV L xs 0) 5 < 5 := lowN_lt (by omega)
  refine x_at (ws' := (kW cI cZ a K0)) (st' := [.int (nI (lowN (cellV L xs 0) 5)), .int (nI 1)]) rfl rfl ?_
  refine x_iadd hE (nI (1 + (lowN (cellV L xs 0) 5))) (nI_add _ _) dL_law_20 ?_
  refine x_istore_n hE [(3, .int (nI (1 + (lowN (cellV L xs 0) 5)))), (2, .int (cellV L xs 0)), (1, .ref (aH a)), (0, .ref b)] (by decide) rfl dL_law_21 ?_
  refine x_iconst hE (nI 1) (by decide) dL_law_22 ?_
  refine x_iload_n hE 1 rfl dL_law_23 ?_
  refine x_iconst hE (nI 3) (by decide) dL_law_24 ?_
  refine x_ishr hE ((cellV L xs 0) >>> ((nI 3) &&& 31)) rfl dL_law_25 ?_
  refine x_iconst hE (nI 5) (by decide) dL_law_26 ?_
  refine x_callS0 (n := 2) (st := [.int (nI 1)]) hE (kL_low l D cI cZ ((cellV L xs 0) >>> ((nI 3) &&& 31)) 5 (by omega) (by omega)) (fun v w h => h.2) gL_law_L_low rfl (by decide +kernel) ⟨by decide, by decide⟩ ⟨show cq ≤ 600000 by omega, show zq ≤ 7302250 by omega⟩ rfl rfl (Nat.le_of_ble_eq_true rfl) dL_law_27 (fun v9 hT9 => ?_)
  obtain ⟨rfl, -⟩ := hT9
  have hl27 : lowN ((cellV L xs 0) >>> ((nI 3) &&& 31)) 5 < 5 := lowN_lt (by omega)
  refine x_at (ws' := (kW cI cZ a K0)) (st' := [.int (nI (lowN ((cellV L xs 0) >>> ((nI 3) &&& 31)) 5)), .int (nI 1)]) rfl rfl ?_
  refine x_iadd hE (nI (1 + (lowN ((cellV L xs 0) >>> ((nI 3) &&& 31)) 5))) (nI_add _ _) dL_law_30 ?_
  refine x_istore hE [(4, .int (nI (1 + (lowN ((cellV L xs 0) >>> ((nI 3) &&& 31)) 5)))), (3, .int (nI (1 + (lowN (cellV L xs 0) 5)))), (2, .int (cellV L xs 0)), (1, .ref (aH a)), (0, .ref b)] (by decide) rfl dL_law_31 ?_
  refine x_iload_n hE 1 rfl dL_law_33 ?_
  refine x_iload hE 0 rfl dL_law_34 ?_
  refine x_imul hE (nI ((1 + (lowN (cellV L xs 0) 5)) * (1 + (lowN ((cellV L xs 0) >>> ((nI 3) &&& 31)) 5)))) (xI_mul _ _) dL_law_36 ?_
  refine x_istore hE [(5, .int (nI ((1 + (lowN (cellV L xs 0) 5)) * (1 + (lowN ((cellV L xs 0) >>> ((nI 3) &&& 31)) 5))))), (4, .int (nI (1 + (lowN ((cellV L xs 0) >>> ((nI 3) &&& 31)) 5)))), (3, .int (nI (1 + (lowN (cellV L xs 0) 5)))), (2, .int (cellV L xs 0)), (1, .ref (aH a)), (0, .ref b)] (by decide) rfl dL_law_37 ?_
  refine x_iconst hE (nI 0) (by decide) dL_law_39 ?_
  refine x_istore hE [(6, .int (nI 0)), (5, .int (nI ((1 + (lowN (cellV L xs 0) 5)) * (1 + (lowN ((cellV L xs 0) >>> ((nI 3) &&& 31)) 5))))), (4, .int (nI (1 + (lowN ((cellV L xs 0) >>> ((nI 3) &&& 31)) 5)))), (3, .int (nI (1 + (lowN (cellV L xs 0) 5)))), (2, .int (cellV L xs 0)), (1, .ref (aH a)), (0, .ref b)] (by decide) rfl dL_law_40 ?_
  refine x_iconst hE (nI 0) (by decide) dL_law_42 ?_
  refine x_istore hE [(7, .int (nI 0)), (6, .int (nI 0)), (5, .int (nI ((1 + (lowN (cellV L xs 0) 5)) * (1 + (lowN ((cellV L xs 0) >>> ((nI 3) &&& 31)) 5))))), (4, .int (nI (1 + (lowN ((cellV L xs 0) >>> ((nI 3) &&& 31)) 5)))), (3, .int (nI (1 + (lowN (cellV L xs 0) 5)))), (2, .int (cellV L xs 0)), (1, .ref (aH a)), (0, .ref b)] (by decide) rfl dL_law_43 ?_
  refine x_iconst hE (nI 0) (by decide) dL_law_45 ?_
  refine x_istore hE [(8, .int (nI 0)), (7, .int (nI 0)), (6, .int (nI 0)), (5, .int (nI ((1 + (lowN (cellV L xs 0) 5)) * (1 + (lowN ((cellV L xs 0) >>> ((nI 3) &&& 31)) 5))))), (4, .int (nI (1 + (lowN ((cellV L xs 0) >>> ((nI 3) &&& 31)) 5)))), (3, .int (nI (1 + (lowN (cellV L xs 0) 5)))), (2, .int (cellV L xs 0)), (1, .ref (aH a)), (0, .ref b)] (by decide) rfl dL_law_46 ?_
  refine x_iconst hE (nI 0) (by decide) dL_law_48 ?_
  refine x_istore hE [(9, .int (nI 0)), (8, .int (nI 0)), (7, .int (nI 0)), (6, .int (nI 0)), (5, .int (nI ((1 + (lowN (cellV L xs 0) 5)) * (1 + (lowN ((cellV L xs 0) >>> ((nI 3) &&& 31)) 5))))), (4, .int (nI (1 + (lowN ((cellV L xs 0) >>> ((nI 3) &&& 31)) 5)))), (3, .int (nI (1 + (lowN (cellV L xs 0) 5)))), (2, .int (cellV L xs 0)), (1, .ref (aH a)), (0, .ref b)] (by decide) rfl dL_law_49 ?_
  refine x_bipush hE (nI 8) (by decide) dL_law_51 ?_
  refine x_istore hE [(10, .int (nI 8)), (9, .int (nI 0)), (8, .int (nI 0)), (7, .int (nI 0)), (6, .int (nI 0)), (5, .int (nI ((1 + (lowN (cellV L xs 0) 5)) * (1 + (lowN ((cellV L xs 0) >>> ((nI 3) &&& 31)) 5))))), (4, .int (nI (1 + (lowN ((cellV L xs 0) >>> ((nI 3) &&& 31)) 5)))), (3, .int (nI (1 + (lowN (cellV L xs 0) 5)))), (2, .int (cellV L xs 0)), (1, .ref (aH a)), (0, .ref b)] (by decide) rfl dL_law_53 ?_
  refine x_iconst hE (nI 4) (by decide) dL_law_55 ?_
  refine x_istore hE [(11, .int (nI 4)), (10, .int (nI 8)), (9, .int (nI 0)), (8, .int (nI 0)), (7, .int (nI 0)), (6, .int (nI 0)), (5, .int (nI ((1 + (lowN (cellV L xs 0) 5)) * (1 + (lowN ((cellV L xs 0) >>> ((nI 3) &&& 31)) 5))))), (4, .int (nI (1 + (lowN ((cellV L xs 0) >>> ((nI 3) &&& 31)) 5)))), (3, .int (nI (1 + (lowN (cellV L xs 0) 5)))), (2, .int (cellV L xs 0)), (1, .ref (aH a)), (0, .ref b)] (by decide) rfl dL_law_56 ?_
  refine x_aload_n hE 10 rfl dL_law_58 ?_
  refine x_iload_n hE 8 rfl dL_law_59 ?_
  refine x_iload hE 7 rfl dL_law_60 ?_
  refine x_callK (n := 2) (st := []) hE (ck_reset l D cI cZ a K0 K0_ok (1 + (lowN (cellV L xs 0) 5)) (1 + (lowN ((cellV L xs 0) >>> ((nI 3) &&& 31)) 5)) (⟨by omega, by omega⟩) (⟨by omega, by omega⟩)) gL_law_X4_reset rfl rfl (by decide +kernel) ⟨by decide, by decide⟩ ⟨show cq ≤ 600000 by omega, show zq ≤ 7302250 by omega⟩ rfl rfl (Nat.le_of_ble_eq_true rfl) dL_law_62 (fun v9 w9 hT9 => ?_)
  obtain ⟨rfl, rfl⟩ := hT9
  refine x_at (ws' := (kW cI cZ a (rsS K0 (1 + (lowN (cellV L xs 0) 5)) (1 + (lowN ((cellV L xs 0) >>> ((nI 3) &&& 31)) 5))))) (st' := [.int (nI ((1 + (lowN (cellV L xs 0) 5)) * (1 + (lowN ((cellV L xs 0) >>> ((nI 3) &&& 31)) 5))))]) rfl rfl ?_
  refine x_iload hE 6 rfl dL_law_65 ?_
  refine xn_icmp_ne hE (Nat.lt_of_le_of_lt (Nat.mul_le_mul (show 1 + (lowN (cellV L xs 0) 5) ≤ 8 by omega) (show 1 + (lowN ((cellV L xs 0) >>> ((nI 3) &&& 31)) 5) ≤ 8 by omega)) (by decide)) (Nat.lt_of_le_of_lt (Nat.mul_le_mul (show 1 + (lowN (cellV L xs 0) 5) ≤ 8 by omega) (show 1 + (lowN ((cellV L xs 0) >>> ((nI 3) &&& 31)) 5) ≤ 8 by omega)) (by decide)) 93 (by decide) dL_law_67 (fun c67 => ?_) (fun c67 => ?_)
  · skip
    exact absurd rfl c67
  · skip
    refine x_aload_n hE 10 rfl dL_law_70 ?_
    refine x_iconst hE (nI 0) (by decide) dL_law_71 ?_
    refine x_iconst hE (nI 1) (by decide) dL_law_72 ?_
    refine x_callK (n := 2) (st := []) hE (ck_reset_lo l D cI cZ a (rsS K0 (1 + (lowN (cellV L xs 0) 5)) (1 + (lowN ((cellV L xs 0) >>> ((nI 3) &&& 31)) 5))) (K0_ok.rs ⟨by omega, by omega⟩ ⟨by omega, by omega⟩)  ) gL_law_X4_reset rfl rfl (by decide +kernel) ⟨by decide, by decide⟩ ⟨show cq ≤ 600000 by omega, show zq ≤ 7302250 by omega⟩ rfl rfl (Nat.le_of_ble_eq_true rfl) dL_law_73 (fun v9 w9 hT9 => ?_)
    obtain ⟨rfl, rfl⟩ := hT9
    refine x_at (ws' := (kW cI cZ a (rsS K0 (1 + (lowN (cellV L xs 0) 5)) (1 + (lowN ((cellV L xs 0) >>> ((nI 3) &&& 31)) 5))))) (st' := [.int (-2)]) rfl rfl ?_
    refine x_bipush hE (-2) (by decide) dL_law_76 ?_
    refine x_icmp_ne hE 93 (by decide) dL_law_78 (fun c78 => ?_) (fun c78 => ?_)
    · skip
      exact absurd rfl c78
    · skip
      refine x_aload_n hE 10 rfl dL_law_81 ?_
      refine x_iconst hE (nI 1) (by decide) dL_law_82 ?_
      refine x_bipush hE (nI 9) (by decide) dL_law_83 ?_
      refine x_callK (n := 2) (st := []) hE (ck_reset_hi l D cI cZ a (rsS K0 (1 + (lowN (cellV L xs 0) 5)) (1 + (lowN ((cellV L xs 0) >>> ((nI 3) &&& 31)) 5))) (K0_ok.rs ⟨by omega, by omega⟩ ⟨by omega, by omega⟩)  ) gL_law_X4_reset rfl rfl (by decide +kernel) ⟨by decide, by decide⟩ ⟨show cq ≤ 600000 by omega, show zq ≤ 7302250 by omega⟩ rfl rfl (Nat.le_of_ble_eq_true rfl) dL_law_85 (fun v9 w9 hT9 => ?_)
      obtain ⟨rfl, rfl⟩ := hT9
      refine x_at (ws' := (kW cI cZ a (rsS K0 (1 + (lowN (cellV L xs 0) 5)) (1 + (lowN ((cellV L xs 0) >>> ((nI 3) &&& 31)) 5))))) (st' := [.int (-2)]) rfl rfl ?_
      refine x_bipush hE (-2) (by decide) dL_law_88 ?_
      refine x_icmp_eq hE 95 (by decide) dL_law_90 (fun c90 => ?_) (fun c90 => ?_)
      · skip
        refine x_iconst hE (nI 0) (by decide) dL_law_95 ?_
        refine x_istore hE [(12, .int (nI 0)), (11, .int (nI 4)), (10, .int (nI 8)), (9, .int (nI 0)), (8, .int (nI 0)), (7, .int (nI 0)), (6, .int (nI 0)), (5, .int (nI ((1 + (lowN (cellV L xs 0) 5)) * (1 + (lowN ((cellV L xs 0) >>> ((nI 3) &&& 31)) 5))))), (4, .int (nI (1 + (lowN ((cellV L xs 0) >>> ((nI 3) &&& 31)) 5)))), (3, .int (nI (1 + (lowN (cellV L xs 0) 5)))), (2, .int (cellV L xs 0)), (1, .ref (aH a)), (0, .ref b)] (by decide) rfl dL_law_96 ?_
        refine x_lv [(0, .ref b), (1, .ref (aH a)), (3, .int (nI (1 + (lowN (cellV L xs 0) 5)))), (4, .int (nI (1 + (lowN ((cellV L xs 0) >>> ((nI 3) &&& 31)) 5)))), (5, .int (nI ((1 + (lowN (cellV L xs 0) 5)) * (1 + (lowN ((cellV L xs 0) >>> ((nI 3) &&& 31)) 5))))), (6, .int (nI 0)), (7, .int (nI 0)), (8, .int (nI 0)), (9, .int (nI 0)), (10, .int (nI 8)), (11, .int (nI 4)), (12, .int (nI 0))] [12, 11, 9, 8, 7, 6, 5, 4, 3, 2, 1, 0] rfl ?_
        exact hk9 (1 + (lowN (cellV L xs 0) 5)) (1 + (lowN ((cellV L xs 0) >>> ((nI 3) &&& 31)) 5)) ⟨by omega, by omega⟩ ⟨by omega, by omega⟩
      · skip
        exact absurd rfl c90
