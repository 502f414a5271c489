set_option maxHeartbeats 8000000 in
set_option maxRecDepth 100000 in
theorem kL_worst (l : Launch) (D : va_G) (cI cZ : ClassId) (a : KAd) (s : KSt) {R C V N : Nat}  (hI : INV s R C V N) (hN : N ≤ 3000) : xC l yL_worst wsL_worst 6 0 0 137 D cI cZ [.ref (aH a), .int (nI (R * C))] (kW cI cZ a s) (fun v8 w8 => v8 = some (.int (bI true)) ∧ w8 = kW cI cZ a s) := by
  refine xC.of (bytes := cL_worst) (maxL := 7) (ret := (some .boolean)) (own := RL) (by decide +kernel) rfl (Nat.le_of_ble_eq_true rfl) rfl ?_
  intro p9 e9 s9 m9 args9 below9 meth9 cd9 A hE hr hin2 hA9
  have hok := hI.ok (by omega)
  obtain ⟨hRC, hRC1⟩ := hI.rc
  obtain ⟨hR, hC, hV, hpos⟩ : (1 ≤ R ∧ R ≤ 8) ∧ (1 ≤ C ∧ C ≤ 8) ∧ (1 ≤ V ∧ V ≤ 8) ∧ ∀ k, kpos s k ≤ 2 := ⟨hok.2.2.2.1, hok.2.2.2.2.1, hok.2.2.2.2.2.1, hok.2.2.2.2.2.2.1⟩
  have sg18 : ∀ (n : Nat) (i : Nat) (b : Int32) (ls : Nat) (hi : i + n = R * C) (hl : ls ≤ 64) (hT : wxL (kpos s) (gwN (kdio s) (kcl s) (kjn s) (kdl s) (kdn s) R C) i n (b, ls) = (wxL (kpos s) (gwN (kdio s) (kcl s) (kjn s) (kdl s) (kdn s) R C) 0 (R * C) ((-3), kgc s))) (hx : X p9 l e9 { frames := 6, cells := 0, slots := 0, locals := 137 } s9 m9 args9 below9 meth9 cd9 0 0 (MQ below9 (xQ D (fun v8 w8 => v8 = some (.int (bI true)) ∧ w8 = kW cI cZ a s) A) args9 s9 0 0 A) 7 D A (kW cI cZ a s) [(3, .int (wxL (kpos s) (gwN (kdio s) (kcl s) (kjn s) (kdl s) (kdn s) R C) 0 (R * C) ((-3), kgc s))), (4, .int (wxL (kpos s) (gwN (kdio s) (kcl s) (kjn s) (kdl s) (kdn s) R C) 0 (R * C) ((-3), kgc s)))] 106 []), X p9 l e9 { frames := 6, cells := 0, slots := 0, locals := 137 } s9 m9 args9 below9 meth9 cd9 0 0 (MQ below9 (xQ D (fun v8 w8 => v8 = some (.int (bI true)) ∧ w8 = kW cI cZ a s) A) args9 s9 0 0 A) 7 D A (kW cI cZ a s) [(0, .ref (aH a)), (1, .int (nI (R * C))), (2, .int (nI ls)), (3, .int b), (4, .int (wxL (kpos s) (gwN (kdio s) (kcl s) (kjn s) (kdl s) (kdn s) R C) 0 (R * C) ((-3), kgc s))), (5, .int (nI i))] 18 [] := by
    intro n
    induction n with
    | zero =>
      intro i b ls hi hl hT hx
      refine x_iload hE 5 rfl dL_worst_18 ?_
      refine x_iload_n hE 1 rfl dL_worst_20 ?_
      refine xn_icmp_ge hE (by omega) (by omega) 106 (by decide) dL_worst_21 (fun c21 => ?_) (fun c21 => ?_)
      · skip
        refine x_lv [(3, .int b), (4, .int (wxL (kpos s) (gwN (kdio s) (kcl s) (kjn s) (kdl s) (kdn s) R C) 0 (R * C) ((-3), kgc s)))] [3, 4] rfl ?_
        have hb9 : b = (wxL (kpos s) (gwN (kdio s) (kcl s) (kjn s) (kdl s) (kdn s) R C) 0 (R * C) ((-3), kgc s)) := hT
        subst hb9
        exact hx
      · skip
        exfalso; omega
    | succ n ih =>
      intro i b ls hi hl hT hx
      refine x_iload hE 5 rfl dL_worst_18 ?_
      refine x_iload_n hE 1 rfl dL_worst_20 ?_
      refine xn_icmp_ge hE (by omega) (by omega) 106 (by decide) dL_worst_21 (fun c21 => ?_) (fun c21 => ?_)
      · skip
        exfalso; omega
      · skip
        refine x_aload_n hE 0 rfl dL_worst_24 ?_
        refine x_iload hE 5 rfl dL_worst_25 ?_
        refine x_iconst hE (nI 0) (by decide) dL_worst_27 ?_
        refine x_callK (n := 2) (st := []) hE (ck_key_0 l D cI cZ a s hok i (by omega)) gL_worst_X4_key rfl rfl (by decide +kernel) ⟨by decide, by decide⟩ ⟨by decide, by decide⟩ rfl rfl (Nat.le_of_ble_eq_true rfl) dL_worst_28 (fun v9 w9 hT9 => ?_)
        obtain ⟨rfl, rfl⟩ := hT9
        refine x_at (ws' := (kW cI cZ a s)) (st' := [.int (nI (kpos s i))]) rfl rfl ?_
        refine x_istore hE [(6, .int (nI (kpos s i))), (0, .ref (aH a)), (1, .int (nI (R * C))), (2, .int (nI ls)), (3, .int b), (4, .int (wxL (kpos s) (gwN (kdio s) (kcl s) (kjn s) (kdl s) (kdn s) R C) 0 (R * C) ((-3), kgc s))), (5, .int (nI i))] (by decide) rfl dL_worst_31 ?_
        refine x_iload hE 0 rfl dL_worst_33 ?_
        refine xn_if_le hE (kpos_lt hok _) 100 (by decide) dL_worst_35 (fun c35 => ?_) (fun c35 => ?_)
        · skip
          refine x_iinc hE (nI (i + 1)) [(5, .int (nI (i + 1))), (6, .int (nI (kpos s i))), (0, .ref (aH a)), (1, .int (nI (R * C))), (2, .int (nI ls)), (3, .int b), (4, .int (wxL (kpos s) (gwN (kdio s) (kcl s) (kjn s) (kdl s) (kdn s) R C) 0 (R * C) ((-3), kgc s)))] 6 rfl (nI_add _ _) (by decide) rfl dL_worst_100 ?_
          refine x_goto hE 18 (by decide) dL_worst_103 ?_
          refine x_lv [(0, .ref (aH a)), (1, .int (nI (R * C))), (2, .int (nI ls)), (3, .int b), (4, .int (wxL (kpos s) (gwN (kdio s) (kcl s) (kjn s) (kdl s) (kdn s) R C) 0 (R * C) ((-3), kgc s))), (5, .int (nI (i + 1)))] [2, 3, 4, 5, 6, 0] rfl ?_
          exact ih (i + 1) b ls (by omega) (hl) (by rw [← hT, wx_step hok]; congr 1; first | (rw [if_pos (show kpos s i = 0 by omega)]) | (rw [if_neg (show ¬ kpos s i = 0 by omega), if_pos c58]) | (rw [if_neg (show ¬ kpos s i = 0 by omega), if_neg c58])) hx
        · skip
          refine x_aload_n hE 1 rfl dL_worst_38 ?_
          refine x_iload hE 6 rfl dL_worst_39 ?_
          refine x_iconst hE (nI 0) (by decide) dL_worst_41 ?_
          refine x_callK (n := 2) (st := []) hE (ck_setKey l D cI cZ a s hok i 0 (by omega) (by decide)) gL_worst_X4_setKey rfl rfl (by decide +kernel) ⟨by decide, by decide⟩ ⟨by decide, by decide⟩ rfl rfl (Nat.le_of_ble_eq_true rfl) dL_worst_42 (fun v9 w9 hT9 => ?_)
          obtain ⟨rfl, rfl⟩ := hT9
          refine x_at (ws' := (kW cI cZ a (mvS s i 0))) (st' := [.int (nI (kpos s i))]) rfl rfl ?_
          refine x_iload hE 0 rfl dL_worst_45 ?_
          refine xn_icmp_eq hE (kpos_lt hok _) (kpos_lt hok _) 52 (by decide) dL_worst_47 (fun c47 => ?_) (fun c47 => ?_)
          · skip
            refine x_aload_n hE 1 rfl dL_worst_52 ?_
            refine x_iconst hE (nI 3) (by decide) dL_worst_53 ?_
            refine x_callK (n := 1) (st := []) hE (ck_count_3 l D cI cZ a (mvS s i 0) (hok.mv (by omega) (by decide))  ) gL_worst_X4_count rfl rfl (by decide +kernel) ⟨by decide, by decide⟩ ⟨by decide, by decide⟩ rfl rfl (Nat.le_of_ble_eq_true rfl) dL_worst_54 (fun v9 w9 hT9 => ?_)
            obtain ⟨rfl, rfl⟩ := hT9
            refine x_at (ws' := (kW cI cZ a (mvS s i 0))) (st' := [.int (nI (kgc (mvS s i 0)))]) rfl rfl ?_
            refine x_iload_n hE 3 rfl dL_worst_57 ?_
            refine xn_icmp_ge hE (Nat.lt_of_le_of_lt (kgc_le (hok.mv (by omega) (by decide))) (by decide)) (by omega) 66 (by decide) dL_worst_58 (fun c58 => ?_) (fun c58 => ?_)
            · skip
              refine x_iload_n hE 4 rfl dL_worst_66 ?_
              refine x_istore_n hE [(3, .int b), (6, .int (nI (kpos s i))), (0, .ref (aH a)), (1, .int (nI (R * C))), (2, .int (nI ls)), (4, .int (wxL (kpos s) (gwN (kdio s) (kcl s) (kjn s) (kdl s) (kdn s) R C) 0 (R * C) ((-3), kgc s))), (5, .int (nI i))] (by decide) rfl dL_worst_67 ?_
              refine x_aload_n hE 2 rfl dL_worst_68 ?_
              refine x_iconst hE (nI 3) (by decide) dL_worst_69 ?_
              refine x_callK (n := 1) (st := []) hE (ck_count_3 l D cI cZ a (mvS s i 0) (hok.mv (by omega) (by decide))  ) gL_worst_X4_count rfl rfl (by decide +kernel) ⟨by decide, by decide⟩ ⟨by decide, by decide⟩ rfl rfl (Nat.le_of_ble_eq_true rfl) dL_worst_70 (fun v9 w9 hT9 => ?_)
              obtain ⟨rfl, rfl⟩ := hT9
              refine x_at (ws' := (kW cI cZ a (mvS s i 0))) (st' := [.int (nI (kgc (mvS s i 0)))]) rfl rfl ?_
              refine x_iload_n hE 4 rfl dL_worst_73 ?_
              refine xn_icmp_ge hE (Nat.lt_of_le_of_lt (kgc_le (hok.mv (by omega) (by decide))) (by decide)) (by omega) 85 (by decide) dL_worst_74 (fun c74 => ?_) (fun c74 => ?_)
              · skip
                refine x_iload_n hE 4 rfl dL_worst_85 ?_
                refine x_istore_n hE [(2, .int (nI ls)), (3, .int b), (6, .int (nI (kpos s i))), (0, .ref (aH a)), (1, .int (nI (R * C))), (4, .int (wxL (kpos s) (gwN (kdio s) (kcl s) (kjn s) (kdl s) (kdn s) R C) 0 (R * C) ((-3), kgc s))), (5, .int (nI i))] (by decide) rfl dL_worst_86 ?_
                refine x_aload_n hE 3 rfl dL_worst_87 ?_
                refine x_iload hE 6 rfl dL_worst_88 ?_
                refine x_iload hE 2 rfl dL_worst_90 ?_
                refine x_callK (n := 2) (st := []) hE (ck_setKey l D cI cZ a (mvS s i 0) (hok.mv (by omega) (by decide)) i (kpos s i) (by omega) (hpos i)) gL_worst_X4_setKey rfl rfl (by decide +kernel) ⟨by decide, by decide⟩ ⟨by decide, by decide⟩ rfl rfl (Nat.le_of_ble_eq_true rfl) dL_worst_92 (fun v9 w9 hT9 => ?_)
                obtain ⟨rfl, rfl⟩ := hT9
                refine x_at (ws' := (kW cI cZ a (mvS (mvS s i 0) i (kpos s i)))) (st' := [.int (nI (kpos (mvS s i 0) i))]) rfl rfl ?_
                refine x_eq (nI 0) (congrArg nI (if_pos rfl)) ?_
                rw [mv_back hI (by omega)]
                refine xn_if_eq hE (by decide) 100 (by decide) dL_worst_95 (fun c95 => ?_) (fun c95 => ?_)
                · skip
                  refine x_iinc hE (nI (i + 1)) [(5, .int (nI (i + 1))), (2, .int (nI ls)), (3, .int b), (6, .int (nI (kpos s i))), (0, .ref (aH a)), (1, .int (nI (R * C))), (4, .int (wxL (kpos s) (gwN (kdio s) (kcl s) (kjn s) (kdl s) (kdn s) R C) 0 (R * C) ((-3), kgc s)))] 6 rfl (nI_add _ _) (by decide) rfl dL_worst_100 ?_
                  refine x_goto hE 18 (by decide) dL_worst_103 ?_
                  refine x_lv [(0, .ref (aH a)), (1, .int (nI (R * C))), (2, .int (nI ls)), (3, .int b), (4, .int (wxL (kpos s) (gwN (kdio s) (kcl s) (kjn s) (kdl s) (kdn s) R C) 0 (R * C) ((-3), kgc s))), (5, .int (nI (i + 1)))] [4, 5, 1, 2, 6, 0] rfl ?_
                  exact ih (i + 1) b ls (by omega) (hl) (by rw [← hT, wx_step hok]; congr 1; first | (rw [if_pos (show kpos s i = 0 by omega)]) | (rw [if_neg (show ¬ kpos s i = 0 by omega), if_pos c58]) | (rw [if_neg (show ¬ kpos s i = 0 by omega), if_neg c58])) hx
                · skip
                  exact absurd (by decide) c95
              · skip
                exact absurd c74 c58
            · skip
              refine x_iload hE 6 rfl dL_worst_61 ?_
              refine x_goto hE 67 (by decide) dL_worst_63 ?_
              refine x_istore_n hE [(3, .int (nI i)), (6, .int (nI (kpos s i))), (0, .ref (aH a)), (1, .int (nI (R * C))), (2, .int (nI ls)), (4, .int (wxL (kpos s) (gwN (kdio s) (kcl s) (kjn s) (kdl s) (kdn s) R C) 0 (R * C) ((-3), kgc s))), (5, .int (nI i))] (by decide) rfl dL_worst_67 ?_
              refine x_aload_n hE 2 rfl dL_worst_68 ?_
              refine x_iconst hE (nI 3) (by decide) dL_worst_69 ?_
              refine x_callK (n := 1) (st := []) hE (ck_count_3 l D cI cZ a (mvS s i 0) (hok.mv (by omega) (by decide))  ) gL_worst_X4_count rfl rfl (by decide +kernel) ⟨by decide, by decide⟩ ⟨by decide, by decide⟩ rfl rfl (Nat.le_of_ble_eq_true rfl) dL_worst_70 (fun v9 w9 hT9 => ?_)
              obtain ⟨rfl, rfl⟩ := hT9
              refine x_at (ws' := (kW cI cZ a (mvS s i 0))) (st' := [.int (nI (kgc (mvS s i 0)))]) rfl rfl ?_
              refine x_iload_n hE 4 rfl dL_worst_73 ?_
              refine xn_icmp_ge hE (Nat.lt_of_le_of_lt (kgc_le (hok.mv (by omega) (by decide))) (by decide)) (by omega) 85 (by decide) dL_worst_74 (fun c74 => ?_) (fun c74 => ?_)
              · skip
                exact absurd c58 c74
              · skip
                refine x_aload_n hE 2 rfl dL_worst_77 ?_
                refine x_iconst hE (nI 3) (by decide) dL_worst_78 ?_
                refine x_callK (n := 1) (st := []) hE (ck_count_3 l D cI cZ a (mvS s i 0) (hok.mv (by omega) (by decide))  ) gL_worst_X4_count rfl rfl (by decide +kernel) ⟨by decide, by decide⟩ ⟨by decide, by decide⟩ rfl rfl (Nat.le_of_ble_eq_true rfl) dL_worst_79 (fun v9 w9 hT9 => ?_)
                obtain ⟨rfl, rfl⟩ := hT9
                refine x_at (ws' := (kW cI cZ a (mvS s i 0))) (st' := [.int (nI (kgc (mvS s i 0)))]) rfl rfl ?_
                refine x_goto hE 86 (by decide) dL_worst_82 ?_
                refine x_istore_n hE [(2, .int (nI (kgc (mvS s i 0)))), (3, .int (nI i)), (6, .int (nI (kpos s i))), (0, .ref (aH a)), (1, .int (nI (R * C))), (4, .int (wxL (kpos s) (gwN (kdio s) (kcl s) (kjn s) (kdl s) (kdn s) R C) 0 (R * C) ((-3), kgc s))), (5, .int (nI i))] (by decide) rfl dL_worst_86 ?_
                refine x_aload_n hE 3 rfl dL_worst_87 ?_
                refine x_iload hE 6 rfl dL_worst_88 ?_
                refine x_iload hE 2 rfl dL_worst_90 ?_
                refine x_callK (n := 2) (st := []) hE (ck_setKey l D cI cZ a (mvS s i 0) (hok.mv (by omega) (by decide)) i (kpos s i) (by omega) (hpos i)) gL_worst_X4_setKey rfl rfl (by decide +kernel) ⟨by decide, by decide⟩ ⟨by decide, by decide⟩ rfl rfl (Nat.le_of_ble_eq_true rfl) dL_worst_92 (fun v9 w9 hT9 => ?_)
                obtain ⟨rfl, rfl⟩ := hT9
                refine x_at (ws' := (kW cI cZ a (mvS (mvS s i 0) i (kpos s i)))) (st' := [.int (nI (kpos (mvS s i 0) i))]) rfl rfl ?_
                refine x_eq (nI 0) (congrArg nI (if_pos rfl)) ?_
                rw [mv_back hI (by omega)]
                refine xn_if_eq hE (by decide) 100 (by decide) dL_worst_95 (fun c95 => ?_) (fun c95 => ?_)
                · skip
                  refine x_iinc hE (nI (i + 1)) [(5, .int (nI (i + 1))), (2, .int (nI (kgc (mvS s i 0)))), (3, .int (nI i)), (6, .int (nI (kpos s i))), (0, .ref (aH a)), (1, .int (nI (R * C))), (4, .int (wxL (kpos s) (gwN (kdio s) (kcl s) (kjn s) (kdl s) (kdn s) R C) 0 (R * C) ((-3), kgc s)))] 6 rfl (nI_add _ _) (by decide) rfl dL_worst_100 ?_
                  refine x_goto hE 18 (by decide) dL_worst_103 ?_
                  refine x_lv [(0, .ref (aH a)), (1, .int (nI (R * C))), (2, .int (nI (kgc (mvS s i 0)))), (3, .int (nI i)), (4, .int (wxL (kpos s) (gwN (kdio s) (kcl s) (kjn s) (kdl s) (kdn s) R C) 0 (R * C) ((-3), kgc s))), (5, .int (nI (i + 1)))] [4, 5, 1, 2, 6, 0] rfl ?_
                  exact ih (i + 1) (nI i) (kgc (mvS s i 0)) (by omega) (kgc_le (hok.mv (by omega) (by decide))) (by rw [← hT, wx_step hok]; congr 1; first | (rw [if_pos (show kpos s i = 0 by omega)]) | (rw [if_neg (show ¬ kpos s i = 0 by omega), if_pos c58]) | (rw [if_neg (show ¬ kpos s i = 0 by omega), if_neg c58])) hx
                · skip
                  exact absurd (by decide) c95
          · skip
            exact absurd rfl c47
  refine x_at (ws' := (kW cI cZ a s)) (st' := []) rfl rfl ?_
  refine x_lv [(0, .ref (aH a)), (1, .int (nI (R * C)))] [0, 1] rfl ?_
  refine x_aload_n hE 0 rfl dL_worst_0 ?_
  refine x_iconst hE (nI 3) (by decide) dL_worst_1 ?_
  refine x_callK (n := 1) (st := []) hE (ck_count_3 l D cI cZ a s hok  ) gL_worst_X4_count rfl rfl (by decide +kernel) ⟨by decide, by decide⟩ ⟨by decide, by decide⟩ rfl rfl (Nat.le_of_ble_eq_true rfl) dL_worst_2 (fun v9 w9 hT9 => ?_)
  obtain ⟨rfl, rfl⟩ := hT9
  refine x_at (ws' := (kW cI cZ a s)) (st' := [.int (nI (kgc s))]) rfl rfl ?_
  refine x_istore_n hE [(2, .int (nI (kgc s))), (0, .ref (aH a)), (1, .int (nI (R * C)))] (by decide) rfl dL_worst_5 ?_
  refine x_bipush hE (-3) (by decide) dL_worst_6 ?_
  refine x_istore_n hE [(3, .int (-3)), (2, .int (nI (kgc s))), (0, .ref (aH a)), (1, .int (nI (R * C)))] (by decide) rfl dL_worst_8 ?_
  refine x_aload_n hE 2 rfl dL_worst_9 ?_
  refine x_callK (n := 0) (st := []) hE (ck_worstKey l D cI cZ a s hok  (hI.2.2.2.2.2.2.2.1)) gL_worst_X4_worstKey rfl rfl (by decide +kernel) ⟨by decide, by decide⟩ ⟨by decide, by decide⟩ rfl rfl (Nat.le_of_ble_eq_true rfl) dL_worst_10 (fun v9 w9 hT9 => ?_)
  obtain ⟨rfl, rfl⟩ := hT9
  refine x_at (ws' := (kW cI cZ a s)) (st' := [.int (wxL (kpos s) (gwN (kdio s) (kcl s) (kjn s) (kdl s) (kdn s) R C) 0 (R * C) ((-3), kgc s))]) rfl rfl ?_
  refine x_istore hE [(4, .int (wxL (kpos s) (gwN (kdio s) (kcl s) (kjn s) (kdl s) (kdn s) R C) 0 (R * C) ((-3), kgc s))), (3, .int (-3)), (2, .int (nI (kgc s))), (0, .ref (aH a)), (1, .int (nI (R * C)))] (by decide) rfl dL_worst_13 ?_
  refine x_iconst hE (nI 0) (by decide) dL_worst_15 ?_
  refine x_istore hE [(5, .int (nI 0)), (4, .int (wxL (kpos s) (gwN (kdio s) (kcl s) (kjn s) (kdl s) (kdn s) R C) 0 (R * C) ((-3), kgc s))), (3, .int (-3)), (2, .int (nI (kgc s))), (0, .ref (aH a)), (1, .int (nI (R * C)))] (by decide) rfl dL_worst_16 ?_
  refine x_lv [(0, .ref (aH a)), (1, .int (nI (R * C))), (2, .int (nI (kgc s))), (3, .int (-3)), (4, .int (wxL (kpos s) (gwN (kdio s) (kcl s) (kjn s) (kdl s) (kdn s) R C) 0 (R * C) ((-3), kgc s))), (5, .int (nI 0))] [4, 5, 3, 2, 1, 0] rfl ?_
  refine sg18 (R * C) 0 (-3) (kgc s) (Nat.zero_add _) (kgc_le hok) (rfl) ?_
  refine x_iload hE 1 rfl dL_worst_106 ?_
  refine x_iload_n hE 0 rfl dL_worst_108 ?_
  refine x_icmp_ne hE 116 (by decide) dL_worst_109 (fun c109 => ?_) (fun c109 => ?_)
  · skip
    exact absurd rfl c109
  · skip
    refine x_iconst hE (nI 1) (by decide) dL_worst_112 ?_
    refine x_goto hE 117 (by decide) dL_worst_113 ?_
    refine x_eq (bI true) rfl ?_
    exact x_zret hE hr (⟨rfl, rfl⟩) dL_worst_117
