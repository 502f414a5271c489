set_option maxHeartbeats 8000000 in
set_option maxRecDepth 100000 in
theorem kL_rests (l : Launch) (D : va_G) (cI cZ : ClassId) (a : KAd) (s : KSt) {R C V N : Nat} (t : Nat) (hI : INV s R C V N) (hN : N ≤ 3000) (ht : 1 ≤ t ∧ t ≤ 20) : xC l yL_rests wsL_rests 7 0 0 161 D cI cZ [.ref (aH a), .int (nI (R * C)), .int (nI t)] (kW cI cZ a s) (fun v8 w8 => v8 = some (.int (bI true)) ∧ ∃ n, n ≤ 20 ∧ w8 = kW cI cZ a (tickN n s)) := by
  refine xC.of (bytes := cL_rests) (maxL := 8) (ret := (some .boolean)) (own := RL) (by decide +kernel) rfl (Nat.le_of_ble_eq_true rfl) rfl ?_
  intro p9 e9 s9 m9 args9 below9 meth9 cd9 A hE hr hin2 hA9
  have hok := hI.ok (by omega)
  obtain ⟨hRC, hRC1⟩ := hI.rc
  obtain ⟨hR, hC, hV, hpos⟩ : (1 ≤ R ∧ R ≤ 8) ∧ (1 ≤ C ∧ C ≤ 8) ∧ (1 ≤ V ∧ V ≤ 8) ∧ ∀ k, kpos s k ≤ 2 := ⟨hok.2.2.2.1, hok.2.2.2.2.1, hok.2.2.2.2.2.1, hok.2.2.2.2.2.2.1⟩
  obtain ⟨N9, hN9, hN9b, hN9c⟩ := rest_or hI hN ht
  have sg33 : ∀ (n : Nat) (i : Nat) (j : Nat) (k : Nat) (u : Nat) (hj : j ≤ N9) (hk9 : k + n = R * C) (hu : u = fb_ct (fun q => decide (¬ kph (tickN j s) q = nI 0)) k) (hx : X p9 l e9 { frames := 7, cells := 0, slots := 0, locals := 161 } s9 m9 args9 below9 meth9 cd9 0 0 (MQ below9 (xQ D (fun v8 w8 => v8 = some (.int (bI true)) ∧ ∃ n, n ≤ 20 ∧ w8 = kW cI cZ a (tickN n s)) A) args9 s9 0 0 A) 8 D A (kW cI cZ a (tickN j s)) [(0, .ref (aH a)), (1, .int (nI (R * C))), (2, .int (nI t)), (3, .int (raN (arN (kph s) (seenN (kdio s) (kcl s) (kjn s)) (kT s) R C) 0 (min t R + 1))), (4, .int (nI N9)), (5, .int (nI i)), (6, .int (nI (fb_ct (fun q => decide (¬ kph (tickN j s) q = nI 0)) (R * C))))] 65 []), X p9 l e9 { frames := 7, cells := 0, slots := 0, locals := 161 } s9 m9 args9 below9 meth9 cd9 0 0 (MQ below9 (xQ D (fun v8 w8 => v8 = some (.int (bI true)) ∧ ∃ n, n ≤ 20 ∧ w8 = kW cI cZ a (tickN n s)) A) args9 s9 0 0 A) 8 D A (kW cI cZ a (tickN j s)) [(0, .ref (aH a)), (1, .int (nI (R * C))), (2, .int (nI t)), (3, .int (raN (arN (kph s) (seenN (kdio s) (kcl s) (kjn s)) (kT s) R C) 0 (min t R + 1))), (4, .int (nI N9)), (5, .int (nI i)), (6, .int (nI u)), (7, .int (nI k))] 33 [] := by
    intro n
    induction n with
    | zero =>
      intro i j k u hj hk9 hu hx
      have hub : u ≤ 64 := by rw [hu]; exact Nat.le_trans (fb_ct_le _ _) (by omega)
      refine x_iload hE 7 rfl dL_rests_33 ?_
      refine x_iload_n hE 1 rfl dL_rests_35 ?_
      refine xn_icmp_ge hE (by omega) (by omega) 65 (by decide) dL_rests_36 (fun c36 => ?_) (fun c36 => ?_)
      · skip
        refine x_lv [(0, .ref (aH a)), (1, .int (nI (R * C))), (2, .int (nI t)), (3, .int (raN (arN (kph s) (seenN (kdio s) (kcl s) (kjn s)) (kT s) R C) 0 (min t R + 1))), (4, .int (nI N9)), (5, .int (nI i)), (6, .int (nI u))] [0, 1, 2, 3, 4, 5, 6] rfl ?_
        obtain rfl : k = R * C := by omega
        subst hu
        exact hx
      · skip
        exfalso; omega
    | succ n ih =>
      intro i j k u hj hk9 hu hx
      have hub : u ≤ 64 := by rw [hu]; exact Nat.le_trans (fb_ct_le _ _) (by omega)
      refine x_iload hE 7 rfl dL_rests_33 ?_
      refine x_iload_n hE 1 rfl dL_rests_35 ?_
      refine xn_icmp_ge hE (by omega) (by omega) 65 (by decide) dL_rests_36 (fun c36 => ?_) (fun c36 => ?_)
      · skip
        exfalso; omega
      · skip
        refine x_iload hE 6 rfl dL_rests_39 ?_
        refine x_aload_n hE 0 rfl dL_rests_41 ?_
        refine x_iload hE 7 rfl dL_rests_42 ?_
        refine x_iconst hE (nI 1) (by decide) dL_rests_44 ?_
        refine x_callK (n := 2) (st := [.int (nI u)]) hE (ck_key_1 l D cI cZ a (tickN j s) ((hI.tkN j (by omega)).ok (by omega)) k (by omega)) gL_rests_X4_key rfl rfl (by decide +kernel) ⟨by decide, by decide⟩ ⟨by decide, by decide⟩ rfl rfl (Nat.le_of_ble_eq_true rfl) dL_rests_45 (fun v9 w9 hT9 => ?_)
        obtain ⟨rfl, rfl⟩ := hT9
        refine x_at (ws' := (kW cI cZ a (tickN j s))) (st' := [.int (kph (tickN j s) k), .int (nI u)]) rfl rfl ?_
        refine x_if_le hE 55 (by decide) dL_rests_48 (fun c48 => ?_) (fun c48 => ?_)
        · skip
          refine x_iconst hE (nI 0) (by decide) dL_rests_55 ?_
          refine x_iadd hE (nI (u + 0)) (nI_add _ _) dL_rests_56 ?_
          refine x_istore hE [(6, .int (nI (u + 0))), (0, .ref (aH a)), (1, .int (nI (R * C))), (2, .int (nI t)), (3, .int (raN (arN (kph s) (seenN (kdio s) (kcl s) (kjn s)) (kT s) R C) 0 (min t R + 1))), (4, .int (nI N9)), (5, .int (nI i)), (7, .int (nI k))] (by decide) rfl dL_rests_57 ?_
          refine x_iinc hE (nI (k + 1)) [(7, .int (nI (k + 1))), (6, .int (nI (u + 0))), (0, .ref (aH a)), (1, .int (nI (R * C))), (2, .int (nI t)), (3, .int (raN (arN (kph s) (seenN (kdio s) (kcl s) (kjn s)) (kT s) R C) 0 (min t R + 1))), (4, .int (nI N9)), (5, .int (nI i))] 7 rfl (nI_add _ _) (by decide) rfl dL_rests_59 ?_
          refine x_goto hE 33 (by decide) dL_rests_62 ?_
          refine x_lv [(0, .ref (aH a)), (1, .int (nI (R * C))), (2, .int (nI t)), (3, .int (raN (arN (kph s) (seenN (kdio s) (kcl s) (kjn s)) (kT s) R C) 0 (min t R + 1))), (4, .int (nI N9)), (5, .int (nI i)), (6, .int (nI (u + 0))), (7, .int (nI (k + 1)))] [2, 3, 4, 5, 6, 7, 1, 0] rfl ?_
          exact ih i j (k + 1) (u + 0) (hj) (by omega) (by rw [fb_ct_succ, ← hu]; first | rw [ph_ct1 c48] | rw [ph_ct0 (hI.tkN j (by omega)).ph c48]) hx
        · skip
          refine x_iconst hE (nI 1) (by decide) dL_rests_51 ?_
          refine x_goto hE 56 (by decide) dL_rests_52 ?_
          refine x_iadd hE (nI (u + 1)) (nI_add _ _) dL_rests_56 ?_
          refine x_istore hE [(6, .int (nI (u + 1))), (0, .ref (aH a)), (1, .int (nI (R * C))), (2, .int (nI t)), (3, .int (raN (arN (kph s) (seenN (kdio s) (kcl s) (kjn s)) (kT s) R C) 0 (min t R + 1))), (4, .int (nI N9)), (5, .int (nI i)), (7, .int (nI k))] (by decide) rfl dL_rests_57 ?_
          refine x_iinc hE (nI (k + 1)) [(7, .int (nI (k + 1))), (6, .int (nI (u + 1))), (0, .ref (aH a)), (1, .int (nI (R * C))), (2, .int (nI t)), (3, .int (raN (arN (kph s) (seenN (kdio s) (kcl s) (kjn s)) (kT s) R C) 0 (min t R + 1))), (4, .int (nI N9)), (5, .int (nI i))] 7 rfl (nI_add _ _) (by decide) rfl dL_rests_59 ?_
          refine x_goto hE 33 (by decide) dL_rests_62 ?_
          refine x_lv [(0, .ref (aH a)), (1, .int (nI (R * C))), (2, .int (nI t)), (3, .int (raN (arN (kph s) (seenN (kdio s) (kcl s) (kjn s)) (kT s) R C) 0 (min t R + 1))), (4, .int (nI N9)), (5, .int (nI i)), (6, .int (nI (u + 1))), (7, .int (nI (k + 1)))] [2, 3, 4, 5, 6, 7, 1, 0] rfl ?_
          exact ih i j (k + 1) (u + 1) (hj) (by omega) (by rw [fb_ct_succ, ← hu]; first | rw [ph_ct1 c48] | rw [ph_ct0 (hI.tkN j (by omega)).ph c48]) hx
  have sg20 : ∀ (m : Nat) (i : Nat) (j : Nat) (hi : i + m = N9 + 1) (hj : j = min i N9) (hx : X p9 l e9 { frames := 7, cells := 0, slots := 0, locals := 161 } s9 m9 args9 below9 meth9 cd9 0 0 (MQ below9 (xQ D (fun v8 w8 => v8 = some (.int (bI true)) ∧ ∃ n, n ≤ 20 ∧ w8 = kW cI cZ a (tickN n s)) A) args9 s9 0 0 A) 8 D A (kW cI cZ a (tickN N9 s)) [(0, .ref (aH a))] 114 []), X p9 l e9 { frames := 7, cells := 0, slots := 0, locals := 161 } s9 m9 args9 below9 meth9 cd9 0 0 (MQ below9 (xQ D (fun v8 w8 => v8 = some (.int (bI true)) ∧ ∃ n, n ≤ 20 ∧ w8 = kW cI cZ a (tickN n s)) A) args9 s9 0 0 A) 8 D A (kW cI cZ a (tickN j s)) [(0, .ref (aH a)), (1, .int (nI (R * C))), (2, .int (nI t)), (3, .int (raN (arN (kph s) (seenN (kdio s) (kcl s) (kjn s)) (kT s) R C) 0 (min t R + 1))), (4, .int (nI N9)), (5, .int (nI i))] 20 [] := by
    intro m
    induction m with
    | zero =>
      intro i j hi hj hx
      refine x_iload hE 5 rfl dL_rests_20 ?_
      refine x_iload hE 4 rfl dL_rests_22 ?_
      refine xn_icmp_gt hE (by omega) (by omega) 114 (by decide) dL_rests_24 (fun c24 => ?_) (fun c24 => ?_)
      · skip
        refine x_lv [(0, .ref (aH a))] [0] rfl ?_
        obtain rfl : j = N9 := by omega
        exact hx
      · skip
        exfalso; omega
    | succ m ih =>
      intro i j hi hj hx
      refine x_iload hE 5 rfl dL_rests_20 ?_
      refine x_iload hE 4 rfl dL_rests_22 ?_
      refine xn_icmp_gt hE (by omega) (by omega) 114 (by decide) dL_rests_24 (fun c24 => ?_) (fun c24 => ?_)
      · skip
        exfalso; omega
      · skip
        refine x_iconst hE (nI 0) (by decide) dL_rests_27 ?_
        refine x_istore hE [(6, .int (nI 0)), (0, .ref (aH a)), (1, .int (nI (R * C))), (2, .int (nI t)), (3, .int (raN (arN (kph s) (seenN (kdio s) (kcl s) (kjn s)) (kT s) R C) 0 (min t R + 1))), (4, .int (nI N9)), (5, .int (nI i))] (by decide) rfl dL_rests_28 ?_
        refine x_iconst hE (nI 0) (by decide) dL_rests_30 ?_
        refine x_istore hE [(7, .int (nI 0)), (6, .int (nI 0)), (0, .ref (aH a)), (1, .int (nI (R * C))), (2, .int (nI t)), (3, .int (raN (arN (kph s) (seenN (kdio s) (kcl s) (kjn s)) (kT s) R C) 0 (min t R + 1))), (4, .int (nI N9)), (5, .int (nI i))] (by decide) rfl dL_rests_31 ?_
        refine x_lv [(0, .ref (aH a)), (1, .int (nI (R * C))), (2, .int (nI t)), (3, .int (raN (arN (kph s) (seenN (kdio s) (kcl s) (kjn s)) (kT s) R C) 0 (min t R + 1))), (4, .int (nI N9)), (5, .int (nI i)), (6, .int (nI 0)), (7, .int (nI 0))] [2, 3, 4, 5, 6, 7, 1, 0] rfl ?_
        refine sg33 (R * C) i j 0 0 (by omega) (Nat.zero_add _) (rfl) ?_
        refine x_iload hE 6 rfl dL_rests_65 ?_
        refine xn_if_ne hE (Nat.lt_of_le_of_lt (fb_ct_le _ _) (by omega)) 74 (by decide) dL_rests_67 (fun c67 => ?_) (fun c67 => ?_)
        · skip
          refine x_iconst hE (nI 0) (by decide) dL_rests_74 ?_
          refine x_iload hE 5 rfl dL_rests_75 ?_
          refine x_iload_n hE 3 rfl dL_rests_77 ?_
          refine x_icmp_ne hE 85 (by decide) dL_rests_78 (fun c78 => ?_) (fun c78 => ?_)
          · skip
            refine x_iconst hE (nI 0) (by decide) dL_rests_85 ?_
            refine xn_icmp_eq hE (by decide) (by decide) 91 (by decide) dL_rests_86 (fun c86 => ?_) (fun c86 => ?_)
            · skip
              refine x_iload hE 5 rfl dL_rests_91 ?_
              refine x_iload hE 4 rfl dL_rests_93 ?_
              refine xn_icmp_ge hE (by omega) (by omega) 108 (by decide) dL_rests_95 (fun c95 => ?_) (fun c95 => ?_)
              · skip
                refine x_iinc hE (nI (i + 1)) [(5, .int (nI (i + 1))), (0, .ref (aH a)), (1, .int (nI (R * C))), (2, .int (nI t)), (3, .int (raN (arN (kph s) (seenN (kdio s) (kcl s) (kjn s)) (kT s) R C) 0 (min t R + 1))), (4, .int (nI N9)), (6, .int (nI (fb_ct (fun q => decide (¬ kph (tickN j s) q = nI 0)) (R * C))))] 5 rfl (nI_add _ _) (by decide) rfl dL_rests_108 ?_
                refine x_goto hE 20 (by decide) dL_rests_111 ?_
                refine x_lv [(0, .ref (aH a)), (1, .int (nI (R * C))), (2, .int (nI t)), (3, .int (raN (arN (kph s) (seenN (kdio s) (kcl s) (kjn s)) (kT s) R C) 0 (min t R + 1))), (4, .int (nI N9)), (5, .int (nI (i + 1)))] [1, 2, 3, 4, 5, 0] rfl ?_
                exact ih (i + 1) j (by omega) (by omega) hx
              · skip
                refine x_aload_n hE 0 rfl dL_rests_98 ?_
                refine x_iconst hE (nI 1) (by decide) dL_rests_99 ?_
                refine x_callK (n := 1) (st := []) hE (ck_tick l D cI cZ a (tickN j s) ((hI.tkN j (by omega)).ok (by omega))  ) gL_rests_X4_tick rfl rfl (by decide +kernel) ⟨by decide, by decide⟩ ⟨by decide, by decide⟩ rfl rfl (Nat.le_of_ble_eq_true rfl) dL_rests_100 (fun v9 w9 hT9 => ?_)
                obtain ⟨rfl, rfl⟩ := hT9
                refine x_at (ws' := (kW cI cZ a (tick1 (tickN j s)))) (st' := [.int (nI (kT (tickN j s) + 1))]) rfl rfl ?_
                refine xn_if_ge hE (kT1_lt ((hI.tkN j (by omega)).ok (by omega))) 108 (by decide) dL_rests_103 (fun c103 => ?_) (fun c103 => ?_)
                · skip
                  refine x_iinc hE (nI (i + 1)) [(5, .int (nI (i + 1))), (0, .ref (aH a)), (1, .int (nI (R * C))), (2, .int (nI t)), (3, .int (raN (arN (kph s) (seenN (kdio s) (kcl s) (kjn s)) (kT s) R C) 0 (min t R + 1))), (4, .int (nI N9)), (6, .int (nI (fb_ct (fun q => decide (¬ kph (tickN j s) q = nI 0)) (R * C))))] 5 rfl (nI_add _ _) (by decide) rfl dL_rests_108 ?_
                  refine x_goto hE 20 (by decide) dL_rests_111 ?_
                  refine x_lv [(0, .ref (aH a)), (1, .int (nI (R * C))), (2, .int (nI t)), (3, .int (raN (arN (kph s) (seenN (kdio s) (kcl s) (kjn s)) (kT s) R C) 0 (min t R + 1))), (4, .int (nI N9)), (5, .int (nI (i + 1)))] [1, 2, 3, 4, 5, 0] rfl ?_
                  refine x_at (ws' := (kW cI cZ a (tickN (j + 1) s))) (st' := []) rfl rfl ?_
                  exact ih (i + 1) (j + 1) (by omega) (by omega) hx
                · skip
                  exact absurd c103 (Nat.not_lt_zero _)
            · skip
              exact absurd (by decide) c86
          · skip
            refine x_iconst hE (nI 1) (by decide) dL_rests_81 ?_
            refine x_goto hE 86 (by decide) dL_rests_82 ?_
            refine xn_icmp_eq hE (by decide) (by decide) 91 (by decide) dL_rests_86 (fun c86 => ?_) (fun c86 => ?_)
            · skip
              exact absurd c86 (by decide)
            · skip
              exact by have hji : j = i := (by omega); first | exact absurd ((hN9c i (by omega)).mpr (hji ▸ bus_iff.mp c67)) c78 | exact absurd (bus_iff.mpr (hji.symm ▸ (hN9c i (by omega)).mp c78)) c67
        · skip
          refine x_iconst hE (nI 1) (by decide) dL_rests_70 ?_
          refine x_goto hE 75 (by decide) dL_rests_71 ?_
          refine x_iload hE 5 rfl dL_rests_75 ?_
          refine x_iload_n hE 3 rfl dL_rests_77 ?_
          refine x_icmp_ne hE 85 (by decide) dL_rests_78 (fun c78 => ?_) (fun c78 => ?_)
          · skip
            refine x_iconst hE (nI 0) (by decide) dL_rests_85 ?_
            refine xn_icmp_eq hE (by decide) (by decide) 91 (by decide) dL_rests_86 (fun c86 => ?_) (fun c86 => ?_)
            · skip
              exact absurd c86 (by decide)
            · skip
              exact by have hji : j = i := (by omega); first | exact absurd ((hN9c i (by omega)).mpr (hji ▸ bus_iff.mp c67)) c78 | exact absurd (bus_iff.mpr (hji.symm ▸ (hN9c i (by omega)).mp c78)) c67
          · skip
            refine x_iconst hE (nI 1) (by decide) dL_rests_81 ?_
            refine x_goto hE 86 (by decide) dL_rests_82 ?_
            refine xn_icmp_eq hE (by decide) (by decide) 91 (by decide) dL_rests_86 (fun c86 => ?_) (fun c86 => ?_)
            · skip
              refine x_iload hE 5 rfl dL_rests_91 ?_
              refine x_iload hE 4 rfl dL_rests_93 ?_
              refine xn_icmp_ge hE (by omega) (by omega) 108 (by decide) dL_rests_95 (fun c95 => ?_) (fun c95 => ?_)
              · skip
                refine x_iinc hE (nI (i + 1)) [(5, .int (nI (i + 1))), (0, .ref (aH a)), (1, .int (nI (R * C))), (2, .int (nI t)), (3, .int (raN (arN (kph s) (seenN (kdio s) (kcl s) (kjn s)) (kT s) R C) 0 (min t R + 1))), (4, .int (nI N9)), (6, .int (nI (fb_ct (fun q => decide (¬ kph (tickN j s) q = nI 0)) (R * C))))] 5 rfl (nI_add _ _) (by decide) rfl dL_rests_108 ?_
                refine x_goto hE 20 (by decide) dL_rests_111 ?_
                refine x_lv [(0, .ref (aH a)), (1, .int (nI (R * C))), (2, .int (nI t)), (3, .int (raN (arN (kph s) (seenN (kdio s) (kcl s) (kjn s)) (kT s) R C) 0 (min t R + 1))), (4, .int (nI N9)), (5, .int (nI (i + 1)))] [1, 2, 3, 4, 5, 0] rfl ?_
                exact ih (i + 1) j (by omega) (by omega) hx
              · skip
                refine x_aload_n hE 0 rfl dL_rests_98 ?_
                refine x_iconst hE (nI 1) (by decide) dL_rests_99 ?_
                refine x_callK (n := 1) (st := []) hE (ck_tick l D cI cZ a (tickN j s) ((hI.tkN j (by omega)).ok (by omega))  ) gL_rests_X4_tick rfl rfl (by decide +kernel) ⟨by decide, by decide⟩ ⟨by decide, by decide⟩ rfl rfl (Nat.le_of_ble_eq_true rfl) dL_rests_100 (fun v9 w9 hT9 => ?_)
                obtain ⟨rfl, rfl⟩ := hT9
                refine x_at (ws' := (kW cI cZ a (tick1 (tickN j s)))) (st' := [.int (nI (kT (tickN j s) + 1))]) rfl rfl ?_
                refine xn_if_ge hE (kT1_lt ((hI.tkN j (by omega)).ok (by omega))) 108 (by decide) dL_rests_103 (fun c103 => ?_) (fun c103 => ?_)
                · skip
                  refine x_iinc hE (nI (i + 1)) [(5, .int (nI (i + 1))), (0, .ref (aH a)), (1, .int (nI (R * C))), (2, .int (nI t)), (3, .int (raN (arN (kph s) (seenN (kdio s) (kcl s) (kjn s)) (kT s) R C) 0 (min t R + 1))), (4, .int (nI N9)), (6, .int (nI (fb_ct (fun q => decide (¬ kph (tickN j s) q = nI 0)) (R * C))))] 5 rfl (nI_add _ _) (by decide) rfl dL_rests_108 ?_
                  refine x_goto hE 20 (by decide) dL_rests_111 ?_
                  refine x_lv [(0, .ref (aH a)), (1, .int (nI (R * C))), (2, .int (nI t)), (3, .int (raN (arN (kph s) (seenN (kdio s) (kcl s) (kjn s)) (kT s) R C) 0 (min t R + 1))), (4, .int (nI N9)), (5, .int (nI (i + 1)))] [1, 2, 3, 4, 5, 0] rfl ?_
                  refine x_at (ws' := (kW cI cZ a (tickN (j + 1) s))) (st' := []) rfl rfl ?_
                  exact ih (i + 1) (j + 1) (by omega) (by omega) hx
                · skip
                  exact absurd c103 (Nat.not_lt_zero _)
            · skip
              exact absurd (by decide) c86
  refine x_at (ws' := (kW cI cZ a s)) (st' := []) rfl rfl ?_
  refine x_lv [(0, .ref (aH a)), (1, .int (nI (R * C))), (2, .int (nI t))] [0, 1, 2] rfl ?_
  refine x_aload_n hE 0 rfl dL_rests_0 ?_
  refine x_iload_n hE 2 rfl dL_rests_1 ?_
  refine x_callK (n := 1) (st := []) hE (ck_restAfter l D cI cZ a s hok t (by omega)) gL_rests_X4_restAfter rfl rfl (by decide +kernel) ⟨by decide, by decide⟩ ⟨by decide, by decide⟩ rfl rfl (Nat.le_of_ble_eq_true rfl) dL_rests_2 (fun v9 w9 hT9 => ?_)
  obtain ⟨rfl, rfl⟩ := hT9
  refine x_at (ws' := (kW cI cZ a s)) (st' := [.int (raN (arN (kph s) (seenN (kdio s) (kcl s) (kjn s)) (kT s) R C) 0 (min t R + 1))]) rfl rfl ?_
  refine x_istore_n hE [(3, .int (raN (arN (kph s) (seenN (kdio s) (kcl s) (kjn s)) (kT s) R C) 0 (min t R + 1))), (0, .ref (aH a)), (1, .int (nI (R * C))), (2, .int (nI t))] (by decide) rfl dL_rests_5 ?_
  refine x_iload_n hE 0 rfl dL_rests_6 ?_
  refine x_if_ge hE 14 (by decide) dL_rests_7 (fun c7 => ?_) (fun c7 => ?_)
  · skip
    refine x_iload_n hE 0 rfl dL_rests_14 ?_
    refine x_eq (nI N9) (by rcases hN9b with ⟨e, _⟩ | ⟨_, e⟩ <;> first | exact e | exact absurd e c7) ?_
    refine x_istore hE [(4, .int (nI N9)), (3, .int (raN (arN (kph s) (seenN (kdio s) (kcl s) (kjn s)) (kT s) R C) 0 (min t R + 1))), (0, .ref (aH a)), (1, .int (nI (R * C))), (2, .int (nI t))] (by decide) rfl dL_rests_15 ?_
    refine x_iconst hE (nI 0) (by decide) dL_rests_17 ?_
    refine x_istore hE [(5, .int (nI 0)), (4, .int (nI N9)), (3, .int (raN (arN (kph s) (seenN (kdio s) (kcl s) (kjn s)) (kT s) R C) 0 (min t R + 1))), (0, .ref (aH a)), (1, .int (nI (R * C))), (2, .int (nI t))] (by decide) rfl dL_rests_18 ?_
    refine x_lv [(0, .ref (aH a)), (1, .int (nI (R * C))), (2, .int (nI t)), (3, .int (raN (arN (kph s) (seenN (kdio s) (kcl s) (kjn s)) (kT s) R C) 0 (min t R + 1))), (4, .int (nI N9)), (5, .int (nI 0))] [3, 4, 5, 2, 1, 0] rfl ?_
    refine x_at (ws' := (kW cI cZ a (tickN 0 s))) (st' := []) rfl rfl ?_
    refine sg20 (N9 + 1) 0 0 (by omega) (by omega) ?_
    refine x_aload_n hE 0 rfl dL_rests_114 ?_
    refine x_iconst hE (nI 0) (by decide) dL_rests_115 ?_
    refine x_callK (n := 1) (st := []) hE (ck_restAfter_lo l D cI cZ a (tickN N9 s) ((hI.tkN N9 (by omega)).ok (by omega))  ) gL_rests_X4_restAfter rfl rfl (by decide +kernel) ⟨by decide, by decide⟩ ⟨by decide, by decide⟩ rfl rfl (Nat.le_of_ble_eq_true rfl) dL_rests_116 (fun v9 w9 hT9 => ?_)
    obtain ⟨rfl, rfl⟩ := hT9
    refine x_at (ws' := (kW cI cZ a (tickN N9 s))) (st' := [.int (-2)]) rfl rfl ?_
    refine x_bipush hE (-2) (by decide) dL_rests_119 ?_
    refine x_icmp_ne hE 140 (by decide) dL_rests_121 (fun c121 => ?_) (fun c121 => ?_)
    · skip
      exact absurd rfl c121
    · skip
      refine x_aload_n hE 0 rfl dL_rests_124 ?_
      refine x_sipush hE (nI 1001) (by decide) dL_rests_125 ?_
      refine x_callK (n := 1) (st := []) hE (ck_restAfter_hi l D cI cZ a (tickN N9 s) ((hI.tkN N9 (by omega)).ok (by omega))  ) gL_rests_X4_restAfter rfl rfl (by decide +kernel) ⟨by decide, by decide⟩ ⟨by decide, by decide⟩ rfl rfl (Nat.le_of_ble_eq_true rfl) dL_rests_128 (fun v9 w9 hT9 => ?_)
      obtain ⟨rfl, rfl⟩ := hT9
      refine x_at (ws' := (kW cI cZ a (tickN N9 s))) (st' := [.int (-2)]) rfl rfl ?_
      refine x_bipush hE (-2) (by decide) dL_rests_131 ?_
      refine x_icmp_ne hE 140 (by decide) dL_rests_133 (fun c133 => ?_) (fun c133 => ?_)
      · skip
        exact absurd rfl c133
      · skip
        refine x_iconst hE (nI 1) (by decide) dL_rests_136 ?_
        refine x_goto hE 141 (by decide) dL_rests_137 ?_
        refine x_eq (bI true) rfl ?_
        exact x_zret hE hr (⟨rfl, N9, by omega, rfl⟩) dL_rests_141
  · skip
    refine x_iload_n hE 3 rfl dL_rests_10 ?_
    refine x_goto hE 15 (by decide) dL_rests_11 ?_
    refine x_eq (nI N9) (by rcases hN9b with ⟨_, e⟩ | ⟨e, _⟩ <;> first | rw [e] | exact absurd c7 e) ?_
    refine x_istore hE [(4, .int (nI N9)), (3, .int (raN (arN (kph s) (seenN (kdio s) (kcl s) (kjn s)) (kT s) R C) 0 (min t R + 1))), (0, .ref (aH a)), (1, .int (nI (R * C))), (2, .int (nI t))] (by decide) rfl dL_rests_15 ?_
    refine x_iconst hE (nI 0) (by decide) dL_rests_17 ?_
    refine x_istore hE [(5, .int (nI 0)), (4, .int (nI N9)), (3, .int (raN (arN (kph s) (seenN (kdio s) (kcl s) (kjn s)) (kT s) R C) 0 (min t R + 1))), (0, .ref (aH a)), (1, .int (nI (R * C))), (2, .int (nI t))] (by decide) rfl dL_rests_18 ?_
    refine x_lv [(0, .ref (aH a)), (1, .int (nI (R * C))), (2, .int (nI t)), (3, .int (raN (arN (kph s) (seenN (kdio s) (kcl s) (kjn s)) (kT s) R C) 0 (min t R + 1))), (4, .int (nI N9)), (5, .int (nI 0))] [3, 4, 5, 2, 1, 0] rfl ?_
    refine x_at (ws' := (kW cI cZ a (tickN 0 s))) (st' := []) rfl rfl ?_
    refine sg20 (N9 + 1) 0 0 (by omega) (by omega) ?_
    refine x_aload_n hE 0 rfl dL_rests_114 ?_
    refine x_iconst hE (nI 0) (by decide) dL_rests_115 ?_
    refine x_callK (n := 1) (st := []) hE (ck_restAfter_lo l D cI cZ a (tickN N9 s) ((hI.tkN N9 (by omega)).ok (by omega))  ) gL_rests_X4_restAfter rfl rfl (by decide +kernel) ⟨by decide, by decide⟩ ⟨by decide, by decide⟩ rfl rfl (Nat.le_of_ble_eq_true rfl) dL_rests_116 (fun v9 w9 hT9 => ?_)
    obtain ⟨rfl, rfl⟩ := hT9
    refine x_at (ws' := (kW cI cZ a (tickN N9 s))) (st' := [.int (-2)]) rfl rfl ?_
    refine x_bipush hE (-2) (by decide) dL_rests_119 ?_
    refine x_icmp_ne hE 140 (by decide) dL_rests_121 (fun c121 => ?_) (fun c121 => ?_)
    · skip
      exact absurd rfl c121
    · skip
      refine x_aload_n hE 0 rfl dL_rests_124 ?_
      refine x_sipush hE (nI 1001) (by decide) dL_rests_125 ?_
      refine x_callK (n := 1) (st := []) hE (ck_restAfter_hi l D cI cZ a (tickN N9 s) ((hI.tkN N9 (by omega)).ok (by omega))  ) gL_rests_X4_restAfter rfl rfl (by decide +kernel) ⟨by decide, by decide⟩ ⟨by decide, by decide⟩ rfl rfl (Nat.le_of_ble_eq_true rfl) dL_rests_128 (fun v9 w9 hT9 => ?_)
      obtain ⟨rfl, rfl⟩ := hT9
      refine x_at (ws' := (kW cI cZ a (tickN N9 s))) (st' := [.int (-2)]) rfl rfl ?_
      refine x_bipush hE (-2) (by decide) dL_rests_131 ?_
      refine x_icmp_ne hE 140 (by decide) dL_rests_133 (fun c133 => ?_) (fun c133 => ?_)
      · skip
        exact absurd rfl c133
      · skip
        refine x_iconst hE (nI 1) (by decide) dL_rests_136 ?_
        refine x_goto hE 141 (by decide) dL_rests_137 ?_
        refine x_eq (bI true) rfl ?_
        exact x_zret hE hr (⟨rfl, N9, by omega, rfl⟩) dL_rests_141
