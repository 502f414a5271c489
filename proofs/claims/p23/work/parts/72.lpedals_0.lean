set_option maxHeartbeats 8000000 in
set_option maxRecDepth 100000 in
theorem kL_pedals_0 (l : Launch) (D : va_G) (cI cZ : ClassId) (a : KAd) (s : KSt) {R C V N : Nat} (dn : Bool) (hI : INV s R C V N) (hN : N ≤ 3000) : xC l yL_pedals wsL_pedals 6 0 0 134 D cI cZ [.ref (aH a), .int (nI 0), .int (bI dn), .int (bI (kSus s)), .int (bI (kSos s))] (kW cI cZ a s) (fun v8 w8 => v8 = some (.int (bI true)) ∧ w8 = kW cI cZ a (suS s dn)) := by
  refine xC.of (bytes := cL_pedals) (maxL := 15) (ret := (some .boolean)) (own := RL) (by decide +kernel) rfl (Nat.le_of_ble_eq_true rfl) rfl ?_
  intro p9 e9 s9 m9 args9 below9 meth9 cd9 A hE hr hin2 hA9
  have hok := hI.ok (by omega)
  obtain ⟨hRC, hRC1⟩ := hI.rc
  obtain ⟨hR, hC, hV, hpos⟩ : (1 ≤ R ∧ R ≤ 8) ∧ (1 ≤ C ∧ C ≤ 8) ∧ (1 ≤ V ∧ V ≤ 8) ∧ ∀ k, kpos s k ≤ 2 := ⟨hok.2.2.2.1, hok.2.2.2.2.1, hok.2.2.2.2.2.1, hok.2.2.2.2.2.2.1⟩
  have hok2 := (hI.su dn).ok (by omega)
  obtain ⟨hq1, hq2, hq3, hq4, hq6⟩ := hI.su_told dn
  have hsum := hI.ct3
  have hq7 : (msuV (kkk s) (nI (kT s)) (kSus s) (kSos s) dn V (vjOf s)).2 ≤ 8 := (by rw [hq1]; (repeat split) <;> omega)
  have hc9 := ct_le2 (kst s) (kca s) V
  have hmk9 := hok.2.2.2.2.2.2.2.2.2.2.2.2
  have hmk8 := hok2.2.2.2.2.2.2.2.2.2.2.2.2
  have sg40 : ∀ (n : Nat) (i : Nat) (u : Nat) (x : Nat) (hi : i + n = V) (h1 : u = fb_ct (kca s) i) (h2 : x = fb_ct (fun v => decide (kst s v = nI 2) && kca s v) i) (hx : X p9 l e9 { frames := 6, cells := 0, slots := 0, locals := 134 } s9 m9 args9 below9 meth9 cd9 0 0 (MQ below9 (xQ D (fun v8 w8 => v8 = some (.int (bI true)) ∧ w8 = kW cI cZ a (suS s dn)) A) args9 s9 0 0 A) 15 D A (kW cI cZ a s) [(0, .ref (aH a)), (1, .int (nI 0)), (2, .int (bI dn)), (3, .int (bI (kSus s))), (4, .int (bI (kSos s))), (5, .int (nI (isN (kst s) (nI 1) V))), (6, .int (nI (isN (kst s) (nI 2) V))), (7, .int (nI (kmk s))), (8, .int (nI (fb_ct (kca s) V))), (9, .int (nI (fb_ct (fun v => decide (kst s v = nI 2) && kca s v) V)))] 95 []), X p9 l e9 { frames := 6, cells := 0, slots := 0, locals := 134 } s9 m9 args9 below9 meth9 cd9 0 0 (MQ below9 (xQ D (fun v8 w8 => v8 = some (.int (bI true)) ∧ w8 = kW cI cZ a (suS s dn)) A) args9 s9 0 0 A) 15 D A (kW cI cZ a s) [(0, .ref (aH a)), (1, .int (nI 0)), (2, .int (bI dn)), (3, .int (bI (kSus s))), (4, .int (bI (kSos s))), (5, .int (nI (isN (kst s) (nI 1) V))), (6, .int (nI (isN (kst s) (nI 2) V))), (7, .int (nI (kmk s))), (8, .int (nI u)), (9, .int (nI x)), (10, .int (nI i))] 40 [] := by
    intro n
    induction n with
    | zero =>
      intro i u x hi h1 h2 hx
      have hu8 : u ≤ 8 := by rw [h1]; exact Nat.le_trans (fb_ct_le _ _) (by omega)
      have hx8 : x ≤ 8 := by rw [h2]; exact Nat.le_trans (fb_ct_le _ _) (by omega)
      refine x_iload hE 10 rfl dL_pedals_40 ?_
      refine x_aload_n hE 0 rfl dL_pedals_42 ?_
      refine x_iconst hE (nI 5) (by decide) dL_pedals_43 ?_
      refine x_callK (n := 1) (st := [.int (nI i)]) hE (ck_count_5 l D cI cZ a s hok  ) gL_pedals_X4_count rfl rfl (by decide +kernel) ⟨by decide, by decide⟩ ⟨by decide, by decide⟩ rfl rfl (Nat.le_of_ble_eq_true rfl) dL_pedals_44 (fun v9 w9 hT9 => ?_)
      obtain ⟨rfl, rfl⟩ := hT9
      refine x_at (ws' := (kW cI cZ a s)) (st' := [.int (nI V), .int (nI i)]) rfl rfl ?_
      refine xn_icmp_ge hE (by omega) (by omega) 95 (by decide) dL_pedals_47 (fun c47 => ?_) (fun c47 => ?_)
      · skip
        refine x_lv [(0, .ref (aH a)), (1, .int (nI 0)), (2, .int (bI dn)), (3, .int (bI (kSus s))), (4, .int (bI (kSos s))), (5, .int (nI (isN (kst s) (nI 1) V))), (6, .int (nI (isN (kst s) (nI 2) V))), (7, .int (nI (kmk s))), (8, .int (nI u)), (9, .int (nI x))] [0, 1, 2, 3, 4, 5, 6, 7, 8, 9] rfl ?_
        obtain rfl : i = V := by omega
        subst h1
        subst h2
        exact hx
      · skip
        exfalso; omega
    | succ n ih =>
      intro i u x hi h1 h2 hx
      have hu8 : u ≤ 8 := by rw [h1]; exact Nat.le_trans (fb_ct_le _ _) (by omega)
      have hx8 : x ≤ 8 := by rw [h2]; exact Nat.le_trans (fb_ct_le _ _) (by omega)
      refine x_iload hE 10 rfl dL_pedals_40 ?_
      refine x_aload_n hE 0 rfl dL_pedals_42 ?_
      refine x_iconst hE (nI 5) (by decide) dL_pedals_43 ?_
      refine x_callK (n := 1) (st := [.int (nI i)]) hE (ck_count_5 l D cI cZ a s hok  ) gL_pedals_X4_count rfl rfl (by decide +kernel) ⟨by decide, by decide⟩ ⟨by decide, by decide⟩ rfl rfl (Nat.le_of_ble_eq_true rfl) dL_pedals_44 (fun v9 w9 hT9 => ?_)
      obtain ⟨rfl, rfl⟩ := hT9
      refine x_at (ws' := (kW cI cZ a s)) (st' := [.int (nI V), .int (nI i)]) rfl rfl ?_
      refine xn_icmp_ge hE (by omega) (by omega) 95 (by decide) dL_pedals_47 (fun c47 => ?_) (fun c47 => ?_)
      · skip
        exfalso; omega
      · skip
        refine x_iload hE 8 rfl dL_pedals_50 ?_
        refine x_aload_n hE 0 rfl dL_pedals_52 ?_
        refine x_iload hE 10 rfl dL_pedals_53 ?_
        refine x_iconst hE (nI 4) (by decide) dL_pedals_55 ?_
        refine x_callK (n := 2) (st := [.int (nI u)]) hE (ck_voice_4 l D cI cZ a s hok i (by omega)) gL_pedals_X4_voice rfl rfl (by decide +kernel) ⟨by decide, by decide⟩ ⟨by decide, by decide⟩ rfl rfl (Nat.le_of_ble_eq_true rfl) dL_pedals_56 (fun v9 w9 hT9 => ?_)
        obtain ⟨rfl, rfl⟩ := hT9
        refine x_at (ws' := (kW cI cZ a s)) (st' := [.int (nI (b2n (kca s i))), .int (nI u)]) rfl rfl ?_
        refine x_iadd hE (nI (u + (b2n (kca s i)))) (nI_add _ _) dL_pedals_59 ?_
        refine x_istore hE [(8, .int (nI (u + (b2n (kca s i))))), (0, .ref (aH a)), (1, .int (nI 0)), (2, .int (bI dn)), (3, .int (bI (kSus s))), (4, .int (bI (kSos s))), (5, .int (nI (isN (kst s) (nI 1) V))), (6, .int (nI (isN (kst s) (nI 2) V))), (7, .int (nI (kmk s))), (9, .int (nI x)), (10, .int (nI i))] (by decide) rfl dL_pedals_60 ?_
        refine x_iload hE 9 rfl dL_pedals_62 ?_
        refine x_aload_n hE 1 rfl dL_pedals_64 ?_
        refine x_iload hE 10 rfl dL_pedals_65 ?_
        refine x_iconst hE (nI 0) (by decide) dL_pedals_67 ?_
        refine x_callK (n := 2) (st := [.int (nI x)]) hE (ck_voice_0 l D cI cZ a s hok i (by omega)) gL_pedals_X4_voice rfl rfl (by decide +kernel) ⟨by decide, by decide⟩ ⟨by decide, by decide⟩ rfl rfl (Nat.le_of_ble_eq_true rfl) dL_pedals_68 (fun v9 w9 hT9 => ?_)
        obtain ⟨rfl, rfl⟩ := hT9
        refine x_at (ws' := (kW cI cZ a s)) (st' := [.int (kst s i), .int (nI x)]) rfl rfl ?_
        refine x_iconst hE (nI 2) (by decide) dL_pedals_71 ?_
        refine x_icmp_ne hE 85 (by decide) dL_pedals_72 (fun c72 => ?_) (fun c72 => ?_)
        · skip
          refine x_iconst hE (nI 0) (by decide) dL_pedals_85 ?_
          refine x_iadd hE (nI (x + 0)) (nI_add _ _) dL_pedals_86 ?_
          refine x_istore hE [(9, .int (nI (x + 0))), (8, .int (nI (u + (b2n (kca s i))))), (0, .ref (aH a)), (1, .int (nI 0)), (2, .int (bI dn)), (3, .int (bI (kSus s))), (4, .int (bI (kSos s))), (5, .int (nI (isN (kst s) (nI 1) V))), (6, .int (nI (isN (kst s) (nI 2) V))), (7, .int (nI (kmk s))), (10, .int (nI i))] (by decide) rfl dL_pedals_87 ?_
          refine x_iinc hE (nI (i + 1)) [(10, .int (nI (i + 1))), (9, .int (nI (x + 0))), (8, .int (nI (u + (b2n (kca s i))))), (0, .ref (aH a)), (1, .int (nI 0)), (2, .int (bI dn)), (3, .int (bI (kSus s))), (4, .int (bI (kSos s))), (5, .int (nI (isN (kst s) (nI 1) V))), (6, .int (nI (isN (kst s) (nI 2) V))), (7, .int (nI (kmk s)))] 10 rfl (nI_add _ _) (by decide) rfl dL_pedals_89 ?_
          refine x_goto hE 40 (by decide) dL_pedals_92 ?_
          refine x_lv [(0, .ref (aH a)), (1, .int (nI 0)), (2, .int (bI dn)), (3, .int (bI (kSus s))), (4, .int (bI (kSos s))), (5, .int (nI (isN (kst s) (nI 1) V))), (6, .int (nI (isN (kst s) (nI 2) V))), (7, .int (nI (kmk s))), (8, .int (nI (u + (b2n (kca s i))))), (9, .int (nI (x + 0))), (10, .int (nI (i + 1)))] [3, 4, 5, 6, 7, 8, 9, 10, 2, 1, 0] rfl ?_
          exact ih (i + 1) (u + (b2n (kca s i))) (x + 0) (by omega) (by rw [fb_ct_succ, ← h1]; rfl) (by rw [fb_ct_succ, ← h2]; first | rw [if_pos (show (decide (kst s i = nI 2) && kca s i) = true from by rw [decide_eq_true c72]; assumption)] | skip; first | (rw [show (decide (kst s i = nI 2) && kca s i) = kca s i from by rw [decide_eq_true c72]; rfl]; rfl) | (rw [show (decide (kst s i = nI 2) && kca s i) = false from by rw [decide_eq_false c72]; rfl]; rfl)) hx
        · skip
          refine x_aload_n hE 1 rfl dL_pedals_75 ?_
          refine x_iload hE 10 rfl dL_pedals_76 ?_
          refine x_iconst hE (nI 4) (by decide) dL_pedals_78 ?_
          refine x_callK (n := 2) (st := [.int (nI x)]) hE (ck_voice_4 l D cI cZ a s hok i (by omega)) gL_pedals_X4_voice rfl rfl (by decide +kernel) ⟨by decide, by decide⟩ ⟨by decide, by decide⟩ rfl rfl (Nat.le_of_ble_eq_true rfl) dL_pedals_79 (fun v9 w9 hT9 => ?_)
          obtain ⟨rfl, rfl⟩ := hT9
          refine x_at (ws' := (kW cI cZ a s)) (st' := [.int (nI (b2n (kca s i))), .int (nI x)]) rfl rfl ?_
          refine x_goto hE 86 (by decide) dL_pedals_82 ?_
          refine x_iadd hE (nI (x + (b2n (kca s i)))) (nI_add _ _) dL_pedals_86 ?_
          refine x_istore hE [(9, .int (nI (x + (b2n (kca s i))))), (8, .int (nI (u + (b2n (kca s i))))), (0, .ref (aH a)), (1, .int (nI 0)), (2, .int (bI dn)), (3, .int (bI (kSus s))), (4, .int (bI (kSos s))), (5, .int (nI (isN (kst s) (nI 1) V))), (6, .int (nI (isN (kst s) (nI 2) V))), (7, .int (nI (kmk s))), (10, .int (nI i))] (by decide) rfl dL_pedals_87 ?_
          refine x_iinc hE (nI (i + 1)) [(10, .int (nI (i + 1))), (9, .int (nI (x + (b2n (kca s i))))), (8, .int (nI (u + (b2n (kca s i))))), (0, .ref (aH a)), (1, .int (nI 0)), (2, .int (bI dn)), (3, .int (bI (kSus s))), (4, .int (bI (kSos s))), (5, .int (nI (isN (kst s) (nI 1) V))), (6, .int (nI (isN (kst s) (nI 2) V))), (7, .int (nI (kmk s)))] 10 rfl (nI_add _ _) (by decide) rfl dL_pedals_89 ?_
          refine x_goto hE 40 (by decide) dL_pedals_92 ?_
          refine x_lv [(0, .ref (aH a)), (1, .int (nI 0)), (2, .int (bI dn)), (3, .int (bI (kSus s))), (4, .int (bI (kSos s))), (5, .int (nI (isN (kst s) (nI 1) V))), (6, .int (nI (isN (kst s) (nI 2) V))), (7, .int (nI (kmk s))), (8, .int (nI (u + (b2n (kca s i))))), (9, .int (nI (x + (b2n (kca s i))))), (10, .int (nI (i + 1)))] [3, 4, 5, 6, 7, 8, 9, 10, 2, 1, 0] rfl ?_
          exact ih (i + 1) (u + (b2n (kca s i))) (x + (b2n (kca s i))) (by omega) (by rw [fb_ct_succ, ← h1]; rfl) (by rw [fb_ct_succ, ← h2]; first | rw [if_pos (show (decide (kst s i = nI 2) && kca s i) = true from by rw [decide_eq_true c72]; assumption)] | skip; first | (rw [show (decide (kst s i = nI 2) && kca s i) = kca s i from by rw [decide_eq_true c72]; rfl]; rfl) | (rw [show (decide (kst s i = nI 2) && kca s i) = false from by rw [decide_eq_false c72]; rfl]; rfl)) hx
  have sg114 : ∀   (hx : X p9 l e9 { frames := 6, cells := 0, slots := 0, locals := 134 } s9 m9 args9 below9 meth9 cd9 0 0 (MQ below9 (xQ D (fun v8 w8 => v8 = some (.int (bI true)) ∧ w8 = kW cI cZ a (suS s dn)) A) args9 s9 0 0 A) 15 D A (kW cI cZ a (suS s dn)) [(0, .ref (aH a)), (1, .int (nI 0)), (2, .int (bI dn)), (3, .int (bI (kSus s))), (4, .int (bI (kSos s))), (5, .int (nI (isN (kst s) (nI 1) V))), (6, .int (nI (isN (kst s) (nI 2) V))), (7, .int (nI (kmk s))), (8, .int (nI (fb_ct (kca s) V))), (9, .int (nI (fb_ct (fun v => decide (kst s v = nI 2) && kca s v) V))), (10, .int (nI ((msuV (kkk s) (nI (kT s)) (kSus s) (kSos s) dn V (vjOf s)).2)))] 159 [.int (nI (fsu s V dn))]), X p9 l e9 { frames := 6, cells := 0, slots := 0, locals := 134 } s9 m9 args9 below9 meth9 cd9 0 0 (MQ below9 (xQ D (fun v8 w8 => v8 = some (.int (bI true)) ∧ w8 = kW cI cZ a (suS s dn)) A) args9 s9 0 0 A) 15 D A (kW cI cZ a (suS s dn)) [(0, .ref (aH a)), (1, .int (nI 0)), (2, .int (bI dn)), (3, .int (bI (kSus s))), (4, .int (bI (kSos s))), (5, .int (nI (isN (kst s) (nI 1) V))), (6, .int (nI (isN (kst s) (nI 2) V))), (7, .int (nI (kmk s))), (8, .int (nI (fb_ct (kca s) V))), (9, .int (nI (fb_ct (fun v => decide (kst s v = nI 2) && kca s v) V))), (10, .int (nI ((msuV (kkk s) (nI (kT s)) (kSus s) (kSos s) dn V (vjOf s)).2)))] 114 [] := by
    intro   hx
    refine x_iload_n hE 3 rfl dL_pedals_114 ?_
    refine xb_if_eq hE 158 (by decide) dL_pedals_115 (fun c115 => ?_) (fun c115 => ?_)
    · skip
      refine x_iconst hE (nI 0) (by decide) dL_pedals_158 ?_
      refine x_eq (nI (fsu s V dn)) (by unfold fsu; simp only [if_neg (bnt c115), reduceIte, Bool.false_eq_true, Bool.true_eq_false]) ?_
      exact hx
    · skip
      refine x_iload_n hE 2 rfl dL_pedals_118 ?_
      refine xb_if_ne hE 158 (by decide) dL_pedals_119 (fun c119 => ?_) (fun c119 => ?_)
      · skip
        refine x_iconst hE (nI 0) (by decide) dL_pedals_158 ?_
        refine x_eq (nI (fsu s V dn)) (by unfold fsu; simp only [if_pos c115, if_pos c119, reduceIte, Bool.false_eq_true, Bool.true_eq_false]) ?_
        exact hx
      · skip
        refine x_iload_n hE 1 rfl dL_pedals_122 ?_
        refine xn_if_ne hE (by decide) 144 (by decide) dL_pedals_123 (fun c123 => ?_) (fun c123 => ?_)
        · skip
          exact absurd (by decide) c123
        · skip
          refine x_iload hE 4 rfl dL_pedals_126 ?_
          refine xb_if_eq hE 139 (by decide) dL_pedals_128 (fun c128 => ?_) (fun c128 => ?_)
          · skip
            refine x_iload hE 6 rfl dL_pedals_139 ?_
            refine x_goto hE 159 (by decide) dL_pedals_141 ?_
            refine x_eq (nI (fsu s V dn)) (by unfold fsu; simp only [if_pos c115, if_neg (bnt c119), if_pos c123, if_neg (bnt c128), reduceIte, Bool.false_eq_true, Bool.true_eq_false]) ?_
            exact hx
          · skip
            refine x_iload hE 6 rfl dL_pedals_131 ?_
            refine x_iload hE 9 rfl dL_pedals_133 ?_
            refine x_isub hE (nI ((isN (kst s) (nI 2) V) - (fb_ct (fun v => decide (kst s v = nI 2) && kca s v) V))) (xI_sub (by omega)) dL_pedals_135 ?_
            refine x_goto hE 159 (by decide) dL_pedals_136 ?_
            refine x_eq (nI (fsu s V dn)) (by unfold fsu; simp only [if_pos c115, if_neg (bnt c119), if_pos c123, if_pos c128, reduceIte, Bool.false_eq_true, Bool.true_eq_false]) ?_
            exact hx
  have sg161 : ∀   (hx : X p9 l e9 { frames := 6, cells := 0, slots := 0, locals := 134 } s9 m9 args9 below9 meth9 cd9 0 0 (MQ below9 (xQ D (fun v8 w8 => v8 = some (.int (bI true)) ∧ w8 = kW cI cZ a (suS s dn)) A) args9 s9 0 0 A) 15 D A (kW cI cZ a (suS s dn)) [(0, .ref (aH a)), (1, .int (nI 0)), (2, .int (bI dn)), (3, .int (bI (kSus s))), (4, .int (bI (kSos s))), (5, .int (nI (isN (kst s) (nI 1) V))), (6, .int (nI (isN (kst s) (nI 2) V))), (7, .int (nI (kmk s))), (8, .int (nI (fb_ct (kca s) V))), (9, .int (nI (fb_ct (fun v => decide (kst s v = nI 2) && kca s v) V))), (10, .int (nI ((msuV (kkk s) (nI (kT s)) (kSus s) (kSos s) dn V (vjOf s)).2))), (11, .int (nI (fsu s V dn)))] 181 [.int (nI ((msuV (kkk s) (nI (kT s)) (kSus s) (kSos s) dn V (vjOf s)).2))]), X p9 l e9 { frames := 6, cells := 0, slots := 0, locals := 134 } s9 m9 args9 below9 meth9 cd9 0 0 (MQ below9 (xQ D (fun v8 w8 => v8 = some (.int (bI true)) ∧ w8 = kW cI cZ a (suS s dn)) A) args9 s9 0 0 A) 15 D A (kW cI cZ a (suS s dn)) [(0, .ref (aH a)), (1, .int (nI 0)), (2, .int (bI dn)), (3, .int (bI (kSus s))), (4, .int (bI (kSos s))), (5, .int (nI (isN (kst s) (nI 1) V))), (6, .int (nI (isN (kst s) (nI 2) V))), (7, .int (nI (kmk s))), (8, .int (nI (fb_ct (kca s) V))), (9, .int (nI (fb_ct (fun v => decide (kst s v = nI 2) && kca s v) V))), (10, .int (nI ((msuV (kkk s) (nI (kT s)) (kSus s) (kSos s) dn V (vjOf s)).2))), (11, .int (nI (fsu s V dn)))] 161 [] := by
    intro   hx
    refine x_iload_n hE 1 rfl dL_pedals_161 ?_
    refine x_iconst hE (nI 1) (by decide) dL_pedals_162 ?_
    refine xn_icmp_ne hE (by decide) (by decide) 179 (by decide) dL_pedals_163 (fun c163 => ?_) (fun c163 => ?_)
    · skip
      refine x_iload hE 11 rfl dL_pedals_179 ?_
      refine x_eq (nI ((msuV (kkk s) (nI (kT s)) (kSus s) (kSos s) dn V (vjOf s)).2)) (by rw [hq1]) ?_
      exact hx
    · skip
      exact absurd c163 (by decide)
  have sg189 : ∀ (n : Nat) (i : Nat) (u : Nat) (hi : i + n = V) (h1 : u = fb_ct (kca (suS s dn)) i) (hx : X p9 l e9 { frames := 6, cells := 0, slots := 0, locals := 134 } s9 m9 args9 below9 meth9 cd9 0 0 (MQ below9 (xQ D (fun v8 w8 => v8 = some (.int (bI true)) ∧ w8 = kW cI cZ a (suS s dn)) A) args9 s9 0 0 A) 15 D A (kW cI cZ a (suS s dn)) [(0, .ref (aH a)), (1, .int (nI 0)), (2, .int (bI dn)), (3, .int (bI (kSus s))), (4, .int (bI (kSos s))), (5, .int (nI (isN (kst s) (nI 1) V))), (6, .int (nI (isN (kst s) (nI 2) V))), (7, .int (nI (kmk s))), (8, .int (nI (fb_ct (kca s) V))), (9, .int (nI (fb_ct (fun v => decide (kst s v = nI 2) && kca s v) V))), (10, .int (nI ((msuV (kkk s) (nI (kT s)) (kSus s) (kSos s) dn V (vjOf s)).2))), (11, .int (nI (fsu s V dn))), (12, .int (nI ((msuV (kkk s) (nI (kT s)) (kSus s) (kSos s) dn V (vjOf s)).2))), (13, .int (nI (fb_ct (kca (suS s dn)) V)))] 217 []), X p9 l e9 { frames := 6, cells := 0, slots := 0, locals := 134 } s9 m9 args9 below9 meth9 cd9 0 0 (MQ below9 (xQ D (fun v8 w8 => v8 = some (.int (bI true)) ∧ w8 = kW cI cZ a (suS s dn)) A) args9 s9 0 0 A) 15 D A (kW cI cZ a (suS s dn)) [(0, .ref (aH a)), (1, .int (nI 0)), (2, .int (bI dn)), (3, .int (bI (kSus s))), (4, .int (bI (kSos s))), (5, .int (nI (isN (kst s) (nI 1) V))), (6, .int (nI (isN (kst s) (nI 2) V))), (7, .int (nI (kmk s))), (8, .int (nI (fb_ct (kca s) V))), (9, .int (nI (fb_ct (fun v => decide (kst s v = nI 2) && kca s v) V))), (10, .int (nI ((msuV (kkk s) (nI (kT s)) (kSus s) (kSos s) dn V (vjOf s)).2))), (11, .int (nI (fsu s V dn))), (12, .int (nI ((msuV (kkk s) (nI (kT s)) (kSus s) (kSos s) dn V (vjOf s)).2))), (13, .int (nI u)), (14, .int (nI i))] 189 [] := by
    intro n
    induction n with
    | zero =>
      intro i u hi h1 hx
      have hu8 : u ≤ 8 := by rw [h1]; exact Nat.le_trans (fb_ct_le _ _) (by omega)
      refine x_iload hE 14 rfl dL_pedals_189 ?_
      refine x_aload_n hE 0 rfl dL_pedals_191 ?_
      refine x_iconst hE (nI 5) (by decide) dL_pedals_192 ?_
      refine x_callK (n := 1) (st := [.int (nI i)]) hE (ck_count_5 l D cI cZ a (suS s dn) hok2  ) gL_pedals_X4_count rfl rfl (by decide +kernel) ⟨by decide, by decide⟩ ⟨by decide, by decide⟩ rfl rfl (Nat.le_of_ble_eq_true rfl) dL_pedals_193 (fun v9 w9 hT9 => ?_)
      obtain ⟨rfl, rfl⟩ := hT9
      refine x_at (ws' := (kW cI cZ a (suS s dn))) (st' := [.int (nI V), .int (nI i)]) rfl rfl ?_
      refine xn_icmp_ge hE (by omega) (by omega) 217 (by decide) dL_pedals_196 (fun c196 => ?_) (fun c196 => ?_)
      · skip
        refine x_lv [(0, .ref (aH a)), (1, .int (nI 0)), (2, .int (bI dn)), (3, .int (bI (kSus s))), (4, .int (bI (kSos s))), (5, .int (nI (isN (kst s) (nI 1) V))), (6, .int (nI (isN (kst s) (nI 2) V))), (7, .int (nI (kmk s))), (8, .int (nI (fb_ct (kca s) V))), (9, .int (nI (fb_ct (fun v => decide (kst s v = nI 2) && kca s v) V))), (10, .int (nI ((msuV (kkk s) (nI (kT s)) (kSus s) (kSos s) dn V (vjOf s)).2))), (11, .int (nI (fsu s V dn))), (12, .int (nI ((msuV (kkk s) (nI (kT s)) (kSus s) (kSos s) dn V (vjOf s)).2))), (13, .int (nI u))] [0, 1, 2, 3, 4, 5, 6, 7, 8, 9, 10, 11, 12, 13] rfl ?_
        obtain rfl : i = V := by omega
        subst h1
        exact hx
      · skip
        exfalso; omega
    | succ n ih =>
      intro i u hi h1 hx
      have hu8 : u ≤ 8 := by rw [h1]; exact Nat.le_trans (fb_ct_le _ _) (by omega)
      refine x_iload hE 14 rfl dL_pedals_189 ?_
      refine x_aload_n hE 0 rfl dL_pedals_191 ?_
      refine x_iconst hE (nI 5) (by decide) dL_pedals_192 ?_
      refine x_callK (n := 1) (st := [.int (nI i)]) hE (ck_count_5 l D cI cZ a (suS s dn) hok2  ) gL_pedals_X4_count rfl rfl (by decide +kernel) ⟨by decide, by decide⟩ ⟨by decide, by decide⟩ rfl rfl (Nat.le_of_ble_eq_true rfl) dL_pedals_193 (fun v9 w9 hT9 => ?_)
      obtain ⟨rfl, rfl⟩ := hT9
      refine x_at (ws' := (kW cI cZ a (suS s dn))) (st' := [.int (nI V), .int (nI i)]) rfl rfl ?_
      refine xn_icmp_ge hE (by omega) (by omega) 217 (by decide) dL_pedals_196 (fun c196 => ?_) (fun c196 => ?_)
      · skip
        exfalso; omega
      · skip
        refine x_iload hE 13 rfl dL_pedals_199 ?_
        refine x_aload_n hE 0 rfl dL_pedals_201 ?_
        refine x_iload hE 14 rfl dL_pedals_202 ?_
        refine x_iconst hE (nI 4) (by decide) dL_pedals_204 ?_
        refine x_callK (n := 2) (st := [.int (nI u)]) hE (ck_voice_4 l D cI cZ a (suS s dn) hok2 i (by omega)) gL_pedals_X4_voice rfl rfl (by decide +kernel) ⟨by decide, by decide⟩ ⟨by decide, by decide⟩ rfl rfl (Nat.le_of_ble_eq_true rfl) dL_pedals_205 (fun v9 w9 hT9 => ?_)
        obtain ⟨rfl, rfl⟩ := hT9
        refine x_at (ws' := (kW cI cZ a (suS s dn))) (st' := [.int (nI (b2n (kca (suS s dn) i))), .int (nI u)]) rfl rfl ?_
        refine x_iadd hE (nI (u + (b2n (kca (suS s dn) i)))) (nI_add _ _) dL_pedals_208 ?_
        refine x_istore hE [(13, .int (nI (u + (b2n (kca (suS s dn) i))))), (0, .ref (aH a)), (1, .int (nI 0)), (2, .int (bI dn)), (3, .int (bI (kSus s))), (4, .int (bI (kSos s))), (5, .int (nI (isN (kst s) (nI 1) V))), (6, .int (nI (isN (kst s) (nI 2) V))), (7, .int (nI (kmk s))), (8, .int (nI (fb_ct (kca s) V))), (9, .int (nI (fb_ct (fun v => decide (kst s v = nI 2) && kca s v) V))), (10, .int (nI ((msuV (kkk s) (nI (kT s)) (kSus s) (kSos s) dn V (vjOf s)).2))), (11, .int (nI (fsu s V dn))), (12, .int (nI ((msuV (kkk s) (nI (kT s)) (kSus s) (kSos s) dn V (vjOf s)).2))), (14, .int (nI i))] (by decide) rfl dL_pedals_209 ?_
        refine x_iinc hE (nI (i + 1)) [(14, .int (nI (i + 1))), (13, .int (nI (u + (b2n (kca (suS s dn) i))))), (0, .ref (aH a)), (1, .int (nI 0)), (2, .int (bI dn)), (3, .int (bI (kSus s))), (4, .int (bI (kSos s))), (5, .int (nI (isN (kst s) (nI 1) V))), (6, .int (nI (isN (kst s) (nI 2) V))), (7, .int (nI (kmk s))), (8, .int (nI (fb_ct (kca s) V))), (9, .int (nI (fb_ct (fun v => decide (kst s v = nI 2) && kca s v) V))), (10, .int (nI ((msuV (kkk s) (nI (kT s)) (kSus s) (kSos s) dn V (vjOf s)).2))), (11, .int (nI (fsu s V dn))), (12, .int (nI ((msuV (kkk s) (nI (kT s)) (kSus s) (kSos s) dn V (vjOf s)).2)))] 14 rfl (nI_add _ _) (by decide) rfl dL_pedals_211 ?_
        refine x_goto hE 189 (by decide) dL_pedals_214 ?_
        refine x_lv [(0, .ref (aH a)), (1, .int (nI 0)), (2, .int (bI dn)), (3, .int (bI (kSus s))), (4, .int (bI (kSos s))), (5, .int (nI (isN (kst s) (nI 1) V))), (6, .int (nI (isN (kst s) (nI 2) V))), (7, .int (nI (kmk s))), (8, .int (nI (fb_ct (kca s) V))), (9, .int (nI (fb_ct (fun v => decide (kst s v = nI 2) && kca s v) V))), (10, .int (nI ((msuV (kkk s) (nI (kT s)) (kSus s) (kSos s) dn V (vjOf s)).2))), (11, .int (nI (fsu s V dn))), (12, .int (nI ((msuV (kkk s) (nI (kT s)) (kSus s) (kSos s) dn V (vjOf s)).2))), (13, .int (nI (u + (b2n (kca (suS s dn) i))))), (14, .int (nI (i + 1)))] [2, 3, 4, 5, 6, 7, 8, 9, 10, 11, 12, 13, 14, 1, 0] rfl ?_
        exact ih (i + 1) (u + (b2n (kca (suS s dn) i))) (by omega) (by rw [fb_ct_succ, ← h1]; rfl) hx
  have sg217 : ∀   (hx : X p9 l e9 { frames := 6, cells := 0, slots := 0, locals := 134 } s9 m9 args9 below9 meth9 cd9 0 0 (MQ below9 (xQ D (fun v8 w8 => v8 = some (.int (bI true)) ∧ w8 = kW cI cZ a (suS s dn)) A) args9 s9 0 0 A) 15 D A (kW cI cZ a (suS s dn)) [(0, .ref (aH a)), (1, .int (nI 0)), (2, .int (bI dn)), (3, .int (bI (kSus s))), (4, .int (bI (kSos s))), (5, .int (nI (isN (kst s) (nI 1) V))), (6, .int (nI (isN (kst s) (nI 2) V))), (7, .int (nI (kmk s))), (8, .int (nI (fb_ct (kca s) V))), (9, .int (nI (fb_ct (fun v => decide (kst s v = nI 2) && kca s v) V))), (10, .int (nI ((msuV (kkk s) (nI (kT s)) (kSus s) (kSos s) dn V (vjOf s)).2))), (11, .int (nI (fsu s V dn))), (12, .int (nI ((msuV (kkk s) (nI (kT s)) (kSus s) (kSos s) dn V (vjOf s)).2))), (13, .int (nI (fb_ct (kca (suS s dn)) V)))] 259 [.int (nI 1)]), X p9 l e9 { frames := 6, cells := 0, slots := 0, locals := 134 } s9 m9 args9 below9 meth9 cd9 0 0 (MQ below9 (xQ D (fun v8 w8 => v8 = some (.int (bI true)) ∧ w8 = kW cI cZ a (suS s dn)) A) args9 s9 0 0 A) 15 D A (kW cI cZ a (suS s dn)) [(0, .ref (aH a)), (1, .int (nI 0)), (2, .int (bI dn)), (3, .int (bI (kSus s))), (4, .int (bI (kSos s))), (5, .int (nI (isN (kst s) (nI 1) V))), (6, .int (nI (isN (kst s) (nI 2) V))), (7, .int (nI (kmk s))), (8, .int (nI (fb_ct (kca s) V))), (9, .int (nI (fb_ct (fun v => decide (kst s v = nI 2) && kca s v) V))), (10, .int (nI ((msuV (kkk s) (nI (kT s)) (kSus s) (kSos s) dn V (vjOf s)).2))), (11, .int (nI (fsu s V dn))), (12, .int (nI ((msuV (kkk s) (nI (kT s)) (kSus s) (kSos s) dn V (vjOf s)).2))), (13, .int (nI (fb_ct (kca (suS s dn)) V)))] 217 [] := by
    intro   hx
    refine x_iload_n hE 1 rfl dL_pedals_217 ?_
    refine xn_if_eq hE (by decide) 254 (by decide) dL_pedals_218 (fun c218 => ?_) (fun c218 => ?_)
    · skip
      refine x_iconst hE (nI 1) (by decide) dL_pedals_254 ?_
      refine x_goto hE 259 (by decide) dL_pedals_255 ?_
      exact hx
    · skip
      exact absurd (by decide) c218
  refine x_at (ws' := (kW cI cZ a s)) (st' := []) rfl rfl ?_
  refine x_lv [(0, .ref (aH a)), (1, .int (nI 0)), (2, .int (bI dn)), (3, .int (bI (kSus s))), (4, .int (bI (kSos s)))] [0, 1, 2, 3, 4] rfl ?_
  refine x_aload_n hE 0 rfl dL_pedals_0 ?_
  refine x_bipush hE (nI 6) (by decide) dL_pedals_1 ?_
  refine x_callK (n := 1) (st := []) hE (ck_count_6 l D cI cZ a s hok  ) gL_pedals_X4_count rfl rfl (by decide +kernel) ⟨by decide, by decide⟩ ⟨by decide, by decide⟩ rfl rfl (Nat.le_of_ble_eq_true rfl) dL_pedals_3 (fun v9 w9 hT9 => ?_)
  obtain ⟨rfl, rfl⟩ := hT9
  refine x_at (ws' := (kW cI cZ a s)) (st' := [.int (nI (V - isN (kst s) (nI 0) V))]) rfl rfl ?_
  refine x_aload_n hE 0 rfl dL_pedals_6 ?_
  refine x_bipush hE (nI 7) (by decide) dL_pedals_7 ?_
  refine x_callK (n := 1) (st := [.int (nI (V - isN (kst s) (nI 0) V))]) hE (ck_count_7 l D cI cZ a s hok  ) gL_pedals_X4_count rfl rfl (by decide +kernel) ⟨by decide, by decide⟩ ⟨by decide, by decide⟩ rfl rfl (Nat.le_of_ble_eq_true rfl) dL_pedals_9 (fun v9 w9 hT9 => ?_)
  obtain ⟨rfl, rfl⟩ := hT9
  refine x_at (ws' := (kW cI cZ a s)) (st' := [.int (nI (isN (kst s) (nI 2) V)), .int (nI (V - isN (kst s) (nI 0) V))]) rfl rfl ?_
  refine x_isub hE (nI ((V - isN (kst s) (nI 0) V) - (isN (kst s) (nI 2) V))) (xI_sub (by omega)) dL_pedals_12 ?_
  refine x_eq (nI (isN (kst s) (nI 1) V)) (congrArg nI (by omega)) ?_
  refine x_istore hE [(5, .int (nI (isN (kst s) (nI 1) V))), (0, .ref (aH a)), (1, .int (nI 0)), (2, .int (bI dn)), (3, .int (bI (kSus s))), (4, .int (bI (kSos s)))] (by decide) rfl dL_pedals_13 ?_
  refine x_aload_n hE 1 rfl dL_pedals_15 ?_
  refine x_bipush hE (nI 7) (by decide) dL_pedals_16 ?_
  refine x_callK (n := 1) (st := []) hE (ck_count_7 l D cI cZ a s hok  ) gL_pedals_X4_count rfl rfl (by decide +kernel) ⟨by decide, by decide⟩ ⟨by decide, by decide⟩ rfl rfl (Nat.le_of_ble_eq_true rfl) dL_pedals_18 (fun v9 w9 hT9 => ?_)
  obtain ⟨rfl, rfl⟩ := hT9
  refine x_at (ws' := (kW cI cZ a s)) (st' := [.int (nI (isN (kst s) (nI 2) V))]) rfl rfl ?_
  refine x_istore hE [(6, .int (nI (isN (kst s) (nI 2) V))), (5, .int (nI (isN (kst s) (nI 1) V))), (0, .ref (aH a)), (1, .int (nI 0)), (2, .int (bI dn)), (3, .int (bI (kSus s))), (4, .int (bI (kSos s)))] (by decide) rfl dL_pedals_21 ?_
  refine x_aload_n hE 2 rfl dL_pedals_23 ?_
  refine x_bipush hE (nI 8) (by decide) dL_pedals_24 ?_
  refine x_callK (n := 1) (st := []) hE (ck_count_8 l D cI cZ a s hok  ) gL_pedals_X4_count rfl rfl (by decide +kernel) ⟨by decide, by decide⟩ ⟨by decide, by decide⟩ rfl rfl (Nat.le_of_ble_eq_true rfl) dL_pedals_26 (fun v9 w9 hT9 => ?_)
  obtain ⟨rfl, rfl⟩ := hT9
  refine x_at (ws' := (kW cI cZ a s)) (st' := [.int (nI (kmk s))]) rfl rfl ?_
  refine x_istore hE [(7, .int (nI (kmk s))), (6, .int (nI (isN (kst s) (nI 2) V))), (5, .int (nI (isN (kst s) (nI 1) V))), (0, .ref (aH a)), (1, .int (nI 0)), (2, .int (bI dn)), (3, .int (bI (kSus s))), (4, .int (bI (kSos s)))] (by decide) rfl dL_pedals_29 ?_
  refine x_iconst hE (nI 0) (by decide) dL_pedals_31 ?_
  refine x_istore hE [(8, .int (nI 0)), (7, .int (nI (kmk s))), (6, .int (nI (isN (kst s) (nI 2) V))), (5, .int (nI (isN (kst s) (nI 1) V))), (0, .ref (aH a)), (1, .int (nI 0)), (2, .int (bI dn)), (3, .int (bI (kSus s))), (4, .int (bI (kSos s)))] (by decide) rfl dL_pedals_32 ?_
  refine x_iconst hE (nI 0) (by decide) dL_pedals_34 ?_
  refine x_istore hE [(9, .int (nI 0)), (8, .int (nI 0)), (7, .int (nI (kmk s))), (6, .int (nI (isN (kst s) (nI 2) V))), (5, .int (nI (isN (kst s) (nI 1) V))), (0, .ref (aH a)), (1, .int (nI 0)), (2, .int (bI dn)), (3, .int (bI (kSus s))), (4, .int (bI (kSos s)))] (by decide) rfl dL_pedals_35 ?_
  refine x_iconst hE (nI 0) (by decide) dL_pedals_37 ?_
  refine x_istore hE [(10, .int (nI 0)), (9, .int (nI 0)), (8, .int (nI 0)), (7, .int (nI (kmk s))), (6, .int (nI (isN (kst s) (nI 2) V))), (5, .int (nI (isN (kst s) (nI 1) V))), (0, .ref (aH a)), (1, .int (nI 0)), (2, .int (bI dn)), (3, .int (bI (kSus s))), (4, .int (bI (kSos s)))] (by decide) rfl dL_pedals_38 ?_
  refine x_lv [(0, .ref (aH a)), (1, .int (nI 0)), (2, .int (bI dn)), (3, .int (bI (kSus s))), (4, .int (bI (kSos s))), (5, .int (nI (isN (kst s) (nI 1) V))), (6, .int (nI (isN (kst s) (nI 2) V))), (7, .int (nI (kmk s))), (8, .int (nI 0)), (9, .int (nI 0)), (10, .int (nI 0))] [6, 7, 8, 9, 10, 5, 4, 3, 2, 1, 0] rfl ?_
  refine sg40 V 0 0 0 (Nat.zero_add _) (rfl) (rfl) ?_
  refine x_iload_n hE 1 rfl dL_pedals_95 ?_
  refine xn_if_ne hE (by decide) 107 (by decide) dL_pedals_96 (fun c96 => ?_) (fun c96 => ?_)
  · skip
    exact absurd (by decide) c96
  · skip
    refine x_aload_n hE 0 rfl dL_pedals_99 ?_
    refine x_iload_n hE 2 rfl dL_pedals_100 ?_
    refine x_callK (n := 1) (st := []) hE (ck_sustain l D cI cZ a s hok dn ) gL_pedals_X4_sustain rfl rfl (by decide +kernel) ⟨by decide, by decide⟩ ⟨by decide, by decide⟩ rfl rfl (Nat.le_of_ble_eq_true rfl) dL_pedals_101 (fun v9 w9 hT9 => ?_)
    obtain ⟨rfl, rfl⟩ := hT9
    refine x_at (ws' := (kW cI cZ a (suS s dn))) (st' := [.int (nI ((msuV (kkk s) (nI (kT s)) (kSus s) (kSos s) dn V (vjOf s)).2))]) rfl rfl ?_
    refine x_goto hE 112 (by decide) dL_pedals_104 ?_
    refine x_istore hE [(10, .int (nI ((msuV (kkk s) (nI (kT s)) (kSus s) (kSos s) dn V (vjOf s)).2))), (0, .ref (aH a)), (1, .int (nI 0)), (2, .int (bI dn)), (3, .int (bI (kSus s))), (4, .int (bI (kSos s))), (5, .int (nI (isN (kst s) (nI 1) V))), (6, .int (nI (isN (kst s) (nI 2) V))), (7, .int (nI (kmk s))), (8, .int (nI (fb_ct (kca s) V))), (9, .int (nI (fb_ct (fun v => decide (kst s v = nI 2) && kca s v) V)))] (by decide) rfl dL_pedals_112 ?_
    refine x_lv [(0, .ref (aH a)), (1, .int (nI 0)), (2, .int (bI dn)), (3, .int (bI (kSus s))), (4, .int (bI (kSos s))), (5, .int (nI (isN (kst s) (nI 1) V))), (6, .int (nI (isN (kst s) (nI 2) V))), (7, .int (nI (kmk s))), (8, .int (nI (fb_ct (kca s) V))), (9, .int (nI (fb_ct (fun v => decide (kst s v = nI 2) && kca s v) V))), (10, .int (nI ((msuV (kkk s) (nI (kT s)) (kSus s) (kSos s) dn V (vjOf s)).2)))] [1, 2, 3, 4, 5, 6, 7, 8, 9, 10, 0] rfl ?_
    refine sg114   ?_
    refine x_istore hE [(11, .int (nI (fsu s V dn))), (0, .ref (aH a)), (1, .int (nI 0)), (2, .int (bI dn)), (3, .int (bI (kSus s))), (4, .int (bI (kSos s))), (5, .int (nI (isN (kst s) (nI 1) V))), (6, .int (nI (isN (kst s) (nI 2) V))), (7, .int (nI (kmk s))), (8, .int (nI (fb_ct (kca s) V))), (9, .int (nI (fb_ct (fun v => decide (kst s v = nI 2) && kca s v) V))), (10, .int (nI ((msuV (kkk s) (nI (kT s)) (kSus s) (kSos s) dn V (vjOf s)).2)))] (by decide) rfl dL_pedals_159 ?_
    refine x_lv [(0, .ref (aH a)), (1, .int (nI 0)), (2, .int (bI dn)), (3, .int (bI (kSus s))), (4, .int (bI (kSos s))), (5, .int (nI (isN (kst s) (nI 1) V))), (6, .int (nI (isN (kst s) (nI 2) V))), (7, .int (nI (kmk s))), (8, .int (nI (fb_ct (kca s) V))), (9, .int (nI (fb_ct (fun v => decide (kst s v = nI 2) && kca s v) V))), (10, .int (nI ((msuV (kkk s) (nI (kT s)) (kSus s) (kSos s) dn V (vjOf s)).2))), (11, .int (nI (fsu s V dn)))] [1, 2, 3, 4, 5, 6, 7, 8, 9, 10, 11, 0] rfl ?_
    refine sg161   ?_
    refine x_istore hE [(12, .int (nI ((msuV (kkk s) (nI (kT s)) (kSus s) (kSos s) dn V (vjOf s)).2))), (0, .ref (aH a)), (1, .int (nI 0)), (2, .int (bI dn)), (3, .int (bI (kSus s))), (4, .int (bI (kSos s))), (5, .int (nI (isN (kst s) (nI 1) V))), (6, .int (nI (isN (kst s) (nI 2) V))), (7, .int (nI (kmk s))), (8, .int (nI (fb_ct (kca s) V))), (9, .int (nI (fb_ct (fun v => decide (kst s v = nI 2) && kca s v) V))), (10, .int (nI ((msuV (kkk s) (nI (kT s)) (kSus s) (kSos s) dn V (vjOf s)).2))), (11, .int (nI (fsu s V dn)))] (by decide) rfl dL_pedals_181 ?_
    refine x_iconst hE (nI 0) (by decide) dL_pedals_183 ?_
    refine x_istore hE [(13, .int (nI 0)), (12, .int (nI ((msuV (kkk s) (nI (kT s)) (kSus s) (kSos s) dn V (vjOf s)).2))), (0, .ref (aH a)), (1, .int (nI 0)), (2, .int (bI dn)), (3, .int (bI (kSus s))), (4, .int (bI (kSos s))), (5, .int (nI (isN (kst s) (nI 1) V))), (6, .int (nI (isN (kst s) (nI 2) V))), (7, .int (nI (kmk s))), (8, .int (nI (fb_ct (kca s) V))), (9, .int (nI (fb_ct (fun v => decide (kst s v = nI 2) && kca s v) V))), (10, .int (nI ((msuV (kkk s) (nI (kT s)) (kSus s) (kSos s) dn V (vjOf s)).2))), (11, .int (nI (fsu s V dn)))] (by decide) rfl dL_pedals_184 ?_
    refine x_iconst hE (nI 0) (by decide) dL_pedals_186 ?_
    refine x_istore hE [(14, .int (nI 0)), (13, .int (nI 0)), (12, .int (nI ((msuV (kkk s) (nI (kT s)) (kSus s) (kSos s) dn V (vjOf s)).2))), (0, .ref (aH a)), (1, .int (nI 0)), (2, .int (bI dn)), (3, .int (bI (kSus s))), (4, .int (bI (kSos s))), (5, .int (nI (isN (kst s) (nI 1) V))), (6, .int (nI (isN (kst s) (nI 2) V))), (7, .int (nI (kmk s))), (8, .int (nI (fb_ct (kca s) V))), (9, .int (nI (fb_ct (fun v => decide (kst s v = nI 2) && kca s v) V))), (10, .int (nI ((msuV (kkk s) (nI (kT s)) (kSus s) (kSos s) dn V (vjOf s)).2))), (11, .int (nI (fsu s V dn)))] (by decide) rfl dL_pedals_187 ?_
    refine x_lv [(0, .ref (aH a)), (1, .int (nI 0)), (2, .int (bI dn)), (3, .int (bI (kSus s))), (4, .int (bI (kSos s))), (5, .int (nI (isN (kst s) (nI 1) V))), (6, .int (nI (isN (kst s) (nI 2) V))), (7, .int (nI (kmk s))), (8, .int (nI (fb_ct (kca s) V))), (9, .int (nI (fb_ct (fun v => decide (kst s v = nI 2) && kca s v) V))), (10, .int (nI ((msuV (kkk s) (nI (kT s)) (kSus s) (kSos s) dn V (vjOf s)).2))), (11, .int (nI (fsu s V dn))), (12, .int (nI ((msuV (kkk s) (nI (kT s)) (kSus s) (kSos s) dn V (vjOf s)).2))), (13, .int (nI 0)), (14, .int (nI 0))] [3, 4, 5, 6, 7, 8, 9, 10, 11, 12, 13, 14, 2, 1, 0] rfl ?_
    refine sg189 V 0 0 (Nat.zero_add _) (rfl) ?_
    refine sg217   ?_
    refine x_istore hE [(14, .int (nI 1)), (0, .ref (aH a)), (1, .int (nI 0)), (2, .int (bI dn)), (3, .int (bI (kSus s))), (4, .int (bI (kSos s))), (5, .int (nI (isN (kst s) (nI 1) V))), (6, .int (nI (isN (kst s) (nI 2) V))), (7, .int (nI (kmk s))), (8, .int (nI (fb_ct (kca s) V))), (9, .int (nI (fb_ct (fun v => decide (kst s v = nI 2) && kca s v) V))), (10, .int (nI ((msuV (kkk s) (nI (kT s)) (kSus s) (kSos s) dn V (vjOf s)).2))), (11, .int (nI (fsu s V dn))), (12, .int (nI ((msuV (kkk s) (nI (kT s)) (kSus s) (kSos s) dn V (vjOf s)).2))), (13, .int (nI (fb_ct (kca (suS s dn)) V)))] (by decide) rfl dL_pedals_259 ?_
    refine x_iload hE 11 rfl dL_pedals_261 ?_
    refine x_iload hE 13 rfl dL_pedals_263 ?_
    refine xn_icmp_ne hE (by omega) (by omega) 323 (by decide) dL_pedals_265 (fun c265 => ?_) (fun c265 => ?_)
    · skip
      exact absurd rfl c265
    · skip
      refine x_aload_n hE 1 rfl dL_pedals_268 ?_
      refine x_bipush hE (nI 8) (by decide) dL_pedals_269 ?_
      refine x_callK (n := 1) (st := []) hE (ck_count_8 l D cI cZ a (suS s dn) hok2  ) gL_pedals_X4_count rfl rfl (by decide +kernel) ⟨by decide, by decide⟩ ⟨by decide, by decide⟩ rfl rfl (Nat.le_of_ble_eq_true rfl) dL_pedals_271 (fun v9 w9 hT9 => ?_)
      obtain ⟨rfl, rfl⟩ := hT9
      refine x_at (ws' := (kW cI cZ a (suS s dn))) (st' := [.int (nI (kmk (suS s dn)))]) rfl rfl ?_
      refine x_iload hE 8 rfl dL_pedals_274 ?_
      refine x_iload hE 12 rfl dL_pedals_276 ?_
      refine x_iadd hE (nI ((kmk s) + (fsu s V dn))) (nI_add _ _) dL_pedals_278 ?_
      refine xn_icmp_ne hE (by omega) (by omega) 323 (by decide) dL_pedals_279 (fun c279 => ?_) (fun c279 => ?_)
      · skip
        exact absurd hq2 c279
      · skip
        refine x_aload_n hE 1 rfl dL_pedals_282 ?_
        refine x_bipush hE (nI 7) (by decide) dL_pedals_283 ?_
        refine x_callK (n := 1) (st := []) hE (ck_count_7 l D cI cZ a (suS s dn) hok2  ) gL_pedals_X4_count rfl rfl (by decide +kernel) ⟨by decide, by decide⟩ ⟨by decide, by decide⟩ rfl rfl (Nat.le_of_ble_eq_true rfl) dL_pedals_285 (fun v9 w9 hT9 => ?_)
        obtain ⟨rfl, rfl⟩ := hT9
        refine x_at (ws' := (kW cI cZ a (suS s dn))) (st' := [.int (nI (isN (kst (suS s dn)) (nI 2) V))]) rfl rfl ?_
        refine x_iload hE 7 rfl dL_pedals_288 ?_
        refine x_iload hE 12 rfl dL_pedals_290 ?_
        refine x_isub hE (nI ((isN (kst s) (nI 2) V) - (fsu s V dn))) (xI_sub (by omega)) dL_pedals_292 ?_
        refine xn_icmp_ne hE (Nat.lt_of_le_of_lt (isN_V _ _ _) (by omega)) (by omega) 323 (by decide) dL_pedals_293 (fun c293 => ?_) (fun c293 => ?_)
        · skip
          exact absurd hq3 c293
        · skip
          refine x_aload_n hE 1 rfl dL_pedals_296 ?_
          refine x_bipush hE (nI 6) (by decide) dL_pedals_297 ?_
          refine x_callK (n := 1) (st := []) hE (ck_count_6 l D cI cZ a (suS s dn) hok2  ) gL_pedals_X4_count rfl rfl (by decide +kernel) ⟨by decide, by decide⟩ ⟨by decide, by decide⟩ rfl rfl (Nat.le_of_ble_eq_true rfl) dL_pedals_299 (fun v9 w9 hT9 => ?_)
          obtain ⟨rfl, rfl⟩ := hT9
          refine x_at (ws' := (kW cI cZ a (suS s dn))) (st' := [.int (nI (V - isN (kst (suS s dn)) (nI 0) V))]) rfl rfl ?_
          refine x_aload_n hE 1 rfl dL_pedals_302 ?_
          refine x_bipush hE (nI 7) (by decide) dL_pedals_303 ?_
          refine x_callK (n := 1) (st := [.int (nI (V - isN (kst (suS s dn)) (nI 0) V))]) hE (ck_count_7 l D cI cZ a (suS s dn) hok2  ) gL_pedals_X4_count rfl rfl (by decide +kernel) ⟨by decide, by decide⟩ ⟨by decide, by decide⟩ rfl rfl (Nat.le_of_ble_eq_true rfl) dL_pedals_305 (fun v9 w9 hT9 => ?_)
          obtain ⟨rfl, rfl⟩ := hT9
          refine x_at (ws' := (kW cI cZ a (suS s dn))) (st' := [.int (nI (isN (kst (suS s dn)) (nI 2) V)), .int (nI (V - isN (kst (suS s dn)) (nI 0) V))]) rfl rfl ?_
          refine x_isub hE (nI ((V - isN (kst (suS s dn)) (nI 0) V) - (isN (kst (suS s dn)) (nI 2) V))) (xI_sub (by omega)) dL_pedals_308 ?_
          refine x_iload hE 6 rfl dL_pedals_309 ?_
          refine xn_icmp_ne hE (by omega) (Nat.lt_of_le_of_lt (isN_V _ _ _) (by omega)) 323 (by decide) dL_pedals_311 (fun c311 => ?_) (fun c311 => ?_)
          · skip
            exact absurd (by omega) c311
          · skip
            refine x_iload hE 0 rfl dL_pedals_314 ?_
            refine xn_if_eq hE (by decide) 323 (by decide) dL_pedals_316 (fun c316 => ?_) (fun c316 => ?_)
            · skip
              exact absurd c316 (by decide)
            · skip
              refine x_iconst hE (nI 1) (by decide) dL_pedals_319 ?_
              refine x_goto hE 324 (by decide) dL_pedals_320 ?_
              refine x_eq (bI true) rfl ?_
              exact x_zret hE hr (⟨rfl, rfl⟩) dL_pedals_324
