set_option maxHeartbeats 8000000 in
set_option maxRecDepth 100000 in
theorem kL_tick (l : Launch) (D : va_G) (cI cZ : ClassId) (a : KAd) (s : KSt) {R C V N : Nat}  (hI : INV s R C V N) (hN : N ≤ 900) : xC l yL_tick wsL_tick 7 2 128 161 D cI cZ [.ref (aH a), .int (nI R), .int (nI C)] (kW cI cZ a s) (fun v8 w8 => v8 = some (.int (bI true)) ∧ w8 = kW cI cZ a (tick1 s)) := by
  refine xC.of (bytes := cL_tick) (maxL := 15) (ret := (some .boolean)) (own := RL) (by decide +kernel) rfl (Nat.le_of_ble_eq_true rfl) rfl ?_
  intro p9 e9 s9 m9 args9 below9 meth9 cd9 A hE hr hin2 hA9
  have hok := hI.ok (by omega)
  obtain ⟨hRC, hRC1⟩ := hI.rc
  obtain ⟨hR, hC, hV, hpos⟩ : (1 ≤ R ∧ R ≤ 8) ∧ (1 ≤ C ∧ C ≤ 8) ∧ (1 ≤ V ∧ V ≤ 8) ∧ ∀ k, kpos s k ≤ 2 := ⟨hok.2.2.2.1, hok.2.2.2.2.1, hok.2.2.2.2.2.1, hok.2.2.2.2.2.2.1⟩
  have hI2 := hI.tk1 (by omega)
  have hok2 := hI2.ok (by omega)
  have hTk := hok.2.2.2.2.2.2.2.2.2.2.2.1
  have hTN : kT s ≤ N := hI.2.2.2.2.2.2.2.2.2.2.2.1
  have hrow : kT s % R < R := Nat.mod_lt _ (by omega)
  have sg41 : ∀ (n : Nat) (i : Nat) (q1 : Nat) (q2 : Nat) (g1 : Nat → Int32) (g2 : Nat → Int32) (hi : i + n = R * C) (hg1 : g1 = fa_fill (kph s) (fun _ => nI 0) i) (hg2 : g2 = fa_fill (kbeg s) (fun _ => nI 0) i) (hx : X p9 l e9 { frames := 7, cells := 2, slots := 128, locals := 161 } s9 m9 args9 below9 meth9 cd9 2 128 (MQ below9 (xQ D (fun v8 w8 => v8 = some (.int (bI true)) ∧ w8 = kW cI cZ a (tick1 s)) A) args9 s9 2 128 A) 15 D A ((q2, .inl (cI, 64, .inl (fa_fill (kbeg s) (fun _ => nI 0) (R * C)))) :: (q1, .inl (cI, 64, .inl (fa_fill (kph s) (fun _ => nI 0) (R * C)))) :: kW cI cZ a s) [(0, .ref (aH a)), (1, .int (nI R)), (2, .int (nI C)), (3, .int (nI (kT s))), (4, .int (nI ((kT s) % R))), (5, .int ((ksk s) + (krf s))), (6, .ref q1), (7, .ref q2)] 79 []), X p9 l e9 { frames := 7, cells := 2, slots := 128, locals := 161 } s9 m9 args9 below9 meth9 cd9 2 128 (MQ below9 (xQ D (fun v8 w8 => v8 = some (.int (bI true)) ∧ w8 = kW cI cZ a (tick1 s)) A) args9 s9 2 128 A) 15 D A ((q2, .inl (cI, 64, .inl g2)) :: (q1, .inl (cI, 64, .inl g1)) :: kW cI cZ a s) [(0, .ref (aH a)), (1, .int (nI R)), (2, .int (nI C)), (3, .int (nI (kT s))), (4, .int (nI ((kT s) % R))), (5, .int ((ksk s) + (krf s))), (6, .ref q1), (7, .ref q2), (8, .int (nI i))] 41 [] := by
    intro n
    induction n with
    | zero =>
      intro i q1 q2 g1 g2 hi hg1 hg2 hx
      refine x_iload hE 8 rfl dL_tick_41 ?_
      refine x_iload_n hE 1 rfl dL_tick_43 ?_
      refine x_iload_n hE 2 rfl dL_tick_44 ?_
      refine x_imul hE (nI (R * C)) (xI_mul _ _) dL_tick_45 ?_
      refine xn_icmp_ge hE (by omega) (by omega) 79 (by decide) dL_tick_46 (fun c46 => ?_) (fun c46 => ?_)
      · skip
        refine x_lv [(0, .ref (aH a)), (1, .int (nI R)), (2, .int (nI C)), (3, .int (nI (kT s))), (4, .int (nI ((kT s) % R))), (5, .int ((ksk s) + (krf s))), (6, .ref q1), (7, .ref q2)] [0, 1, 2, 3, 4, 5, 6, 7] rfl ?_
        obtain rfl : i = R * C := by omega
        subst hg1
        subst hg2
        exact hx
      · skip
        exfalso; omega
    | succ n ih =>
      intro i q1 q2 g1 g2 hi hg1 hg2 hx
      refine x_iload hE 8 rfl dL_tick_41 ?_
      refine x_iload_n hE 1 rfl dL_tick_43 ?_
      refine x_iload_n hE 2 rfl dL_tick_44 ?_
      refine x_imul hE (nI (R * C)) (xI_mul _ _) dL_tick_45 ?_
      refine xn_icmp_ge hE (by omega) (by omega) 79 (by decide) dL_tick_46 (fun c46 => ?_) (fun c46 => ?_)
      · skip
        exfalso; omega
      · skip
        refine x_aload hE 6 rfl dL_tick_49 ?_
        refine x_iload hE 8 rfl dL_tick_51 ?_
        refine x_aload_n hE 0 rfl dL_tick_53 ?_
        refine x_iload hE 8 rfl dL_tick_54 ?_
        refine x_iconst hE (nI 1) (by decide) dL_tick_56 ?_
        refine x_callK2 (n := 2) (st := [.int (nI i), .ref q1]) hE (ck_key_1 l D cI cZ a s hok i (by omega)) gL_tick_X4_key rfl rfl (by decide +kernel) ⟨by decide, by decide⟩ ⟨by decide, by decide⟩ rfl rfl (Nat.le_of_ble_eq_true rfl) dL_tick_57 (fun v9 w9 hT9 => ?_)
        obtain ⟨rfl, rfl⟩ := hT9
        refine x_at (ws' := ((q2, .inl (cI, 64, .inl g2)) :: (q1, .inl (cI, 64, .inl g1)) :: kW cI cZ a s)) (st' := [.int (kph s i), .int (nI i), .ref q1]) rfl rfl ?_
        refine x_iast hE i (upd g1 i (kph s i)) (by omega) (by decide) rfl ((q2, .inl (cI, 64, .inl g2)) :: (q1, .inl (cI, 64, .inl (upd g1 i (kph s i)))) :: kW cI cZ a s) 1 rfl rfl dL_tick_60 ?_
        refine x_aload hE 7 rfl dL_tick_61 ?_
        refine x_iload hE 8 rfl dL_tick_63 ?_
        refine x_aload_n hE 0 rfl dL_tick_65 ?_
        refine x_iload hE 8 rfl dL_tick_66 ?_
        refine x_iconst hE (nI 2) (by decide) dL_tick_68 ?_
        refine x_callK2 (n := 2) (st := [.int (nI i), .ref q2]) hE (ck_key_2 l D cI cZ a s hok i (by omega)) gL_tick_X4_key rfl rfl (by decide +kernel) ⟨by decide, by decide⟩ ⟨by decide, by decide⟩ rfl rfl (Nat.le_of_ble_eq_true rfl) dL_tick_69 (fun v9 w9 hT9 => ?_)
        obtain ⟨rfl, rfl⟩ := hT9
        refine x_at (ws' := ((q2, .inl (cI, 64, .inl g2)) :: (q1, .inl (cI, 64, .inl (upd g1 i (kph s i)))) :: kW cI cZ a s)) (st' := [.int (if kph s i = nI 0 then nI 0 else kbg s i), .int (nI i), .ref q2]) rfl rfl ?_
        refine x_iast hE i (upd g2 i (if kph s i = nI 0 then nI 0 else kbg s i)) (by omega) (by decide) rfl ((q2, .inl (cI, 64, .inl (upd g2 i (if kph s i = nI 0 then nI 0 else kbg s i)))) :: (q1, .inl (cI, 64, .inl (upd g1 i (kph s i)))) :: kW cI cZ a s) 0 rfl rfl dL_tick_72 ?_
        refine x_iinc hE (nI (i + 1)) [(8, .int (nI (i + 1))), (0, .ref (aH a)), (1, .int (nI R)), (2, .int (nI C)), (3, .int (nI (kT s))), (4, .int (nI ((kT s) % R))), (5, .int ((ksk s) + (krf s))), (6, .ref q1), (7, .ref q2)] 8 rfl (nI_add _ _) (by decide) rfl dL_tick_73 ?_
        refine x_goto hE 41 (by decide) dL_tick_76 ?_
        refine x_lv [(0, .ref (aH a)), (1, .int (nI R)), (2, .int (nI C)), (3, .int (nI (kT s))), (4, .int (nI ((kT s) % R))), (5, .int ((ksk s) + (krf s))), (6, .ref q1), (7, .ref q2), (8, .int (nI (i + 1)))] [1, 2, 3, 4, 5, 6, 7, 8, 0] rfl ?_
        exact ih (i + 1) q1 q2 (upd g1 i (kph s i)) (upd g2 i (if kph s i = nI 0 then nI 0 else kbg s i)) (by omega) (by rw [hg1]; exact fa_fill_succ _ _ _) (by rw [hg2]; exact fa_fill_succ _ _ _) hx
  have sg124 : ∀ (i : Nat) (u : Nat) (q1 : Nat) (q2 : Nat) (hi : i < R * C) (hu : u ≤ 64) (hx : X p9 l e9 { frames := 7, cells := 2, slots := 128, locals := 161 } s9 m9 args9 below9 meth9 cd9 2 128 (MQ below9 (xQ D (fun v8 w8 => v8 = some (.int (bI true)) ∧ w8 = kW cI cZ a (tick1 s)) A) args9 s9 2 128 A) 15 D A ((q2, .inl (cI, 64, .inl (fa_fill (kbeg s) (fun _ => nI 0) (R * C)))) :: (q1, .inl (cI, 64, .inl (fa_fill (kph s) (fun _ => nI 0) (R * C)))) :: kW cI cZ a (tick1 s)) [(0, .ref (aH a)), (1, .int (nI R)), (2, .int (nI C)), (3, .int (nI (kT s))), (4, .int (nI ((kT s) % R))), (5, .int ((ksk s) + (krf s))), (6, .ref q1), (7, .ref q2), (8, .int (nI (u + hitL s R C i))), (9, .int (nI i)), (10, .int (kph s i)), (11, .int (dueL s R C i)), (12, .int (fromL s R C i))] 266 []), X p9 l e9 { frames := 7, cells := 2, slots := 128, locals := 161 } s9 m9 args9 below9 meth9 cd9 2 128 (MQ below9 (xQ D (fun v8 w8 => v8 = some (.int (bI true)) ∧ w8 = kW cI cZ a (tick1 s)) A) args9 s9 2 128 A) 15 D A ((q2, .inl (cI, 64, .inl (fa_fill (kbeg s) (fun _ => nI 0) (R * C)))) :: (q1, .inl (cI, 64, .inl (fa_fill (kph s) (fun _ => nI 0) (R * C)))) :: kW cI cZ a (tick1 s)) [(0, .ref (aH a)), (1, .int (nI R)), (2, .int (nI C)), (3, .int (nI (kT s))), (4, .int (nI ((kT s) % R))), (5, .int ((ksk s) + (krf s))), (6, .ref q1), (7, .ref q2), (8, .int (nI u)), (9, .int (nI i)), (10, .int (kph s i)), (11, .int (kph s i)), (12, .int (kbeg s i))] 124 [] := by
    intro i u q1 q2 hi hu hx
    refine x_iload hE 9 rfl dL_tick_124 ?_
    refine x_iload_n hE 2 rfl dL_tick_126 ?_
    refine x_idiv hE (nI (i / C)) (nI_ne0 (by omega) (by omega)) (xI_div (by omega) (by omega) (by omega)) dL_tick_127 ?_
    refine x_iload hE 4 rfl dL_tick_128 ?_
    refine xn_icmp_ne hE (Nat.lt_of_le_of_lt (Nat.div_le_self _ _) (by omega)) (by omega) 266 (by decide) dL_tick_130 (fun c130 => ?_) (fun c130 => ?_)
    · skip
      have e11 : dueL s R C i = (kph s i) := by unfold dueL; simp only [if_neg c130, reduceIte, Bool.false_eq_true, Bool.true_eq_false]
      have e12 : fromL s R C i = (kbeg s i) := by unfold fromL; rw [e11]; simp only [if_neg c130, reduceIte, Bool.false_eq_true, Bool.true_eq_false, n20, n10, n30, n12, n32, n02, n23, n13, n03, if_false, if_true, Nat.add_zero]
      have e8 : u + hitL s R C i = u := by unfold hitL; rw [e11]; simp only [if_neg c130, reduceIte, Bool.false_eq_true, Bool.true_eq_false, n20, n10, n30, n12, n32, n02, n23, n13, n03, if_false, if_true, Nat.add_zero]
      refine x_lve (lv2 := [(0, .ref (aH a)), (1, .int (nI R)), (2, .int (nI C)), (3, .int (nI (kT s))), (4, .int (nI ((kT s) % R))), (5, .int ((ksk s) + (krf s))), (6, .ref q1), (7, .ref q2), (8, .int (nI (u + hitL s R C i))), (9, .int (nI i)), (10, .int (kph s i)), (11, .int (dueL s R C i)), (12, .int (fromL s R C i))]) (by rw [e8, e11, e12]) ?_
      exact hx
    · skip
      refine x_aload_n hE 0 rfl dL_tick_133 ?_
      refine x_iload hE 9 rfl dL_tick_134 ?_
      refine x_iconst hE (nI 4) (by decide) dL_tick_136 ?_
      refine x_callK2 (n := 2) (st := []) hE (ck_key_4 l D cI cZ a (tick1 s) hok2 i (by omega)) gL_tick_X4_key rfl rfl (by decide +kernel) ⟨by decide, by decide⟩ ⟨by decide, by decide⟩ rfl rfl (Nat.le_of_ble_eq_true rfl) dL_tick_137 (fun v9 w9 hT9 => ?_)
      obtain ⟨rfl, rfl⟩ := hT9
      refine x_at (ws' := ((q2, .inl (cI, 64, .inl (fa_fill (kbeg s) (fun _ => nI 0) (R * C)))) :: (q1, .inl (cI, 64, .inl (fa_fill (kph s) (fun _ => nI 0) (R * C)))) :: kW cI cZ a (tick1 s))) (st' := [.int (nI (b2n (kF (tick1 s) i)))]) rfl rfl ?_
      refine x_iconst hE (nI 1) (by decide) dL_tick_140 ?_
      refine xn_icmp_ne hE (b2n_lt _) (by decide) 148 (by decide) dL_tick_141 (fun c141 => ?_) (fun c141 => ?_)
      · skip
        refine x_iconst hE (nI 0) (by decide) dL_tick_148 ?_
        refine x_istore hE [(13, .int (nI 0)), (0, .ref (aH a)), (1, .int (nI R)), (2, .int (nI C)), (3, .int (nI (kT s))), (4, .int (nI ((kT s) % R))), (5, .int ((ksk s) + (krf s))), (6, .ref q1), (7, .ref q2), (8, .int (nI u)), (9, .int (nI i)), (10, .int (kph s i)), (11, .int (kph s i)), (12, .int (kbeg s i))] (by decide) rfl dL_tick_149 ?_
        refine x_aload_n hE 1 rfl dL_tick_151 ?_
        refine x_iload hE 10 rfl dL_tick_152 ?_
        refine x_iconst hE (nI 5) (by decide) dL_tick_154 ?_
        refine x_callK2 (n := 2) (st := []) hE (ck_key_5 l D cI cZ a (tick1 s) hok2 i (by omega)) gL_tick_X4_key rfl rfl (by decide +kernel) ⟨by decide, by decide⟩ ⟨by decide, by decide⟩ rfl rfl (Nat.le_of_ble_eq_true rfl) dL_tick_155 (fun v9 w9 hT9 => ?_)
        obtain ⟨rfl, rfl⟩ := hT9
        refine x_at (ws' := ((q2, .inl (cI, 64, .inl (fa_fill (kbeg s) (fun _ => nI 0) (R * C)))) :: (q1, .inl (cI, 64, .inl (fa_fill (kph s) (fun _ => nI 0) (R * C)))) :: kW cI cZ a (tick1 s))) (st' := [.int (nI (b2n (kG (tick1 s) i)))]) rfl rfl ?_
        refine x_iconst hE (nI 1) (by decide) dL_tick_158 ?_
        refine xn_icmp_ne hE (b2n_lt _) (by decide) 166 (by decide) dL_tick_159 (fun c159 => ?_) (fun c159 => ?_)
        · skip
          refine x_iconst hE (nI 0) (by decide) dL_tick_166 ?_
          refine x_istore hE [(14, .int (nI 0)), (13, .int (nI 0)), (0, .ref (aH a)), (1, .int (nI R)), (2, .int (nI C)), (3, .int (nI (kT s))), (4, .int (nI ((kT s) % R))), (5, .int ((ksk s) + (krf s))), (6, .ref q1), (7, .ref q2), (8, .int (nI u)), (9, .int (nI i)), (10, .int (kph s i)), (11, .int (kph s i)), (12, .int (kbeg s i))] (by decide) rfl dL_tick_167 ?_
          refine x_iload hE 0 rfl dL_tick_169 ?_
          refine xn_if_eq hE (by decide) 178 (by decide) dL_tick_171 (fun c171 => ?_) (fun c171 => ?_)
          · skip
            refine x_iload hE 1 rfl dL_tick_178 ?_
            refine xn_if_ne hE (by decide) 187 (by decide) dL_tick_180 (fun c180 => ?_) (fun c180 => ?_)
            · skip
              exact absurd (by decide) c180
            · skip
              refine x_iconst hE (nI 0) (by decide) dL_tick_183 ?_
              refine x_goto hE 208 (by decide) dL_tick_184 ?_
              refine x_istore hE [(11, .int (nI 0)), (14, .int (nI 0)), (13, .int (nI 0)), (0, .ref (aH a)), (1, .int (nI R)), (2, .int (nI C)), (3, .int (nI (kT s))), (4, .int (nI ((kT s) % R))), (5, .int ((ksk s) + (krf s))), (6, .ref q1), (7, .ref q2), (8, .int (nI u)), (9, .int (nI i)), (10, .int (kph s i)), (12, .int (kbeg s i))] (by decide) rfl dL_tick_208 ?_
              refine x_iload hE 0 rfl dL_tick_210 ?_
              refine xn_if_ne hE (by decide) 219 (by decide) dL_tick_212 (fun c212 => ?_) (fun c212 => ?_)
              · skip
                exact absurd (by decide) c212
              · skip
                refine x_iconst hE (nI 0) (by decide) dL_tick_215 ?_
                refine x_goto hE 242 (by decide) dL_tick_216 ?_
                refine x_istore hE [(12, .int (nI 0)), (11, .int (nI 0)), (14, .int (nI 0)), (13, .int (nI 0)), (0, .ref (aH a)), (1, .int (nI R)), (2, .int (nI C)), (3, .int (nI (kT s))), (4, .int (nI ((kT s) % R))), (5, .int ((ksk s) + (krf s))), (6, .ref q1), (7, .ref q2), (8, .int (nI u)), (9, .int (nI i)), (10, .int (kph s i))] (by decide) rfl dL_tick_242 ?_
                refine x_iload hE 12 rfl dL_tick_244 ?_
                refine x_iload hE 1 rfl dL_tick_246 ?_
                refine x_iconst hE (nI 2) (by decide) dL_tick_248 ?_
                refine xn_icmp_ne hE (by decide) (by decide) 262 (by decide) dL_tick_249 (fun c249 => ?_) (fun c249 => ?_)
                · skip
                  refine x_iconst hE (nI 0) (by decide) dL_tick_262 ?_
                  refine x_iadd hE (nI (u + 0)) (nI_add _ _) dL_tick_263 ?_
                  refine x_istore hE [(8, .int (nI (u + 0))), (12, .int (nI 0)), (11, .int (nI 0)), (14, .int (nI 0)), (13, .int (nI 0)), (0, .ref (aH a)), (1, .int (nI R)), (2, .int (nI C)), (3, .int (nI (kT s))), (4, .int (nI ((kT s) % R))), (5, .int ((ksk s) + (krf s))), (6, .ref q1), (7, .ref q2), (9, .int (nI i)), (10, .int (kph s i))] (by decide) rfl dL_tick_264 ?_
                  refine x_lv [(0, .ref (aH a)), (1, .int (nI R)), (2, .int (nI C)), (3, .int (nI (kT s))), (4, .int (nI ((kT s) % R))), (5, .int ((ksk s) + (krf s))), (6, .ref q1), (7, .ref q2), (8, .int (nI (u + 0))), (9, .int (nI i)), (10, .int (kph s i)), (11, .int (nI 0)), (12, .int (nI 0))] [5, 6, 7, 8, 9, 10, 11, 12, 0, 13, 14, 2, 1] rfl ?_
                  have e11 : dueL s R C i = (nI 0) := by unfold dueL; simp only [if_pos c130, if_neg c141, if_neg c159, if_pos c171, if_pos c180, if_pos c212, if_neg c249, reduceIte, Bool.false_eq_true, Bool.true_eq_false]
                  have e12 : fromL s R C i = (nI 0) := by unfold fromL; rw [e11]; simp only [if_pos c130, if_neg c141, if_neg c159, if_pos c171, if_pos c180, if_pos c212, if_neg c249, reduceIte, Bool.false_eq_true, Bool.true_eq_false, n20, n10, n30, n12, n32, n02, n23, n13, n03, if_false, if_true, Nat.add_zero]
                  have e8 : u + hitL s R C i = u + 0 := by unfold hitL; rw [e11]; simp only [if_pos c130, if_neg c141, if_neg c159, if_pos c171, if_pos c180, if_pos c212, if_neg c249, reduceIte, Bool.false_eq_true, Bool.true_eq_false, n20, n10, n30, n12, n32, n02, n23, n13, n03, if_false, if_true, Nat.add_zero]
                  refine x_lve (lv2 := [(0, .ref (aH a)), (1, .int (nI R)), (2, .int (nI C)), (3, .int (nI (kT s))), (4, .int (nI ((kT s) % R))), (5, .int ((ksk s) + (krf s))), (6, .ref q1), (7, .ref q2), (8, .int (nI (u + hitL s R C i))), (9, .int (nI i)), (10, .int (kph s i)), (11, .int (dueL s R C i)), (12, .int (fromL s R C i))]) (by rw [e8, e11, e12]) ?_
                  exact hx
                · skip
                  exact absurd c249 (by decide)
          · skip
            exact absurd (by decide) c171
        · skip
          refine x_iconst hE (nI 1) (by decide) dL_tick_162 ?_
          refine x_goto hE 167 (by decide) dL_tick_163 ?_
          refine x_istore hE [(14, .int (nI 1)), (13, .int (nI 0)), (0, .ref (aH a)), (1, .int (nI R)), (2, .int (nI C)), (3, .int (nI (kT s))), (4, .int (nI ((kT s) % R))), (5, .int ((ksk s) + (krf s))), (6, .ref q1), (7, .ref q2), (8, .int (nI u)), (9, .int (nI i)), (10, .int (kph s i)), (11, .int (kph s i)), (12, .int (kbeg s i))] (by decide) rfl dL_tick_167 ?_
          refine x_iload hE 0 rfl dL_tick_169 ?_
          refine xn_if_eq hE (by decide) 178 (by decide) dL_tick_171 (fun c171 => ?_) (fun c171 => ?_)
          · skip
            exact absurd c171 (by decide)
          · skip
            refine x_iconst hE (nI 2) (by decide) dL_tick_174 ?_
            refine x_goto hE 208 (by decide) dL_tick_175 ?_
            refine x_istore hE [(11, .int (nI 2)), (14, .int (nI 1)), (13, .int (nI 0)), (0, .ref (aH a)), (1, .int (nI R)), (2, .int (nI C)), (3, .int (nI (kT s))), (4, .int (nI ((kT s) % R))), (5, .int ((ksk s) + (krf s))), (6, .ref q1), (7, .ref q2), (8, .int (nI u)), (9, .int (nI i)), (10, .int (kph s i)), (12, .int (kbeg s i))] (by decide) rfl dL_tick_208 ?_
            refine x_iload hE 0 rfl dL_tick_210 ?_
            refine xn_if_ne hE (by decide) 219 (by decide) dL_tick_212 (fun c212 => ?_) (fun c212 => ?_)
            · skip
              refine x_iload hE 13 rfl dL_tick_219 ?_
              refine x_if_eq hE 236 (by decide) dL_tick_221 (fun c221 => ?_) (fun c221 => ?_)
              · skip
                refine x_iload_n hE 6 rfl dL_tick_236 ?_
                refine x_goto hE 242 (by decide) dL_tick_237 ?_
                refine x_istore hE [(12, .int (nI (kT s))), (11, .int (nI 2)), (14, .int (nI 1)), (13, .int (nI 0)), (0, .ref (aH a)), (1, .int (nI R)), (2, .int (nI C)), (3, .int (nI (kT s))), (4, .int (nI ((kT s) % R))), (5, .int ((ksk s) + (krf s))), (6, .ref q1), (7, .ref q2), (8, .int (nI u)), (9, .int (nI i)), (10, .int (kph s i))] (by decide) rfl dL_tick_242 ?_
                refine x_iload hE 12 rfl dL_tick_244 ?_
                refine x_iload hE 1 rfl dL_tick_246 ?_
                refine x_iconst hE (nI 2) (by decide) dL_tick_248 ?_
                refine xn_icmp_ne hE (by decide) (by decide) 262 (by decide) dL_tick_249 (fun c249 => ?_) (fun c249 => ?_)
                · skip
                  exact absurd (by decide) c249
                · skip
                  refine x_iload hE 14 rfl dL_tick_252 ?_
                  refine x_iconst hE (nI 2) (by decide) dL_tick_254 ?_
                  refine x_icmp_eq hE 262 (by decide) dL_tick_255 (fun c255 => ?_) (fun c255 => ?_)
                  · skip
                    refine x_iconst hE (nI 0) (by decide) dL_tick_262 ?_
                    refine x_iadd hE (nI (u + 0)) (nI_add _ _) dL_tick_263 ?_
                    refine x_istore hE [(8, .int (nI (u + 0))), (12, .int (nI (kT s))), (11, .int (nI 2)), (14, .int (nI 1)), (13, .int (nI 0)), (0, .ref (aH a)), (1, .int (nI R)), (2, .int (nI C)), (3, .int (nI (kT s))), (4, .int (nI ((kT s) % R))), (5, .int ((ksk s) + (krf s))), (6, .ref q1), (7, .ref q2), (9, .int (nI i)), (10, .int (kph s i))] (by decide) rfl dL_tick_264 ?_
                    refine x_lv [(0, .ref (aH a)), (1, .int (nI R)), (2, .int (nI C)), (3, .int (nI (kT s))), (4, .int (nI ((kT s) % R))), (5, .int ((ksk s) + (krf s))), (6, .ref q1), (7, .ref q2), (8, .int (nI (u + 0))), (9, .int (nI i)), (10, .int (kph s i)), (11, .int (nI 2)), (12, .int (nI (kT s)))] [5, 6, 7, 8, 9, 10, 11, 12, 0, 13, 14, 2, 1] rfl ?_
                    have e11 : dueL s R C i = (nI 2) := by unfold dueL; simp only [if_pos c130, if_neg c141, if_pos c159, if_neg c171, if_neg c212, if_pos c221, if_pos c249, if_pos c255, reduceIte, Bool.false_eq_true, Bool.true_eq_false]
                    have e12 : fromL s R C i = (nI (kT s)) := by unfold fromL; rw [e11]; simp only [if_pos c130, if_neg c141, if_pos c159, if_neg c171, if_neg c212, if_pos c221, if_pos c249, if_pos c255, reduceIte, Bool.false_eq_true, Bool.true_eq_false, n20, n10, n30, n12, n32, n02, n23, n13, n03, if_false, if_true, Nat.add_zero]
                    have e8 : u + hitL s R C i = u + 0 := by unfold hitL; rw [e11]; simp only [if_pos c130, if_neg c141, if_pos c159, if_neg c171, if_neg c212, if_pos c221, if_pos c249, if_pos c255, reduceIte, Bool.false_eq_true, Bool.true_eq_false, n20, n10, n30, n12, n32, n02, n23, n13, n03, if_false, if_true, Nat.add_zero]
                    refine x_lve (lv2 := [(0, .ref (aH a)), (1, .int (nI R)), (2, .int (nI C)), (3, .int (nI (kT s))), (4, .int (nI ((kT s) % R))), (5, .int ((ksk s) + (krf s))), (6, .ref q1), (7, .ref q2), (8, .int (nI (u + hitL s R C i))), (9, .int (nI i)), (10, .int (kph s i)), (11, .int (dueL s R C i)), (12, .int (fromL s R C i))]) (by rw [e8, e11, e12]) ?_
                    exact hx
                  · skip
                    refine x_iconst hE (nI 1) (by decide) dL_tick_258 ?_
                    refine x_goto hE 263 (by decide) dL_tick_259 ?_
                    refine x_iadd hE (nI (u + 1)) (nI_add _ _) dL_tick_263 ?_
                    refine x_istore hE [(8, .int (nI (u + 1))), (12, .int (nI (kT s))), (11, .int (nI 2)), (14, .int (nI 1)), (13, .int (nI 0)), (0, .ref (aH a)), (1, .int (nI R)), (2, .int (nI C)), (3, .int (nI (kT s))), (4, .int (nI ((kT s) % R))), (5, .int ((ksk s) + (krf s))), (6, .ref q1), (7, .ref q2), (9, .int (nI i)), (10, .int (kph s i))] (by decide) rfl dL_tick_264 ?_
                    refine x_lv [(0, .ref (aH a)), (1, .int (nI R)), (2, .int (nI C)), (3, .int (nI (kT s))), (4, .int (nI ((kT s) % R))), (5, .int ((ksk s) + (krf s))), (6, .ref q1), (7, .ref q2), (8, .int (nI (u + 1))), (9, .int (nI i)), (10, .int (kph s i)), (11, .int (nI 2)), (12, .int (nI (kT s)))] [5, 6, 7, 8, 9, 10, 11, 12, 0, 13, 14, 2, 1] rfl ?_
                    have e11 : dueL s R C i = (nI 2) := by unfold dueL; simp only [if_pos c130, if_neg c141, if_pos c159, if_neg c171, if_neg c212, if_pos c221, if_pos c249, if_neg c255, reduceIte, Bool.false_eq_true, Bool.true_eq_false]
                    have e12 : fromL s R C i = (nI (kT s)) := by unfold fromL; rw [e11]; simp only [if_pos c130, if_neg c141, if_pos c159, if_neg c171, if_neg c212, if_pos c221, if_pos c249, if_neg c255, reduceIte, Bool.false_eq_true, Bool.true_eq_false, n20, n10, n30, n12, n32, n02, n23, n13, n03, if_false, if_true, Nat.add_zero]
                    have e8 : u + hitL s R C i = u + 1 := by unfold hitL; rw [e11]; simp only [if_pos c130, if_neg c141, if_pos c159, if_neg c171, if_neg c212, if_pos c221, if_pos c249, if_neg c255, reduceIte, Bool.false_eq_true, Bool.true_eq_false, n20, n10, n30, n12, n32, n02, n23, n13, n03, if_false, if_true, Nat.add_zero]
                    refine x_lve (lv2 := [(0, .ref (aH a)), (1, .int (nI R)), (2, .int (nI C)), (3, .int (nI (kT s))), (4, .int (nI ((kT s) % R))), (5, .int ((ksk s) + (krf s))), (6, .ref q1), (7, .ref q2), (8, .int (nI (u + hitL s R C i))), (9, .int (nI i)), (10, .int (kph s i)), (11, .int (dueL s R C i)), (12, .int (fromL s R C i))]) (by rw [e8, e11, e12]) ?_
                    exact hx
              · skip
                refine x_iload hE 13 rfl dL_tick_224 ?_
                refine x_iconst hE (nI 2) (by decide) dL_tick_226 ?_
                refine x_icmp_ne hE 240 (by decide) dL_tick_227 (fun c227 => ?_) (fun c227 => ?_)
                · skip
                  refine x_iload hE 14 rfl dL_tick_240 ?_
                  refine x_istore hE [(12, .int (kbeg s i)), (11, .int (nI 2)), (14, .int (nI 1)), (13, .int (nI 0)), (0, .ref (aH a)), (1, .int (nI R)), (2, .int (nI C)), (3, .int (nI (kT s))), (4, .int (nI ((kT s) % R))), (5, .int ((ksk s) + (krf s))), (6, .ref q1), (7, .ref q2), (8, .int (nI u)), (9, .int (nI i)), (10, .int (kph s i))] (by decide) rfl dL_tick_242 ?_
                  refine x_iload hE 12 rfl dL_tick_244 ?_
                  refine x_iload hE 1 rfl dL_tick_246 ?_
                  refine x_iconst hE (nI 2) (by decide) dL_tick_248 ?_
                  refine xn_icmp_ne hE (by decide) (by decide) 262 (by decide) dL_tick_249 (fun c249 => ?_) (fun c249 => ?_)
                  · skip
                    exact absurd (by decide) c249
                  · skip
                    refine x_iload hE 14 rfl dL_tick_252 ?_
                    refine x_iconst hE (nI 2) (by decide) dL_tick_254 ?_
                    refine x_icmp_eq hE 262 (by decide) dL_tick_255 (fun c255 => ?_) (fun c255 => ?_)
                    · skip
                      exact absurd c255 c227
                    · skip
                      refine x_iconst hE (nI 1) (by decide) dL_tick_258 ?_
                      refine x_goto hE 263 (by decide) dL_tick_259 ?_
                      refine x_iadd hE (nI (u + 1)) (nI_add _ _) dL_tick_263 ?_
                      refine x_istore hE [(8, .int (nI (u + 1))), (12, .int (kbeg s i)), (11, .int (nI 2)), (14, .int (nI 1)), (13, .int (nI 0)), (0, .ref (aH a)), (1, .int (nI R)), (2, .int (nI C)), (3, .int (nI (kT s))), (4, .int (nI ((kT s) % R))), (5, .int ((ksk s) + (krf s))), (6, .ref q1), (7, .ref q2), (9, .int (nI i)), (10, .int (kph s i))] (by decide) rfl dL_tick_264 ?_
                      refine x_lv [(0, .ref (aH a)), (1, .int (nI R)), (2, .int (nI C)), (3, .int (nI (kT s))), (4, .int (nI ((kT s) % R))), (5, .int ((ksk s) + (krf s))), (6, .ref q1), (7, .ref q2), (8, .int (nI (u + 1))), (9, .int (nI i)), (10, .int (kph s i)), (11, .int (nI 2)), (12, .int (kbeg s i))] [5, 6, 7, 8, 9, 10, 11, 12, 0, 13, 14, 2, 1] rfl ?_
                      have e11 : dueL s R C i = (nI 2) := by unfold dueL; simp only [if_pos c130, if_neg c141, if_pos c159, if_neg c171, if_neg c212, if_neg c221, if_neg c227, if_pos c249, if_neg c255, reduceIte, Bool.false_eq_true, Bool.true_eq_false]
                      have e12 : fromL s R C i = (kbeg s i) := by unfold fromL; rw [e11]; simp only [if_pos c130, if_neg c141, if_pos c159, if_neg c171, if_neg c212, if_neg c221, if_neg c227, if_pos c249, if_neg c255, reduceIte, Bool.false_eq_true, Bool.true_eq_false, n20, n10, n30, n12, n32, n02, n23, n13, n03, if_false, if_true, Nat.add_zero]
                      have e8 : u + hitL s R C i = u + 1 := by unfold hitL; rw [e11]; simp only [if_pos c130, if_neg c141, if_pos c159, if_neg c171, if_neg c212, if_neg c221, if_neg c227, if_pos c249, if_neg c255, reduceIte, Bool.false_eq_true, Bool.true_eq_false, n20, n10, n30, n12, n32, n02, n23, n13, n03, if_false, if_true, Nat.add_zero]
                      refine x_lve (lv2 := [(0, .ref (aH a)), (1, .int (nI R)), (2, .int (nI C)), (3, .int (nI (kT s))), (4, .int (nI ((kT s) % R))), (5, .int ((ksk s) + (krf s))), (6, .ref q1), (7, .ref q2), (8, .int (nI (u + hitL s R C i))), (9, .int (nI i)), (10, .int (kph s i)), (11, .int (dueL s R C i)), (12, .int (fromL s R C i))]) (by rw [e8, e11, e12]) ?_
                      exact hx
                · skip
                  refine x_iload hE 0 rfl dL_tick_230 ?_
                  refine x_iconst hE (nI 3) (by decide) dL_tick_232 ?_
                  refine xn_icmp_ne hE (by decide) (by decide) 240 (by decide) dL_tick_233 (fun c233 => ?_) (fun c233 => ?_)
                  · skip
                    refine x_iload hE 14 rfl dL_tick_240 ?_
                    refine x_istore hE [(12, .int (kbeg s i)), (11, .int (nI 2)), (14, .int (nI 1)), (13, .int (nI 0)), (0, .ref (aH a)), (1, .int (nI R)), (2, .int (nI C)), (3, .int (nI (kT s))), (4, .int (nI ((kT s) % R))), (5, .int ((ksk s) + (krf s))), (6, .ref q1), (7, .ref q2), (8, .int (nI u)), (9, .int (nI i)), (10, .int (kph s i))] (by decide) rfl dL_tick_242 ?_
                    refine x_iload hE 12 rfl dL_tick_244 ?_
                    refine x_iload hE 1 rfl dL_tick_246 ?_
                    refine x_iconst hE (nI 2) (by decide) dL_tick_248 ?_
                    refine xn_icmp_ne hE (by decide) (by decide) 262 (by decide) dL_tick_249 (fun c249 => ?_) (fun c249 => ?_)
                    · skip
                      exact absurd (by decide) c249
                    · skip
                      refine x_iload hE 14 rfl dL_tick_252 ?_
                      refine x_iconst hE (nI 2) (by decide) dL_tick_254 ?_
                      refine x_icmp_eq hE 262 (by decide) dL_tick_255 (fun c255 => ?_) (fun c255 => ?_)
                      · skip
                        refine x_iconst hE (nI 0) (by decide) dL_tick_262 ?_
                        refine x_iadd hE (nI (u + 0)) (nI_add _ _) dL_tick_263 ?_
                        refine x_istore hE [(8, .int (nI (u + 0))), (12, .int (kbeg s i)), (11, .int (nI 2)), (14, .int (nI 1)), (13, .int (nI 0)), (0, .ref (aH a)), (1, .int (nI R)), (2, .int (nI C)), (3, .int (nI (kT s))), (4, .int (nI ((kT s) % R))), (5, .int ((ksk s) + (krf s))), (6, .ref q1), (7, .ref q2), (9, .int (nI i)), (10, .int (kph s i))] (by decide) rfl dL_tick_264 ?_
                        refine x_lv [(0, .ref (aH a)), (1, .int (nI R)), (2, .int (nI C)), (3, .int (nI (kT s))), (4, .int (nI ((kT s) % R))), (5, .int ((ksk s) + (krf s))), (6, .ref q1), (7, .ref q2), (8, .int (nI (u + 0))), (9, .int (nI i)), (10, .int (kph s i)), (11, .int (nI 2)), (12, .int (kbeg s i))] [5, 6, 7, 8, 9, 10, 11, 12, 0, 13, 14, 2, 1] rfl ?_
                        have e11 : dueL s R C i = (nI 2) := by unfold dueL; simp only [if_pos c130, if_neg c141, if_pos c159, if_neg c171, if_neg c212, if_neg c221, if_pos c227, if_neg c233, if_pos c249, if_pos c255, reduceIte, Bool.false_eq_true, Bool.true_eq_false]
                        have e12 : fromL s R C i = (kbeg s i) := by unfold fromL; rw [e11]; simp only [if_pos c130, if_neg c141, if_pos c159, if_neg c171, if_neg c212, if_neg c221, if_pos c227, if_neg c233, if_pos c249, if_pos c255, reduceIte, Bool.false_eq_true, Bool.true_eq_false, n20, n10, n30, n12, n32, n02, n23, n13, n03, if_false, if_true, Nat.add_zero]
                        have e8 : u + hitL s R C i = u + 0 := by unfold hitL; rw [e11]; simp only [if_pos c130, if_neg c141, if_pos c159, if_neg c171, if_neg c212, if_neg c221, if_pos c227, if_neg c233, if_pos c249, if_pos c255, reduceIte, Bool.false_eq_true, Bool.true_eq_false, n20, n10, n30, n12, n32, n02, n23, n13, n03, if_false, if_true, Nat.add_zero]
                        refine x_lve (lv2 := [(0, .ref (aH a)), (1, .int (nI R)), (2, .int (nI C)), (3, .int (nI (kT s))), (4, .int (nI ((kT s) % R))), (5, .int ((ksk s) + (krf s))), (6, .ref q1), (7, .ref q2), (8, .int (nI (u + hitL s R C i))), (9, .int (nI i)), (10, .int (kph s i)), (11, .int (dueL s R C i)), (12, .int (fromL s R C i))]) (by rw [e8, e11, e12]) ?_
                        exact hx
                      · skip
                        exact absurd c227 c255
                  · skip
                    exact absurd c233 (by decide)
            · skip
              exact absurd c212 (by decide)
      · skip
        refine x_iconst hE (nI 1) (by decide) dL_tick_144 ?_
        refine x_goto hE 149 (by decide) dL_tick_145 ?_
        refine x_istore hE [(13, .int (nI 1)), (0, .ref (aH a)), (1, .int (nI R)), (2, .int (nI C)), (3, .int (nI (kT s))), (4, .int (nI ((kT s) % R))), (5, .int ((ksk s) + (krf s))), (6, .ref q1), (7, .ref q2), (8, .int (nI u)), (9, .int (nI i)), (10, .int (kph s i)), (11, .int (kph s i)), (12, .int (kbeg s i))] (by decide) rfl dL_tick_149 ?_
        refine x_aload_n hE 1 rfl dL_tick_151 ?_
        refine x_iload hE 10 rfl dL_tick_152 ?_
        refine x_iconst hE (nI 5) (by decide) dL_tick_154 ?_
        refine x_callK2 (n := 2) (st := []) hE (ck_key_5 l D cI cZ a (tick1 s) hok2 i (by omega)) gL_tick_X4_key rfl rfl (by decide +kernel) ⟨by decide, by decide⟩ ⟨by decide, by decide⟩ rfl rfl (Nat.le_of_ble_eq_true rfl) dL_tick_155 (fun v9 w9 hT9 => ?_)
        obtain ⟨rfl, rfl⟩ := hT9
        refine x_at (ws' := ((q2, .inl (cI, 64, .inl (fa_fill (kbeg s) (fun _ => nI 0) (R * C)))) :: (q1, .inl (cI, 64, .inl (fa_fill (kph s) (fun _ => nI 0) (R * C)))) :: kW cI cZ a (tick1 s))) (st' := [.int (nI (b2n (kG (tick1 s) i)))]) rfl rfl ?_
        refine x_iconst hE (nI 1) (by decide) dL_tick_158 ?_
        refine xn_icmp_ne hE (b2n_lt _) (by decide) 166 (by decide) dL_tick_159 (fun c159 => ?_) (fun c159 => ?_)
        · skip
          refine x_iconst hE (nI 0) (by decide) dL_tick_166 ?_
          refine x_istore hE [(14, .int (nI 0)), (13, .int (nI 1)), (0, .ref (aH a)), (1, .int (nI R)), (2, .int (nI C)), (3, .int (nI (kT s))), (4, .int (nI ((kT s) % R))), (5, .int ((ksk s) + (krf s))), (6, .ref q1), (7, .ref q2), (8, .int (nI u)), (9, .int (nI i)), (10, .int (kph s i)), (11, .int (kph s i)), (12, .int (kbeg s i))] (by decide) rfl dL_tick_167 ?_
          refine x_iload hE 0 rfl dL_tick_169 ?_
          refine xn_if_eq hE (by decide) 178 (by decide) dL_tick_171 (fun c171 => ?_) (fun c171 => ?_)
          · skip
            refine x_iload hE 1 rfl dL_tick_178 ?_
            refine xn_if_ne hE (by decide) 187 (by decide) dL_tick_180 (fun c180 => ?_) (fun c180 => ?_)
            · skip
              refine x_iload hE 12 rfl dL_tick_187 ?_
              refine x_if_ne hE 196 (by decide) dL_tick_189 (fun c189 => ?_) (fun c189 => ?_)
              · skip
                refine x_iload hE 12 rfl dL_tick_196 ?_
                refine x_iconst hE (nI 2) (by decide) dL_tick_198 ?_
                refine x_icmp_ne hE 206 (by decide) dL_tick_199 (fun c199 => ?_) (fun c199 => ?_)
                · skip
                  refine x_iload hE 12 rfl dL_tick_206 ?_
                  refine x_istore hE [(11, .int (kph s i)), (14, .int (nI 0)), (13, .int (nI 1)), (0, .ref (aH a)), (1, .int (nI R)), (2, .int (nI C)), (3, .int (nI (kT s))), (4, .int (nI ((kT s) % R))), (5, .int ((ksk s) + (krf s))), (6, .ref q1), (7, .ref q2), (8, .int (nI u)), (9, .int (nI i)), (10, .int (kph s i)), (12, .int (kbeg s i))] (by decide) rfl dL_tick_208 ?_
                  refine x_iload hE 0 rfl dL_tick_210 ?_
                  refine x_if_ne hE 219 (by decide) dL_tick_212 (fun c212 => ?_) (fun c212 => ?_)
                  · skip
                    refine x_iload hE 13 rfl dL_tick_219 ?_
                    refine x_if_eq hE 236 (by decide) dL_tick_221 (fun c221 => ?_) (fun c221 => ?_)
                    · skip
                      exact absurd c221 c189
                    · skip
                      refine x_iload hE 13 rfl dL_tick_224 ?_
                      refine x_iconst hE (nI 2) (by decide) dL_tick_226 ?_
                      refine x_icmp_ne hE 240 (by decide) dL_tick_227 (fun c227 => ?_) (fun c227 => ?_)
                      · skip
                        refine x_iload hE 14 rfl dL_tick_240 ?_
                        refine x_istore hE [(12, .int (kbeg s i)), (11, .int (kph s i)), (14, .int (nI 0)), (13, .int (nI 1)), (0, .ref (aH a)), (1, .int (nI R)), (2, .int (nI C)), (3, .int (nI (kT s))), (4, .int (nI ((kT s) % R))), (5, .int ((ksk s) + (krf s))), (6, .ref q1), (7, .ref q2), (8, .int (nI u)), (9, .int (nI i)), (10, .int (kph s i))] (by decide) rfl dL_tick_242 ?_
                        refine x_iload hE 12 rfl dL_tick_244 ?_
                        refine x_iload hE 1 rfl dL_tick_246 ?_
                        refine x_iconst hE (nI 2) (by decide) dL_tick_248 ?_
                        refine x_icmp_ne hE 262 (by decide) dL_tick_249 (fun c249 => ?_) (fun c249 => ?_)
                        · skip
                          refine x_iconst hE (nI 0) (by decide) dL_tick_262 ?_
                          refine x_iadd hE (nI (u + 0)) (nI_add _ _) dL_tick_263 ?_
                          refine x_istore hE [(8, .int (nI (u + 0))), (12, .int (kbeg s i)), (11, .int (kph s i)), (14, .int (nI 0)), (13, .int (nI 1)), (0, .ref (aH a)), (1, .int (nI R)), (2, .int (nI C)), (3, .int (nI (kT s))), (4, .int (nI ((kT s) % R))), (5, .int ((ksk s) + (krf s))), (6, .ref q1), (7, .ref q2), (9, .int (nI i)), (10, .int (kph s i))] (by decide) rfl dL_tick_264 ?_
                          refine x_lv [(0, .ref (aH a)), (1, .int (nI R)), (2, .int (nI C)), (3, .int (nI (kT s))), (4, .int (nI ((kT s) % R))), (5, .int ((ksk s) + (krf s))), (6, .ref q1), (7, .ref q2), (8, .int (nI (u + 0))), (9, .int (nI i)), (10, .int (kph s i)), (11, .int (kph s i)), (12, .int (kbeg s i))] [5, 6, 7, 8, 9, 10, 11, 12, 0, 13, 14, 2, 1] rfl ?_
                          have e11 : dueL s R C i = (kph s i) := by unfold dueL; simp only [if_pos c130, if_pos c141, if_neg c159, if_pos c171, if_neg c180, if_neg c189, if_neg c199, if_neg c212, if_neg c221, if_neg c227, if_neg c249, reduceIte, Bool.false_eq_true, Bool.true_eq_false]
                          have e12 : fromL s R C i = (kbeg s i) := by unfold fromL; rw [e11]; simp only [if_pos c130, if_pos c141, if_neg c159, if_pos c171, if_neg c180, if_neg c189, if_neg c199, if_neg c212, if_neg c221, if_neg c227, if_neg c249, reduceIte, Bool.false_eq_true, Bool.true_eq_false, n20, n10, n30, n12, n32, n02, n23, n13, n03, if_false, if_true, Nat.add_zero]
                          have e8 : u + hitL s R C i = u + 0 := by unfold hitL; rw [e11]; simp only [if_pos c130, if_pos c141, if_neg c159, if_pos c171, if_neg c180, if_neg c189, if_neg c199, if_neg c212, if_neg c221, if_neg c227, if_neg c249, reduceIte, Bool.false_eq_true, Bool.true_eq_false, n20, n10, n30, n12, n32, n02, n23, n13, n03, if_false, if_true, Nat.add_zero]
                          refine x_lve (lv2 := [(0, .ref (aH a)), (1, .int (nI R)), (2, .int (nI C)), (3, .int (nI (kT s))), (4, .int (nI ((kT s) % R))), (5, .int ((ksk s) + (krf s))), (6, .ref q1), (7, .ref q2), (8, .int (nI (u + hitL s R C i))), (9, .int (nI i)), (10, .int (kph s i)), (11, .int (dueL s R C i)), (12, .int (fromL s R C i))]) (by rw [e8, e11, e12]) ?_
                          exact hx
                        · skip
                          exact absurd c249 c199
                      · skip
                        exact absurd c227 c199
                  · skip
                    exact absurd c212 c189
                · skip
                  refine x_iconst hE (nI 3) (by decide) dL_tick_202 ?_
                  refine x_goto hE 208 (by decide) dL_tick_203 ?_
                  refine x_istore hE [(11, .int (nI 3)), (14, .int (nI 0)), (13, .int (nI 1)), (0, .ref (aH a)), (1, .int (nI R)), (2, .int (nI C)), (3, .int (nI (kT s))), (4, .int (nI ((kT s) % R))), (5, .int ((ksk s) + (krf s))), (6, .ref q1), (7, .ref q2), (8, .int (nI u)), (9, .int (nI i)), (10, .int (kph s i)), (12, .int (kbeg s i))] (by decide) rfl dL_tick_208 ?_
                  refine x_iload hE 0 rfl dL_tick_210 ?_
                  refine xn_if_ne hE (by decide) 219 (by decide) dL_tick_212 (fun c212 => ?_) (fun c212 => ?_)
                  · skip
                    refine x_iload hE 13 rfl dL_tick_219 ?_
                    refine x_if_eq hE 236 (by decide) dL_tick_221 (fun c221 => ?_) (fun c221 => ?_)
                    · skip
                      exact absurd c221 c189
                    · skip
                      refine x_iload hE 13 rfl dL_tick_224 ?_
                      refine x_iconst hE (nI 2) (by decide) dL_tick_226 ?_
                      refine x_icmp_ne hE 240 (by decide) dL_tick_227 (fun c227 => ?_) (fun c227 => ?_)
                      · skip
                        exact absurd c199 c227
                      · skip
                        refine x_iload hE 0 rfl dL_tick_230 ?_
                        refine x_iconst hE (nI 3) (by decide) dL_tick_232 ?_
                        refine xn_icmp_ne hE (by decide) (by decide) 240 (by decide) dL_tick_233 (fun c233 => ?_) (fun c233 => ?_)
                        · skip
                          exact absurd (by decide) c233
                        · skip
                          refine x_iload_n hE 6 rfl dL_tick_236 ?_
                          refine x_goto hE 242 (by decide) dL_tick_237 ?_
                          refine x_istore hE [(12, .int (nI (kT s))), (11, .int (nI 3)), (14, .int (nI 0)), (13, .int (nI 1)), (0, .ref (aH a)), (1, .int (nI R)), (2, .int (nI C)), (3, .int (nI (kT s))), (4, .int (nI ((kT s) % R))), (5, .int ((ksk s) + (krf s))), (6, .ref q1), (7, .ref q2), (8, .int (nI u)), (9, .int (nI i)), (10, .int (kph s i))] (by decide) rfl dL_tick_242 ?_
                          refine x_iload hE 12 rfl dL_tick_244 ?_
                          refine x_iload hE 1 rfl dL_tick_246 ?_
                          refine x_iconst hE (nI 2) (by decide) dL_tick_248 ?_
                          refine xn_icmp_ne hE (by decide) (by decide) 262 (by decide) dL_tick_249 (fun c249 => ?_) (fun c249 => ?_)
                          · skip
                            refine x_iconst hE (nI 0) (by decide) dL_tick_262 ?_
                            refine x_iadd hE (nI (u + 0)) (nI_add _ _) dL_tick_263 ?_
                            refine x_istore hE [(8, .int (nI (u + 0))), (12, .int (nI (kT s))), (11, .int (nI 3)), (14, .int (nI 0)), (13, .int (nI 1)), (0, .ref (aH a)), (1, .int (nI R)), (2, .int (nI C)), (3, .int (nI (kT s))), (4, .int (nI ((kT s) % R))), (5, .int ((ksk s) + (krf s))), (6, .ref q1), (7, .ref q2), (9, .int (nI i)), (10, .int (kph s i))] (by decide) rfl dL_tick_264 ?_
                            refine x_lv [(0, .ref (aH a)), (1, .int (nI R)), (2, .int (nI C)), (3, .int (nI (kT s))), (4, .int (nI ((kT s) % R))), (5, .int ((ksk s) + (krf s))), (6, .ref q1), (7, .ref q2), (8, .int (nI (u + 0))), (9, .int (nI i)), (10, .int (kph s i)), (11, .int (nI 3)), (12, .int (nI (kT s)))] [5, 6, 7, 8, 9, 10, 11, 12, 0, 13, 14, 2, 1] rfl ?_
                            have e11 : dueL s R C i = (nI 3) := by unfold dueL; simp only [if_pos c130, if_pos c141, if_neg c159, if_pos c171, if_neg c180, if_neg c189, if_pos c199, if_neg c212, if_neg c221, if_pos c227, if_pos c233, if_neg c249, reduceIte, Bool.false_eq_true, Bool.true_eq_false]
                            have e12 : fromL s R C i = (nI (kT s)) := by unfold fromL; rw [e11]; simp only [if_pos c130, if_pos c141, if_neg c159, if_pos c171, if_neg c180, if_neg c189, if_pos c199, if_neg c212, if_neg c221, if_pos c227, if_pos c233, if_neg c249, reduceIte, Bool.false_eq_true, Bool.true_eq_false, n20, n10, n30, n12, n32, n02, n23, n13, n03, if_false, if_true, Nat.add_zero]
                            have e8 : u + hitL s R C i = u + 0 := by unfold hitL; rw [e11]; simp only [if_pos c130, if_pos c141, if_neg c159, if_pos c171, if_neg c180, if_neg c189, if_pos c199, if_neg c212, if_neg c221, if_pos c227, if_pos c233, if_neg c249, reduceIte, Bool.false_eq_true, Bool.true_eq_false, n20, n10, n30, n12, n32, n02, n23, n13, n03, if_false, if_true, Nat.add_zero]
                            refine x_lve (lv2 := [(0, .ref (aH a)), (1, .int (nI R)), (2, .int (nI C)), (3, .int (nI (kT s))), (4, .int (nI ((kT s) % R))), (5, .int ((ksk s) + (krf s))), (6, .ref q1), (7, .ref q2), (8, .int (nI (u + hitL s R C i))), (9, .int (nI i)), (10, .int (kph s i)), (11, .int (dueL s R C i)), (12, .int (fromL s R C i))]) (by rw [e8, e11, e12]) ?_
                            exact hx
                          · skip
                            exact absurd c249 (by decide)
                  · skip
                    exact absurd c212 (by decide)
              · skip
                refine x_iconst hE (nI 1) (by decide) dL_tick_192 ?_
                refine x_goto hE 208 (by decide) dL_tick_193 ?_
                refine x_istore hE [(11, .int (nI 1)), (14, .int (nI 0)), (13, .int (nI 1)), (0, .ref (aH a)), (1, .int (nI R)), (2, .int (nI C)), (3, .int (nI (kT s))), (4, .int (nI ((kT s) % R))), (5, .int ((ksk s) + (krf s))), (6, .ref q1), (7, .ref q2), (8, .int (nI u)), (9, .int (nI i)), (10, .int (kph s i)), (12, .int (kbeg s i))] (by decide) rfl dL_tick_208 ?_
                refine x_iload hE 0 rfl dL_tick_210 ?_
                refine xn_if_ne hE (by decide) 219 (by decide) dL_tick_212 (fun c212 => ?_) (fun c212 => ?_)
                · skip
                  refine x_iload hE 13 rfl dL_tick_219 ?_
                  refine x_if_eq hE 236 (by decide) dL_tick_221 (fun c221 => ?_) (fun c221 => ?_)
                  · skip
                    refine x_iload_n hE 6 rfl dL_tick_236 ?_
                    refine x_goto hE 242 (by decide) dL_tick_237 ?_
                    refine x_istore hE [(12, .int (nI (kT s))), (11, .int (nI 1)), (14, .int (nI 0)), (13, .int (nI 1)), (0, .ref (aH a)), (1, .int (nI R)), (2, .int (nI C)), (3, .int (nI (kT s))), (4, .int (nI ((kT s) % R))), (5, .int ((ksk s) + (krf s))), (6, .ref q1), (7, .ref q2), (8, .int (nI u)), (9, .int (nI i)), (10, .int (kph s i))] (by decide) rfl dL_tick_242 ?_
                    refine x_iload hE 12 rfl dL_tick_244 ?_
                    refine x_iload hE 1 rfl dL_tick_246 ?_
                    refine x_iconst hE (nI 2) (by decide) dL_tick_248 ?_
                    refine xn_icmp_ne hE (by decide) (by decide) 262 (by decide) dL_tick_249 (fun c249 => ?_) (fun c249 => ?_)
                    · skip
                      refine x_iconst hE (nI 0) (by decide) dL_tick_262 ?_
                      refine x_iadd hE (nI (u + 0)) (nI_add _ _) dL_tick_263 ?_
                      refine x_istore hE [(8, .int (nI (u + 0))), (12, .int (nI (kT s))), (11, .int (nI 1)), (14, .int (nI 0)), (13, .int (nI 1)), (0, .ref (aH a)), (1, .int (nI R)), (2, .int (nI C)), (3, .int (nI (kT s))), (4, .int (nI ((kT s) % R))), (5, .int ((ksk s) + (krf s))), (6, .ref q1), (7, .ref q2), (9, .int (nI i)), (10, .int (kph s i))] (by decide) rfl dL_tick_264 ?_
                      refine x_lv [(0, .ref (aH a)), (1, .int (nI R)), (2, .int (nI C)), (3, .int (nI (kT s))), (4, .int (nI ((kT s) % R))), (5, .int ((ksk s) + (krf s))), (6, .ref q1), (7, .ref q2), (8, .int (nI (u + 0))), (9, .int (nI i)), (10, .int (kph s i)), (11, .int (nI 1)), (12, .int (nI (kT s)))] [5, 6, 7, 8, 9, 10, 11, 12, 0, 13, 14, 2, 1] rfl ?_
                      have e11 : dueL s R C i = (nI 1) := by unfold dueL; simp only [if_pos c130, if_pos c141, if_neg c159, if_pos c171, if_neg c180, if_pos c189, if_neg c212, if_pos c221, if_neg c249, reduceIte, Bool.false_eq_true, Bool.true_eq_false]
                      have e12 : fromL s R C i = (nI (kT s)) := by unfold fromL; rw [e11]; simp only [if_pos c130, if_pos c141, if_neg c159, if_pos c171, if_neg c180, if_pos c189, if_neg c212, if_pos c221, if_neg c249, reduceIte, Bool.false_eq_true, Bool.true_eq_false, n20, n10, n30, n12, n32, n02, n23, n13, n03, if_false, if_true, Nat.add_zero]
                      have e8 : u + hitL s R C i = u + 0 := by unfold hitL; rw [e11]; simp only [if_pos c130, if_pos c141, if_neg c159, if_pos c171, if_neg c180, if_pos c189, if_neg c212, if_pos c221, if_neg c249, reduceIte, Bool.false_eq_true, Bool.true_eq_false, n20, n10, n30, n12, n32, n02, n23, n13, n03, if_false, if_true, Nat.add_zero]
                      refine x_lve (lv2 := [(0, .ref (aH a)), (1, .int (nI R)), (2, .int (nI C)), (3, .int (nI (kT s))), (4, .int (nI ((kT s) % R))), (5, .int ((ksk s) + (krf s))), (6, .ref q1), (7, .ref q2), (8, .int (nI (u + hitL s R C i))), (9, .int (nI i)), (10, .int (kph s i)), (11, .int (dueL s R C i)), (12, .int (fromL s R C i))]) (by rw [e8, e11, e12]) ?_
                      exact hx
                    · skip
                      exact absurd c249 (by decide)
                  · skip
                    exact absurd c189 c221
                · skip
                  exact absurd c212 (by decide)
            · skip
              exact absurd c180 (by decide)
          · skip
            exact absurd (by decide) c171
        · skip
          refine x_iconst hE (nI 1) (by decide) dL_tick_162 ?_
          refine x_goto hE 167 (by decide) dL_tick_163 ?_
          refine x_istore hE [(14, .int (nI 1)), (13, .int (nI 1)), (0, .ref (aH a)), (1, .int (nI R)), (2, .int (nI C)), (3, .int (nI (kT s))), (4, .int (nI ((kT s) % R))), (5, .int ((ksk s) + (krf s))), (6, .ref q1), (7, .ref q2), (8, .int (nI u)), (9, .int (nI i)), (10, .int (kph s i)), (11, .int (kph s i)), (12, .int (kbeg s i))] (by decide) rfl dL_tick_167 ?_
          refine x_iload hE 0 rfl dL_tick_169 ?_
          refine xn_if_eq hE (by decide) 178 (by decide) dL_tick_171 (fun c171 => ?_) (fun c171 => ?_)
          · skip
            exact absurd c171 (by decide)
          · skip
            refine x_iconst hE (nI 2) (by decide) dL_tick_174 ?_
            refine x_goto hE 208 (by decide) dL_tick_175 ?_
            refine x_istore hE [(11, .int (nI 2)), (14, .int (nI 1)), (13, .int (nI 1)), (0, .ref (aH a)), (1, .int (nI R)), (2, .int (nI C)), (3, .int (nI (kT s))), (4, .int (nI ((kT s) % R))), (5, .int ((ksk s) + (krf s))), (6, .ref q1), (7, .ref q2), (8, .int (nI u)), (9, .int (nI i)), (10, .int (kph s i)), (12, .int (kbeg s i))] (by decide) rfl dL_tick_208 ?_
            refine x_iload hE 0 rfl dL_tick_210 ?_
            refine xn_if_ne hE (by decide) 219 (by decide) dL_tick_212 (fun c212 => ?_) (fun c212 => ?_)
            · skip
              refine x_iload hE 13 rfl dL_tick_219 ?_
              refine x_if_eq hE 236 (by decide) dL_tick_221 (fun c221 => ?_) (fun c221 => ?_)
              · skip
                refine x_iload_n hE 6 rfl dL_tick_236 ?_
                refine x_goto hE 242 (by decide) dL_tick_237 ?_
                refine x_istore hE [(12, .int (nI (kT s))), (11, .int (nI 2)), (14, .int (nI 1)), (13, .int (nI 1)), (0, .ref (aH a)), (1, .int (nI R)), (2, .int (nI C)), (3, .int (nI (kT s))), (4, .int (nI ((kT s) % R))), (5, .int ((ksk s) + (krf s))), (6, .ref q1), (7, .ref q2), (8, .int (nI u)), (9, .int (nI i)), (10, .int (kph s i))] (by decide) rfl dL_tick_242 ?_
                refine x_iload hE 12 rfl dL_tick_244 ?_
                refine x_iload hE 1 rfl dL_tick_246 ?_
                refine x_iconst hE (nI 2) (by decide) dL_tick_248 ?_
                refine xn_icmp_ne hE (by decide) (by decide) 262 (by decide) dL_tick_249 (fun c249 => ?_) (fun c249 => ?_)
                · skip
                  exact absurd (by decide) c249
                · skip
                  refine x_iload hE 14 rfl dL_tick_252 ?_
                  refine x_iconst hE (nI 2) (by decide) dL_tick_254 ?_
                  refine x_icmp_eq hE 262 (by decide) dL_tick_255 (fun c255 => ?_) (fun c255 => ?_)
                  · skip
                    refine x_iconst hE (nI 0) (by decide) dL_tick_262 ?_
                    refine x_iadd hE (nI (u + 0)) (nI_add _ _) dL_tick_263 ?_
                    refine x_istore hE [(8, .int (nI (u + 0))), (12, .int (nI (kT s))), (11, .int (nI 2)), (14, .int (nI 1)), (13, .int (nI 1)), (0, .ref (aH a)), (1, .int (nI R)), (2, .int (nI C)), (3, .int (nI (kT s))), (4, .int (nI ((kT s) % R))), (5, .int ((ksk s) + (krf s))), (6, .ref q1), (7, .ref q2), (9, .int (nI i)), (10, .int (kph s i))] (by decide) rfl dL_tick_264 ?_
                    refine x_lv [(0, .ref (aH a)), (1, .int (nI R)), (2, .int (nI C)), (3, .int (nI (kT s))), (4, .int (nI ((kT s) % R))), (5, .int ((ksk s) + (krf s))), (6, .ref q1), (7, .ref q2), (8, .int (nI (u + 0))), (9, .int (nI i)), (10, .int (kph s i)), (11, .int (nI 2)), (12, .int (nI (kT s)))] [5, 6, 7, 8, 9, 10, 11, 12, 0, 13, 14, 2, 1] rfl ?_
                    have e11 : dueL s R C i = (nI 2) := by unfold dueL; simp only [if_pos c130, if_pos c141, if_pos c159, if_neg c171, if_neg c212, if_pos c221, if_pos c249, if_pos c255, reduceIte, Bool.false_eq_true, Bool.true_eq_false]
                    have e12 : fromL s R C i = (nI (kT s)) := by unfold fromL; rw [e11]; simp only [if_pos c130, if_pos c141, if_pos c159, if_neg c171, if_neg c212, if_pos c221, if_pos c249, if_pos c255, reduceIte, Bool.false_eq_true, Bool.true_eq_false, n20, n10, n30, n12, n32, n02, n23, n13, n03, if_false, if_true, Nat.add_zero]
                    have e8 : u + hitL s R C i = u + 0 := by unfold hitL; rw [e11]; simp only [if_pos c130, if_pos c141, if_pos c159, if_neg c171, if_neg c212, if_pos c221, if_pos c249, if_pos c255, reduceIte, Bool.false_eq_true, Bool.true_eq_false, n20, n10, n30, n12, n32, n02, n23, n13, n03, if_false, if_true, Nat.add_zero]
                    refine x_lve (lv2 := [(0, .ref (aH a)), (1, .int (nI R)), (2, .int (nI C)), (3, .int (nI (kT s))), (4, .int (nI ((kT s) % R))), (5, .int ((ksk s) + (krf s))), (6, .ref q1), (7, .ref q2), (8, .int (nI (u + hitL s R C i))), (9, .int (nI i)), (10, .int (kph s i)), (11, .int (dueL s R C i)), (12, .int (fromL s R C i))]) (by rw [e8, e11, e12]) ?_
                    exact hx
                  · skip
                    refine x_iconst hE (nI 1) (by decide) dL_tick_258 ?_
                    refine x_goto hE 263 (by decide) dL_tick_259 ?_
                    refine x_iadd hE (nI (u + 1)) (nI_add _ _) dL_tick_263 ?_
                    refine x_istore hE [(8, .int (nI (u + 1))), (12, .int (nI (kT s))), (11, .int (nI 2)), (14, .int (nI 1)), (13, .int (nI 1)), (0, .ref (aH a)), (1, .int (nI R)), (2, .int (nI C)), (3, .int (nI (kT s))), (4, .int (nI ((kT s) % R))), (5, .int ((ksk s) + (krf s))), (6, .ref q1), (7, .ref q2), (9, .int (nI i)), (10, .int (kph s i))] (by decide) rfl dL_tick_264 ?_
                    refine x_lv [(0, .ref (aH a)), (1, .int (nI R)), (2, .int (nI C)), (3, .int (nI (kT s))), (4, .int (nI ((kT s) % R))), (5, .int ((ksk s) + (krf s))), (6, .ref q1), (7, .ref q2), (8, .int (nI (u + 1))), (9, .int (nI i)), (10, .int (kph s i)), (11, .int (nI 2)), (12, .int (nI (kT s)))] [5, 6, 7, 8, 9, 10, 11, 12, 0, 13, 14, 2, 1] rfl ?_
                    have e11 : dueL s R C i = (nI 2) := by unfold dueL; simp only [if_pos c130, if_pos c141, if_pos c159, if_neg c171, if_neg c212, if_pos c221, if_pos c249, if_neg c255, reduceIte, Bool.false_eq_true, Bool.true_eq_false]
                    have e12 : fromL s R C i = (nI (kT s)) := by unfold fromL; rw [e11]; simp only [if_pos c130, if_pos c141, if_pos c159, if_neg c171, if_neg c212, if_pos c221, if_pos c249, if_neg c255, reduceIte, Bool.false_eq_true, Bool.true_eq_false, n20, n10, n30, n12, n32, n02, n23, n13, n03, if_false, if_true, Nat.add_zero]
                    have e8 : u + hitL s R C i = u + 1 := by unfold hitL; rw [e11]; simp only [if_pos c130, if_pos c141, if_pos c159, if_neg c171, if_neg c212, if_pos c221, if_pos c249, if_neg c255, reduceIte, Bool.false_eq_true, Bool.true_eq_false, n20, n10, n30, n12, n32, n02, n23, n13, n03, if_false, if_true, Nat.add_zero]
                    refine x_lve (lv2 := [(0, .ref (aH a)), (1, .int (nI R)), (2, .int (nI C)), (3, .int (nI (kT s))), (4, .int (nI ((kT s) % R))), (5, .int ((ksk s) + (krf s))), (6, .ref q1), (7, .ref q2), (8, .int (nI (u + hitL s R C i))), (9, .int (nI i)), (10, .int (kph s i)), (11, .int (dueL s R C i)), (12, .int (fromL s R C i))]) (by rw [e8, e11, e12]) ?_
                    exact hx
              · skip
                refine x_iload hE 13 rfl dL_tick_224 ?_
                refine x_iconst hE (nI 2) (by decide) dL_tick_226 ?_
                refine x_icmp_ne hE 240 (by decide) dL_tick_227 (fun c227 => ?_) (fun c227 => ?_)
                · skip
                  refine x_iload hE 14 rfl dL_tick_240 ?_
                  refine x_istore hE [(12, .int (kbeg s i)), (11, .int (nI 2)), (14, .int (nI 1)), (13, .int (nI 1)), (0, .ref (aH a)), (1, .int (nI R)), (2, .int (nI C)), (3, .int (nI (kT s))), (4, .int (nI ((kT s) % R))), (5, .int ((ksk s) + (krf s))), (6, .ref q1), (7, .ref q2), (8, .int (nI u)), (9, .int (nI i)), (10, .int (kph s i))] (by decide) rfl dL_tick_242 ?_
                  refine x_iload hE 12 rfl dL_tick_244 ?_
                  refine x_iload hE 1 rfl dL_tick_246 ?_
                  refine x_iconst hE (nI 2) (by decide) dL_tick_248 ?_
                  refine xn_icmp_ne hE (by decide) (by decide) 262 (by decide) dL_tick_249 (fun c249 => ?_) (fun c249 => ?_)
                  · skip
                    exact absurd (by decide) c249
                  · skip
                    refine x_iload hE 14 rfl dL_tick_252 ?_
                    refine x_iconst hE (nI 2) (by decide) dL_tick_254 ?_
                    refine x_icmp_eq hE 262 (by decide) dL_tick_255 (fun c255 => ?_) (fun c255 => ?_)
                    · skip
                      exact absurd c255 c227
                    · skip
                      refine x_iconst hE (nI 1) (by decide) dL_tick_258 ?_
                      refine x_goto hE 263 (by decide) dL_tick_259 ?_
                      refine x_iadd hE (nI (u + 1)) (nI_add _ _) dL_tick_263 ?_
                      refine x_istore hE [(8, .int (nI (u + 1))), (12, .int (kbeg s i)), (11, .int (nI 2)), (14, .int (nI 1)), (13, .int (nI 1)), (0, .ref (aH a)), (1, .int (nI R)), (2, .int (nI C)), (3, .int (nI (kT s))), (4, .int (nI ((kT s) % R))), (5, .int ((ksk s) + (krf s))), (6, .ref q1), (7, .ref q2), (9, .int (nI i)), (10, .int (kph s i))] (by decide) rfl dL_tick_264 ?_
                      refine x_lv [(0, .ref (aH a)), (1, .int (nI R)), (2, .int (nI C)), (3, .int (nI (kT s))), (4, .int (nI ((kT s) % R))), (5, .int ((ksk s) + (krf s))), (6, .ref q1), (7, .ref q2), (8, .int (nI (u + 1))), (9, .int (nI i)), (10, .int (kph s i)), (11, .int (nI 2)), (12, .int (kbeg s i))] [5, 6, 7, 8, 9, 10, 11, 12, 0, 13, 14, 2, 1] rfl ?_
                      have e11 : dueL s R C i = (nI 2) := by unfold dueL; simp only [if_pos c130, if_pos c141, if_pos c159, if_neg c171, if_neg c212, if_neg c221, if_neg c227, if_pos c249, if_neg c255, reduceIte, Bool.false_eq_true, Bool.true_eq_false]
                      have e12 : fromL s R C i = (kbeg s i) := by unfold fromL; rw [e11]; simp only [if_pos c130, if_pos c141, if_pos c159, if_neg c171, if_neg c212, if_neg c221, if_neg c227, if_pos c249, if_neg c255, reduceIte, Bool.false_eq_true, Bool.true_eq_false, n20, n10, n30, n12, n32, n02, n23, n13, n03, if_false, if_true, Nat.add_zero]
                      have e8 : u + hitL s R C i = u + 1 := by unfold hitL; rw [e11]; simp only [if_pos c130, if_pos c141, if_pos c159, if_neg c171, if_neg c212, if_neg c221, if_neg c227, if_pos c249, if_neg c255, reduceIte, Bool.false_eq_true, Bool.true_eq_false, n20, n10, n30, n12, n32, n02, n23, n13, n03, if_false, if_true, Nat.add_zero]
                      refine x_lve (lv2 := [(0, .ref (aH a)), (1, .int (nI R)), (2, .int (nI C)), (3, .int (nI (kT s))), (4, .int (nI ((kT s) % R))), (5, .int ((ksk s) + (krf s))), (6, .ref q1), (7, .ref q2), (8, .int (nI (u + hitL s R C i))), (9, .int (nI i)), (10, .int (kph s i)), (11, .int (dueL s R C i)), (12, .int (fromL s R C i))]) (by rw [e8, e11, e12]) ?_
                      exact hx
                · skip
                  refine x_iload hE 0 rfl dL_tick_230 ?_
                  refine x_iconst hE (nI 3) (by decide) dL_tick_232 ?_
                  refine xn_icmp_ne hE (by decide) (by decide) 240 (by decide) dL_tick_233 (fun c233 => ?_) (fun c233 => ?_)
                  · skip
                    refine x_iload hE 14 rfl dL_tick_240 ?_
                    refine x_istore hE [(12, .int (kbeg s i)), (11, .int (nI 2)), (14, .int (nI 1)), (13, .int (nI 1)), (0, .ref (aH a)), (1, .int (nI R)), (2, .int (nI C)), (3, .int (nI (kT s))), (4, .int (nI ((kT s) % R))), (5, .int ((ksk s) + (krf s))), (6, .ref q1), (7, .ref q2), (8, .int (nI u)), (9, .int (nI i)), (10, .int (kph s i))] (by decide) rfl dL_tick_242 ?_
                    refine x_iload hE 12 rfl dL_tick_244 ?_
                    refine x_iload hE 1 rfl dL_tick_246 ?_
                    refine x_iconst hE (nI 2) (by decide) dL_tick_248 ?_
                    refine xn_icmp_ne hE (by decide) (by decide) 262 (by decide) dL_tick_249 (fun c249 => ?_) (fun c249 => ?_)
                    · skip
                      exact absurd (by decide) c249
                    · skip
                      refine x_iload hE 14 rfl dL_tick_252 ?_
                      refine x_iconst hE (nI 2) (by decide) dL_tick_254 ?_
                      refine x_icmp_eq hE 262 (by decide) dL_tick_255 (fun c255 => ?_) (fun c255 => ?_)
                      · skip
                        refine x_iconst hE (nI 0) (by decide) dL_tick_262 ?_
                        refine x_iadd hE (nI (u + 0)) (nI_add _ _) dL_tick_263 ?_
                        refine x_istore hE [(8, .int (nI (u + 0))), (12, .int (kbeg s i)), (11, .int (nI 2)), (14, .int (nI 1)), (13, .int (nI 1)), (0, .ref (aH a)), (1, .int (nI R)), (2, .int (nI C)), (3, .int (nI (kT s))), (4, .int (nI ((kT s) % R))), (5, .int ((ksk s) + (krf s))), (6, .ref q1), (7, .ref q2), (9, .int (nI i)), (10, .int (kph s i))] (by decide) rfl dL_tick_264 ?_
                        refine x_lv [(0, .ref (aH a)), (1, .int (nI R)), (2, .int (nI C)), (3, .int (nI (kT s))), (4, .int (nI ((kT s) % R))), (5, .int ((ksk s) + (krf s))), (6, .ref q1), (7, .ref q2), (8, .int (nI (u + 0))), (9, .int (nI i)), (10, .int (kph s i)), (11, .int (nI 2)), (12, .int (kbeg s i))] [5, 6, 7, 8, 9, 10, 11, 12, 0, 13, 14, 2, 1] rfl ?_
                        have e11 : dueL s R C i = (nI 2) := by unfold dueL; simp only [if_pos c130, if_pos c141, if_pos c159, if_neg c171, if_neg c212, if_neg c221, if_pos c227, if_neg c233, if_pos c249, if_pos c255, reduceIte, Bool.false_eq_true, Bool.true_eq_false]
                        have e12 : fromL s R C i = (kbeg s i) := by unfold fromL; rw [e11]; simp only [if_pos c130, if_pos c141, if_pos c159, if_neg c171, if_neg c212, if_neg c221, if_pos c227, if_neg c233, if_pos c249, if_pos c255, reduceIte, Bool.false_eq_true, Bool.true_eq_false, n20, n10, n30, n12, n32, n02, n23, n13, n03, if_false, if_true, Nat.add_zero]
                        have e8 : u + hitL s R C i = u + 0 := by unfold hitL; rw [e11]; simp only [if_pos c130, if_pos c141, if_pos c159, if_neg c171, if_neg c212, if_neg c221, if_pos c227, if_neg c233, if_pos c249, if_pos c255, reduceIte, Bool.false_eq_true, Bool.true_eq_false, n20, n10, n30, n12, n32, n02, n23, n13, n03, if_false, if_true, Nat.add_zero]
                        refine x_lve (lv2 := [(0, .ref (aH a)), (1, .int (nI R)), (2, .int (nI C)), (3, .int (nI (kT s))), (4, .int (nI ((kT s) % R))), (5, .int ((ksk s) + (krf s))), (6, .ref q1), (7, .ref q2), (8, .int (nI (u + hitL s R C i))), (9, .int (nI i)), (10, .int (kph s i)), (11, .int (dueL s R C i)), (12, .int (fromL s R C i))]) (by rw [e8, e11, e12]) ?_
                        exact hx
                      · skip
                        exact absurd c227 c255
                  · skip
                    exact absurd c233 (by decide)
            · skip
              exact absurd c212 (by decide)
  have sg292 : ∀ (i : Nat) (u : Nat) (q1 : Nat) (q2 : Nat) (hi : i < R * C) (hx : X p9 l e9 { frames := 7, cells := 2, slots := 128, locals := 161 } s9 m9 args9 below9 meth9 cd9 2 128 (MQ below9 (xQ D (fun v8 w8 => v8 = some (.int (bI true)) ∧ w8 = kW cI cZ a (tick1 s)) A) args9 s9 2 128 A) 15 D A ((q2, .inl (cI, 64, .inl (fa_fill (kbeg s) (fun _ => nI 0) (R * C)))) :: (q1, .inl (cI, 64, .inl (fa_fill (kph s) (fun _ => nI 0) (R * C)))) :: kW cI cZ a (tick1 s)) [(0, .ref (aH a)), (1, .int (nI R)), (2, .int (nI C)), (3, .int (nI (kT s))), (4, .int (nI ((kT s) % R))), (5, .int ((ksk s) + (krf s))), (6, .ref q1), (7, .ref q2), (8, .int (nI u)), (9, .int (nI i))] 380 []), X p9 l e9 { frames := 7, cells := 2, slots := 128, locals := 161 } s9 m9 args9 below9 meth9 cd9 2 128 (MQ below9 (xQ D (fun v8 w8 => v8 = some (.int (bI true)) ∧ w8 = kW cI cZ a (tick1 s)) A) args9 s9 2 128 A) 15 D A ((q2, .inl (cI, 64, .inl (fa_fill (kbeg s) (fun _ => nI 0) (R * C)))) :: (q1, .inl (cI, 64, .inl (fa_fill (kph s) (fun _ => nI 0) (R * C)))) :: kW cI cZ a (tick1 s)) [(0, .ref (aH a)), (1, .int (nI R)), (2, .int (nI C)), (3, .int (nI (kT s))), (4, .int (nI ((kT s) % R))), (5, .int ((ksk s) + (krf s))), (6, .ref q1), (7, .ref q2), (8, .int (nI u)), (9, .int (nI i)), (10, .int (kph s i)), (11, .int (dueL s R C i)), (12, .int (fromL s R C i))] 292 [] := by
    intro i u q1 q2 hi hx
    refine x_aload_n hE 0 rfl dL_tick_292 ?_
    refine x_iload hE 9 rfl dL_tick_293 ?_
    refine x_iconst hE (nI 3) (by decide) dL_tick_295 ?_
    refine x_callK2 (n := 2) (st := []) hE (ck_key_3 l D cI cZ a (tick1 s) hok2 i (by omega)) gL_tick_X4_key rfl rfl (by decide +kernel) ⟨by decide, by decide⟩ ⟨by decide, by decide⟩ rfl rfl (Nat.le_of_ble_eq_true rfl) dL_tick_296 (fun v9 w9 hT9 => ?_)
    obtain ⟨rfl, rfl⟩ := hT9
    refine x_at (ws' := ((q2, .inl (cI, 64, .inl (fa_fill (kbeg s) (fun _ => nI 0) (R * C)))) :: (q1, .inl (cI, 64, .inl (fa_fill (kph s) (fun _ => nI 0) (R * C)))) :: kW cI cZ a (tick1 s))) (st' := [.int (rV (findN (wkP (kst (tick1 s)) (kkk (tick1 s)) (nI i)) 0 V) V)]) rfl rfl ?_
    refine x_istore hE [(13, .int (rV (findN (wkP (kst (tick1 s)) (kkk (tick1 s)) (nI i)) 0 V) V)), (0, .ref (aH a)), (1, .int (nI R)), (2, .int (nI C)), (3, .int (nI (kT s))), (4, .int (nI ((kT s) % R))), (5, .int ((ksk s) + (krf s))), (6, .ref q1), (7, .ref q2), (8, .int (nI u)), (9, .int (nI i)), (10, .int (kph s i)), (11, .int (dueL s R C i)), (12, .int (fromL s R C i))] (by decide) rfl dL_tick_299 ?_
    refine x_iload hE 12 rfl dL_tick_301 ?_
    refine x_iconst hE (nI 2) (by decide) dL_tick_303 ?_
    refine x_icmp_ne hE 380 (by decide) dL_tick_304 (fun c304 => ?_) (fun c304 => ?_)
    · skip
      refine x_lv [(0, .ref (aH a)), (1, .int (nI R)), (2, .int (nI C)), (3, .int (nI (kT s))), (4, .int (nI ((kT s) % R))), (5, .int ((ksk s) + (krf s))), (6, .ref q1), (7, .ref q2), (8, .int (nI u)), (9, .int (nI i))] [1, 2, 3, 4, 5, 6, 7, 8, 9, 10] rfl ?_
      exact hx
    · skip
      refine x_iload hE 11 rfl dL_tick_307 ?_
      refine x_iconst hE (nI 2) (by decide) dL_tick_309 ?_
      refine x_icmp_eq hE 380 (by decide) dL_tick_310 (fun c310 => ?_) (fun c310 => ?_)
      · skip
        refine x_lv [(0, .ref (aH a)), (1, .int (nI R)), (2, .int (nI C)), (3, .int (nI (kT s))), (4, .int (nI ((kT s) % R))), (5, .int ((ksk s) + (krf s))), (6, .ref q1), (7, .ref q2), (8, .int (nI u)), (9, .int (nI i))] [1, 2, 3, 4, 5, 6, 7, 8, 9, 10] rfl ?_
        exact hx
      · skip
        refine x_iload hE 0 rfl dL_tick_313 ?_
        refine x_if_lt hE 380 (by decide) dL_tick_315 (fun c315 => ?_) (fun c315 => ?_)
        · skip
          refine x_lv [(0, .ref (aH a)), (1, .int (nI R)), (2, .int (nI C)), (3, .int (nI (kT s))), (4, .int (nI ((kT s) % R))), (5, .int ((ksk s) + (krf s))), (6, .ref q1), (7, .ref q2), (8, .int (nI u)), (9, .int (nI i))] [1, 2, 3, 4, 5, 6, 7, 8, 9, 10] rfl ?_
          exact hx
        · skip
          have hw9 : findN (wkP (kst (tick1 s)) (kkk (tick1 s)) (nI i)) 0 V < V := rV_ge (by omega) c315
          rw [rV_some hw9]
          refine x_aload_n hE 1 rfl dL_tick_318 ?_
          refine x_iload hE 0 rfl dL_tick_319 ?_
          refine x_iconst hE (nI 3) (by decide) dL_tick_321 ?_
          refine x_callK2 (n := 2) (st := []) hE (ck_voice_3 l D cI cZ a (tick1 s) hok2 (findN (wkP (kst (tick1 s)) (kkk (tick1 s)) (nI i)) 0 V) (by omega)) gL_tick_X4_voice rfl rfl (by decide +kernel) ⟨by decide, by decide⟩ ⟨by decide, by decide⟩ rfl rfl (Nat.le_of_ble_eq_true rfl) dL_tick_322 (fun v9 w9 hT9 => ?_)
          obtain ⟨rfl, rfl⟩ := hT9
          refine x_at (ws' := ((q2, .inl (cI, 64, .inl (fa_fill (kbeg s) (fun _ => nI 0) (R * C)))) :: (q1, .inl (cI, 64, .inl (fa_fill (kph s) (fun _ => nI 0) (R * C)))) :: kW cI cZ a (tick1 s))) (st' := [.int (if kst (tick1 s) (findN (wkP (kst (tick1 s)) (kkk (tick1 s)) (nI i)) 0 V) = nI 0 then (-3) else ksi (tick1 s) (findN (wkP (kst (tick1 s)) (kkk (tick1 s)) (nI i)) 0 V))]) rfl rfl ?_
          obtain ⟨hw8, hw7⟩ := vo_snd hw9
          refine x_eq (ksi (tick1 s) (findN (wkP (kst (tick1 s)) (kkk (tick1 s)) (nI i)) 0 V)) (if_neg hw8) ?_
          refine x_iload_n hE 4 rfl dL_tick_325 ?_
          refine x_icmp_ne hE 380 (by decide) dL_tick_326 (fun c326 => ?_) (fun c326 => ?_)
          · skip
            refine x_lv [(0, .ref (aH a)), (1, .int (nI R)), (2, .int (nI C)), (3, .int (nI (kT s))), (4, .int (nI ((kT s) % R))), (5, .int ((ksk s) + (krf s))), (6, .ref q1), (7, .ref q2), (8, .int (nI u)), (9, .int (nI i))] [1, 2, 3, 4, 5, 6, 7, 8, 9, 10] rfl ?_
            exact hx
          · skip
            refine x_iload_n hE 4 rfl dL_tick_329 ?_
            refine x_iload hE 13 rfl dL_tick_330 ?_
            obtain ⟨b0, hb0, eb0⟩ := hI.from_nat (i := i)
            obtain ⟨ht1, ht2⟩ := hI.hit_voice (by omega) hi c304 hw9 c326 hb0 eb0
            have hdv : (kT s - b0) / R ≤ kT s - b0 := Nat.div_le_self _ _
            refine x_eq (nI b0) eb0 ?_
            refine x_isub hE (nI ((kT s) - b0)) (xI_sub (by omega)) dL_tick_332 ?_
            refine x_iload_n hE 2 rfl dL_tick_333 ?_
            refine x_idiv hE (nI (((kT s) - b0) / R)) (nI_ne0 (by omega) (by omega)) (xI_div (by omega) (by omega) (by omega)) dL_tick_334 ?_
            refine x_istore hE [(14, .int (nI (((kT s) - b0) / R))), (13, .int (nI (findN (wkP (kst (tick1 s)) (kkk (tick1 s)) (nI i)) 0 V))), (0, .ref (aH a)), (1, .int (nI R)), (2, .int (nI C)), (3, .int (nI (kT s))), (4, .int (nI ((kT s) % R))), (5, .int ((ksk s) + (krf s))), (6, .ref q1), (7, .ref q2), (8, .int (nI u)), (9, .int (nI i)), (10, .int (kph s i)), (11, .int (dueL s R C i)), (12, .int (fromL s R C i))] (by decide) rfl dL_tick_335 ?_
            refine x_aload_n hE 2 rfl dL_tick_337 ?_
            refine x_iload hE 1 rfl dL_tick_338 ?_
            refine x_iconst hE (nI 0) (by decide) dL_tick_340 ?_
            refine x_callK2 (n := 2) (st := []) hE (ck_voice_0 l D cI cZ a (tick1 s) hok2 (findN (wkP (kst (tick1 s)) (kkk (tick1 s)) (nI i)) 0 V) (by omega)) gL_tick_X4_voice rfl rfl (by decide +kernel) ⟨by decide, by decide⟩ ⟨by decide, by decide⟩ rfl rfl (Nat.le_of_ble_eq_true rfl) dL_tick_341 (fun v9 w9 hT9 => ?_)
            obtain ⟨rfl, rfl⟩ := hT9
            refine x_at (ws' := ((q2, .inl (cI, 64, .inl (fa_fill (kbeg s) (fun _ => nI 0) (R * C)))) :: (q1, .inl (cI, 64, .inl (fa_fill (kph s) (fun _ => nI 0) (R * C)))) :: kW cI cZ a (tick1 s))) (st' := [.int (kst (tick1 s) (findN (wkP (kst (tick1 s)) (kkk (tick1 s)) (nI i)) 0 V))]) rfl rfl ?_
            refine x_iconst hE (nI 1) (by decide) dL_tick_344 ?_
            refine x_icmp_ne hE 378 (by decide) dL_tick_345 (fun c345 => ?_) (fun c345 => ?_)
            · skip
              exact absurd ht1 c345
            · skip
              refine x_aload_n hE 2 rfl dL_tick_348 ?_
              refine x_iload hE 1 rfl dL_tick_349 ?_
              refine x_iconst hE (nI 2) (by decide) dL_tick_351 ?_
              refine x_callK2 (n := 2) (st := []) hE (ck_voice_2 l D cI cZ a (tick1 s) hok2 (findN (wkP (kst (tick1 s)) (kkk (tick1 s)) (nI i)) 0 V) (by omega)) gL_tick_X4_voice rfl rfl (by decide +kernel) ⟨by decide, by decide⟩ ⟨by decide, by decide⟩ rfl rfl (Nat.le_of_ble_eq_true rfl) dL_tick_352 (fun v9 w9 hT9 => ?_)
              obtain ⟨rfl, rfl⟩ := hT9
              refine x_at (ws' := ((q2, .inl (cI, 64, .inl (fa_fill (kbeg s) (fun _ => nI 0) (R * C)))) :: (q1, .inl (cI, 64, .inl (fa_fill (kph s) (fun _ => nI 0) (R * C)))) :: kW cI cZ a (tick1 s))) (st' := [.int (if kst (tick1 s) (findN (wkP (kst (tick1 s)) (kkk (tick1 s)) (nI i)) 0 V) = nI 0 then (-3) else kve (tick1 s) (findN (wkP (kst (tick1 s)) (kkk (tick1 s)) (nI i)) 0 V))]) rfl rfl ?_
              refine x_eq (kve (tick1 s) (findN (wkP (kst (tick1 s)) (kkk (tick1 s)) (nI i)) 0 V)) (if_neg hw8) ?_
              refine x_aload_n hE 2 rfl dL_tick_355 ?_
              refine x_iload hE 0 rfl dL_tick_356 ?_
              refine x_sipush hE (nI 1000) (by decide) dL_tick_358 ?_
              refine xn_icmp_le hE (by omega) (by decide) 370 (by decide) dL_tick_361 (fun c361 => ?_) (fun c361 => ?_)
              · skip
                refine x_iload hE 0 rfl dL_tick_370 ?_
                refine x_callK2 (n := 1) (st := [.int (kve (tick1 s) (findN (wkP (kst (tick1 s)) (kkk (tick1 s)) (nI i)) 0 V))]) hE (ck_velocity l D cI cZ a (tick1 s) hok2 (((kT s) - b0) / R) (by omega)) gL_tick_X4_velocity rfl rfl (by decide +kernel) ⟨by decide, by decide⟩ ⟨by decide, by decide⟩ rfl rfl (Nat.le_of_ble_eq_true rfl) dL_tick_372 (fun v9 w9 hT9 => ?_)
                obtain ⟨rfl, rfl⟩ := hT9
                refine x_at (ws' := ((q2, .inl (cI, 64, .inl (fa_fill (kbeg s) (fun _ => nI 0) (R * C)))) :: (q1, .inl (cI, 64, .inl (fa_fill (kph s) (fun _ => nI 0) (R * C)))) :: kW cI cZ a (tick1 s))) (st' := [.int (vaI (kSl (tick1 s)) (nI (((kT s) - b0) / R))), .int (kve (tick1 s) (findN (wkP (kst (tick1 s)) (kkk (tick1 s)) (nI i)) 0 V))]) rfl rfl ?_
                refine x_icmp_eq hE 380 (by decide) dL_tick_375 (fun c375 => ?_) (fun c375 => ?_)
                · skip
                  refine x_lv [(0, .ref (aH a)), (1, .int (nI R)), (2, .int (nI C)), (3, .int (nI (kT s))), (4, .int (nI ((kT s) % R))), (5, .int ((ksk s) + (krf s))), (6, .ref q1), (7, .ref q2), (8, .int (nI u)), (9, .int (nI i))] [2, 3, 4, 5, 6, 7, 8, 9, 10, 11] rfl ?_
                  exact hx
                · skip
                  exact absurd ht2 c375
              · skip
                exact absurd c361 (by omega)
  have sg98 : ∀ (n : Nat) (i : Nat) (u : Nat) (q1 : Nat) (q2 : Nat) (hi : i + n = R * C) (hu : u = fb_s (hitL s R C) i) (hx : X p9 l e9 { frames := 7, cells := 2, slots := 128, locals := 161 } s9 m9 args9 below9 meth9 cd9 2 128 (MQ below9 (xQ D (fun v8 w8 => v8 = some (.int (bI true)) ∧ w8 = kW cI cZ a (tick1 s)) A) args9 s9 2 128 A) 15 D A ((q2, .inl (cI, 64, .inl (fa_fill (kbeg s) (fun _ => nI 0) (R * C)))) :: (q1, .inl (cI, 64, .inl (fa_fill (kph s) (fun _ => nI 0) (R * C)))) :: kW cI cZ a (tick1 s)) [(0, .ref (aH a)), (1, .int (nI R)), (2, .int (nI C)), (3, .int (nI (kT s))), (4, .int (nI ((kT s) % R))), (5, .int ((ksk s) + (krf s))), (6, .ref q1), (7, .ref q2), (8, .int (nI (fb_s (hitL s R C) (R * C))))] 386 []), X p9 l e9 { frames := 7, cells := 2, slots := 128, locals := 161 } s9 m9 args9 below9 meth9 cd9 2 128 (MQ below9 (xQ D (fun v8 w8 => v8 = some (.int (bI true)) ∧ w8 = kW cI cZ a (tick1 s)) A) args9 s9 2 128 A) 15 D A ((q2, .inl (cI, 64, .inl (fa_fill (kbeg s) (fun _ => nI 0) (R * C)))) :: (q1, .inl (cI, 64, .inl (fa_fill (kph s) (fun _ => nI 0) (R * C)))) :: kW cI cZ a (tick1 s)) [(0, .ref (aH a)), (1, .int (nI R)), (2, .int (nI C)), (3, .int (nI (kT s))), (4, .int (nI ((kT s) % R))), (5, .int ((ksk s) + (krf s))), (6, .ref q1), (7, .ref q2), (8, .int (nI u)), (9, .int (nI i))] 98 [] := by
    intro n
    induction n with
    | zero =>
      intro i u q1 q2 hi hu hx
      have hub : u ≤ i := hu ▸ fb_s_le hitL_le i
      refine x_iload hE 9 rfl dL_tick_98 ?_
      refine x_iload_n hE 1 rfl dL_tick_100 ?_
      refine x_iload_n hE 2 rfl dL_tick_101 ?_
      refine x_imul hE (nI (R * C)) (xI_mul _ _) dL_tick_102 ?_
      refine xn_icmp_ge hE (by omega) (by omega) 386 (by decide) dL_tick_103 (fun c103 => ?_) (fun c103 => ?_)
      · skip
        refine x_lv [(0, .ref (aH a)), (1, .int (nI R)), (2, .int (nI C)), (3, .int (nI (kT s))), (4, .int (nI ((kT s) % R))), (5, .int ((ksk s) + (krf s))), (6, .ref q1), (7, .ref q2), (8, .int (nI u))] [0, 1, 2, 3, 4, 5, 6, 7, 8] rfl ?_
        obtain rfl : i = R * C := by omega
        subst hu
        exact hx
      · skip
        exfalso; omega
    | succ n ih =>
      intro i u q1 q2 hi hu hx
      have hub : u ≤ i := hu ▸ fb_s_le hitL_le i
      refine x_iload hE 9 rfl dL_tick_98 ?_
      refine x_iload_n hE 1 rfl dL_tick_100 ?_
      refine x_iload_n hE 2 rfl dL_tick_101 ?_
      refine x_imul hE (nI (R * C)) (xI_mul _ _) dL_tick_102 ?_
      refine xn_icmp_ge hE (by omega) (by omega) 386 (by decide) dL_tick_103 (fun c103 => ?_) (fun c103 => ?_)
      · skip
        exfalso; omega
      · skip
        refine x_aload hE 6 rfl dL_tick_106 ?_
        refine x_iload hE 9 rfl dL_tick_108 ?_
        refine x_iald hE i (kph s i) (by omega) (by decide) (if_pos (by omega)) 1 rfl dL_tick_110 ?_
        refine x_istore hE [(10, .int (kph s i)), (0, .ref (aH a)), (1, .int (nI R)), (2, .int (nI C)), (3, .int (nI (kT s))), (4, .int (nI ((kT s) % R))), (5, .int ((ksk s) + (krf s))), (6, .ref q1), (7, .ref q2), (8, .int (nI u)), (9, .int (nI i))] (by decide) rfl dL_tick_111 ?_
        refine x_iload hE 0 rfl dL_tick_113 ?_
        refine x_istore hE [(11, .int (kph s i)), (10, .int (kph s i)), (0, .ref (aH a)), (1, .int (nI R)), (2, .int (nI C)), (3, .int (nI (kT s))), (4, .int (nI ((kT s) % R))), (5, .int ((ksk s) + (krf s))), (6, .ref q1), (7, .ref q2), (8, .int (nI u)), (9, .int (nI i))] (by decide) rfl dL_tick_115 ?_
        refine x_aload hE 9 rfl dL_tick_117 ?_
        refine x_iload hE 11 rfl dL_tick_119 ?_
        refine x_iald hE i (kbeg s i) (by omega) (by decide) (if_pos (by omega)) 0 rfl dL_tick_121 ?_
        refine x_istore hE [(12, .int (kbeg s i)), (11, .int (kph s i)), (10, .int (kph s i)), (0, .ref (aH a)), (1, .int (nI R)), (2, .int (nI C)), (3, .int (nI (kT s))), (4, .int (nI ((kT s) % R))), (5, .int ((ksk s) + (krf s))), (6, .ref q1), (7, .ref q2), (8, .int (nI u)), (9, .int (nI i))] (by decide) rfl dL_tick_122 ?_
        refine x_lv [(0, .ref (aH a)), (1, .int (nI R)), (2, .int (nI C)), (3, .int (nI (kT s))), (4, .int (nI ((kT s) % R))), (5, .int ((ksk s) + (krf s))), (6, .ref q1), (7, .ref q2), (8, .int (nI u)), (9, .int (nI i)), (10, .int (kph s i)), (11, .int (kph s i)), (12, .int (kbeg s i))] [3, 4, 5, 6, 7, 8, 9, 10, 11, 12, 2, 1, 0] rfl ?_
        refine sg124 i u q1 q2 (by omega) (by omega) ?_
        refine x_aload_n hE 0 rfl dL_tick_266 ?_
        refine x_iload hE 9 rfl dL_tick_267 ?_
        refine x_iconst hE (nI 1) (by decide) dL_tick_269 ?_
        refine x_callK2 (n := 2) (st := []) hE (ck_key_1 l D cI cZ a (tick1 s) hok2 i (by omega)) gL_tick_X4_key rfl rfl (by decide +kernel) ⟨by decide, by decide⟩ ⟨by decide, by decide⟩ rfl rfl (Nat.le_of_ble_eq_true rfl) dL_tick_270 (fun v9 w9 hT9 => ?_)
        obtain ⟨rfl, rfl⟩ := hT9
        refine x_at (ws' := ((q2, .inl (cI, 64, .inl (fa_fill (kbeg s) (fun _ => nI 0) (R * C)))) :: (q1, .inl (cI, 64, .inl (fa_fill (kph s) (fun _ => nI 0) (R * C)))) :: kW cI cZ a (tick1 s))) (st' := [.int (kph (tick1 s) i)]) rfl rfl ?_
        refine x_iload hE 11 rfl dL_tick_273 ?_
        refine x_icmp_ne hE 290 (by decide) dL_tick_275 (fun c275 => ?_) (fun c275 => ?_)
        · skip
          exact absurd (hI.tick_due (by omega) (by omega)) c275
        · skip
          refine x_aload_n hE 0 rfl dL_tick_278 ?_
          refine x_iload hE 9 rfl dL_tick_279 ?_
          refine x_iconst hE (nI 2) (by decide) dL_tick_281 ?_
          refine x_callK2 (n := 2) (st := []) hE (ck_key_2 l D cI cZ a (tick1 s) hok2 i (by omega)) gL_tick_X4_key rfl rfl (by decide +kernel) ⟨by decide, by decide⟩ ⟨by decide, by decide⟩ rfl rfl (Nat.le_of_ble_eq_true rfl) dL_tick_282 (fun v9 w9 hT9 => ?_)
          obtain ⟨rfl, rfl⟩ := hT9
          refine x_at (ws' := ((q2, .inl (cI, 64, .inl (fa_fill (kbeg s) (fun _ => nI 0) (R * C)))) :: (q1, .inl (cI, 64, .inl (fa_fill (kph s) (fun _ => nI 0) (R * C)))) :: kW cI cZ a (tick1 s))) (st' := [.int (if kph (tick1 s) i = nI 0 then nI 0 else kbg (tick1 s) i)]) rfl rfl ?_
          refine x_iload hE 12 rfl dL_tick_285 ?_
          refine x_icmp_eq hE 292 (by decide) dL_tick_287 (fun c287 => ?_) (fun c287 => ?_)
          · skip
            refine sg292 i (u + hitL s R C i) q1 q2 (by omega) ?_
            refine x_iinc hE (nI (i + 1)) [(9, .int (nI (i + 1))), (0, .ref (aH a)), (1, .int (nI R)), (2, .int (nI C)), (3, .int (nI (kT s))), (4, .int (nI ((kT s) % R))), (5, .int ((ksk s) + (krf s))), (6, .ref q1), (7, .ref q2), (8, .int (nI (u + hitL s R C i)))] 9 rfl (nI_add _ _) (by decide) rfl dL_tick_380 ?_
            refine x_goto hE 98 (by decide) dL_tick_383 ?_
            refine x_lv [(0, .ref (aH a)), (1, .int (nI R)), (2, .int (nI C)), (3, .int (nI (kT s))), (4, .int (nI ((kT s) % R))), (5, .int ((ksk s) + (krf s))), (6, .ref q1), (7, .ref q2), (8, .int (nI (u + hitL s R C i))), (9, .int (nI (i + 1)))] [1, 2, 3, 4, 5, 6, 7, 8, 9, 0] rfl ?_
            exact ih (i + 1) (u + hitL s R C i) q1 q2 (by omega) (by rw [hu]; rfl) hx
          · skip
            exact absurd (hI.tick_from (by omega) (by omega)) c287
  refine x_at (ws' := (kW cI cZ a s)) (st' := []) rfl rfl ?_
  refine x_lv [(0, .ref (aH a)), (1, .int (nI R)), (2, .int (nI C))] [0, 1, 2] rfl ?_
  refine x_aload_n hE 0 rfl dL_tick_0 ?_
  refine x_iconst hE (nI 0) (by decide) dL_tick_1 ?_
  refine x_callK (n := 1) (st := []) hE (ck_count_0 l D cI cZ a s hok  ) gL_tick_X4_count rfl rfl (by decide +kernel) ⟨by decide, by decide⟩ ⟨by decide, by decide⟩ rfl rfl (Nat.le_of_ble_eq_true rfl) dL_tick_2 (fun v9 w9 hT9 => ?_)
  obtain ⟨rfl, rfl⟩ := hT9
  refine x_at (ws' := (kW cI cZ a s)) (st' := [.int (nI (kT s))]) rfl rfl ?_
  refine x_istore_n hE [(3, .int (nI (kT s))), (0, .ref (aH a)), (1, .int (nI R)), (2, .int (nI C))] (by decide) rfl dL_tick_5 ?_
  refine x_iload_n hE 0 rfl dL_tick_6 ?_
  refine x_iload_n hE 2 rfl dL_tick_7 ?_
  refine x_irem hE (nI ((kT s) % R)) (nI_ne0 (by omega) (by omega)) (xI_rem (by omega) (by omega) (by omega)) dL_tick_8 ?_
  refine x_istore hE [(4, .int (nI ((kT s) % R))), (3, .int (nI (kT s))), (0, .ref (aH a)), (1, .int (nI R)), (2, .int (nI C))] (by decide) rfl dL_tick_9 ?_
  refine x_aload_n hE 2 rfl dL_tick_11 ?_
  refine x_bipush hE (nI 9) (by decide) dL_tick_12 ?_
  refine x_callK (n := 1) (st := []) hE (ck_count_9 l D cI cZ a s hok  ) gL_tick_X4_count rfl rfl (by decide +kernel) ⟨by decide, by decide⟩ ⟨by decide, by decide⟩ rfl rfl (Nat.le_of_ble_eq_true rfl) dL_tick_14 (fun v9 w9 hT9 => ?_)
  obtain ⟨rfl, rfl⟩ := hT9
  refine x_at (ws' := (kW cI cZ a s)) (st' := [.int (ksk s)]) rfl rfl ?_
  refine x_aload_n hE 2 rfl dL_tick_17 ?_
  refine x_bipush hE (nI 10) (by decide) dL_tick_18 ?_
  refine x_callK (n := 1) (st := [.int (ksk s)]) hE (ck_count_10 l D cI cZ a s hok  ) gL_tick_X4_count rfl rfl (by decide +kernel) ⟨by decide, by decide⟩ ⟨by decide, by decide⟩ rfl rfl (Nat.le_of_ble_eq_true rfl) dL_tick_20 (fun v9 w9 hT9 => ?_)
  obtain ⟨rfl, rfl⟩ := hT9
  refine x_at (ws' := (kW cI cZ a s)) (st' := [.int (krf s), .int (ksk s)]) rfl rfl ?_
  refine x_iadd hE ((ksk s) + (krf s)) rfl dL_tick_23 ?_
  refine x_istore hE [(5, .int ((ksk s) + (krf s))), (4, .int (nI ((kT s) % R))), (3, .int (nI (kT s))), (0, .ref (aH a)), (1, .int (nI R)), (2, .int (nI C))] (by decide) rfl dL_tick_24 ?_
  refine x_bipush hE (nI 64) (by decide) dL_tick_26 ?_
  refine x_newarrI hE (List.mem_of_getElem? (i := 1) rfl) 64 1 64 rfl rfl (by decide) (by decide) (by decide) dL_tick_28 (fun q1 => ?_)
  refine x_sub ((q1, .inl (cI, 64, .inl (fun _ => nI 0))) :: kW cI cZ a s) [21, 0, 1, 2, 3, 4, 5, 6, 7, 8, 9, 10, 11, 12, 13, 14, 15, 16, 17, 18, 19, 20] (by decide) rfl ?_
  refine x_astore hE [(6, .ref q1), (5, .int ((ksk s) + (krf s))), (4, .int (nI ((kT s) % R))), (3, .int (nI (kT s))), (0, .ref (aH a)), (1, .int (nI R)), (2, .int (nI C))] (by decide) rfl dL_tick_30 ?_
  refine x_bipush hE (nI 64) (by decide) dL_tick_32 ?_
  refine x_newarrI hE (List.mem_of_getElem? (i := 1) rfl) 64 2 128 rfl rfl (by decide) (by decide) (by decide) dL_tick_34 (fun q2 => ?_)
  refine x_sub ((q2, .inl (cI, 64, .inl (fun _ => nI 0))) :: (q1, .inl (cI, 64, .inl (fun _ => nI 0))) :: kW cI cZ a s) [22, 0, 1, 2, 3, 4, 5, 6, 7, 8, 9, 10, 11, 12, 13, 14, 15, 16, 17, 18, 19, 20, 21] (by decide) rfl ?_
  refine x_astore hE [(7, .ref q2), (6, .ref q1), (5, .int ((ksk s) + (krf s))), (4, .int (nI ((kT s) % R))), (3, .int (nI (kT s))), (0, .ref (aH a)), (1, .int (nI R)), (2, .int (nI C))] (by decide) rfl dL_tick_36 ?_
  refine x_iconst hE (nI 0) (by decide) dL_tick_38 ?_
  refine x_istore hE [(8, .int (nI 0)), (7, .ref q2), (6, .ref q1), (5, .int ((ksk s) + (krf s))), (4, .int (nI ((kT s) % R))), (3, .int (nI (kT s))), (0, .ref (aH a)), (1, .int (nI R)), (2, .int (nI C))] (by decide) rfl dL_tick_39 ?_
  refine x_lv [(0, .ref (aH a)), (1, .int (nI R)), (2, .int (nI C)), (3, .int (nI (kT s))), (4, .int (nI ((kT s) % R))), (5, .int ((ksk s) + (krf s))), (6, .ref q1), (7, .ref q2), (8, .int (nI 0))] [6, 7, 8, 5, 4, 3, 2, 1, 0] rfl ?_
  refine sg41 (R * C) 0 q1 q2 (fun _ => nI 0) (fun _ => nI 0) (Nat.zero_add _) (by rw [fa_fill_0]) (by rw [fa_fill_0]) ?_
  refine x_aload_n hE 0 rfl dL_tick_79 ?_
  refine x_iconst hE (nI 1) (by decide) dL_tick_80 ?_
  refine x_callK2 (n := 1) (st := []) hE (ck_tick l D cI cZ a s hok  ) gL_tick_X4_tick rfl rfl (by decide +kernel) ⟨by decide, by decide⟩ ⟨by decide, by decide⟩ rfl rfl (Nat.le_of_ble_eq_true rfl) dL_tick_81 (fun v9 w9 hT9 => ?_)
  obtain ⟨rfl, rfl⟩ := hT9
  refine x_at (ws' := ((q2, .inl (cI, 64, .inl (fa_fill (kbeg s) (fun _ => nI 0) (R * C)))) :: (q1, .inl (cI, 64, .inl (fa_fill (kph s) (fun _ => nI 0) (R * C)))) :: kW cI cZ a (tick1 s))) (st' := [.int (nI (kT s + 1))]) rfl rfl ?_
  refine x_iload_n hE 3 rfl dL_tick_84 ?_
  refine x_iconst hE (nI 1) (by decide) dL_tick_85 ?_
  refine x_iadd hE (nI ((kT s) + 1)) (nI_add _ _) dL_tick_86 ?_
  refine xn_icmp_eq hE (by omega) (by omega) 92 (by decide) dL_tick_87 (fun c87 => ?_) (fun c87 => ?_)
  · skip
    refine x_iconst hE (nI 0) (by decide) dL_tick_92 ?_
    refine x_istore hE [(8, .int (nI 0)), (0, .ref (aH a)), (1, .int (nI R)), (2, .int (nI C)), (3, .int (nI (kT s))), (4, .int (nI ((kT s) % R))), (5, .int ((ksk s) + (krf s))), (6, .ref q1), (7, .ref q2)] (by decide) rfl dL_tick_93 ?_
    refine x_iconst hE (nI 0) (by decide) dL_tick_95 ?_
    refine x_istore hE [(9, .int (nI 0)), (8, .int (nI 0)), (0, .ref (aH a)), (1, .int (nI R)), (2, .int (nI C)), (3, .int (nI (kT s))), (4, .int (nI ((kT s) % R))), (5, .int ((ksk s) + (krf s))), (6, .ref q1), (7, .ref q2)] (by decide) rfl dL_tick_96 ?_
    refine x_lv [(0, .ref (aH a)), (1, .int (nI R)), (2, .int (nI C)), (3, .int (nI (kT s))), (4, .int (nI ((kT s) % R))), (5, .int ((ksk s) + (krf s))), (6, .ref q1), (7, .ref q2), (8, .int (nI 0)), (9, .int (nI 0))] [2, 3, 4, 5, 6, 7, 8, 9, 1, 0] rfl ?_
    refine sg98 (R * C) 0 0 q1 q2 (Nat.zero_add _) (rfl) ?_
    refine x_aload_n hE 0 rfl dL_tick_386 ?_
    refine x_bipush hE (nI 9) (by decide) dL_tick_387 ?_
    refine x_callK2 (n := 1) (st := []) hE (ck_count_9 l D cI cZ a (tick1 s) hok2  ) gL_tick_X4_count rfl rfl (by decide +kernel) ⟨by decide, by decide⟩ ⟨by decide, by decide⟩ rfl rfl (Nat.le_of_ble_eq_true rfl) dL_tick_389 (fun v9 w9 hT9 => ?_)
    obtain ⟨rfl, rfl⟩ := hT9
    refine x_at (ws' := ((q2, .inl (cI, 64, .inl (fa_fill (kbeg s) (fun _ => nI 0) (R * C)))) :: (q1, .inl (cI, 64, .inl (fa_fill (kph s) (fun _ => nI 0) (R * C)))) :: kW cI cZ a (tick1 s))) (st' := [.int (ksk (tick1 s))]) rfl rfl ?_
    refine x_aload_n hE 0 rfl dL_tick_392 ?_
    refine x_bipush hE (nI 10) (by decide) dL_tick_393 ?_
    refine x_callK2 (n := 1) (st := [.int (ksk (tick1 s))]) hE (ck_count_10 l D cI cZ a (tick1 s) hok2  ) gL_tick_X4_count rfl rfl (by decide +kernel) ⟨by decide, by decide⟩ ⟨by decide, by decide⟩ rfl rfl (Nat.le_of_ble_eq_true rfl) dL_tick_395 (fun v9 w9 hT9 => ?_)
    obtain ⟨rfl, rfl⟩ := hT9
    refine x_at (ws' := ((q2, .inl (cI, 64, .inl (fa_fill (kbeg s) (fun _ => nI 0) (R * C)))) :: (q1, .inl (cI, 64, .inl (fa_fill (kph s) (fun _ => nI 0) (R * C)))) :: kW cI cZ a (tick1 s))) (st' := [.int (krf (tick1 s)), .int (ksk (tick1 s))]) rfl rfl ?_
    refine x_iadd hE ((ksk (tick1 s)) + (krf (tick1 s))) rfl dL_tick_398 ?_
    refine x_iload hE 5 rfl dL_tick_399 ?_
    refine x_iload hE 8 rfl dL_tick_401 ?_
    refine x_iadd hE (((ksk s) + (krf s)) + (nI (fb_s (hitL s R C) (R * C)))) rfl dL_tick_403 ?_
    refine x_icmp_ne hE 411 (by decide) dL_tick_404 (fun c404 => ?_) (fun c404 => ?_)
    · skip
      exact absurd (hI.tick_hits (by omega)) c404
    · skip
      refine x_iconst hE (nI 1) (by decide) dL_tick_407 ?_
      refine x_goto hE 412 (by decide) dL_tick_408 ?_
      refine x_sub (kW cI cZ a (tick1 s)) [2, 3, 4, 5, 6, 7, 8, 9, 10, 11, 12, 13, 14, 15, 16, 17, 18, 19, 20, 21, 22] (by decide) rfl ?_
      refine x_eq (bI true) rfl ?_
      exact x_zret hE hr (⟨rfl, rfl⟩) dL_tick_412
  · skip
    exact absurd rfl c87
