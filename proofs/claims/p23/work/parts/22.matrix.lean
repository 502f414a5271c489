set_option maxHeartbeats 4000000 in
set_option maxRecDepth 100000 in
theorem kX1_size (l : Launch) (D : va_G) (cI cZ : ClassId) (h0 : Nat) (p1 : Nat) (f0 : Nat) (f1 : Nat) (f2 : Nat) (s0 : Nat) (s1 : Nat) (s2 : Nat) (pos : Nat → Nat) (cl : Nat → Nat) (jn : Nat → Nat) (dl : Nat → Nat) (dn : Nat → Nat) (R : Nat) (C : Nat) (dio : Bool)  : xC l yX1_size wsX1_size 0 0 0 0 D cI cZ [.ref h0] [(h0, .inr (1, [.ref p1, .ref f0, .ref s0, .int (nI R), .int (nI C), .int (bI dio)])), (p1, .inl (cI, 64, .inl (xN pos))), (f0, .inr (2, [.ref f1, .ref f2])), (f1, .inl (cI, 8, .inl (xN cl))), (f2, .inl (cI, 8, .inl (xN jn))), (s0, .inr (2, [.ref s1, .ref s2])), (s1, .inl (cI, 8, .inl (xN dl))), (s2, .inl (cI, 8, .inl (xN dn)))] (fun v8 w8 => v8 = some (.int (nI (R * C))) ∧ w8 = [(h0, .inr (1, [.ref p1, .ref f0, .ref s0, .int (nI R), .int (nI C), .int (bI dio)])), (p1, .inl (cI, 64, .inl (xN pos))), (f0, .inr (2, [.ref f1, .ref f2])), (f1, .inl (cI, 8, .inl (xN cl))), (f2, .inl (cI, 8, .inl (xN jn))), (s0, .inr (2, [.ref s1, .ref s2])), (s1, .inl (cI, 8, .inl (xN dl))), (s2, .inl (cI, 8, .inl (xN dn)))]) := by
  refine xC.of (bytes := cX1_size) (maxL := 1) (ret := (some .int)) (own := RX1) (by decide +kernel) rfl (Nat.le_of_ble_eq_true rfl) rfl ?_
  intro p9 e9 s9 m9 args9 below9 meth9 cd9 A hE hr hin2 hA9
  have inX1 : ∀ w ∈ wsX10, w ∈ wsX1_size := fun w h => List.mem_cons_of_mem _ (List.mem_append_right _ h)
  have g25 : xF RX1 wsX1_size 25 1 3 := ⟨"KeyScanner$Matrix", RX1, TX1, 6, inX1, rfl, by decide, List.mem_of_getElem? (i := 1) rfl, rfl⟩
  have g29 : xF RX1 wsX1_size 29 1 4 := ⟨"KeyScanner$Matrix", RX1, TX1, 6, inX1, rfl, by decide, List.mem_of_getElem? (i := 2) rfl, rfl⟩
  refine x_at (ws' := [(h0, .inr (1, [.ref p1, .ref f0, .ref s0, .int (nI R), .int (nI C), .int (bI dio)])), (p1, .inl (cI, 64, .inl (xN pos))), (f0, .inr (2, [.ref f1, .ref f2])), (f1, .inl (cI, 8, .inl (xN cl))), (f2, .inl (cI, 8, .inl (xN jn))), (s0, .inr (2, [.ref s1, .ref s2])), (s1, .inl (cI, 8, .inl (xN dl))), (s2, .inl (cI, 8, .inl (xN dn)))]) (st' := []) rfl rfl ?_
  refine x_lv [(0, .ref h0)] [0] rfl ?_
  refine x_aload_n hE 0 rfl dX1_size_0 ?_
  refine x_get hE g25 0 rfl rfl dX1_size_1 ?_
  refine x_aload_n hE 0 rfl dX1_size_4 ?_
  refine x_get hE g29 0 rfl rfl dX1_size_5 ?_
  refine x_imul hE (nI (R * C)) (xI_mul _ _) dX1_size_8 ?_
  exact x_iret hE hr (⟨rfl, rfl⟩) dX1_size_9
set_option maxHeartbeats 4000000 in
set_option maxRecDepth 100000 in
theorem kX1_has (l : Launch) (D : va_G) (cI cZ : ClassId) (h0 : Nat) (p1 : Nat) (f0 : Nat) (f1 : Nat) (f2 : Nat) (s0 : Nat) (s1 : Nat) (s2 : Nat) (pos : Nat → Nat) (cl : Nat → Nat) (jn : Nat → Nat) (dl : Nat → Nat) (dn : Nat → Nat) (R : Nat) (C : Nat) (dio : Bool) (k : Int32)  : xC l yX1_has wsX1_has 1 0 0 20 D cI cZ [.ref h0, .int k] [(h0, .inr (1, [.ref p1, .ref f0, .ref s0, .int (nI R), .int (nI C), .int (bI dio)])), (p1, .inl (cI, 64, .inl (xN pos))), (f0, .inr (2, [.ref f1, .ref f2])), (f1, .inl (cI, 8, .inl (xN cl))), (f2, .inl (cI, 8, .inl (xN jn))), (s0, .inr (2, [.ref s1, .ref s2])), (s1, .inl (cI, 8, .inl (xN dl))), (s2, .inl (cI, 8, .inl (xN dn)))] (fun v8 w8 => v8 = some (.int (bI (hasN k (R * C)))) ∧ w8 = [(h0, .inr (1, [.ref p1, .ref f0, .ref s0, .int (nI R), .int (nI C), .int (bI dio)])), (p1, .inl (cI, 64, .inl (xN pos))), (f0, .inr (2, [.ref f1, .ref f2])), (f1, .inl (cI, 8, .inl (xN cl))), (f2, .inl (cI, 8, .inl (xN jn))), (s0, .inr (2, [.ref s1, .ref s2])), (s1, .inl (cI, 8, .inl (xN dl))), (s2, .inl (cI, 8, .inl (xN dn)))]) := by
  refine xC.of (bytes := cX1_has) (maxL := 2) (ret := (some .boolean)) (own := RX1) (by decide +kernel) rfl (Nat.le_of_ble_eq_true rfl) rfl ?_
  intro p9 e9 s9 m9 args9 below9 meth9 cd9 A hE hr hin2 hA9
  refine x_at (ws' := [(h0, .inr (1, [.ref p1, .ref f0, .ref s0, .int (nI R), .int (nI C), .int (bI dio)])), (p1, .inl (cI, 64, .inl (xN pos))), (f0, .inr (2, [.ref f1, .ref f2])), (f1, .inl (cI, 8, .inl (xN cl))), (f2, .inl (cI, 8, .inl (xN jn))), (s0, .inr (2, [.ref s1, .ref s2])), (s1, .inl (cI, 8, .inl (xN dl))), (s2, .inl (cI, 8, .inl (xN dn)))]) (st' := []) rfl rfl ?_
  refine x_lv [(0, .ref h0), (1, .int k)] [0, 1] rfl ?_
  refine x_iload_n hE 1 rfl dX1_has_0 ?_
  refine x_if_lt hE 16 (by decide) dX1_has_1 (fun c1 => ?_) (fun c1 => ?_)
  · skip
    refine x_iconst hE (nI 0) (by decide) dX1_has_16 ?_
    refine x_eq (bI false) rfl ?_
    exact x_zret hE hr (⟨by simp only [hasN, if_pos c1, reduceIte, Bool.false_eq_true, Bool.true_eq_false], rfl⟩) dX1_has_17
  · skip
    refine x_iload_n hE 1 rfl dX1_has_4 ?_
    refine x_aload_n hE 0 rfl dX1_has_5 ?_
    refine x_callV (n := 0) (st := [.int k]) hE (kX1_size l D cI cZ h0 p1 f0 f1 f2 s0 s1 s2 pos cl jn dl dn R C dio ) gX1_has_X1_size rfl (by decide +kernel) ⟨by decide, by decide⟩ ⟨Nat.zero_le _, Nat.zero_le _⟩ rfl [0, 1, 2, 3, 4, 5, 6, 7] [] rfl (wr := []) rfl (by decide) (by decide) (by decide) 0 rfl rfl rfl rfl (Nat.le_of_ble_eq_true rfl) dX1_has_6 (fun v9 w9 hT9 => ?_)
    obtain ⟨rfl, rfl⟩ := hT9
    refine x_at (ws' := [(h0, .inr (1, [.ref p1, .ref f0, .ref s0, .int (nI R), .int (nI C), .int (bI dio)])), (p1, .inl (cI, 64, .inl (xN pos))), (f0, .inr (2, [.ref f1, .ref f2])), (f1, .inl (cI, 8, .inl (xN cl))), (f2, .inl (cI, 8, .inl (xN jn))), (s0, .inr (2, [.ref s1, .ref s2])), (s1, .inl (cI, 8, .inl (xN dl))), (s2, .inl (cI, 8, .inl (xN dn)))]) (st' := [.int (nI (R * C)), .int k]) rfl rfl ?_
    refine x_icmp_ge hE 16 (by decide) dX1_has_9 (fun c9 => ?_) (fun c9 => ?_)
    · skip
      refine x_iconst hE (nI 0) (by decide) dX1_has_16 ?_
      refine x_eq (bI false) rfl ?_
      exact x_zret hE hr (⟨by simp only [hasN, if_neg c1, if_neg c9, reduceIte, Bool.false_eq_true, Bool.true_eq_false], rfl⟩) dX1_has_17
    · skip
      refine x_iconst hE (nI 1) (by decide) dX1_has_12 ?_
      refine x_goto hE 17 (by decide) dX1_has_13 ?_
      refine x_eq (bI true) rfl ?_
      exact x_zret hE hr (⟨by simp only [hasN, if_neg c1, if_pos c9, reduceIte, Bool.false_eq_true, Bool.true_eq_false], rfl⟩) dX1_has_17
set_option maxHeartbeats 4000000 in
set_option maxRecDepth 100000 in
theorem kX1_lift (l : Launch) (D : va_G) (cI cZ : ClassId) (h0 : Nat) (p1 : Nat) (f0 : Nat) (f1 : Nat) (f2 : Nat) (s0 : Nat) (s1 : Nat) (s2 : Nat) (pos : Nat → Nat) (cl : Nat → Nat) (jn : Nat → Nat) (dl : Nat → Nat) (dn : Nat → Nat) (R : Nat) (C : Nat) (dio : Bool)  : xC l yX1_lift wsX1_lift 1 0 0 21 D cI cZ [.ref h0] [(h0, .inr (1, [.ref p1, .ref f0, .ref s0, .int (nI R), .int (nI C), .int (bI dio)])), (p1, .inl (cI, 64, .inl (xN pos))), (f0, .inr (2, [.ref f1, .ref f2])), (f1, .inl (cI, 8, .inl (xN cl))), (f2, .inl (cI, 8, .inl (xN jn))), (s0, .inr (2, [.ref s1, .ref s2])), (s1, .inl (cI, 8, .inl (xN dl))), (s2, .inl (cI, 8, .inl (xN dn)))] (fun v8 w8 => v8 = none ∧ w8 = [(h0, .inr (1, [.ref p1, .ref f0, .ref s0, .int (nI R), .int (nI C), .int (bI dio)])), (p1, .inl (cI, 64, .inl (xN (zeroN pos 64)))), (f0, .inr (2, [.ref f1, .ref f2])), (f1, .inl (cI, 8, .inl (xN (zeroN cl 8)))), (f2, .inl (cI, 8, .inl (xN (zeroN jn 8)))), (s0, .inr (2, [.ref s1, .ref s2])), (s1, .inl (cI, 8, .inl (xN (zeroN dl 8)))), (s2, .inl (cI, 8, .inl (xN (zeroN dn 8))))]) := by
  refine xC.of (bytes := cX1_lift) (maxL := 2) (ret := none) (own := RX1) (by decide +kernel) rfl (Nat.le_of_ble_eq_true rfl) rfl ?_
  intro p9 e9 s9 m9 args9 below9 meth9 cd9 A hE hr hin2 hA9
  have inX1 : ∀ w ∈ wsX10, w ∈ wsX1_lift := fun w h => List.mem_cons_of_mem _ (List.mem_append_left _ (List.mem_append_right _ h))
  have g18 : xF RX1 wsX1_lift 18 1 1 := ⟨"KeyScanner$Matrix", RX1, TX1, 6, inX1, rfl, by decide, List.mem_of_getElem? (i := 2) rfl, rfl⟩
  have g22 : xF RX1 wsX1_lift 22 1 2 := ⟨"KeyScanner$Matrix", RX1, TX1, 6, inX1, rfl, by decide, List.mem_of_getElem? (i := 3) rfl, rfl⟩
  have g9 : xF RX1 wsX1_lift 9 1 0 := ⟨"KeyScanner$Matrix", RX1, TX1, 6, inX1, rfl, by decide, List.mem_of_getElem? (i := 1) rfl, rfl⟩
  refine x_at (ws' := [(h0, .inr (1, [.ref p1, .ref f0, .ref s0, .int (nI R), .int (nI C), .int (bI dio)])), (p1, .inl (cI, 64, .inl (xN pos))), (f0, .inr (2, [.ref f1, .ref f2])), (f1, .inl (cI, 8, .inl (xN cl))), (f2, .inl (cI, 8, .inl (xN jn))), (s0, .inr (2, [.ref s1, .ref s2])), (s1, .inl (cI, 8, .inl (xN dl))), (s2, .inl (cI, 8, .inl (xN dn)))]) (st' := []) rfl rfl ?_
  refine x_lv [(0, .ref h0)] [0] rfl ?_
  have lp2 : ∀ (n : Nat) (i : Nat) (px : Nat → Nat) (hi : i + n = 64) (hc : px = zeroN pos i), X p9 l e9 { frames := 1, cells := 0, slots := 0, locals := 21 } s9 m9 args9 below9 meth9 cd9 0 0 (MQ below9 (xQ D (fun v8 w8 => v8 = none ∧ w8 = [(h0, .inr (1, [.ref p1, .ref f0, .ref s0, .int (nI R), .int (nI C), .int (bI dio)])), (p1, .inl (cI, 64, .inl (xN (zeroN pos 64)))), (f0, .inr (2, [.ref f1, .ref f2])), (f1, .inl (cI, 8, .inl (xN (zeroN cl 8)))), (f2, .inl (cI, 8, .inl (xN (zeroN jn 8)))), (s0, .inr (2, [.ref s1, .ref s2])), (s1, .inl (cI, 8, .inl (xN (zeroN dl 8)))), (s2, .inl (cI, 8, .inl (xN (zeroN dn 8))))]) A) args9 s9 0 0 A) 2 D A [(h0, .inr (1, [.ref p1, .ref f0, .ref s0, .int (nI R), .int (nI C), .int (bI dio)])), (p1, .inl (cI, 64, .inl (xN px))), (f0, .inr (2, [.ref f1, .ref f2])), (f1, .inl (cI, 8, .inl (xN cl))), (f2, .inl (cI, 8, .inl (xN jn))), (s0, .inr (2, [.ref s1, .ref s2])), (s1, .inl (cI, 8, .inl (xN dl))), (s2, .inl (cI, 8, .inl (xN dn)))] [(0, .ref h0), (1, .int (nI i))] 2 [] := by
    intro n
    induction n with
    | zero =>
      intro i px hi hc
      refine x_iload_n hE 1 rfl dX1_lift_2 ?_
      refine x_bipush hE (nI 64) (by decide) dX1_lift_3 ?_
      refine xn_icmp_ge hE (by omega) (by omega) 21 (by decide) dX1_lift_5 (fun c5 => ?_) (fun c5 => ?_)
      · skip
        refine x_aload_n hE 0 rfl dX1_lift_21 ?_
        refine x_get hE g18 0 rfl rfl dX1_lift_22 ?_
        refine x_callV (n := 0) (st := []) hE (kX2_open l D cI cZ f0 f1 f2 cl jn ) gX1_lift_X2_open rfl (by decide +kernel) ⟨by decide, by decide⟩ ⟨Nat.zero_le _, Nat.zero_le _⟩ rfl [2, 3, 4] [0, 1, 5, 6, 7] rfl (wr := [(h0, .inr (1, [.ref p1, .ref f0, .ref s0, .int (nI R), .int (nI C), .int (bI dio)])), (p1, .inl (cI, 64, .inl (xN px))), (s0, .inr (2, [.ref s1, .ref s2])), (s1, .inl (cI, 8, .inl (xN dl))), (s2, .inl (cI, 8, .inl (xN dn)))]) rfl (by decide) (by decide) (by decide) 0 rfl rfl rfl rfl (Nat.le_of_ble_eq_true rfl) dX1_lift_25 (fun v9 w9 hT9 => ?_)
        obtain ⟨rfl, rfl⟩ := hT9
        refine x_at (ws' := [(h0, .inr (1, [.ref p1, .ref f0, .ref s0, .int (nI R), .int (nI C), .int (bI dio)])), (p1, .inl (cI, 64, .inl (xN px))), (s0, .inr (2, [.ref s1, .ref s2])), (s1, .inl (cI, 8, .inl (xN dl))), (s2, .inl (cI, 8, .inl (xN dn))), (f0, .inr (2, [.ref f1, .ref f2])), (f1, .inl (cI, 8, .inl (xN (zeroN cl 8)))), (f2, .inl (cI, 8, .inl (xN (zeroN jn 8))))]) (st' := []) rfl rfl ?_
        refine x_sub [(h0, .inr (1, [.ref p1, .ref f0, .ref s0, .int (nI R), .int (nI C), .int (bI dio)])), (p1, .inl (cI, 64, .inl (xN px))), (f0, .inr (2, [.ref f1, .ref f2])), (f1, .inl (cI, 8, .inl (xN (zeroN cl 8)))), (f2, .inl (cI, 8, .inl (xN (zeroN jn 8)))), (s0, .inr (2, [.ref s1, .ref s2])), (s1, .inl (cI, 8, .inl (xN dl))), (s2, .inl (cI, 8, .inl (xN dn)))] [0, 1, 5, 6, 7, 2, 3, 4] (by decide) rfl ?_
        refine x_aload_n hE 0 rfl dX1_lift_28 ?_
        refine x_get hE g22 0 rfl rfl dX1_lift_29 ?_
        refine x_callV (n := 0) (st := []) hE (kX2_open l D cI cZ s0 s1 s2 dl dn ) gX1_lift_X2_open rfl (by decide +kernel) ⟨by decide, by decide⟩ ⟨Nat.zero_le _, Nat.zero_le _⟩ rfl [5, 6, 7] [0, 1, 2, 3, 4] rfl (wr := [(h0, .inr (1, [.ref p1, .ref f0, .ref s0, .int (nI R), .int (nI C), .int (bI dio)])), (p1, .inl (cI, 64, .inl (xN px))), (f0, .inr (2, [.ref f1, .ref f2])), (f1, .inl (cI, 8, .inl (xN (zeroN cl 8)))), (f2, .inl (cI, 8, .inl (xN (zeroN jn 8))))]) rfl (by decide) (by decide) (by decide) 0 rfl rfl rfl rfl (Nat.le_of_ble_eq_true rfl) dX1_lift_32 (fun v9 w9 hT9 => ?_)
        obtain ⟨rfl, rfl⟩ := hT9
        refine x_at (ws' := [(h0, .inr (1, [.ref p1, .ref f0, .ref s0, .int (nI R), .int (nI C), .int (bI dio)])), (p1, .inl (cI, 64, .inl (xN px))), (f0, .inr (2, [.ref f1, .ref f2])), (f1, .inl (cI, 8, .inl (xN (zeroN cl 8)))), (f2, .inl (cI, 8, .inl (xN (zeroN jn 8)))), (s0, .inr (2, [.ref s1, .ref s2])), (s1, .inl (cI, 8, .inl (xN (zeroN dl 8)))), (s2, .inl (cI, 8, .inl (xN (zeroN dn 8))))]) (st' := []) rfl rfl ?_
        refine x_sub [(h0, .inr (1, [.ref p1, .ref f0, .ref s0, .int (nI R), .int (nI C), .int (bI dio)])), (p1, .inl (cI, 64, .inl (xN px))), (f0, .inr (2, [.ref f1, .ref f2])), (f1, .inl (cI, 8, .inl (xN (zeroN cl 8)))), (f2, .inl (cI, 8, .inl (xN (zeroN jn 8)))), (s0, .inr (2, [.ref s1, .ref s2])), (s1, .inl (cI, 8, .inl (xN (zeroN dl 8)))), (s2, .inl (cI, 8, .inl (xN (zeroN dn 8))))] [0, 1, 2, 3, 4, 5, 6, 7] (by decide) rfl ?_
        exact x_vret hE hr (⟨rfl, by rw [hc, show i = 64 by omega]⟩) dX1_lift_35
      · skip
        exfalso; omega
    | succ n ih =>
      intro i px hi hc
      refine x_iload_n hE 1 rfl dX1_lift_2 ?_
      refine x_bipush hE (nI 64) (by decide) dX1_lift_3 ?_
      refine xn_icmp_ge hE (by omega) (by omega) 21 (by decide) dX1_lift_5 (fun c5 => ?_) (fun c5 => ?_)
      · skip
        exfalso; omega
      · skip
        refine x_aload_n hE 0 rfl dX1_lift_8 ?_
        refine x_get hE g9 0 rfl rfl dX1_lift_9 ?_
        refine x_iload_n hE 1 rfl dX1_lift_12 ?_
        refine x_iconst hE (nI 0) (by decide) dX1_lift_13 ?_
        refine x_iast hE i (xN (updN px i 0)) (by omega) (by decide) (upd_xN _ _ _) [(h0, .inr (1, [.ref p1, .ref f0, .ref s0, .int (nI R), .int (nI C), .int (bI dio)])), (p1, .inl (cI, 64, .inl (xN (updN px i 0)))), (f0, .inr (2, [.ref f1, .ref f2])), (f1, .inl (cI, 8, .inl (xN cl))), (f2, .inl (cI, 8, .inl (xN jn))), (s0, .inr (2, [.ref s1, .ref s2])), (s1, .inl (cI, 8, .inl (xN dl))), (s2, .inl (cI, 8, .inl (xN dn)))] 1 rfl rfl dX1_lift_14 ?_
        refine x_iinc hE (nI (i + 1)) [(1, .int (nI (i + 1))), (0, .ref h0)] 1 rfl (nI_add _ _) (by decide) rfl dX1_lift_15 ?_
        refine x_goto hE 2 (by decide) dX1_lift_18 ?_
        refine x_lv [(0, .ref h0), (1, .int (nI (i + 1)))] [1, 0] rfl ?_
        exact ih (i + 1) (updN px i 0) (by omega) (by rw [hc]; exact fillN_succ _ _ _)
  refine x_iconst hE (nI 0) (by decide) dX1_lift_0 ?_
  refine x_istore_n hE [(1, .int (nI 0)), (0, .ref h0)] (by decide) rfl dX1_lift_1 ?_
  refine x_lv [(0, .ref h0), (1, .int (nI 0))] [1, 0] rfl ?_
  exact lp2 64 0 pos (rfl) (by rw [zeroN, fa_fill_0])
set_option maxHeartbeats 4000000 in
set_option maxRecDepth 100000 in
theorem kX1_layOut (l : Launch) (D : va_G) (cI cZ : ClassId) (h0 : Nat) (p1 : Nat) (f0 : Nat) (f1 : Nat) (f2 : Nat) (s0 : Nat) (s1 : Nat) (s2 : Nat) (pos : Nat → Nat) (cl : Nat → Nat) (jn : Nat → Nat) (dl : Nat → Nat) (dn : Nat → Nat) (R : Nat) (C : Nat) (dio : Bool) (R2 : Nat) (C2 : Nat)  : xC l yX1_layOut wsX1_layOut 2 0 0 42 D cI cZ [.ref h0, .int (nI R2), .int (nI C2)] [(h0, .inr (1, [.ref p1, .ref f0, .ref s0, .int (nI R), .int (nI C), .int (bI dio)])), (p1, .inl (cI, 64, .inl (xN pos))), (f0, .inr (2, [.ref f1, .ref f2])), (f1, .inl (cI, 8, .inl (xN cl))), (f2, .inl (cI, 8, .inl (xN jn))), (s0, .inr (2, [.ref s1, .ref s2])), (s1, .inl (cI, 8, .inl (xN dl))), (s2, .inl (cI, 8, .inl (xN dn)))] (fun v8 w8 => v8 = none ∧ w8 = [(h0, .inr (1, [.ref p1, .ref f0, .ref s0, .int (nI R2), .int (nI C2), .int (bI dio)])), (p1, .inl (cI, 64, .inl (xN (zeroN pos 64)))), (f0, .inr (2, [.ref f1, .ref f2])), (f1, .inl (cI, 8, .inl (xN (zeroN cl 8)))), (f2, .inl (cI, 8, .inl (xN (zeroN jn 8)))), (s0, .inr (2, [.ref s1, .ref s2])), (s1, .inl (cI, 8, .inl (xN (zeroN dl 8)))), (s2, .inl (cI, 8, .inl (xN (zeroN dn 8))))]) := by
  refine xC.of (bytes := cX1_layOut) (maxL := 3) (ret := none) (own := RX1) (by decide +kernel) rfl (Nat.le_of_ble_eq_true rfl) rfl ?_
  intro p9 e9 s9 m9 args9 below9 meth9 cd9 A hE hr hin2 hA9
  have inX1 : ∀ w ∈ wsX10, w ∈ wsX1_layOut := fun w h => List.mem_cons_of_mem _ (List.mem_append_left _ (List.mem_append_right _ h))
  have p25 : xP RX1 wsX1_layOut 25 1 3 false .int := ⟨"KeyScanner$Matrix", RX1, TX1, 6, tyX1, inX1, rfl, by decide, List.mem_of_getElem? (i := 1) rfl, rfl, tyX1_ok, nmX1, rfl, by decide +kernel, fun h => by cases h⟩
  have p29 : xP RX1 wsX1_layOut 29 1 4 false .int := ⟨"KeyScanner$Matrix", RX1, TX1, 6, tyX1, inX1, rfl, by decide, List.mem_of_getElem? (i := 2) rfl, rfl, tyX1_ok, nmX1, rfl, by decide +kernel, fun h => by cases h⟩
  refine x_at (ws' := [(h0, .inr (1, [.ref p1, .ref f0, .ref s0, .int (nI R), .int (nI C), .int (bI dio)])), (p1, .inl (cI, 64, .inl (xN pos))), (f0, .inr (2, [.ref f1, .ref f2])), (f1, .inl (cI, 8, .inl (xN cl))), (f2, .inl (cI, 8, .inl (xN jn))), (s0, .inr (2, [.ref s1, .ref s2])), (s1, .inl (cI, 8, .inl (xN dl))), (s2, .inl (cI, 8, .inl (xN dn)))]) (st' := []) rfl rfl ?_
  refine x_lv [(0, .ref h0), (1, .int (nI R2)), (2, .int (nI C2))] [0, 1, 2] rfl ?_
  refine x_aload_n hE 0 rfl dX1_layOut_0 ?_
  refine x_iload_n hE 1 rfl dX1_layOut_1 ?_
  refine x_put hE p25 [(h0, .inr (1, [.ref p1, .ref f0, .ref s0, .int (nI R2), .int (nI C), .int (bI dio)])), (p1, .inl (cI, 64, .inl (xN pos))), (f0, .inr (2, [.ref f1, .ref f2])), (f1, .inl (cI, 8, .inl (xN cl))), (f2, .inl (cI, 8, .inl (xN jn))), (s0, .inr (2, [.ref s1, .ref s2])), (s1, .inl (cI, 8, .inl (xN dl))), (s2, .inl (cI, 8, .inl (xN dn)))] 0 rfl rfl rfl rfl (Nat.le_of_ble_eq_true rfl) dX1_layOut_2 ?_
  refine x_aload_n hE 0 rfl dX1_layOut_5 ?_
  refine x_iload_n hE 2 rfl dX1_layOut_6 ?_
  refine x_put hE p29 [(h0, .inr (1, [.ref p1, .ref f0, .ref s0, .int (nI R2), .int (nI C2), .int (bI dio)])), (p1, .inl (cI, 64, .inl (xN pos))), (f0, .inr (2, [.ref f1, .ref f2])), (f1, .inl (cI, 8, .inl (xN cl))), (f2, .inl (cI, 8, .inl (xN jn))), (s0, .inr (2, [.ref s1, .ref s2])), (s1, .inl (cI, 8, .inl (xN dl))), (s2, .inl (cI, 8, .inl (xN dn)))] 0 rfl rfl rfl rfl (Nat.le_of_ble_eq_true rfl) dX1_layOut_7 ?_
  refine x_aload_n hE 0 rfl dX1_layOut_10 ?_
  refine x_callV (n := 0) (st := []) hE (kX1_lift l D cI cZ h0 p1 f0 f1 f2 s0 s1 s2 pos cl jn dl dn R2 C2 dio ) gX1_layOut_X1_lift rfl (by decide +kernel) ⟨by decide, by decide⟩ ⟨Nat.zero_le _, Nat.zero_le _⟩ rfl [0, 1, 2, 3, 4, 5, 6, 7] [] rfl (wr := []) rfl (by decide) (by decide) (by decide) 0 rfl rfl rfl rfl (Nat.le_of_ble_eq_true rfl) dX1_layOut_11 (fun v9 w9 hT9 => ?_)
  obtain ⟨rfl, rfl⟩ := hT9
  refine x_at (ws' := [(h0, .inr (1, [.ref p1, .ref f0, .ref s0, .int (nI R2), .int (nI C2), .int (bI dio)])), (p1, .inl (cI, 64, .inl (xN (zeroN pos 64)))), (f0, .inr (2, [.ref f1, .ref f2])), (f1, .inl (cI, 8, .inl (xN (zeroN cl 8)))), (f2, .inl (cI, 8, .inl (xN (zeroN jn 8)))), (s0, .inr (2, [.ref s1, .ref s2])), (s1, .inl (cI, 8, .inl (xN (zeroN dl 8)))), (s2, .inl (cI, 8, .inl (xN (zeroN dn 8))))]) (st' := []) rfl rfl ?_
  exact x_vret hE hr (⟨rfl, rfl⟩) dX1_layOut_14
set_option maxHeartbeats 4000000 in
set_option maxRecDepth 100000 in
theorem kX1_move (l : Launch) (D : va_G) (cI cZ : ClassId) (h0 : Nat) (p1 : Nat) (f0 : Nat) (f1 : Nat) (f2 : Nat) (s0 : Nat) (s1 : Nat) (s2 : Nat) (pos : Nat → Nat) (cl : Nat → Nat) (jn : Nat → Nat) (dl : Nat → Nat) (dn : Nat → Nat) (R : Nat) (C : Nat) (dio : Bool) (k : Nat) (q : Nat) (hR : 1 ≤ R ∧ R ≤ 8) (hC : 1 ≤ C ∧ C ≤ 8) (hk : k < R * C) (hq : q ≤ 2) (hcl : ∀ r, cl r < 256) (hjn : ∀ r, jn r < 256) (hdl : ∀ r, dl r < 256) (hdn : ∀ r, dn r < 256) : xC l yX1_move wsX1_move 3 0 0 68 D cI cZ [.ref h0, .int (nI k), .int (nI q)] [(h0, .inr (1, [.ref p1, .ref f0, .ref s0, .int (nI R), .int (nI C), .int (bI dio)])), (p1, .inl (cI, 64, .inl (xN pos))), (f0, .inr (2, [.ref f1, .ref f2])), (f1, .inl (cI, 8, .inl (xN cl))), (f2, .inl (cI, 8, .inl (xN jn))), (s0, .inr (2, [.ref s1, .ref s2])), (s1, .inl (cI, 8, .inl (xN dl))), (s2, .inl (cI, 8, .inl (xN dn)))] (fun v8 w8 => v8 = none ∧ w8 = [(h0, .inr (1, [.ref p1, .ref f0, .ref s0, .int (nI R), .int (nI C), .int (bI dio)])), (p1, .inl (cI, 64, .inl (xN (updN pos k (q))))), (f0, .inr (2, [.ref f1, .ref f2])), (f1, .inl (cI, 8, .inl (xN (putC cl (k / C) (k % C) (decide (1 ≤ q)))))), (f2, .inl (cI, 8, .inl (xN (putJ cl jn (k / C) (k % C) (decide (1 ≤ q)))))), (s0, .inr (2, [.ref s1, .ref s2])), (s1, .inl (cI, 8, .inl (xN (putC dl (k / C) (k % C) (decide (q = 2)))))), (s2, .inl (cI, 8, .inl (xN (putJ dl dn (k / C) (k % C) (decide (q = 2))))))]) := by
  refine xC.of (bytes := cX1_move) (maxL := 3) (ret := none) (own := RX1) (by decide +kernel) rfl (Nat.le_of_ble_eq_true rfl) rfl ?_
  intro p9 e9 s9 m9 args9 below9 meth9 cd9 A hE hr hin2 hA9
  have inX1 : ∀ w ∈ wsX10, w ∈ wsX1_move := fun w h => List.mem_cons_of_mem _ (List.mem_append_left _ (List.mem_append_right _ h))
  have g9 : xF RX1 wsX1_move 9 1 0 := ⟨"KeyScanner$Matrix", RX1, TX1, 6, inX1, rfl, by decide, List.mem_of_getElem? (i := 1) rfl, rfl⟩
  have g18 : xF RX1 wsX1_move 18 1 1 := ⟨"KeyScanner$Matrix", RX1, TX1, 6, inX1, rfl, by decide, List.mem_of_getElem? (i := 2) rfl, rfl⟩
  have g29 : xF RX1 wsX1_move 29 1 4 := ⟨"KeyScanner$Matrix", RX1, TX1, 6, inX1, rfl, by decide, List.mem_of_getElem? (i := 3) rfl, rfl⟩
  have g22 : xF RX1 wsX1_move 22 1 2 := ⟨"KeyScanner$Matrix", RX1, TX1, 6, inX1, rfl, by decide, List.mem_of_getElem? (i := 4) rfl, rfl⟩
  have hRC : R * C ≤ 64 := Nat.mul_le_mul hR.2 hC.2
  have hkq : k / C < R := Nat.div_lt_of_lt_mul (by rw [Nat.mul_comm]; exact hk)
  have hkm : k % C < C := Nat.mod_lt _ (by omega)
  refine x_at (ws' := [(h0, .inr (1, [.ref p1, .ref f0, .ref s0, .int (nI R), .int (nI C), .int (bI dio)])), (p1, .inl (cI, 64, .inl (xN pos))), (f0, .inr (2, [.ref f1, .ref f2])), (f1, .inl (cI, 8, .inl (xN cl))), (f2, .inl (cI, 8, .inl (xN jn))), (s0, .inr (2, [.ref s1, .ref s2])), (s1, .inl (cI, 8, .inl (xN dl))), (s2, .inl (cI, 8, .inl (xN dn)))]) (st' := []) rfl rfl ?_
  refine x_lv [(0, .ref h0), (1, .int (nI k)), (2, .int (nI q))] [0, 1, 2] rfl ?_
  refine x_aload_n hE 0 rfl dX1_move_0 ?_
  refine x_get hE g9 0 rfl rfl dX1_move_1 ?_
  refine x_iload_n hE 1 rfl dX1_move_4 ?_
  refine x_iload_n hE 2 rfl dX1_move_5 ?_
  refine x_iast hE k (xN (updN pos k q)) (by omega) (by decide) (upd_xN _ _ _) [(h0, .inr (1, [.ref p1, .ref f0, .ref s0, .int (nI R), .int (nI C), .int (bI dio)])), (p1, .inl (cI, 64, .inl (xN (updN pos k q)))), (f0, .inr (2, [.ref f1, .ref f2])), (f1, .inl (cI, 8, .inl (xN cl))), (f2, .inl (cI, 8, .inl (xN jn))), (s0, .inr (2, [.ref s1, .ref s2])), (s1, .inl (cI, 8, .inl (xN dl))), (s2, .inl (cI, 8, .inl (xN dn)))] 1 rfl rfl dX1_move_6 ?_
  refine x_aload_n hE 0 rfl dX1_move_7 ?_
  refine x_get hE g18 0 rfl rfl dX1_move_8 ?_
  refine x_iload_n hE 1 rfl dX1_move_11 ?_
  refine x_aload_n hE 0 rfl dX1_move_12 ?_
  refine x_get hE g29 0 rfl rfl dX1_move_13 ?_
  refine x_idiv hE (nI (k / C)) (nI_ne0 (by omega) (by omega)) (xI_div (by omega) (by omega) (by omega)) dX1_move_16 ?_
  refine x_iload_n hE 1 rfl dX1_move_17 ?_
  refine x_aload_n hE 0 rfl dX1_move_18 ?_
  refine x_get hE g29 0 rfl rfl dX1_move_19 ?_
  refine x_irem hE (nI (k % C)) (nI_ne0 (by omega) (by omega)) (xI_rem (by omega) (by omega) (by omega)) dX1_move_22 ?_
  refine x_iload_n hE 2 rfl dX1_move_23 ?_
  refine x_iconst hE (nI 1) (by decide) dX1_move_24 ?_
  refine xn_icmp_lt hE (by omega) (by omega) 32 (by decide) dX1_move_25 (fun c25 => ?_) (fun c25 => ?_)
  · skip
    refine x_iconst hE (nI 0) (by decide) dX1_move_32 ?_
    refine x_eq (bI (decide (1 ≤ q))) (by rw [show decide (1 ≤ q) = false from decide_eq_false (by omega)]; rfl) ?_
    refine x_callV (n := 3) (st := []) hE (kX2_put l D cI cZ f0 f1 f2 cl jn (k / C) (k % C) (decide (1 ≤ q)) (by assumption) (by assumption) (by omega) (by omega)) gX1_move_X2_put rfl (by decide +kernel) ⟨by decide, by decide⟩ ⟨Nat.zero_le _, Nat.zero_le _⟩ rfl [2, 3, 4] [0, 1, 5, 6, 7] rfl (wr := [(h0, .inr (1, [.ref p1, .ref f0, .ref s0, .int (nI R), .int (nI C), .int (bI dio)])), (p1, .inl (cI, 64, .inl (xN (updN pos k q)))), (s0, .inr (2, [.ref s1, .ref s2])), (s1, .inl (cI, 8, .inl (xN dl))), (s2, .inl (cI, 8, .inl (xN dn)))]) rfl (by decide) (by decide) (by decide) 0 rfl rfl rfl rfl (Nat.le_of_ble_eq_true rfl) dX1_move_33 (fun v9 w9 hT9 => ?_)
    obtain ⟨rfl, rfl⟩ := hT9
    refine x_at (ws' := [(h0, .inr (1, [.ref p1, .ref f0, .ref s0, .int (nI R), .int (nI C), .int (bI dio)])), (p1, .inl (cI, 64, .inl (xN (updN pos k q)))), (s0, .inr (2, [.ref s1, .ref s2])), (s1, .inl (cI, 8, .inl (xN dl))), (s2, .inl (cI, 8, .inl (xN dn))), (f0, .inr (2, [.ref f1, .ref f2])), (f1, .inl (cI, 8, .inl (xN (putC cl (k / C) (k % C) (decide (1 ≤ q)))))), (f2, .inl (cI, 8, .inl (xN (putJ cl jn (k / C) (k % C) (decide (1 ≤ q))))))]) (st' := []) rfl rfl ?_
    refine x_sub [(h0, .inr (1, [.ref p1, .ref f0, .ref s0, .int (nI R), .int (nI C), .int (bI dio)])), (p1, .inl (cI, 64, .inl (xN (updN pos k q)))), (f0, .inr (2, [.ref f1, .ref f2])), (f1, .inl (cI, 8, .inl (xN (putC cl (k / C) (k % C) (decide (1 ≤ q)))))), (f2, .inl (cI, 8, .inl (xN (putJ cl jn (k / C) (k % C) (decide (1 ≤ q)))))), (s0, .inr (2, [.ref s1, .ref s2])), (s1, .inl (cI, 8, .inl (xN dl))), (s2, .inl (cI, 8, .inl (xN dn)))] [0, 1, 5, 6, 7, 2, 3, 4] (by decide) rfl ?_
    refine x_aload_n hE 0 rfl dX1_move_36 ?_
    refine x_get hE g22 0 rfl rfl dX1_move_37 ?_
    refine x_iload_n hE 1 rfl dX1_move_40 ?_
    refine x_aload_n hE 0 rfl dX1_move_41 ?_
    refine x_get hE g29 0 rfl rfl dX1_move_42 ?_
    refine x_idiv hE (nI (k / C)) (nI_ne0 (by omega) (by omega)) (xI_div (by omega) (by omega) (by omega)) dX1_move_45 ?_
    refine x_iload_n hE 1 rfl dX1_move_46 ?_
    refine x_aload_n hE 0 rfl dX1_move_47 ?_
    refine x_get hE g29 0 rfl rfl dX1_move_48 ?_
    refine x_irem hE (nI (k % C)) (nI_ne0 (by omega) (by omega)) (xI_rem (by omega) (by omega) (by omega)) dX1_move_51 ?_
    refine x_iload_n hE 2 rfl dX1_move_52 ?_
    refine x_iconst hE (nI 2) (by decide) dX1_move_53 ?_
    refine xn_icmp_ne hE (by omega) (by omega) 61 (by decide) dX1_move_54 (fun c54 => ?_) (fun c54 => ?_)
    · skip
      refine x_iconst hE (nI 0) (by decide) dX1_move_61 ?_
      refine x_eq (bI (decide (q = 2))) (by rw [show decide (q = 2) = false from decide_eq_false (by omega)]; rfl) ?_
      refine x_callV (n := 3) (st := []) hE (kX2_put l D cI cZ s0 s1 s2 dl dn (k / C) (k % C) (decide (q = 2)) (by assumption) (by assumption) (by omega) (by omega)) gX1_move_X2_put rfl (by decide +kernel) ⟨by decide, by decide⟩ ⟨Nat.zero_le _, Nat.zero_le _⟩ rfl [5, 6, 7] [0, 1, 2, 3, 4] rfl (wr := [(h0, .inr (1, [.ref p1, .ref f0, .ref s0, .int (nI R), .int (nI C), .int (bI dio)])), (p1, .inl (cI, 64, .inl (xN (updN pos k q)))), (f0, .inr (2, [.ref f1, .ref f2])), (f1, .inl (cI, 8, .inl (xN (putC cl (k / C) (k % C) (decide (1 ≤ q)))))), (f2, .inl (cI, 8, .inl (xN (putJ cl jn (k / C) (k % C) (decide (1 ≤ q))))))]) rfl (by decide) (by decide) (by decide) 0 rfl rfl rfl rfl (Nat.le_of_ble_eq_true rfl) dX1_move_62 (fun v9 w9 hT9 => ?_)
      obtain ⟨rfl, rfl⟩ := hT9
      refine x_at (ws' := [(h0, .inr (1, [.ref p1, .ref f0, .ref s0, .int (nI R), .int (nI C), .int (bI dio)])), (p1, .inl (cI, 64, .inl (xN (updN pos k q)))), (f0, .inr (2, [.ref f1, .ref f2])), (f1, .inl (cI, 8, .inl (xN (putC cl (k / C) (k % C) (decide (1 ≤ q)))))), (f2, .inl (cI, 8, .inl (xN (putJ cl jn (k / C) (k % C) (decide (1 ≤ q)))))), (s0, .inr (2, [.ref s1, .ref s2])), (s1, .inl (cI, 8, .inl (xN (putC dl (k / C) (k % C) (decide (q = 2)))))), (s2, .inl (cI, 8, .inl (xN (putJ dl dn (k / C) (k % C) (decide (q = 2))))))]) (st' := []) rfl rfl ?_
      refine x_sub [(h0, .inr (1, [.ref p1, .ref f0, .ref s0, .int (nI R), .int (nI C), .int (bI dio)])), (p1, .inl (cI, 64, .inl (xN (updN pos k q)))), (f0, .inr (2, [.ref f1, .ref f2])), (f1, .inl (cI, 8, .inl (xN (putC cl (k / C) (k % C) (decide (1 ≤ q)))))), (f2, .inl (cI, 8, .inl (xN (putJ cl jn (k / C) (k % C) (decide (1 ≤ q)))))), (s0, .inr (2, [.ref s1, .ref s2])), (s1, .inl (cI, 8, .inl (xN (putC dl (k / C) (k % C) (decide (q = 2)))))), (s2, .inl (cI, 8, .inl (xN (putJ dl dn (k / C) (k % C) (decide (q = 2))))))] [0, 1, 2, 3, 4, 5, 6, 7] (by decide) rfl ?_
      exact x_vret hE hr (⟨rfl, rfl⟩) dX1_move_65
    · skip
      refine x_iconst hE (nI 1) (by decide) dX1_move_57 ?_
      refine x_goto hE 62 (by decide) dX1_move_58 ?_
      refine x_eq (bI (decide (q = 2))) (by rw [show decide (q = 2) = true from decide_eq_true (by omega)]; rfl) ?_
      refine x_callV (n := 3) (st := []) hE (kX2_put l D cI cZ s0 s1 s2 dl dn (k / C) (k % C) (decide (q = 2)) (by assumption) (by assumption) (by omega) (by omega)) gX1_move_X2_put rfl (by decide +kernel) ⟨by decide, by decide⟩ ⟨Nat.zero_le _, Nat.zero_le _⟩ rfl [5, 6, 7] [0, 1, 2, 3, 4] rfl (wr := [(h0, .inr (1, [.ref p1, .ref f0, .ref s0, .int (nI R), .int (nI C), .int (bI dio)])), (p1, .inl (cI, 64, .inl (xN (updN pos k q)))), (f0, .inr (2, [.ref f1, .ref f2])), (f1, .inl (cI, 8, .inl (xN (putC cl (k / C) (k % C) (decide (1 ≤ q)))))), (f2, .inl (cI, 8, .inl (xN (putJ cl jn (k / C) (k % C) (decide (1 ≤ q))))))]) rfl (by decide) (by decide) (by decide) 0 rfl rfl rfl rfl (Nat.le_of_ble_eq_true rfl) dX1_move_62 (fun v9 w9 hT9 => ?_)
      obtain ⟨rfl, rfl⟩ := hT9
      refine x_at (ws' := [(h0, .inr (1, [.ref p1, .ref f0, .ref s0, .int (nI R), .int (nI C), .int (bI dio)])), (p1, .inl (cI, 64, .inl (xN (updN pos k q)))), (f0, .inr (2, [.ref f1, .ref f2])), (f1, .inl (cI, 8, .inl (xN (putC cl (k / C) (k % C) (decide (1 ≤ q)))))), (f2, .inl (cI, 8, .inl (xN (putJ cl jn (k / C) (k % C) (decide (1 ≤ q)))))), (s0, .inr (2, [.ref s1, .ref s2])), (s1, .inl (cI, 8, .inl (xN (putC dl (k / C) (k % C) (decide (q = 2)))))), (s2, .inl (cI, 8, .inl (xN (putJ dl dn (k / C) (k % C) (decide (q = 2))))))]) (st' := []) rfl rfl ?_
      refine x_sub [(h0, .inr (1, [.ref p1, .ref f0, .ref s0, .int (nI R), .int (nI C), .int (bI dio)])), (p1, .inl (cI, 64, .inl (xN (updN pos k q)))), (f0, .inr (2, [.ref f1, .ref f2])), (f1, .inl (cI, 8, .inl (xN (putC cl (k / C) (k % C) (decide (1 ≤ q)))))), (f2, .inl (cI, 8, .inl (xN (putJ cl jn (k / C) (k % C) (decide (1 ≤ q)))))), (s0, .inr (2, [.ref s1, .ref s2])), (s1, .inl (cI, 8, .inl (xN (putC dl (k / C) (k % C) (decide (q = 2)))))), (s2, .inl (cI, 8, .inl (xN (putJ dl dn (k / C) (k % C) (decide (q = 2))))))] [0, 1, 2, 3, 4, 5, 6, 7] (by decide) rfl ?_
      exact x_vret hE hr (⟨rfl, rfl⟩) dX1_move_65
  · skip
    refine x_iconst hE (nI 1) (by decide) dX1_move_28 ?_
    refine x_goto hE 33 (by decide) dX1_move_29 ?_
    refine x_eq (bI (decide (1 ≤ q))) (by rw [show decide (1 ≤ q) = true from decide_eq_true (by omega)]; rfl) ?_
    refine x_callV (n := 3) (st := []) hE (kX2_put l D cI cZ f0 f1 f2 cl jn (k / C) (k % C) (decide (1 ≤ q)) (by assumption) (by assumption) (by omega) (by omega)) gX1_move_X2_put rfl (by decide +kernel) ⟨by decide, by decide⟩ ⟨Nat.zero_le _, Nat.zero_le _⟩ rfl [2, 3, 4] [0, 1, 5, 6, 7] rfl (wr := [(h0, .inr (1, [.ref p1, .ref f0, .ref s0, .int (nI R), .int (nI C), .int (bI dio)])), (p1, .inl (cI, 64, .inl (xN (updN pos k q)))), (s0, .inr (2, [.ref s1, .ref s2])), (s1, .inl (cI, 8, .inl (xN dl))), (s2, .inl (cI, 8, .inl (xN dn)))]) rfl (by decide) (by decide) (by decide) 0 rfl rfl rfl rfl (Nat.le_of_ble_eq_true rfl) dX1_move_33 (fun v9 w9 hT9 => ?_)
    obtain ⟨rfl, rfl⟩ := hT9
    refine x_at (ws' := [(h0, .inr (1, [.ref p1, .ref f0, .ref s0, .int (nI R), .int (nI C), .int (bI dio)])), (p1, .inl (cI, 64, .inl (xN (updN pos k q)))), (s0, .inr (2, [.ref s1, .ref s2])), (s1, .inl (cI, 8, .inl (xN dl))), (s2, .inl (cI, 8, .inl (xN dn))), (f0, .inr (2, [.ref f1, .ref f2])), (f1, .inl (cI, 8, .inl (xN (putC cl (k / C) (k % C) (decide (1 ≤ q)))))), (f2, .inl (cI, 8, .inl (xN (putJ cl jn (k / C) (k % C) (decide (1 ≤ q))))))]) (st' := []) rfl rfl ?_
    refine x_sub [(h0, .inr (1, [.ref p1, .ref f0, .ref s0, .int (nI R), .int (nI C), .int (bI dio)])), (p1, .inl (cI, 64, .inl (xN (updN pos k q)))), (f0, .inr (2, [.ref f1, .ref f2])), (f1, .inl (cI, 8, .inl (xN (putC cl (k / C) (k % C) (decide (1 ≤ q)))))), (f2, .inl (cI, 8, .inl (xN (putJ cl jn (k / C) (k % C) (decide (1 ≤ q)))))), (s0, .inr (2, [.ref s1, .ref s2])), (s1, .inl (cI, 8, .inl (xN dl))), (s2, .inl (cI, 8, .inl (xN dn)))] [0, 1, 5, 6, 7, 2, 3, 4] (by decide) rfl ?_
    refine x_aload_n hE 0 rfl dX1_move_36 ?_
    refine x_get hE g22 0 rfl rfl dX1_move_37 ?_
    refine x_iload_n hE 1 rfl dX1_move_40 ?_
    refine x_aload_n hE 0 rfl dX1_move_41 ?_
    refine x_get hE g29 0 rfl rfl dX1_move_42 ?_
    refine x_idiv hE (nI (k / C)) (nI_ne0 (by omega) (by omega)) (xI_div (by omega) (by omega) (by omega)) dX1_move_45 ?_
    refine x_iload_n hE 1 rfl dX1_move_46 ?_
    refine x_aload_n hE 0 rfl dX1_move_47 ?_
    refine x_get hE g29 0 rfl rfl dX1_move_48 ?_
    refine x_irem hE (nI (k % C)) (nI_ne0 (by omega) (by omega)) (xI_rem (by omega) (by omega) (by omega)) dX1_move_51 ?_
    refine x_iload_n hE 2 rfl dX1_move_52 ?_
    refine x_iconst hE (nI 2) (by decide) dX1_move_53 ?_
    refine xn_icmp_ne hE (by omega) (by omega) 61 (by decide) dX1_move_54 (fun c54 => ?_) (fun c54 => ?_)
    · skip
      refine x_iconst hE (nI 0) (by decide) dX1_move_61 ?_
      refine x_eq (bI (decide (q = 2))) (by rw [show decide (q = 2) = false from decide_eq_false (by omega)]; rfl) ?_
      refine x_callV (n := 3) (st := []) hE (kX2_put l D cI cZ s0 s1 s2 dl dn (k / C) (k % C) (decide (q = 2)) (by assumption) (by assumption) (by omega) (by omega)) gX1_move_X2_put rfl (by decide +kernel) ⟨by decide, by decide⟩ ⟨Nat.zero_le _, Nat.zero_le _⟩ rfl [5, 6, 7] [0, 1, 2, 3, 4] rfl (wr := [(h0, .inr (1, [.ref p1, .ref f0, .ref s0, .int (nI R), .int (nI C), .int (bI dio)])), (p1, .inl (cI, 64, .inl (xN (updN pos k q)))), (f0, .inr (2, [.ref f1, .ref f2])), (f1, .inl (cI, 8, .inl (xN (putC cl (k / C) (k % C) (decide (1 ≤ q)))))), (f2, .inl (cI, 8, .inl (xN (putJ cl jn (k / C) (k % C) (decide (1 ≤ q))))))]) rfl (by decide) (by decide) (by decide) 0 rfl rfl rfl rfl (Nat.le_of_ble_eq_true rfl) dX1_move_62 (fun v9 w9 hT9 => ?_)
      obtain ⟨rfl, rfl⟩ := hT9
      refine x_at (ws' := [(h0, .inr (1, [.ref p1, .ref f0, .ref s0, .int (nI R), .int (nI C), .int (bI dio)])), (p1, .inl (cI, 64, .inl (xN (updN pos k q)))), (f0, .inr (2, [.ref f1, .ref f2])), (f1, .inl (cI, 8, .inl (xN (putC cl (k / C) (k % C) (decide (1 ≤ q)))))), (f2, .inl (cI, 8, .inl (xN (putJ cl jn (k / C) (k % C) (decide (1 ≤ q)))))), (s0, .inr (2, [.ref s1, .ref s2])), (s1, .inl (cI, 8, .inl (xN (putC dl (k / C) (k % C) (decide (q = 2)))))), (s2, .inl (cI, 8, .inl (xN (putJ dl dn (k / C) (k % C) (decide (q = 2))))))]) (st' := []) rfl rfl ?_
      refine x_sub [(h0, .inr (1, [.ref p1, .ref f0, .ref s0, .int (nI R), .int (nI C), .int (bI dio)])), (p1, .inl (cI, 64, .inl (xN (updN pos k q)))), (f0, .inr (2, [.ref f1, .ref f2])), (f1, .inl (cI, 8, .inl (xN (putC cl (k / C) (k % C) (decide (1 ≤ q)))))), (f2, .inl (cI, 8, .inl (xN (putJ cl jn (k / C) (k % C) (decide (1 ≤ q)))))), (s0, .inr (2, [.ref s1, .ref s2])), (s1, .inl (cI, 8, .inl (xN (putC dl (k / C) (k % C) (decide (q = 2)))))), (s2, .inl (cI, 8, .inl (xN (putJ dl dn (k / C) (k % C) (decide (q = 2))))))] [0, 1, 2, 3, 4, 5, 6, 7] (by decide) rfl ?_
      exact x_vret hE hr (⟨rfl, rfl⟩) dX1_move_65
    · skip
      refine x_iconst hE (nI 1) (by decide) dX1_move_57 ?_
      refine x_goto hE 62 (by decide) dX1_move_58 ?_
      refine x_eq (bI (decide (q = 2))) (by rw [show decide (q = 2) = true from decide_eq_true (by omega)]; rfl) ?_
      refine x_callV (n := 3) (st := []) hE (kX2_put l D cI cZ s0 s1 s2 dl dn (k / C) (k % C) (decide (q = 2)) (by assumption) (by assumption) (by omega) (by omega)) gX1_move_X2_put rfl (by decide +kernel) ⟨by decide, by decide⟩ ⟨Nat.zero_le _, Nat.zero_le _⟩ rfl [5, 6, 7] [0, 1, 2, 3, 4] rfl (wr := [(h0, .inr (1, [.ref p1, .ref f0, .ref s0, .int (nI R), .int (nI C), .int (bI dio)])), (p1, .inl (cI, 64, .inl (xN (updN pos k q)))), (f0, .inr (2, [.ref f1, .ref f2])), (f1, .inl (cI, 8, .inl (xN (putC cl (k / C) (k % C) (decide (1 ≤ q)))))), (f2, .inl (cI, 8, .inl (xN (putJ cl jn (k / C) (k % C) (decide (1 ≤ q))))))]) rfl (by decide) (by decide) (by decide) 0 rfl rfl rfl rfl (Nat.le_of_ble_eq_true rfl) dX1_move_62 (fun v9 w9 hT9 => ?_)
      obtain ⟨rfl, rfl⟩ := hT9
      refine x_at (ws' := [(h0, .inr (1, [.ref p1, .ref f0, .ref s0, .int (nI R), .int (nI C), .int (bI dio)])), (p1, .inl (cI, 64, .inl (xN (updN pos k q)))), (f0, .inr (2, [.ref f1, .ref f2])), (f1, .inl (cI, 8, .inl (xN (putC cl (k / C) (k % C) (decide (1 ≤ q)))))), (f2, .inl (cI, 8, .inl (xN (putJ cl jn (k / C) (k % C) (decide (1 ≤ q)))))), (s0, .inr (2, [.ref s1, .ref s2])), (s1, .inl (cI, 8, .inl (xN (putC dl (k / C) (k % C) (decide (q = 2)))))), (s2, .inl (cI, 8, .inl (xN (putJ dl dn (k / C) (k % C) (decide (q = 2))))))]) (st' := []) rfl rfl ?_
      refine x_sub [(h0, .inr (1, [.ref p1, .ref f0, .ref s0, .int (nI R), .int (nI C), .int (bI dio)])), (p1, .inl (cI, 64, .inl (xN (updN pos k q)))), (f0, .inr (2, [.ref f1, .ref f2])), (f1, .inl (cI, 8, .inl (xN (putC cl (k / C) (k % C) (decide (1 ≤ q)))))), (f2, .inl (cI, 8, .inl (xN (putJ cl jn (k / C) (k % C) (decide (1 ≤ q)))))), (s0, .inr (2, [.ref s1, .ref s2])), (s1, .inl (cI, 8, .inl (xN (putC dl (k / C) (k % C) (decide (q = 2)))))), (s2, .inl (cI, 8, .inl (xN (putJ dl dn (k / C) (k % C) (decide (q = 2))))))] [0, 1, 2, 3, 4, 5, 6, 7] (by decide) rfl ?_
      exact x_vret hE hr (⟨rfl, rfl⟩) dX1_move_65
set_option maxHeartbeats 4000000 in
set_option maxRecDepth 100000 in
theorem kX1_pressed (l : Launch) (D : va_G) (cI cZ : ClassId) (h0 : Nat) (p1 : Nat) (f0 : Nat) (f1 : Nat) (f2 : Nat) (s0 : Nat) (s1 : Nat) (s2 : Nat) (pos : Nat → Nat) (cl : Nat → Nat) (jn : Nat → Nat) (dl : Nat → Nat) (dn : Nat → Nat) (R : Nat) (C : Nat) (dio : Bool) (hR : 1 ≤ R ∧ R ≤ 8) (hC : 1 ≤ C ∧ C ≤ 8) (hpos : ∀ k, pos k ≤ 2) : xC l yX1_pressed wsX1_pressed 1 0 0 20 D cI cZ [.ref h0] [(h0, .inr (1, [.ref p1, .ref f0, .ref s0, .int (nI R), .int (nI C), .int (bI dio)])), (p1, .inl (cI, 64, .inl (xN pos))), (f0, .inr (2, [.ref f1, .ref f2])), (f1, .inl (cI, 8, .inl (xN cl))), (f2, .inl (cI, 8, .inl (xN jn))), (s0, .inr (2, [.ref s1, .ref s2])), (s1, .inl (cI, 8, .inl (xN dl))), (s2, .inl (cI, 8, .inl (xN dn)))] (fun v8 w8 => v8 = some (.int (nI (prN pos (R * C)))) ∧ w8 = [(h0, .inr (1, [.ref p1, .ref f0, .ref s0, .int (nI R), .int (nI C), .int (bI dio)])), (p1, .inl (cI, 64, .inl (xN pos))), (f0, .inr (2, [.ref f1, .ref f2])), (f1, .inl (cI, 8, .inl (xN cl))), (f2, .inl (cI, 8, .inl (xN jn))), (s0, .inr (2, [.ref s1, .ref s2])), (s1, .inl (cI, 8, .inl (xN dl))), (s2, .inl (cI, 8, .inl (xN dn)))]) := by
  refine xC.of (bytes := cX1_pressed) (maxL := 3) (ret := (some .int)) (own := RX1) (by decide +kernel) rfl (Nat.le_of_ble_eq_true rfl) rfl ?_
  intro p9 e9 s9 m9 args9 below9 meth9 cd9 A hE hr hin2 hA9
  have inX1 : ∀ w ∈ wsX10, w ∈ wsX1_pressed := fun w h => List.mem_cons_of_mem _ (List.mem_append_right _ h)
  have g9 : xF RX1 wsX1_pressed 9 1 0 := ⟨"KeyScanner$Matrix", RX1, TX1, 6, inX1, rfl, by decide, List.mem_of_getElem? (i := 1) rfl, rfl⟩
  have hRC : R * C ≤ 64 := Nat.mul_le_mul hR.2 hC.2
  have hRC1 : 1 ≤ R * C := Nat.mul_le_mul hR.1 hC.1
  refine x_at (ws' := [(h0, .inr (1, [.ref p1, .ref f0, .ref s0, .int (nI R), .int (nI C), .int (bI dio)])), (p1, .inl (cI, 64, .inl (xN pos))), (f0, .inr (2, [.ref f1, .ref f2])), (f1, .inl (cI, 8, .inl (xN cl))), (f2, .inl (cI, 8, .inl (xN jn))), (s0, .inr (2, [.ref s1, .ref s2])), (s1, .inl (cI, 8, .inl (xN dl))), (s2, .inl (cI, 8, .inl (xN dn)))]) (st' := []) rfl rfl ?_
  refine x_lv [(0, .ref h0)] [0] rfl ?_
  have lp4 : ∀ (n : Nat) (i : Nat) (u : Nat) (hi : i + n = R * C) (hT : lfor (fun k a => a + (if pos k = 0 then 0 else 1)) i n u = prN pos (R * C)), X p9 l e9 { frames := 1, cells := 0, slots := 0, locals := 20 } s9 m9 args9 below9 meth9 cd9 0 0 (MQ below9 (xQ D (fun v8 w8 => v8 = some (.int (nI (prN pos (R * C)))) ∧ w8 = [(h0, .inr (1, [.ref p1, .ref f0, .ref s0, .int (nI R), .int (nI C), .int (bI dio)])), (p1, .inl (cI, 64, .inl (xN pos))), (f0, .inr (2, [.ref f1, .ref f2])), (f1, .inl (cI, 8, .inl (xN cl))), (f2, .inl (cI, 8, .inl (xN jn))), (s0, .inr (2, [.ref s1, .ref s2])), (s1, .inl (cI, 8, .inl (xN dl))), (s2, .inl (cI, 8, .inl (xN dn)))]) A) args9 s9 0 0 A) 3 D A [(h0, .inr (1, [.ref p1, .ref f0, .ref s0, .int (nI R), .int (nI C), .int (bI dio)])), (p1, .inl (cI, 64, .inl (xN pos))), (f0, .inr (2, [.ref f1, .ref f2])), (f1, .inl (cI, 8, .inl (xN cl))), (f2, .inl (cI, 8, .inl (xN jn))), (s0, .inr (2, [.ref s1, .ref s2])), (s1, .inl (cI, 8, .inl (xN dl))), (s2, .inl (cI, 8, .inl (xN dn)))] [(0, .ref h0), (1, .int (nI u)), (2, .int (nI i))] 4 [] := by
    intro n
    induction n with
    | zero =>
      intro i u hi hT
      refine x_iload_n hE 2 rfl dX1_pressed_4 ?_
      refine x_aload_n hE 0 rfl dX1_pressed_5 ?_
      refine x_callV (n := 0) (st := [.int (nI i)]) hE (kX1_size l D cI cZ h0 p1 f0 f1 f2 s0 s1 s2 pos cl jn dl dn R C dio ) gX1_pressed_X1_size rfl (by decide +kernel) ⟨by decide, by decide⟩ ⟨Nat.zero_le _, Nat.zero_le _⟩ rfl [0, 1, 2, 3, 4, 5, 6, 7] [] rfl (wr := []) rfl (by decide) (by decide) (by decide) 0 rfl rfl rfl rfl (Nat.le_of_ble_eq_true rfl) dX1_pressed_6 (fun v9 w9 hT9 => ?_)
      obtain ⟨rfl, rfl⟩ := hT9
      refine x_at (ws' := [(h0, .inr (1, [.ref p1, .ref f0, .ref s0, .int (nI R), .int (nI C), .int (bI dio)])), (p1, .inl (cI, 64, .inl (xN pos))), (f0, .inr (2, [.ref f1, .ref f2])), (f1, .inl (cI, 8, .inl (xN cl))), (f2, .inl (cI, 8, .inl (xN jn))), (s0, .inr (2, [.ref s1, .ref s2])), (s1, .inl (cI, 8, .inl (xN dl))), (s2, .inl (cI, 8, .inl (xN dn)))]) (st' := [.int (nI (R * C)), .int (nI i)]) rfl rfl ?_
      refine xn_icmp_ge hE (by omega) (by omega) 38 (by decide) dX1_pressed_9 (fun c9 => ?_) (fun c9 => ?_)
      · skip
        refine x_iload_n hE 1 rfl dX1_pressed_38 ?_
        exact x_iret hE hr (⟨by rw [show u = prN pos (R * C) from hT], rfl⟩) dX1_pressed_39
      · skip
        exfalso; omega
    | succ n ih =>
      intro i u hi hT
      refine x_iload_n hE 2 rfl dX1_pressed_4 ?_
      refine x_aload_n hE 0 rfl dX1_pressed_5 ?_
      refine x_callV (n := 0) (st := [.int (nI i)]) hE (kX1_size l D cI cZ h0 p1 f0 f1 f2 s0 s1 s2 pos cl jn dl dn R C dio ) gX1_pressed_X1_size rfl (by decide +kernel) ⟨by decide, by decide⟩ ⟨Nat.zero_le _, Nat.zero_le _⟩ rfl [0, 1, 2, 3, 4, 5, 6, 7] [] rfl (wr := []) rfl (by decide) (by decide) (by decide) 0 rfl rfl rfl rfl (Nat.le_of_ble_eq_true rfl) dX1_pressed_6 (fun v9 w9 hT9 => ?_)
      obtain ⟨rfl, rfl⟩ := hT9
      refine x_at (ws' := [(h0, .inr (1, [.ref p1, .ref f0, .ref s0, .int (nI R), .int (nI C), .int (bI dio)])), (p1, .inl (cI, 64, .inl (xN pos))), (f0, .inr (2, [.ref f1, .ref f2])), (f1, .inl (cI, 8, .inl (xN cl))), (f2, .inl (cI, 8, .inl (xN jn))), (s0, .inr (2, [.ref s1, .ref s2])), (s1, .inl (cI, 8, .inl (xN dl))), (s2, .inl (cI, 8, .inl (xN dn)))]) (st' := [.int (nI (R * C)), .int (nI i)]) rfl rfl ?_
      refine xn_icmp_ge hE (by omega) (by omega) 38 (by decide) dX1_pressed_9 (fun c9 => ?_) (fun c9 => ?_)
      · skip
        exfalso; omega
      · skip
        refine x_iload_n hE 1 rfl dX1_pressed_12 ?_
        refine x_aload_n hE 0 rfl dX1_pressed_13 ?_
        refine x_get hE g9 0 rfl rfl dX1_pressed_14 ?_
        refine x_iload_n hE 2 rfl dX1_pressed_17 ?_
        refine x_iald hE i (nI (pos i)) (by omega) (by decide) rfl 1 rfl dX1_pressed_18 ?_
        have hp19 := hpos i
        refine xn_if_eq hE (by omega) 26 (by decide) dX1_pressed_19 (fun c19 => ?_) (fun c19 => ?_)
        · skip
          refine x_iconst hE (nI 0) (by decide) dX1_pressed_26 ?_
          refine x_callSN (n := 1) (st := [.int (nI u)]) hE "KeyScanner" (kX4_one l D cI cZ false ) gX1_pressed_X4_one_n50 rfl (by decide +kernel) (List.mem_of_getElem? (i := 10) rfl) (List.mem_of_getElem? (i := 9) rfl) (by decide +kernel) ⟨by decide, by decide⟩ ⟨Nat.zero_le _, Nat.zero_le _⟩ rfl [] [0, 1, 2, 3, 4, 5, 6, 7] rfl (wr := [(h0, .inr (1, [.ref p1, .ref f0, .ref s0, .int (nI R), .int (nI C), .int (bI dio)])), (p1, .inl (cI, 64, .inl (xN pos))), (f0, .inr (2, [.ref f1, .ref f2])), (f1, .inl (cI, 8, .inl (xN cl))), (f2, .inl (cI, 8, .inl (xN jn))), (s0, .inr (2, [.ref s1, .ref s2])), (s1, .inl (cI, 8, .inl (xN dl))), (s2, .inl (cI, 8, .inl (xN dn)))]) rfl (by decide) (by decide) (by decide) rfl (Nat.le_of_ble_eq_true rfl) dX1_pressed_27 (fun v9 w9 hT9 => ?_)
          obtain ⟨rfl, rfl⟩ := hT9
          refine x_at (ws' := [(h0, .inr (1, [.ref p1, .ref f0, .ref s0, .int (nI R), .int (nI C), .int (bI dio)])), (p1, .inl (cI, 64, .inl (xN pos))), (f0, .inr (2, [.ref f1, .ref f2])), (f1, .inl (cI, 8, .inl (xN cl))), (f2, .inl (cI, 8, .inl (xN jn))), (s0, .inr (2, [.ref s1, .ref s2])), (s1, .inl (cI, 8, .inl (xN dl))), (s2, .inl (cI, 8, .inl (xN dn)))]) (st' := [.int (nI (b2n false)), .int (nI u)]) rfl rfl ?_
          refine x_iadd hE (nI (u + (b2n false))) (nI_add _ _) dX1_pressed_30 ?_
          refine x_istore_n hE [(1, .int (nI (u + (b2n false)))), (0, .ref h0), (2, .int (nI i))] (by decide) rfl dX1_pressed_31 ?_
          refine x_iinc hE (nI (i + 1)) [(2, .int (nI (i + 1))), (1, .int (nI (u + (b2n false)))), (0, .ref h0)] 2 rfl (nI_add _ _) (by decide) rfl dX1_pressed_32 ?_
          refine x_goto hE 4 (by decide) dX1_pressed_35 ?_
          refine x_lv [(0, .ref h0), (1, .int (nI (u + (b2n false)))), (2, .int (nI (i + 1)))] [2, 1, 0] rfl ?_
          exact ih (i + 1) (u + (b2n false)) (by omega) (by simpa only [lfor, lany, lfind, b2n, if_pos c9, if_pos c19, reduceIte, Bool.false_eq_true, Bool.true_eq_false] using hT)
        · skip
          refine x_iconst hE (nI 1) (by decide) dX1_pressed_22 ?_
          refine x_goto hE 27 (by decide) dX1_pressed_23 ?_
          refine x_callSN (n := 1) (st := [.int (nI u)]) hE "KeyScanner" (kX4_one l D cI cZ true ) gX1_pressed_X4_one_n50 rfl (by decide +kernel) (List.mem_of_getElem? (i := 10) rfl) (List.mem_of_getElem? (i := 9) rfl) (by decide +kernel) ⟨by decide, by decide⟩ ⟨Nat.zero_le _, Nat.zero_le _⟩ rfl [] [0, 1, 2, 3, 4, 5, 6, 7] rfl (wr := [(h0, .inr (1, [.ref p1, .ref f0, .ref s0, .int (nI R), .int (nI C), .int (bI dio)])), (p1, .inl (cI, 64, .inl (xN pos))), (f0, .inr (2, [.ref f1, .ref f2])), (f1, .inl (cI, 8, .inl (xN cl))), (f2, .inl (cI, 8, .inl (xN jn))), (s0, .inr (2, [.ref s1, .ref s2])), (s1, .inl (cI, 8, .inl (xN dl))), (s2, .inl (cI, 8, .inl (xN dn)))]) rfl (by decide) (by decide) (by decide) rfl (Nat.le_of_ble_eq_true rfl) dX1_pressed_27 (fun v9 w9 hT9 => ?_)
          obtain ⟨rfl, rfl⟩ := hT9
          refine x_at (ws' := [(h0, .inr (1, [.ref p1, .ref f0, .ref s0, .int (nI R), .int (nI C), .int (bI dio)])), (p1, .inl (cI, 64, .inl (xN pos))), (f0, .inr (2, [.ref f1, .ref f2])), (f1, .inl (cI, 8, .inl (xN cl))), (f2, .inl (cI, 8, .inl (xN jn))), (s0, .inr (2, [.ref s1, .ref s2])), (s1, .inl (cI, 8, .inl (xN dl))), (s2, .inl (cI, 8, .inl (xN dn)))]) (st' := [.int (nI (b2n true)), .int (nI u)]) rfl rfl ?_
          refine x_iadd hE (nI (u + (b2n true))) (nI_add _ _) dX1_pressed_30 ?_
          refine x_istore_n hE [(1, .int (nI (u + (b2n true)))), (0, .ref h0), (2, .int (nI i))] (by decide) rfl dX1_pressed_31 ?_
          refine x_iinc hE (nI (i + 1)) [(2, .int (nI (i + 1))), (1, .int (nI (u + (b2n true)))), (0, .ref h0)] 2 rfl (nI_add _ _) (by decide) rfl dX1_pressed_32 ?_
          refine x_goto hE 4 (by decide) dX1_pressed_35 ?_
          refine x_lv [(0, .ref h0), (1, .int (nI (u + (b2n true)))), (2, .int (nI (i + 1)))] [2, 1, 0] rfl ?_
          exact ih (i + 1) (u + (b2n true)) (by omega) (by simpa only [lfor, lany, lfind, b2n, if_pos c9, if_neg c19, reduceIte, Bool.false_eq_true, Bool.true_eq_false] using hT)
  refine x_iconst hE (nI 0) (by decide) dX1_pressed_0 ?_
  refine x_istore_n hE [(1, .int (nI 0)), (0, .ref h0)] (by decide) rfl dX1_pressed_1 ?_
  refine x_iconst hE (nI 0) (by decide) dX1_pressed_2 ?_
  refine x_istore_n hE [(2, .int (nI 0)), (1, .int (nI 0)), (0, .ref h0)] (by decide) rfl dX1_pressed_3 ?_
  refine x_lv [(0, .ref h0), (1, .int (nI 0)), (2, .int (nI 0))] [2, 1, 0] rfl ?_
  exact lp4 (R * C) 0 0 (Nat.zero_add _) (rfl)
set_option maxHeartbeats 4000000 in
set_option maxRecDepth 100000 in
theorem kX1_seen (l : Launch) (D : va_G) (cI cZ : ClassId) (h0 : Nat) (p1 : Nat) (f0 : Nat) (s0 : Nat) (n0 : Nat) (n1 : Nat) (n2 : Nat) (cl : Nat → Nat) (jn : Nat → Nat) (R : Nat) (C : Nat) (dio : Bool) (r : Nat) (hr8 : r < 8) : xC l yX1_seen wsX1_seen 0 0 0 0 D cI cZ [.ref h0, .ref n0, .int (nI r)] [(h0, .inr (1, [.ref p1, .ref f0, .ref s0, .int (nI R), .int (nI C), .int (bI dio)])), (n0, .inr (2, [.ref n1, .ref n2])), (n1, .inl (cI, 8, .inl (xN cl))), (n2, .inl (cI, 8, .inl (xN jn)))] (fun v8 w8 => v8 = some (.int (nI (seenN dio cl jn r))) ∧ w8 = [(h0, .inr (1, [.ref p1, .ref f0, .ref s0, .int (nI R), .int (nI C), .int (bI dio)])), (n0, .inr (2, [.ref n1, .ref n2])), (n1, .inl (cI, 8, .inl (xN cl))), (n2, .inl (cI, 8, .inl (xN jn)))]) := by
  refine xC.of (bytes := cX1_seen) (maxL := 3) (ret := (some .int)) (own := RX1) (by decide +kernel) rfl (Nat.le_of_ble_eq_true rfl) rfl ?_
  intro p9 e9 s9 m9 args9 below9 meth9 cd9 A hE hr hin2 hA9
  have inX1 : ∀ w ∈ wsX10, w ∈ wsX1_seen := fun w h => List.mem_cons_of_mem _ (List.mem_append_left _ (List.mem_append_right _ h))
  have inX2 : ∀ w ∈ wsX20, w ∈ wsX1_seen := fun w h => List.mem_cons_of_mem _ (List.mem_append_right _ h)
  have g32 : xF RX1 wsX1_seen 32 1 5 := ⟨"KeyScanner$Matrix", RX1, TX1, 6, inX1, rfl, by decide, List.mem_of_getElem? (i := 1) rfl, rfl⟩
  have g57 : xF RX1 wsX1_seen 57 2 1 := ⟨"KeyScanner$Net", RX2, TX2, 2, inX2, rfl, by decide, List.mem_of_getElem? (i := 3) rfl, rfl⟩
  have g54 : xF RX1 wsX1_seen 54 2 0 := ⟨"KeyScanner$Net", RX2, TX2, 2, inX2, rfl, by decide, List.mem_of_getElem? (i := 2) rfl, rfl⟩
  refine x_at (ws' := [(h0, .inr (1, [.ref p1, .ref f0, .ref s0, .int (nI R), .int (nI C), .int (bI dio)])), (n0, .inr (2, [.ref n1, .ref n2])), (n1, .inl (cI, 8, .inl (xN cl))), (n2, .inl (cI, 8, .inl (xN jn)))]) (st' := []) rfl rfl ?_
  refine x_lv [(0, .ref h0), (1, .ref n0), (2, .int (nI r))] [0, 1, 2] rfl ?_
  refine x_aload_n hE 0 rfl dX1_seen_0 ?_
  refine x_get hE g32 0 rfl rfl dX1_seen_1 ?_
  refine xb_if_eq hE 16 (by decide) dX1_seen_4 (fun c4 => ?_) (fun c4 => ?_)
  · skip
    refine x_aload_n hE 1 rfl dX1_seen_16 ?_
    refine x_get hE g57 1 rfl rfl dX1_seen_17 ?_
    refine x_iload_n hE 2 rfl dX1_seen_20 ?_
    refine x_iald hE r (nI (jn r)) (by omega) (by decide) rfl 3 rfl dX1_seen_21 ?_
    exact x_iret hE hr (⟨by simp only [seenN, if_neg (bnt c4), reduceIte, Bool.false_eq_true, Bool.true_eq_false], rfl⟩) dX1_seen_22
  · skip
    refine x_aload_n hE 1 rfl dX1_seen_7 ?_
    refine x_get hE g54 1 rfl rfl dX1_seen_8 ?_
    refine x_iload_n hE 2 rfl dX1_seen_11 ?_
    refine x_iald hE r (nI (cl r)) (by omega) (by decide) rfl 2 rfl dX1_seen_12 ?_
    refine x_goto hE 22 (by decide) dX1_seen_13 ?_
    exact x_iret hE hr (⟨by simp only [seenN, if_pos c4, reduceIte, Bool.false_eq_true, Bool.true_eq_false], rfl⟩) dX1_seen_22
set_option maxHeartbeats 4000000 in
set_option maxRecDepth 100000 in
theorem kX1_firstSeen (l : Launch) (D : va_G) (cI cZ : ClassId) (h0 : Nat) (p1 : Nat) (f0 : Nat) (f1 : Nat) (f2 : Nat) (s0 : Nat) (s1 : Nat) (s2 : Nat) (pos : Nat → Nat) (cl : Nat → Nat) (jn : Nat → Nat) (dl : Nat → Nat) (dn : Nat → Nat) (R : Nat) (C : Nat) (dio : Bool) (k : Nat) (hR : 1 ≤ R ∧ R ≤ 8) (hC : 1 ≤ C ∧ C ≤ 8) (hk : k < R * C) (hcl : ∀ r, cl r < 256) (hjn : ∀ r, jn r < 256) (hdl : ∀ r, dl r < 256) (hdn : ∀ r, dn r < 256) : xC l yX1_firstSeen wsX1_firstSeen 1 0 0 22 D cI cZ [.ref h0, .int (nI k)] [(h0, .inr (1, [.ref p1, .ref f0, .ref s0, .int (nI R), .int (nI C), .int (bI dio)])), (p1, .inl (cI, 64, .inl (xN pos))), (f0, .inr (2, [.ref f1, .ref f2])), (f1, .inl (cI, 8, .inl (xN cl))), (f2, .inl (cI, 8, .inl (xN jn))), (s0, .inr (2, [.ref s1, .ref s2])), (s1, .inl (cI, 8, .inl (xN dl))), (s2, .inl (cI, 8, .inl (xN dn)))] (fun v8 w8 => v8 = some (.int (bI (fsB (seenN dio cl jn) C k))) ∧ w8 = [(h0, .inr (1, [.ref p1, .ref f0, .ref s0, .int (nI R), .int (nI C), .int (bI dio)])), (p1, .inl (cI, 64, .inl (xN pos))), (f0, .inr (2, [.ref f1, .ref f2])), (f1, .inl (cI, 8, .inl (xN cl))), (f2, .inl (cI, 8, .inl (xN jn))), (s0, .inr (2, [.ref s1, .ref s2])), (s1, .inl (cI, 8, .inl (xN dl))), (s2, .inl (cI, 8, .inl (xN dn)))]) := by
  refine xC.of (bytes := cX1_firstSeen) (maxL := 2) (ret := (some .boolean)) (own := RX1) (by decide +kernel) rfl (Nat.le_of_ble_eq_true rfl) rfl ?_
  intro p9 e9 s9 m9 args9 below9 meth9 cd9 A hE hr hin2 hA9
  have inX1 : ∀ w ∈ wsX10, w ∈ wsX1_firstSeen := fun w h => List.mem_cons_of_mem _ (List.mem_append_left _ (List.mem_append_right _ h))
  have g18 : xF RX1 wsX1_firstSeen 18 1 1 := ⟨"KeyScanner$Matrix", RX1, TX1, 6, inX1, rfl, by decide, List.mem_of_getElem? (i := 1) rfl, rfl⟩
  have g29 : xF RX1 wsX1_firstSeen 29 1 4 := ⟨"KeyScanner$Matrix", RX1, TX1, 6, inX1, rfl, by decide, List.mem_of_getElem? (i := 2) rfl, rfl⟩
  have hRC : R * C ≤ 64 := Nat.mul_le_mul hR.2 hC.2
  have hkq : k / C < R := Nat.div_lt_of_lt_mul (by rw [Nat.mul_comm]; exact hk)
  have hkm : k % C < C := Nat.mod_lt _ (by omega)
  refine x_at (ws' := [(h0, .inr (1, [.ref p1, .ref f0, .ref s0, .int (nI R), .int (nI C), .int (bI dio)])), (p1, .inl (cI, 64, .inl (xN pos))), (f0, .inr (2, [.ref f1, .ref f2])), (f1, .inl (cI, 8, .inl (xN cl))), (f2, .inl (cI, 8, .inl (xN jn))), (s0, .inr (2, [.ref s1, .ref s2])), (s1, .inl (cI, 8, .inl (xN dl))), (s2, .inl (cI, 8, .inl (xN dn)))]) (st' := []) rfl rfl ?_
  refine x_lv [(0, .ref h0), (1, .int (nI k))] [0, 1] rfl ?_
  refine x_aload_n hE 0 rfl dX1_firstSeen_0 ?_
  refine x_aload_n hE 0 rfl dX1_firstSeen_1 ?_
  refine x_get hE g18 0 rfl rfl dX1_firstSeen_2 ?_
  refine x_iload_n hE 1 rfl dX1_firstSeen_5 ?_
  refine x_aload_n hE 0 rfl dX1_firstSeen_6 ?_
  refine x_get hE g29 0 rfl rfl dX1_firstSeen_7 ?_
  refine x_idiv hE (nI (k / C)) (nI_ne0 (by omega) (by omega)) (xI_div (by omega) (by omega) (by omega)) dX1_firstSeen_10 ?_
  refine x_callV (n := 2) (st := []) hE (kX1_seen l D cI cZ h0 p1 f0 s0 f0 f1 f2 cl jn R C dio (k / C) (by omega)) gX1_firstSeen_X1_seen rfl (by decide +kernel) ⟨by decide, by decide⟩ ⟨Nat.zero_le _, Nat.zero_le _⟩ rfl [0, 2, 3, 4] [1, 5, 6, 7] rfl (wr := [(p1, .inl (cI, 64, .inl (xN pos))), (s0, .inr (2, [.ref s1, .ref s2])), (s1, .inl (cI, 8, .inl (xN dl))), (s2, .inl (cI, 8, .inl (xN dn)))]) rfl (by decide) (by decide) (by decide) 0 rfl rfl rfl rfl (Nat.le_of_ble_eq_true rfl) dX1_firstSeen_11 (fun v9 w9 hT9 => ?_)
  obtain ⟨rfl, rfl⟩ := hT9
  refine x_at (ws' := [(p1, .inl (cI, 64, .inl (xN pos))), (s0, .inr (2, [.ref s1, .ref s2])), (s1, .inl (cI, 8, .inl (xN dl))), (s2, .inl (cI, 8, .inl (xN dn))), (h0, .inr (1, [.ref p1, .ref f0, .ref s0, .int (nI R), .int (nI C), .int (bI dio)])), (f0, .inr (2, [.ref f1, .ref f2])), (f1, .inl (cI, 8, .inl (xN cl))), (f2, .inl (cI, 8, .inl (xN jn)))]) (st' := [.int (nI (seenN dio cl jn (k / C)))]) rfl rfl ?_
  refine x_sub [(h0, .inr (1, [.ref p1, .ref f0, .ref s0, .int (nI R), .int (nI C), .int (bI dio)])), (p1, .inl (cI, 64, .inl (xN pos))), (f0, .inr (2, [.ref f1, .ref f2])), (f1, .inl (cI, 8, .inl (xN cl))), (f2, .inl (cI, 8, .inl (xN jn))), (s0, .inr (2, [.ref s1, .ref s2])), (s1, .inl (cI, 8, .inl (xN dl))), (s2, .inl (cI, 8, .inl (xN dn)))] [4, 0, 5, 6, 7, 1, 2, 3] (by decide) rfl ?_
  refine x_iload_n hE 1 rfl dX1_firstSeen_14 ?_
  refine x_aload_n hE 0 rfl dX1_firstSeen_15 ?_
  refine x_get hE g29 0 rfl rfl dX1_firstSeen_16 ?_
  refine x_irem hE (nI (k % C)) (nI_ne0 (by omega) (by omega)) (xI_rem (by omega) (by omega) (by omega)) dX1_firstSeen_19 ?_
  refine x_callS (n := 2) (st := []) hE (kX1_contains l D cI cZ (seenN dio cl jn (k / C)) (k % C) (seenN_lt hcl hjn _) (by omega)) gX1_firstSeen_X1_contains rfl (by decide +kernel) ⟨by decide, by decide⟩ ⟨Nat.zero_le _, Nat.zero_le _⟩ rfl [] [0, 1, 2, 3, 4, 5, 6, 7] rfl (wr := [(h0, .inr (1, [.ref p1, .ref f0, .ref s0, .int (nI R), .int (nI C), .int (bI dio)])), (p1, .inl (cI, 64, .inl (xN pos))), (f0, .inr (2, [.ref f1, .ref f2])), (f1, .inl (cI, 8, .inl (xN cl))), (f2, .inl (cI, 8, .inl (xN jn))), (s0, .inr (2, [.ref s1, .ref s2])), (s1, .inl (cI, 8, .inl (xN dl))), (s2, .inl (cI, 8, .inl (xN dn)))]) rfl (by decide) (by decide) (by decide) rfl (Nat.le_of_ble_eq_true rfl) dX1_firstSeen_20 (fun v9 w9 hT9 => ?_)
  obtain ⟨rfl, rfl⟩ := hT9
  refine x_at (ws' := [(h0, .inr (1, [.ref p1, .ref f0, .ref s0, .int (nI R), .int (nI C), .int (bI dio)])), (p1, .inl (cI, 64, .inl (xN pos))), (f0, .inr (2, [.ref f1, .ref f2])), (f1, .inl (cI, 8, .inl (xN cl))), (f2, .inl (cI, 8, .inl (xN jn))), (s0, .inr (2, [.ref s1, .ref s2])), (s1, .inl (cI, 8, .inl (xN dl))), (s2, .inl (cI, 8, .inl (xN dn)))]) (st' := [.int (bI ((seenN dio cl jn (k / C)).testBit (k % C)))]) rfl rfl ?_
  exact x_zret hE hr (⟨rfl, rfl⟩) dX1_firstSeen_23
set_option maxHeartbeats 4000000 in
set_option maxRecDepth 100000 in
theorem kX1_secondSeen (l : Launch) (D : va_G) (cI cZ : ClassId) (h0 : Nat) (p1 : Nat) (f0 : Nat) (f1 : Nat) (f2 : Nat) (s0 : Nat) (s1 : Nat) (s2 : Nat) (pos : Nat → Nat) (cl : Nat → Nat) (jn : Nat → Nat) (dl : Nat → Nat) (dn : Nat → Nat) (R : Nat) (C : Nat) (dio : Bool) (k : Nat) (hR : 1 ≤ R ∧ R ≤ 8) (hC : 1 ≤ C ∧ C ≤ 8) (hk : k < R * C) (hcl : ∀ r, cl r < 256) (hjn : ∀ r, jn r < 256) (hdl : ∀ r, dl r < 256) (hdn : ∀ r, dn r < 256) : xC l yX1_secondSeen wsX1_secondSeen 1 0 0 22 D cI cZ [.ref h0, .int (nI k)] [(h0, .inr (1, [.ref p1, .ref f0, .ref s0, .int (nI R), .int (nI C), .int (bI dio)])), (p1, .inl (cI, 64, .inl (xN pos))), (f0, .inr (2, [.ref f1, .ref f2])), (f1, .inl (cI, 8, .inl (xN cl))), (f2, .inl (cI, 8, .inl (xN jn))), (s0, .inr (2, [.ref s1, .ref s2])), (s1, .inl (cI, 8, .inl (xN dl))), (s2, .inl (cI, 8, .inl (xN dn)))] (fun v8 w8 => v8 = some (.int (bI (fsB (seenN dio dl dn) C k))) ∧ w8 = [(h0, .inr (1, [.ref p1, .ref f0, .ref s0, .int (nI R), .int (nI C), .int (bI dio)])), (p1, .inl (cI, 64, .inl (xN pos))), (f0, .inr (2, [.ref f1, .ref f2])), (f1, .inl (cI, 8, .inl (xN cl))), (f2, .inl (cI, 8, .inl (xN jn))), (s0, .inr (2, [.ref s1, .ref s2])), (s1, .inl (cI, 8, .inl (xN dl))), (s2, .inl (cI, 8, .inl (xN dn)))]) := by
  refine xC.of (bytes := cX1_secondSeen) (maxL := 2) (ret := (some .boolean)) (own := RX1) (by decide +kernel) rfl (Nat.le_of_ble_eq_true rfl) rfl ?_
  intro p9 e9 s9 m9 args9 below9 meth9 cd9 A hE hr hin2 hA9
  have inX1 : ∀ w ∈ wsX10, w ∈ wsX1_secondSeen := fun w h => List.mem_cons_of_mem _ (List.mem_append_left _ (List.mem_append_right _ h))
  have g22 : xF RX1 wsX1_secondSeen 22 1 2 := ⟨"KeyScanner$Matrix", RX1, TX1, 6, inX1, rfl, by decide, List.mem_of_getElem? (i := 1) rfl, rfl⟩
  have g29 : xF RX1 wsX1_secondSeen 29 1 4 := ⟨"KeyScanner$Matrix", RX1, TX1, 6, inX1, rfl, by decide, List.mem_of_getElem? (i := 2) rfl, rfl⟩
  have hRC : R * C ≤ 64 := Nat.mul_le_mul hR.2 hC.2
  have hkq : k / C < R := Nat.div_lt_of_lt_mul (by rw [Nat.mul_comm]; exact hk)
  have hkm : k % C < C := Nat.mod_lt _ (by omega)
  refine x_at (ws' := [(h0, .inr (1, [.ref p1, .ref f0, .ref s0, .int (nI R), .int (nI C), .int (bI dio)])), (p1, .inl (cI, 64, .inl (xN pos))), (f0, .inr (2, [.ref f1, .ref f2])), (f1, .inl (cI, 8, .inl (xN cl))), (f2, .inl (cI, 8, .inl (xN jn))), (s0, .inr (2, [.ref s1, .ref s2])), (s1, .inl (cI, 8, .inl (xN dl))), (s2, .inl (cI, 8, .inl (xN dn)))]) (st' := []) rfl rfl ?_
  refine x_lv [(0, .ref h0), (1, .int (nI k))] [0, 1] rfl ?_
  refine x_aload_n hE 0 rfl dX1_secondSeen_0 ?_
  refine x_aload_n hE 0 rfl dX1_secondSeen_1 ?_
  refine x_get hE g22 0 rfl rfl dX1_secondSeen_2 ?_
  refine x_iload_n hE 1 rfl dX1_secondSeen_5 ?_
  refine x_aload_n hE 0 rfl dX1_secondSeen_6 ?_
  refine x_get hE g29 0 rfl rfl dX1_secondSeen_7 ?_
  refine x_idiv hE (nI (k / C)) (nI_ne0 (by omega) (by omega)) (xI_div (by omega) (by omega) (by omega)) dX1_secondSeen_10 ?_
  refine x_callV (n := 2) (st := []) hE (kX1_seen l D cI cZ h0 p1 f0 s0 s0 s1 s2 dl dn R C dio (k / C) (by omega)) gX1_secondSeen_X1_seen rfl (by decide +kernel) ⟨by decide, by decide⟩ ⟨Nat.zero_le _, Nat.zero_le _⟩ rfl [0, 5, 6, 7] [1, 2, 3, 4] rfl (wr := [(p1, .inl (cI, 64, .inl (xN pos))), (f0, .inr (2, [.ref f1, .ref f2])), (f1, .inl (cI, 8, .inl (xN cl))), (f2, .inl (cI, 8, .inl (xN jn)))]) rfl (by decide) (by decide) (by decide) 0 rfl rfl rfl rfl (Nat.le_of_ble_eq_true rfl) dX1_secondSeen_11 (fun v9 w9 hT9 => ?_)
  obtain ⟨rfl, rfl⟩ := hT9
  refine x_at (ws' := [(p1, .inl (cI, 64, .inl (xN pos))), (f0, .inr (2, [.ref f1, .ref f2])), (f1, .inl (cI, 8, .inl (xN cl))), (f2, .inl (cI, 8, .inl (xN jn))), (h0, .inr (1, [.ref p1, .ref f0, .ref s0, .int (nI R), .int (nI C), .int (bI dio)])), (s0, .inr (2, [.ref s1, .ref s2])), (s1, .inl (cI, 8, .inl (xN dl))), (s2, .inl (cI, 8, .inl (xN dn)))]) (st' := [.int (nI (seenN dio dl dn (k / C)))]) rfl rfl ?_
  refine x_sub [(h0, .inr (1, [.ref p1, .ref f0, .ref s0, .int (nI R), .int (nI C), .int (bI dio)])), (p1, .inl (cI, 64, .inl (xN pos))), (f0, .inr (2, [.ref f1, .ref f2])), (f1, .inl (cI, 8, .inl (xN cl))), (f2, .inl (cI, 8, .inl (xN jn))), (s0, .inr (2, [.ref s1, .ref s2])), (s1, .inl (cI, 8, .inl (xN dl))), (s2, .inl (cI, 8, .inl (xN dn)))] [4, 0, 1, 2, 3, 5, 6, 7] (by decide) rfl ?_
  refine x_iload_n hE 1 rfl dX1_secondSeen_14 ?_
  refine x_aload_n hE 0 rfl dX1_secondSeen_15 ?_
  refine x_get hE g29 0 rfl rfl dX1_secondSeen_16 ?_
  refine x_irem hE (nI (k % C)) (nI_ne0 (by omega) (by omega)) (xI_rem (by omega) (by omega) (by omega)) dX1_secondSeen_19 ?_
  refine x_callS (n := 2) (st := []) hE (kX1_contains l D cI cZ (seenN dio dl dn (k / C)) (k % C) (seenN_lt hdl hdn _) (by omega)) gX1_secondSeen_X1_contains rfl (by decide +kernel) ⟨by decide, by decide⟩ ⟨Nat.zero_le _, Nat.zero_le _⟩ rfl [] [0, 1, 2, 3, 4, 5, 6, 7] rfl (wr := [(h0, .inr (1, [.ref p1, .ref f0, .ref s0, .int (nI R), .int (nI C), .int (bI dio)])), (p1, .inl (cI, 64, .inl (xN pos))), (f0, .inr (2, [.ref f1, .ref f2])), (f1, .inl (cI, 8, .inl (xN cl))), (f2, .inl (cI, 8, .inl (xN jn))), (s0, .inr (2, [.ref s1, .ref s2])), (s1, .inl (cI, 8, .inl (xN dl))), (s2, .inl (cI, 8, .inl (xN dn)))]) rfl (by decide) (by decide) (by decide) rfl (Nat.le_of_ble_eq_true rfl) dX1_secondSeen_20 (fun v9 w9 hT9 => ?_)
  obtain ⟨rfl, rfl⟩ := hT9
  refine x_at (ws' := [(h0, .inr (1, [.ref p1, .ref f0, .ref s0, .int (nI R), .int (nI C), .int (bI dio)])), (p1, .inl (cI, 64, .inl (xN pos))), (f0, .inr (2, [.ref f1, .ref f2])), (f1, .inl (cI, 8, .inl (xN cl))), (f2, .inl (cI, 8, .inl (xN jn))), (s0, .inr (2, [.ref s1, .ref s2])), (s1, .inl (cI, 8, .inl (xN dl))), (s2, .inl (cI, 8, .inl (xN dn)))]) (st' := [.int (bI ((seenN dio dl dn (k / C)).testBit (k % C)))]) rfl rfl ?_
  exact x_zret hE hr (⟨rfl, rfl⟩) dX1_secondSeen_23
set_option maxHeartbeats 4000000 in
set_option maxRecDepth 100000 in
theorem kX1_ghostsIn (l : Launch) (D : va_G) (cI cZ : ClassId) (h0 : Nat) (p1 : Nat) (f0 : Nat) (f1 : Nat) (f2 : Nat) (s0 : Nat) (s1 : Nat) (s2 : Nat) (pos : Nat → Nat) (cl : Nat → Nat) (jn : Nat → Nat) (dl : Nat → Nat) (dn : Nat → Nat) (R : Nat) (C : Nat) (dio : Bool) (r : Nat) (hr8 : r < 8) (hcl : ∀ r, cl r < 256) (hjn : ∀ r, jn r < 256) (hdl : ∀ r, dl r < 256) (hdn : ∀ r, dn r < 256) : xC l yX1_ghostsIn wsX1_ghostsIn 1 0 0 22 D cI cZ [.ref h0, .int (nI r)] [(h0, .inr (1, [.ref p1, .ref f0, .ref s0, .int (nI R), .int (nI C), .int (bI dio)])), (p1, .inl (cI, 64, .inl (xN pos))), (f0, .inr (2, [.ref f1, .ref f2])), (f1, .inl (cI, 8, .inl (xN cl))), (f2, .inl (cI, 8, .inl (xN jn))), (s0, .inr (2, [.ref s1, .ref s2])), (s1, .inl (cI, 8, .inl (xN dl))), (s2, .inl (cI, 8, .inl (xN dn)))] (fun v8 w8 => v8 = some (.int (nI (ghN dio cl jn dl dn r))) ∧ w8 = [(h0, .inr (1, [.ref p1, .ref f0, .ref s0, .int (nI R), .int (nI C), .int (bI dio)])), (p1, .inl (cI, 64, .inl (xN pos))), (f0, .inr (2, [.ref f1, .ref f2])), (f1, .inl (cI, 8, .inl (xN cl))), (f2, .inl (cI, 8, .inl (xN jn))), (s0, .inr (2, [.ref s1, .ref s2])), (s1, .inl (cI, 8, .inl (xN dl))), (s2, .inl (cI, 8, .inl (xN dn)))]) := by
  refine xC.of (bytes := cX1_ghostsIn) (maxL := 2) (ret := (some .int)) (own := RX1) (by decide +kernel) rfl (Nat.le_of_ble_eq_true rfl) rfl ?_
  intro p9 e9 s9 m9 args9 below9 meth9 cd9 A hE hr hin2 hA9
  have inX1 : ∀ w ∈ wsX10, w ∈ wsX1_ghostsIn := fun w h => List.mem_cons_of_mem _ (List.mem_append_left _ (List.mem_append_right _ h))
  have inX2 : ∀ w ∈ wsX20, w ∈ wsX1_ghostsIn := fun w h => List.mem_cons_of_mem _ (List.mem_append_right _ h)
  have g18 : xF RX1 wsX1_ghostsIn 18 1 1 := ⟨"KeyScanner$Matrix", RX1, TX1, 6, inX1, rfl, by decide, List.mem_of_getElem? (i := 1) rfl, rfl⟩
  have g54 : xF RX1 wsX1_ghostsIn 54 2 0 := ⟨"KeyScanner$Net", RX2, TX2, 2, inX2, rfl, by decide, List.mem_of_getElem? (i := 2) rfl, rfl⟩
  have g22 : xF RX1 wsX1_ghostsIn 22 1 2 := ⟨"KeyScanner$Matrix", RX1, TX1, 6, inX1, rfl, by decide, List.mem_of_getElem? (i := 3) rfl, rfl⟩
  refine x_at (ws' := [(h0, .inr (1, [.ref p1, .ref f0, .ref s0, .int (nI R), .int (nI C), .int (bI dio)])), (p1, .inl (cI, 64, .inl (xN pos))), (f0, .inr (2, [.ref f1, .ref f2])), (f1, .inl (cI, 8, .inl (xN cl))), (f2, .inl (cI, 8, .inl (xN jn))), (s0, .inr (2, [.ref s1, .ref s2])), (s1, .inl (cI, 8, .inl (xN dl))), (s2, .inl (cI, 8, .inl (xN dn)))]) (st' := []) rfl rfl ?_
  refine x_lv [(0, .ref h0), (1, .int (nI r))] [0, 1] rfl ?_
  refine x_aload_n hE 0 rfl dX1_ghostsIn_0 ?_
  refine x_aload_n hE 0 rfl dX1_ghostsIn_1 ?_
  refine x_get hE g18 0 rfl rfl dX1_ghostsIn_2 ?_
  refine x_iload_n hE 1 rfl dX1_ghostsIn_5 ?_
  refine x_callV (n := 2) (st := []) hE (kX1_seen l D cI cZ h0 p1 f0 s0 f0 f1 f2 cl jn R C dio r (by omega)) gX1_ghostsIn_X1_seen rfl (by decide +kernel) ⟨by decide, by decide⟩ ⟨Nat.zero_le _, Nat.zero_le _⟩ rfl [0, 2, 3, 4] [1, 5, 6, 7] rfl (wr := [(p1, .inl (cI, 64, .inl (xN pos))), (s0, .inr (2, [.ref s1, .ref s2])), (s1, .inl (cI, 8, .inl (xN dl))), (s2, .inl (cI, 8, .inl (xN dn)))]) rfl (by decide) (by decide) (by decide) 0 rfl rfl rfl rfl (Nat.le_of_ble_eq_true rfl) dX1_ghostsIn_6 (fun v9 w9 hT9 => ?_)
  obtain ⟨rfl, rfl⟩ := hT9
  refine x_at (ws' := [(p1, .inl (cI, 64, .inl (xN pos))), (s0, .inr (2, [.ref s1, .ref s2])), (s1, .inl (cI, 8, .inl (xN dl))), (s2, .inl (cI, 8, .inl (xN dn))), (h0, .inr (1, [.ref p1, .ref f0, .ref s0, .int (nI R), .int (nI C), .int (bI dio)])), (f0, .inr (2, [.ref f1, .ref f2])), (f1, .inl (cI, 8, .inl (xN cl))), (f2, .inl (cI, 8, .inl (xN jn)))]) (st' := [.int (nI (seenN dio cl jn r))]) rfl rfl ?_
  refine x_sub [(h0, .inr (1, [.ref p1, .ref f0, .ref s0, .int (nI R), .int (nI C), .int (bI dio)])), (p1, .inl (cI, 64, .inl (xN pos))), (f0, .inr (2, [.ref f1, .ref f2])), (f1, .inl (cI, 8, .inl (xN cl))), (f2, .inl (cI, 8, .inl (xN jn))), (s0, .inr (2, [.ref s1, .ref s2])), (s1, .inl (cI, 8, .inl (xN dl))), (s2, .inl (cI, 8, .inl (xN dn)))] [4, 0, 5, 6, 7, 1, 2, 3] (by decide) rfl ?_
  refine x_aload_n hE 0 rfl dX1_ghostsIn_9 ?_
  refine x_get hE g18 0 rfl rfl dX1_ghostsIn_10 ?_
  refine x_get hE g54 2 rfl rfl dX1_ghostsIn_13 ?_
  refine x_iload_n hE 1 rfl dX1_ghostsIn_16 ?_
  refine x_iald hE r (nI (cl r)) (by omega) (by decide) rfl 3 rfl dX1_ghostsIn_17 ?_
  refine x_iconst hE (-1) (by decide) dX1_ghostsIn_18 ?_
  refine x_ixor hE ((nI (cl r)) ^^^ (-1)) rfl dX1_ghostsIn_19 ?_
  refine x_iand hE (nI (an8 (seenN dio cl jn r) (cl r))) (an8_ok (seenN_lt hcl hjn r)) dX1_ghostsIn_20 ?_
  refine x_aload_n hE 0 rfl dX1_ghostsIn_21 ?_
  refine x_aload_n hE 0 rfl dX1_ghostsIn_22 ?_
  refine x_get hE g22 0 rfl rfl dX1_ghostsIn_23 ?_
  refine x_iload_n hE 1 rfl dX1_ghostsIn_26 ?_
  refine x_callV (n := 2) (st := [.int (nI (an8 (seenN dio cl jn r) (cl r)))]) hE (kX1_seen l D cI cZ h0 p1 f0 s0 s0 s1 s2 dl dn R C dio r (by omega)) gX1_ghostsIn_X1_seen rfl (by decide +kernel) ⟨by decide, by decide⟩ ⟨Nat.zero_le _, Nat.zero_le _⟩ rfl [0, 5, 6, 7] [1, 2, 3, 4] rfl (wr := [(p1, .inl (cI, 64, .inl (xN pos))), (f0, .inr (2, [.ref f1, .ref f2])), (f1, .inl (cI, 8, .inl (xN cl))), (f2, .inl (cI, 8, .inl (xN jn)))]) rfl (by decide) (by decide) (by decide) 0 rfl rfl rfl rfl (Nat.le_of_ble_eq_true rfl) dX1_ghostsIn_27 (fun v9 w9 hT9 => ?_)
  obtain ⟨rfl, rfl⟩ := hT9
  refine x_at (ws' := [(p1, .inl (cI, 64, .inl (xN pos))), (f0, .inr (2, [.ref f1, .ref f2])), (f1, .inl (cI, 8, .inl (xN cl))), (f2, .inl (cI, 8, .inl (xN jn))), (h0, .inr (1, [.ref p1, .ref f0, .ref s0, .int (nI R), .int (nI C), .int (bI dio)])), (s0, .inr (2, [.ref s1, .ref s2])), (s1, .inl (cI, 8, .inl (xN dl))), (s2, .inl (cI, 8, .inl (xN dn)))]) (st' := [.int (nI (seenN dio dl dn r)), .int (nI (an8 (seenN dio cl jn r) (cl r)))]) rfl rfl ?_
  refine x_sub [(h0, .inr (1, [.ref p1, .ref f0, .ref s0, .int (nI R), .int (nI C), .int (bI dio)])), (p1, .inl (cI, 64, .inl (xN pos))), (f0, .inr (2, [.ref f1, .ref f2])), (f1, .inl (cI, 8, .inl (xN cl))), (f2, .inl (cI, 8, .inl (xN jn))), (s0, .inr (2, [.ref s1, .ref s2])), (s1, .inl (cI, 8, .inl (xN dl))), (s2, .inl (cI, 8, .inl (xN dn)))] [4, 0, 1, 2, 3, 5, 6, 7] (by decide) rfl ?_
  refine x_aload_n hE 0 rfl dX1_ghostsIn_30 ?_
  refine x_get hE g22 0 rfl rfl dX1_ghostsIn_31 ?_
  refine x_get hE g54 5 rfl rfl dX1_ghostsIn_34 ?_
  refine x_iload_n hE 1 rfl dX1_ghostsIn_37 ?_
  refine x_iald hE r (nI (dl r)) (by omega) (by decide) rfl 6 rfl dX1_ghostsIn_38 ?_
  refine x_iconst hE (-1) (by decide) dX1_ghostsIn_39 ?_
  refine x_ixor hE ((nI (dl r)) ^^^ (-1)) rfl dX1_ghostsIn_40 ?_
  refine x_iand hE (nI (an8 (seenN dio dl dn r) (dl r))) (an8_ok (seenN_lt hdl hdn r)) dX1_ghostsIn_41 ?_
  refine x_ior hE (nI ((an8 (seenN dio cl jn r) (cl r)) ||| (an8 (seenN dio dl dn r) (dl r)))) (fa_or _ _) dX1_ghostsIn_42 ?_
  exact x_iret hE hr (⟨rfl, rfl⟩) dX1_ghostsIn_43
set_option maxHeartbeats 4000000 in
set_option maxRecDepth 100000 in
theorem kX1_isGhost (l : Launch) (D : va_G) (cI cZ : ClassId) (h0 : Nat) (p1 : Nat) (f0 : Nat) (f1 : Nat) (f2 : Nat) (s0 : Nat) (s1 : Nat) (s2 : Nat) (pos : Nat → Nat) (cl : Nat → Nat) (jn : Nat → Nat) (dl : Nat → Nat) (dn : Nat → Nat) (R : Nat) (C : Nat) (dio : Bool) (k : Nat) (hR : 1 ≤ R ∧ R ≤ 8) (hC : 1 ≤ C ∧ C ≤ 8) (hk : k < R * C) (hcl : ∀ r, cl r < 256) (hjn : ∀ r, jn r < 256) (hdl : ∀ r, dl r < 256) (hdn : ∀ r, dn r < 256) : xC l yX1_isGhost wsX1_isGhost 2 0 0 43 D cI cZ [.ref h0, .int (nI k)] [(h0, .inr (1, [.ref p1, .ref f0, .ref s0, .int (nI R), .int (nI C), .int (bI dio)])), (p1, .inl (cI, 64, .inl (xN pos))), (f0, .inr (2, [.ref f1, .ref f2])), (f1, .inl (cI, 8, .inl (xN cl))), (f2, .inl (cI, 8, .inl (xN jn))), (s0, .inr (2, [.ref s1, .ref s2])), (s1, .inl (cI, 8, .inl (xN dl))), (s2, .inl (cI, 8, .inl (xN dn)))] (fun v8 w8 => v8 = some (.int (bI ((ghN dio cl jn dl dn (k / C)).testBit (k % C)))) ∧ w8 = [(h0, .inr (1, [.ref p1, .ref f0, .ref s0, .int (nI R), .int (nI C), .int (bI dio)])), (p1, .inl (cI, 64, .inl (xN pos))), (f0, .inr (2, [.ref f1, .ref f2])), (f1, .inl (cI, 8, .inl (xN cl))), (f2, .inl (cI, 8, .inl (xN jn))), (s0, .inr (2, [.ref s1, .ref s2])), (s1, .inl (cI, 8, .inl (xN dl))), (s2, .inl (cI, 8, .inl (xN dn)))]) := by
  refine xC.of (bytes := cX1_isGhost) (maxL := 2) (ret := (some .boolean)) (own := RX1) (by decide +kernel) rfl (Nat.le_of_ble_eq_true rfl) rfl ?_
  intro p9 e9 s9 m9 args9 below9 meth9 cd9 A hE hr hin2 hA9
  have inX1 : ∀ w ∈ wsX10, w ∈ wsX1_isGhost := fun w h => List.mem_cons_of_mem _ (List.mem_append_left _ (List.mem_append_right _ h))
  have g29 : xF RX1 wsX1_isGhost 29 1 4 := ⟨"KeyScanner$Matrix", RX1, TX1, 6, inX1, rfl, by decide, List.mem_of_getElem? (i := 1) rfl, rfl⟩
  have hRC : R * C ≤ 64 := Nat.mul_le_mul hR.2 hC.2
  have hkq : k / C < R := Nat.div_lt_of_lt_mul (by rw [Nat.mul_comm]; exact hk)
  have hkm : k % C < C := Nat.mod_lt _ (by omega)
  refine x_at (ws' := [(h0, .inr (1, [.ref p1, .ref f0, .ref s0, .int (nI R), .int (nI C), .int (bI dio)])), (p1, .inl (cI, 64, .inl (xN pos))), (f0, .inr (2, [.ref f1, .ref f2])), (f1, .inl (cI, 8, .inl (xN cl))), (f2, .inl (cI, 8, .inl (xN jn))), (s0, .inr (2, [.ref s1, .ref s2])), (s1, .inl (cI, 8, .inl (xN dl))), (s2, .inl (cI, 8, .inl (xN dn)))]) (st' := []) rfl rfl ?_
  refine x_lv [(0, .ref h0), (1, .int (nI k))] [0, 1] rfl ?_
  refine x_aload_n hE 0 rfl dX1_isGhost_0 ?_
  refine x_iload_n hE 1 rfl dX1_isGhost_1 ?_
  refine x_aload_n hE 0 rfl dX1_isGhost_2 ?_
  refine x_get hE g29 0 rfl rfl dX1_isGhost_3 ?_
  refine x_idiv hE (nI (k / C)) (nI_ne0 (by omega) (by omega)) (xI_div (by omega) (by omega) (by omega)) dX1_isGhost_6 ?_
  refine x_callV (n := 1) (st := []) hE (kX1_ghostsIn l D cI cZ h0 p1 f0 f1 f2 s0 s1 s2 pos cl jn dl dn R C dio (k / C) (by omega) (by assumption) (by assumption) (by assumption) (by assumption)) gX1_isGhost_X1_ghostsIn rfl (by decide +kernel) ⟨by decide, by decide⟩ ⟨Nat.zero_le _, Nat.zero_le _⟩ rfl [0, 1, 2, 3, 4, 5, 6, 7] [] rfl (wr := []) rfl (by decide) (by decide) (by decide) 0 rfl rfl rfl rfl (Nat.le_of_ble_eq_true rfl) dX1_isGhost_7 (fun v9 w9 hT9 => ?_)
  obtain ⟨rfl, rfl⟩ := hT9
  refine x_at (ws' := [(h0, .inr (1, [.ref p1, .ref f0, .ref s0, .int (nI R), .int (nI C), .int (bI dio)])), (p1, .inl (cI, 64, .inl (xN pos))), (f0, .inr (2, [.ref f1, .ref f2])), (f1, .inl (cI, 8, .inl (xN cl))), (f2, .inl (cI, 8, .inl (xN jn))), (s0, .inr (2, [.ref s1, .ref s2])), (s1, .inl (cI, 8, .inl (xN dl))), (s2, .inl (cI, 8, .inl (xN dn)))]) (st' := [.int (nI (ghN dio cl jn dl dn (k / C)))]) rfl rfl ?_
  refine x_iload_n hE 1 rfl dX1_isGhost_10 ?_
  refine x_aload_n hE 0 rfl dX1_isGhost_11 ?_
  refine x_get hE g29 0 rfl rfl dX1_isGhost_12 ?_
  refine x_irem hE (nI (k % C)) (nI_ne0 (by omega) (by omega)) (xI_rem (by omega) (by omega) (by omega)) dX1_isGhost_15 ?_
  refine x_callS (n := 2) (st := []) hE (kX1_contains l D cI cZ (ghN dio cl jn dl dn (k / C)) (k % C) (ghN_lt hcl hjn hdl hdn _) (by omega)) gX1_isGhost_X1_contains rfl (by decide +kernel) ⟨by decide, by decide⟩ ⟨Nat.zero_le _, Nat.zero_le _⟩ rfl [] [0, 1, 2, 3, 4, 5, 6, 7] rfl (wr := [(h0, .inr (1, [.ref p1, .ref f0, .ref s0, .int (nI R), .int (nI C), .int (bI dio)])), (p1, .inl (cI, 64, .inl (xN pos))), (f0, .inr (2, [.ref f1, .ref f2])), (f1, .inl (cI, 8, .inl (xN cl))), (f2, .inl (cI, 8, .inl (xN jn))), (s0, .inr (2, [.ref s1, .ref s2])), (s1, .inl (cI, 8, .inl (xN dl))), (s2, .inl (cI, 8, .inl (xN dn)))]) rfl (by decide) (by decide) (by decide) rfl (Nat.le_of_ble_eq_true rfl) dX1_isGhost_16 (fun v9 w9 hT9 => ?_)
  obtain ⟨rfl, rfl⟩ := hT9
  refine x_at (ws' := [(h0, .inr (1, [.ref p1, .ref f0, .ref s0, .int (nI R), .int (nI C), .int (bI dio)])), (p1, .inl (cI, 64, .inl (xN pos))), (f0, .inr (2, [.ref f1, .ref f2])), (f1, .inl (cI, 8, .inl (xN cl))), (f2, .inl (cI, 8, .inl (xN jn))), (s0, .inr (2, [.ref s1, .ref s2])), (s1, .inl (cI, 8, .inl (xN dl))), (s2, .inl (cI, 8, .inl (xN dn)))]) (st' := [.int (bI ((ghN dio cl jn dl dn (k / C)).testBit (k % C)))]) rfl rfl ?_
  exact x_zret hE hr (⟨rfl, rfl⟩) dX1_isGhost_19
set_option maxHeartbeats 4000000 in
set_option maxRecDepth 100000 in
theorem kX1_isDoubtful (l : Launch) (D : va_G) (cI cZ : ClassId) (h0 : Nat) (p1 : Nat) (f0 : Nat) (f1 : Nat) (f2 : Nat) (s0 : Nat) (s1 : Nat) (s2 : Nat) (pos : Nat → Nat) (cl : Nat → Nat) (jn : Nat → Nat) (dl : Nat → Nat) (dn : Nat → Nat) (R : Nat) (C : Nat) (dio : Bool) (k : Nat) (hR : 1 ≤ R ∧ R ≤ 8) (hC : 1 ≤ C ∧ C ≤ 8) (hk : k < R * C) (hcl : ∀ r, cl r < 256) (hjn : ∀ r, jn r < 256) (hdl : ∀ r, dl r < 256) (hdn : ∀ r, dn r < 256) : xC l yX1_isDoubtful wsX1_isDoubtful 1 0 0 22 D cI cZ [.ref h0, .int (nI k)] [(h0, .inr (1, [.ref p1, .ref f0, .ref s0, .int (nI R), .int (nI C), .int (bI dio)])), (p1, .inl (cI, 64, .inl (xN pos))), (f0, .inr (2, [.ref f1, .ref f2])), (f1, .inl (cI, 8, .inl (xN cl))), (f2, .inl (cI, 8, .inl (xN jn))), (s0, .inr (2, [.ref s1, .ref s2])), (s1, .inl (cI, 8, .inl (xN dl))), (s2, .inl (cI, 8, .inl (xN dn)))] (fun v8 w8 => v8 = some (.int (bI (dbN (seenN dio cl jn) R C k))) ∧ w8 = [(h0, .inr (1, [.ref p1, .ref f0, .ref s0, .int (nI R), .int (nI C), .int (bI dio)])), (p1, .inl (cI, 64, .inl (xN pos))), (f0, .inr (2, [.ref f1, .ref f2])), (f1, .inl (cI, 8, .inl (xN cl))), (f2, .inl (cI, 8, .inl (xN jn))), (s0, .inr (2, [.ref s1, .ref s2])), (s1, .inl (cI, 8, .inl (xN dl))), (s2, .inl (cI, 8, .inl (xN dn)))]) := by
  refine xC.of (bytes := cX1_isDoubtful) (maxL := 6) (ret := (some .boolean)) (own := RX1) (by decide +kernel) rfl (Nat.le_of_ble_eq_true rfl) rfl ?_
  intro p9 e9 s9 m9 args9 below9 meth9 cd9 A hE hr hin2 hA9
  have inX1 : ∀ w ∈ wsX10, w ∈ wsX1_isDoubtful := fun w h => List.mem_cons_of_mem _ (List.mem_append_left _ (List.mem_append_right _ h))
  have g25 : xF RX1 wsX1_isDoubtful 25 1 3 := ⟨"KeyScanner$Matrix", RX1, TX1, 6, inX1, rfl, by decide, List.mem_of_getElem? (i := 2) rfl, rfl⟩
  have g18 : xF RX1 wsX1_isDoubtful 18 1 1 := ⟨"KeyScanner$Matrix", RX1, TX1, 6, inX1, rfl, by decide, List.mem_of_getElem? (i := 3) rfl, rfl⟩
  have g29 : xF RX1 wsX1_isDoubtful 29 1 4 := ⟨"KeyScanner$Matrix", RX1, TX1, 6, inX1, rfl, by decide, List.mem_of_getElem? (i := 1) rfl, rfl⟩
  have hRC : R * C ≤ 64 := Nat.mul_le_mul hR.2 hC.2
  have hkq : k / C < R := Nat.div_lt_of_lt_mul (by rw [Nat.mul_comm]; exact hk)
  have hkm : k % C < C := Nat.mod_lt _ (by omega)
  have hb9 : 1 <<< (k % C) < 256 := shl256 (by omega)
  refine x_at (ws' := [(h0, .inr (1, [.ref p1, .ref f0, .ref s0, .int (nI R), .int (nI C), .int (bI dio)])), (p1, .inl (cI, 64, .inl (xN pos))), (f0, .inr (2, [.ref f1, .ref f2])), (f1, .inl (cI, 8, .inl (xN cl))), (f2, .inl (cI, 8, .inl (xN jn))), (s0, .inr (2, [.ref s1, .ref s2])), (s1, .inl (cI, 8, .inl (xN dl))), (s2, .inl (cI, 8, .inl (xN dn)))]) (st' := []) rfl rfl ?_
  refine x_lv [(0, .ref h0), (1, .int (nI k))] [0, 1] rfl ?_
  have lp19 : ∀ (n : Nat) (i : Nat) (hi : i + n = R) (hT : lany (dbS (seenN dio cl jn) (k / C) (1 <<< (k % C))) i n = dbN (seenN dio cl jn) R C k), X p9 l e9 { frames := 1, cells := 0, slots := 0, locals := 22 } s9 m9 args9 below9 meth9 cd9 0 0 (MQ below9 (xQ D (fun v8 w8 => v8 = some (.int (bI (dbN (seenN dio cl jn) R C k))) ∧ w8 = [(h0, .inr (1, [.ref p1, .ref f0, .ref s0, .int (nI R), .int (nI C), .int (bI dio)])), (p1, .inl (cI, 64, .inl (xN pos))), (f0, .inr (2, [.ref f1, .ref f2])), (f1, .inl (cI, 8, .inl (xN cl))), (f2, .inl (cI, 8, .inl (xN jn))), (s0, .inr (2, [.ref s1, .ref s2])), (s1, .inl (cI, 8, .inl (xN dl))), (s2, .inl (cI, 8, .inl (xN dn)))]) A) args9 s9 0 0 A) 6 D A [(h0, .inr (1, [.ref p1, .ref f0, .ref s0, .int (nI R), .int (nI C), .int (bI dio)])), (p1, .inl (cI, 64, .inl (xN pos))), (f0, .inr (2, [.ref f1, .ref f2])), (f1, .inl (cI, 8, .inl (xN cl))), (f2, .inl (cI, 8, .inl (xN jn))), (s0, .inr (2, [.ref s1, .ref s2])), (s1, .inl (cI, 8, .inl (xN dl))), (s2, .inl (cI, 8, .inl (xN dn)))] [(0, .ref h0), (1, .int (nI k)), (2, .int (nI (k / C))), (3, .int (nI (1 <<< (k % C)))), (4, .int (nI i))] 19 [] := by
    intro n
    induction n with
    | zero =>
      intro i hi hT
      refine x_iload hE 4 rfl dX1_isDoubtful_19 ?_
      refine x_aload_n hE 0 rfl dX1_isDoubtful_21 ?_
      refine x_get hE g25 0 rfl rfl dX1_isDoubtful_22 ?_
      refine xn_icmp_ge hE (by omega) (by omega) 77 (by decide) dX1_isDoubtful_25 (fun c25 => ?_) (fun c25 => ?_)
      · skip
        refine x_iconst hE (nI 0) (by decide) dX1_isDoubtful_77 ?_
        refine x_eq (bI false) rfl ?_
        exact x_zret hE hr (⟨by rw [show false = dbN (seenN dio cl jn) R C k from hT], rfl⟩) dX1_isDoubtful_78
      · skip
        exfalso; omega
    | succ n ih =>
      intro i hi hT
      refine x_iload hE 4 rfl dX1_isDoubtful_19 ?_
      refine x_aload_n hE 0 rfl dX1_isDoubtful_21 ?_
      refine x_get hE g25 0 rfl rfl dX1_isDoubtful_22 ?_
      refine xn_icmp_ge hE (by omega) (by omega) 77 (by decide) dX1_isDoubtful_25 (fun c25 => ?_) (fun c25 => ?_)
      · skip
        exfalso; omega
      · skip
        refine x_aload_n hE 0 rfl dX1_isDoubtful_28 ?_
        refine x_aload_n hE 0 rfl dX1_isDoubtful_29 ?_
        refine x_get hE g18 0 rfl rfl dX1_isDoubtful_30 ?_
        refine x_iload_n hE 2 rfl dX1_isDoubtful_33 ?_
        refine x_callV (n := 2) (st := []) hE (kX1_seen l D cI cZ h0 p1 f0 s0 f0 f1 f2 cl jn R C dio (k / C) (by omega)) gX1_isDoubtful_X1_seen rfl (by decide +kernel) ⟨by decide, by decide⟩ ⟨Nat.zero_le _, Nat.zero_le _⟩ rfl [0, 2, 3, 4] [1, 5, 6, 7] rfl (wr := [(p1, .inl (cI, 64, .inl (xN pos))), (s0, .inr (2, [.ref s1, .ref s2])), (s1, .inl (cI, 8, .inl (xN dl))), (s2, .inl (cI, 8, .inl (xN dn)))]) rfl (by decide) (by decide) (by decide) 0 rfl rfl rfl rfl (Nat.le_of_ble_eq_true rfl) dX1_isDoubtful_34 (fun v9 w9 hT9 => ?_)
        obtain ⟨rfl, rfl⟩ := hT9
        refine x_at (ws' := [(p1, .inl (cI, 64, .inl (xN pos))), (s0, .inr (2, [.ref s1, .ref s2])), (s1, .inl (cI, 8, .inl (xN dl))), (s2, .inl (cI, 8, .inl (xN dn))), (h0, .inr (1, [.ref p1, .ref f0, .ref s0, .int (nI R), .int (nI C), .int (bI dio)])), (f0, .inr (2, [.ref f1, .ref f2])), (f1, .inl (cI, 8, .inl (xN cl))), (f2, .inl (cI, 8, .inl (xN jn)))]) (st' := [.int (nI (seenN dio cl jn (k / C)))]) rfl rfl ?_
        refine x_sub [(h0, .inr (1, [.ref p1, .ref f0, .ref s0, .int (nI R), .int (nI C), .int (bI dio)])), (p1, .inl (cI, 64, .inl (xN pos))), (f0, .inr (2, [.ref f1, .ref f2])), (f1, .inl (cI, 8, .inl (xN cl))), (f2, .inl (cI, 8, .inl (xN jn))), (s0, .inr (2, [.ref s1, .ref s2])), (s1, .inl (cI, 8, .inl (xN dl))), (s2, .inl (cI, 8, .inl (xN dn)))] [4, 0, 5, 6, 7, 1, 2, 3] (by decide) rfl ?_
        refine x_aload_n hE 0 rfl dX1_isDoubtful_37 ?_
        refine x_aload_n hE 0 rfl dX1_isDoubtful_38 ?_
        refine x_get hE g18 0 rfl rfl dX1_isDoubtful_39 ?_
        refine x_iload hE 4 rfl dX1_isDoubtful_42 ?_
        refine x_callV (n := 2) (st := [.int (nI (seenN dio cl jn (k / C)))]) hE (kX1_seen l D cI cZ h0 p1 f0 s0 f0 f1 f2 cl jn R C dio i (by omega)) gX1_isDoubtful_X1_seen rfl (by decide +kernel) ⟨by decide, by decide⟩ ⟨Nat.zero_le _, Nat.zero_le _⟩ rfl [0, 2, 3, 4] [1, 5, 6, 7] rfl (wr := [(p1, .inl (cI, 64, .inl (xN pos))), (s0, .inr (2, [.ref s1, .ref s2])), (s1, .inl (cI, 8, .inl (xN dl))), (s2, .inl (cI, 8, .inl (xN dn)))]) rfl (by decide) (by decide) (by decide) 0 rfl rfl rfl rfl (Nat.le_of_ble_eq_true rfl) dX1_isDoubtful_44 (fun v9 w9 hT9 => ?_)
        obtain ⟨rfl, rfl⟩ := hT9
        refine x_at (ws' := [(p1, .inl (cI, 64, .inl (xN pos))), (s0, .inr (2, [.ref s1, .ref s2])), (s1, .inl (cI, 8, .inl (xN dl))), (s2, .inl (cI, 8, .inl (xN dn))), (h0, .inr (1, [.ref p1, .ref f0, .ref s0, .int (nI R), .int (nI C), .int (bI dio)])), (f0, .inr (2, [.ref f1, .ref f2])), (f1, .inl (cI, 8, .inl (xN cl))), (f2, .inl (cI, 8, .inl (xN jn)))]) (st' := [.int (nI (seenN dio cl jn i)), .int (nI (seenN dio cl jn (k / C)))]) rfl rfl ?_
        refine x_sub [(h0, .inr (1, [.ref p1, .ref f0, .ref s0, .int (nI R), .int (nI C), .int (bI dio)])), (p1, .inl (cI, 64, .inl (xN pos))), (f0, .inr (2, [.ref f1, .ref f2])), (f1, .inl (cI, 8, .inl (xN cl))), (f2, .inl (cI, 8, .inl (xN jn))), (s0, .inr (2, [.ref s1, .ref s2])), (s1, .inl (cI, 8, .inl (xN dl))), (s2, .inl (cI, 8, .inl (xN dn)))] [4, 0, 5, 6, 7, 1, 2, 3] (by decide) rfl ?_
        refine x_iand hE (nI ((seenN dio cl jn (k / C)) &&& (seenN dio cl jn i))) (fa_and _ _) dX1_isDoubtful_47 ?_
        refine x_istore hE [(5, .int (nI ((seenN dio cl jn (k / C)) &&& (seenN dio cl jn i)))), (0, .ref h0), (1, .int (nI k)), (2, .int (nI (k / C))), (3, .int (nI (1 <<< (k % C)))), (4, .int (nI i))] (by decide) rfl dX1_isDoubtful_48 ?_
        have hs50 : seenN dio cl jn (k / C) &&& seenN dio cl jn i < 256 := and256 (seenN_lt hcl hjn _)
        refine x_iload hE 5 rfl dX1_isDoubtful_50 ?_
        refine x_iload_n hE 3 rfl dX1_isDoubtful_52 ?_
        refine xn_icmp_eq hE (by omega) (by omega) 71 (by decide) dX1_isDoubtful_53 (fun c53 => ?_) (fun c53 => ?_)
        · skip
          refine x_iinc hE (nI (i + 1)) [(4, .int (nI (i + 1))), (5, .int (nI ((seenN dio cl jn (k / C)) &&& (seenN dio cl jn i)))), (0, .ref h0), (1, .int (nI k)), (2, .int (nI (k / C))), (3, .int (nI (1 <<< (k % C))))] 5 rfl (nI_add _ _) (by decide) rfl dX1_isDoubtful_71 ?_
          refine x_goto hE 19 (by decide) dX1_isDoubtful_74 ?_
          refine x_lv [(0, .ref h0), (1, .int (nI k)), (2, .int (nI (k / C))), (3, .int (nI (1 <<< (k % C)))), (4, .int (nI (i + 1)))] [2, 3, 4, 5, 0] rfl ?_
          exact ih (i + 1) (by omega) (by simpa only [lfor, lany, lfind, dbS, if_pos c25, if_pos c53, reduceIte, Bool.false_eq_true, Bool.true_eq_false] using hT)
        · skip
          refine x_iload hE 0 rfl dX1_isDoubtful_56 ?_
          refine x_iload_n hE 4 rfl dX1_isDoubtful_58 ?_
          have hs59 : (seenN dio cl jn (k / C) &&& seenN dio cl jn i) &&& 1 <<< (k % C) < 256 := and256 hs50
          refine x_iand hE (nI (((seenN dio cl jn (k / C)) &&& (seenN dio cl jn i)) &&& (1 <<< (k % C)))) (fa_and _ _) dX1_isDoubtful_59 ?_
          refine xn_if_eq hE (by omega) 71 (by decide) dX1_isDoubtful_60 (fun c60 => ?_) (fun c60 => ?_)
          · skip
            refine x_iinc hE (nI (i + 1)) [(4, .int (nI (i + 1))), (5, .int (nI ((seenN dio cl jn (k / C)) &&& (seenN dio cl jn i)))), (0, .ref h0), (1, .int (nI k)), (2, .int (nI (k / C))), (3, .int (nI (1 <<< (k % C))))] 5 rfl (nI_add _ _) (by decide) rfl dX1_isDoubtful_71 ?_
            refine x_goto hE 19 (by decide) dX1_isDoubtful_74 ?_
            refine x_lv [(0, .ref h0), (1, .int (nI k)), (2, .int (nI (k / C))), (3, .int (nI (1 <<< (k % C)))), (4, .int (nI (i + 1)))] [2, 3, 4, 5, 0] rfl ?_
            exact ih (i + 1) (by omega) (by simpa only [lfor, lany, lfind, dbS, if_pos c25, if_neg c53, if_pos c60, reduceIte, Bool.false_eq_true, Bool.true_eq_false] using hT)
          · skip
            refine x_iload hE 0 rfl dX1_isDoubtful_63 ?_
            refine x_iload_n hE 4 rfl dX1_isDoubtful_65 ?_
            refine xn_icmp_eq hE (by omega) (by omega) 71 (by decide) dX1_isDoubtful_66 (fun c66 => ?_) (fun c66 => ?_)
            · skip
              refine x_iinc hE (nI (i + 1)) [(4, .int (nI (i + 1))), (5, .int (nI ((seenN dio cl jn (k / C)) &&& (seenN dio cl jn i)))), (0, .ref h0), (1, .int (nI k)), (2, .int (nI (k / C))), (3, .int (nI (1 <<< (k % C))))] 5 rfl (nI_add _ _) (by decide) rfl dX1_isDoubtful_71 ?_
              refine x_goto hE 19 (by decide) dX1_isDoubtful_74 ?_
              refine x_lv [(0, .ref h0), (1, .int (nI k)), (2, .int (nI (k / C))), (3, .int (nI (1 <<< (k % C)))), (4, .int (nI (i + 1)))] [2, 3, 4, 5, 0] rfl ?_
              exact ih (i + 1) (by omega) (by simpa only [lfor, lany, lfind, dbS, if_pos c25, if_neg c53, if_neg c60, if_pos c66, reduceIte, Bool.false_eq_true, Bool.true_eq_false] using hT)
            · skip
              refine x_iconst hE (nI 1) (by decide) dX1_isDoubtful_69 ?_
              refine x_eq (bI true) rfl ?_
              exact x_zret hE hr (⟨by rw [show true = dbN (seenN dio cl jn) R C k from by simpa only [lany, dbS, if_pos c25, if_neg c53, if_neg c60, if_neg c66, reduceIte, Bool.false_eq_true, Bool.true_eq_false] using hT], rfl⟩) dX1_isDoubtful_70
  refine x_iload_n hE 1 rfl dX1_isDoubtful_0 ?_
  refine x_aload_n hE 0 rfl dX1_isDoubtful_1 ?_
  refine x_get hE g29 0 rfl rfl dX1_isDoubtful_2 ?_
  refine x_idiv hE (nI (k / C)) (nI_ne0 (by omega) (by omega)) (xI_div (by omega) (by omega) (by omega)) dX1_isDoubtful_5 ?_
  refine x_istore_n hE [(2, .int (nI (k / C))), (0, .ref h0), (1, .int (nI k))] (by decide) rfl dX1_isDoubtful_6 ?_
  refine x_iconst hE (nI 1) (by decide) dX1_isDoubtful_7 ?_
  refine x_iload_n hE 2 rfl dX1_isDoubtful_8 ?_
  refine x_aload_n hE 1 rfl dX1_isDoubtful_9 ?_
  refine x_get hE g29 0 rfl rfl dX1_isDoubtful_10 ?_
  refine x_irem hE (nI (k % C)) (nI_ne0 (by omega) (by omega)) (xI_rem (by omega) (by omega) (by omega)) dX1_isDoubtful_13 ?_
  refine x_ishl hE (nI (1 <<< (k % C))) (xI_shl (by omega)) dX1_isDoubtful_14 ?_
  refine x_istore_n hE [(3, .int (nI (1 <<< (k % C)))), (2, .int (nI (k / C))), (0, .ref h0), (1, .int (nI k))] (by decide) rfl dX1_isDoubtful_15 ?_
  refine x_iconst hE (nI 0) (by decide) dX1_isDoubtful_16 ?_
  refine x_istore hE [(4, .int (nI 0)), (3, .int (nI (1 <<< (k % C)))), (2, .int (nI (k / C))), (0, .ref h0), (1, .int (nI k))] (by decide) rfl dX1_isDoubtful_17 ?_
  refine x_lv [(0, .ref h0), (1, .int (nI k)), (2, .int (nI (k / C))), (3, .int (nI (1 <<< (k % C)))), (4, .int (nI 0))] [3, 4, 2, 1, 0] rfl ?_
  exact lp19 R 0 (Nat.zero_add _) (rfl)
set_option maxHeartbeats 4000000 in
set_option maxRecDepth 100000 in
theorem kX1_doubtful (l : Launch) (D : va_G) (cI cZ : ClassId) (h0 : Nat) (p1 : Nat) (f0 : Nat) (f1 : Nat) (f2 : Nat) (s0 : Nat) (s1 : Nat) (s2 : Nat) (pos : Nat → Nat) (cl : Nat → Nat) (jn : Nat → Nat) (dl : Nat → Nat) (dn : Nat → Nat) (R : Nat) (C : Nat) (dio : Bool) (hR : 1 ≤ R ∧ R ≤ 8) (hC : 1 ≤ C ∧ C ≤ 8) (hcl : ∀ r, cl r < 256) (hjn : ∀ r, jn r < 256) (hdl : ∀ r, dl r < 256) (hdn : ∀ r, dn r < 256) : xC l yX1_doubtful wsX1_doubtful 2 0 0 47 D cI cZ [.ref h0] [(h0, .inr (1, [.ref p1, .ref f0, .ref s0, .int (nI R), .int (nI C), .int (bI dio)])), (p1, .inl (cI, 64, .inl (xN pos))), (f0, .inr (2, [.ref f1, .ref f2])), (f1, .inl (cI, 8, .inl (xN cl))), (f2, .inl (cI, 8, .inl (xN jn))), (s0, .inr (2, [.ref s1, .ref s2])), (s1, .inl (cI, 8, .inl (xN dl))), (s2, .inl (cI, 8, .inl (xN dn)))] (fun v8 w8 => v8 = some (.int (nI (dcN (seenN dio cl jn) R C))) ∧ w8 = [(h0, .inr (1, [.ref p1, .ref f0, .ref s0, .int (nI R), .int (nI C), .int (bI dio)])), (p1, .inl (cI, 64, .inl (xN pos))), (f0, .inr (2, [.ref f1, .ref f2])), (f1, .inl (cI, 8, .inl (xN cl))), (f2, .inl (cI, 8, .inl (xN jn))), (s0, .inr (2, [.ref s1, .ref s2])), (s1, .inl (cI, 8, .inl (xN dl))), (s2, .inl (cI, 8, .inl (xN dn)))]) := by
  refine xC.of (bytes := cX1_doubtful) (maxL := 3) (ret := (some .int)) (own := RX1) (by decide +kernel) rfl (Nat.le_of_ble_eq_true rfl) rfl ?_
  intro p9 e9 s9 m9 args9 below9 meth9 cd9 A hE hr hin2 hA9
  have hRC : R * C ≤ 64 := Nat.mul_le_mul hR.2 hC.2
  have hRC1 : 1 ≤ R * C := Nat.mul_le_mul hR.1 hC.1
  refine x_at (ws' := [(h0, .inr (1, [.ref p1, .ref f0, .ref s0, .int (nI R), .int (nI C), .int (bI dio)])), (p1, .inl (cI, 64, .inl (xN pos))), (f0, .inr (2, [.ref f1, .ref f2])), (f1, .inl (cI, 8, .inl (xN cl))), (f2, .inl (cI, 8, .inl (xN jn))), (s0, .inr (2, [.ref s1, .ref s2])), (s1, .inl (cI, 8, .inl (xN dl))), (s2, .inl (cI, 8, .inl (xN dn)))]) (st' := []) rfl rfl ?_
  refine x_lv [(0, .ref h0)] [0] rfl ?_
  have lp4 : ∀ (n : Nat) (i : Nat) (u : Nat) (hi : i + n = R * C) (hT : lfor (fun k a => a + b2n (dbN (seenN dio cl jn) R C k)) i n u = dcN (seenN dio cl jn) R C), X p9 l e9 { frames := 2, cells := 0, slots := 0, locals := 47 } s9 m9 args9 below9 meth9 cd9 0 0 (MQ below9 (xQ D (fun v8 w8 => v8 = some (.int (nI (dcN (seenN dio cl jn) R C))) ∧ w8 = [(h0, .inr (1, [.ref p1, .ref f0, .ref s0, .int (nI R), .int (nI C), .int (bI dio)])), (p1, .inl (cI, 64, .inl (xN pos))), (f0, .inr (2, [.ref f1, .ref f2])), (f1, .inl (cI, 8, .inl (xN cl))), (f2, .inl (cI, 8, .inl (xN jn))), (s0, .inr (2, [.ref s1, .ref s2])), (s1, .inl (cI, 8, .inl (xN dl))), (s2, .inl (cI, 8, .inl (xN dn)))]) A) args9 s9 0 0 A) 3 D A [(h0, .inr (1, [.ref p1, .ref f0, .ref s0, .int (nI R), .int (nI C), .int (bI dio)])), (p1, .inl (cI, 64, .inl (xN pos))), (f0, .inr (2, [.ref f1, .ref f2])), (f1, .inl (cI, 8, .inl (xN cl))), (f2, .inl (cI, 8, .inl (xN jn))), (s0, .inr (2, [.ref s1, .ref s2])), (s1, .inl (cI, 8, .inl (xN dl))), (s2, .inl (cI, 8, .inl (xN dn)))] [(0, .ref h0), (1, .int (nI u)), (2, .int (nI i))] 4 [] := by
    intro n
    induction n with
    | zero =>
      intro i u hi hT
      refine x_iload_n hE 2 rfl dX1_doubtful_4 ?_
      refine x_aload_n hE 0 rfl dX1_doubtful_5 ?_
      refine x_callV (n := 0) (st := [.int (nI i)]) hE (kX1_size l D cI cZ h0 p1 f0 f1 f2 s0 s1 s2 pos cl jn dl dn R C dio ) gX1_doubtful_X1_size rfl (by decide +kernel) ⟨by decide, by decide⟩ ⟨Nat.zero_le _, Nat.zero_le _⟩ rfl [0, 1, 2, 3, 4, 5, 6, 7] [] rfl (wr := []) rfl (by decide) (by decide) (by decide) 0 rfl rfl rfl rfl (Nat.le_of_ble_eq_true rfl) dX1_doubtful_6 (fun v9 w9 hT9 => ?_)
      obtain ⟨rfl, rfl⟩ := hT9
      refine x_at (ws' := [(h0, .inr (1, [.ref p1, .ref f0, .ref s0, .int (nI R), .int (nI C), .int (bI dio)])), (p1, .inl (cI, 64, .inl (xN pos))), (f0, .inr (2, [.ref f1, .ref f2])), (f1, .inl (cI, 8, .inl (xN cl))), (f2, .inl (cI, 8, .inl (xN jn))), (s0, .inr (2, [.ref s1, .ref s2])), (s1, .inl (cI, 8, .inl (xN dl))), (s2, .inl (cI, 8, .inl (xN dn)))]) (st' := [.int (nI (R * C)), .int (nI i)]) rfl rfl ?_
      refine xn_icmp_ge hE (by omega) (by omega) 29 (by decide) dX1_doubtful_9 (fun c9 => ?_) (fun c9 => ?_)
      · skip
        refine x_iload_n hE 1 rfl dX1_doubtful_29 ?_
        exact x_iret hE hr (⟨by rw [show u = dcN (seenN dio cl jn) R C from hT], rfl⟩) dX1_doubtful_30
      · skip
        exfalso; omega
    | succ n ih =>
      intro i u hi hT
      refine x_iload_n hE 2 rfl dX1_doubtful_4 ?_
      refine x_aload_n hE 0 rfl dX1_doubtful_5 ?_
      refine x_callV (n := 0) (st := [.int (nI i)]) hE (kX1_size l D cI cZ h0 p1 f0 f1 f2 s0 s1 s2 pos cl jn dl dn R C dio ) gX1_doubtful_X1_size rfl (by decide +kernel) ⟨by decide, by decide⟩ ⟨Nat.zero_le _, Nat.zero_le _⟩ rfl [0, 1, 2, 3, 4, 5, 6, 7] [] rfl (wr := []) rfl (by decide) (by decide) (by decide) 0 rfl rfl rfl rfl (Nat.le_of_ble_eq_true rfl) dX1_doubtful_6 (fun v9 w9 hT9 => ?_)
      obtain ⟨rfl, rfl⟩ := hT9
      refine x_at (ws' := [(h0, .inr (1, [.ref p1, .ref f0, .ref s0, .int (nI R), .int (nI C), .int (bI dio)])), (p1, .inl (cI, 64, .inl (xN pos))), (f0, .inr (2, [.ref f1, .ref f2])), (f1, .inl (cI, 8, .inl (xN cl))), (f2, .inl (cI, 8, .inl (xN jn))), (s0, .inr (2, [.ref s1, .ref s2])), (s1, .inl (cI, 8, .inl (xN dl))), (s2, .inl (cI, 8, .inl (xN dn)))]) (st' := [.int (nI (R * C)), .int (nI i)]) rfl rfl ?_
      refine xn_icmp_ge hE (by omega) (by omega) 29 (by decide) dX1_doubtful_9 (fun c9 => ?_) (fun c9 => ?_)
      · skip
        exfalso; omega
      · skip
        refine x_iload_n hE 1 rfl dX1_doubtful_12 ?_
        refine x_aload_n hE 0 rfl dX1_doubtful_13 ?_
        refine x_iload_n hE 2 rfl dX1_doubtful_14 ?_
        refine x_callV (n := 1) (st := [.int (nI u)]) hE (kX1_isDoubtful l D cI cZ h0 p1 f0 f1 f2 s0 s1 s2 pos cl jn dl dn R C dio i (by omega) (by omega) (by omega) (by assumption) (by assumption) (by assumption) (by assumption)) gX1_doubtful_X1_isDoubtful rfl (by decide +kernel) ⟨by decide, by decide⟩ ⟨Nat.zero_le _, Nat.zero_le _⟩ rfl [0, 1, 2, 3, 4, 5, 6, 7] [] rfl (wr := []) rfl (by decide) (by decide) (by decide) 0 rfl rfl rfl rfl (Nat.le_of_ble_eq_true rfl) dX1_doubtful_15 (fun v9 w9 hT9 => ?_)
        obtain ⟨rfl, rfl⟩ := hT9
        refine x_at (ws' := [(h0, .inr (1, [.ref p1, .ref f0, .ref s0, .int (nI R), .int (nI C), .int (bI dio)])), (p1, .inl (cI, 64, .inl (xN pos))), (f0, .inr (2, [.ref f1, .ref f2])), (f1, .inl (cI, 8, .inl (xN cl))), (f2, .inl (cI, 8, .inl (xN jn))), (s0, .inr (2, [.ref s1, .ref s2])), (s1, .inl (cI, 8, .inl (xN dl))), (s2, .inl (cI, 8, .inl (xN dn)))]) (st' := [.int (bI (dbN (seenN dio cl jn) R C i)), .int (nI u)]) rfl rfl ?_
        refine x_callSN (n := 1) (st := [.int (nI u)]) hE "KeyScanner" (kX4_one l D cI cZ (dbN (seenN dio cl jn) R C i) ) gX1_doubtful_X4_one_n50 rfl (by decide +kernel) (List.mem_of_getElem? (i := 21) rfl) (List.mem_of_getElem? (i := 20) rfl) (by decide +kernel) ⟨by decide, by decide⟩ ⟨Nat.zero_le _, Nat.zero_le _⟩ rfl [] [0, 1, 2, 3, 4, 5, 6, 7] rfl (wr := [(h0, .inr (1, [.ref p1, .ref f0, .ref s0, .int (nI R), .int (nI C), .int (bI dio)])), (p1, .inl (cI, 64, .inl (xN pos))), (f0, .inr (2, [.ref f1, .ref f2])), (f1, .inl (cI, 8, .inl (xN cl))), (f2, .inl (cI, 8, .inl (xN jn))), (s0, .inr (2, [.ref s1, .ref s2])), (s1, .inl (cI, 8, .inl (xN dl))), (s2, .inl (cI, 8, .inl (xN dn)))]) rfl (by decide) (by decide) (by decide) rfl (Nat.le_of_ble_eq_true rfl) dX1_doubtful_18 (fun v9 w9 hT9 => ?_)
        obtain ⟨rfl, rfl⟩ := hT9
        refine x_at (ws' := [(h0, .inr (1, [.ref p1, .ref f0, .ref s0, .int (nI R), .int (nI C), .int (bI dio)])), (p1, .inl (cI, 64, .inl (xN pos))), (f0, .inr (2, [.ref f1, .ref f2])), (f1, .inl (cI, 8, .inl (xN cl))), (f2, .inl (cI, 8, .inl (xN jn))), (s0, .inr (2, [.ref s1, .ref s2])), (s1, .inl (cI, 8, .inl (xN dl))), (s2, .inl (cI, 8, .inl (xN dn)))]) (st' := [.int (nI (b2n (dbN (seenN dio cl jn) R C i))), .int (nI u)]) rfl rfl ?_
        refine x_iadd hE (nI (u + (b2n (dbN (seenN dio cl jn) R C i)))) (nI_add _ _) dX1_doubtful_21 ?_
        refine x_istore_n hE [(1, .int (nI (u + (b2n (dbN (seenN dio cl jn) R C i))))), (0, .ref h0), (2, .int (nI i))] (by decide) rfl dX1_doubtful_22 ?_
        refine x_iinc hE (nI (i + 1)) [(2, .int (nI (i + 1))), (1, .int (nI (u + (b2n (dbN (seenN dio cl jn) R C i))))), (0, .ref h0)] 2 rfl (nI_add _ _) (by decide) rfl dX1_doubtful_23 ?_
        refine x_goto hE 4 (by decide) dX1_doubtful_26 ?_
        refine x_lv [(0, .ref h0), (1, .int (nI (u + (b2n (dbN (seenN dio cl jn) R C i))))), (2, .int (nI (i + 1)))] [2, 1, 0] rfl ?_
        exact ih (i + 1) (u + (b2n (dbN (seenN dio cl jn) R C i))) (by omega) (hT)
  refine x_iconst hE (nI 0) (by decide) dX1_doubtful_0 ?_
  refine x_istore_n hE [(1, .int (nI 0)), (0, .ref h0)] (by decide) rfl dX1_doubtful_1 ?_
  refine x_iconst hE (nI 0) (by decide) dX1_doubtful_2 ?_
  refine x_istore_n hE [(2, .int (nI 0)), (1, .int (nI 0)), (0, .ref h0)] (by decide) rfl dX1_doubtful_3 ?_
  refine x_lv [(0, .ref h0), (1, .int (nI 0)), (2, .int (nI 0))] [2, 1, 0] rfl ?_
  exact lp4 (R * C) 0 0 (Nat.zero_add _) (rfl)
set_option maxHeartbeats 4000000 in
set_option maxRecDepth 100000 in
theorem kX1_ghosts (l : Launch) (D : va_G) (cI cZ : ClassId) (h0 : Nat) (p1 : Nat) (f0 : Nat) (f1 : Nat) (f2 : Nat) (s0 : Nat) (s1 : Nat) (s2 : Nat) (pos : Nat → Nat) (cl : Nat → Nat) (jn : Nat → Nat) (dl : Nat → Nat) (dn : Nat → Nat) (R : Nat) (C : Nat) (dio : Bool) (hR : 1 ≤ R ∧ R ≤ 8) (hC : 1 ≤ C ∧ C ≤ 8) (hcl : ∀ r, cl r < 256) (hjn : ∀ r, jn r < 256) (hdl : ∀ r, dl r < 256) (hdn : ∀ r, dn r < 256) : xC l yX1_ghosts wsX1_ghosts 2 0 0 43 D cI cZ [.ref h0] [(h0, .inr (1, [.ref p1, .ref f0, .ref s0, .int (nI R), .int (nI C), .int (bI dio)])), (p1, .inl (cI, 64, .inl (xN pos))), (f0, .inr (2, [.ref f1, .ref f2])), (f1, .inl (cI, 8, .inl (xN cl))), (f2, .inl (cI, 8, .inl (xN jn))), (s0, .inr (2, [.ref s1, .ref s2])), (s1, .inl (cI, 8, .inl (xN dl))), (s2, .inl (cI, 8, .inl (xN dn)))] (fun v8 w8 => v8 = some (.int (nI (gcN dio cl jn dl dn R))) ∧ w8 = [(h0, .inr (1, [.ref p1, .ref f0, .ref s0, .int (nI R), .int (nI C), .int (bI dio)])), (p1, .inl (cI, 64, .inl (xN pos))), (f0, .inr (2, [.ref f1, .ref f2])), (f1, .inl (cI, 8, .inl (xN cl))), (f2, .inl (cI, 8, .inl (xN jn))), (s0, .inr (2, [.ref s1, .ref s2])), (s1, .inl (cI, 8, .inl (xN dl))), (s2, .inl (cI, 8, .inl (xN dn)))]) := by
  refine xC.of (bytes := cX1_ghosts) (maxL := 3) (ret := (some .int)) (own := RX1) (by decide +kernel) rfl (Nat.le_of_ble_eq_true rfl) rfl ?_
  intro p9 e9 s9 m9 args9 below9 meth9 cd9 A hE hr hin2 hA9
  have inX1 : ∀ w ∈ wsX10, w ∈ wsX1_ghosts := fun w h => List.mem_cons_of_mem _ (List.mem_append_left _ (List.mem_append_right _ h))
  have g25 : xF RX1 wsX1_ghosts 25 1 3 := ⟨"KeyScanner$Matrix", RX1, TX1, 6, inX1, rfl, by decide, List.mem_of_getElem? (i := 1) rfl, rfl⟩
  have hRC : R * C ≤ 64 := Nat.mul_le_mul hR.2 hC.2
  have hRC1 : 1 ≤ R * C := Nat.mul_le_mul hR.1 hC.1
  refine x_at (ws' := [(h0, .inr (1, [.ref p1, .ref f0, .ref s0, .int (nI R), .int (nI C), .int (bI dio)])), (p1, .inl (cI, 64, .inl (xN pos))), (f0, .inr (2, [.ref f1, .ref f2])), (f1, .inl (cI, 8, .inl (xN cl))), (f2, .inl (cI, 8, .inl (xN jn))), (s0, .inr (2, [.ref s1, .ref s2])), (s1, .inl (cI, 8, .inl (xN dl))), (s2, .inl (cI, 8, .inl (xN dn)))]) (st' := []) rfl rfl ?_
  refine x_lv [(0, .ref h0)] [0] rfl ?_
  have lp4 : ∀ (n : Nat) (i : Nat) (u : Nat) (hi : i + n = R) (hT : lfor (fun r a => a + pop8 (ghN dio cl jn dl dn r)) i n u = gcN dio cl jn dl dn R), X p9 l e9 { frames := 2, cells := 0, slots := 0, locals := 43 } s9 m9 args9 below9 meth9 cd9 0 0 (MQ below9 (xQ D (fun v8 w8 => v8 = some (.int (nI (gcN dio cl jn dl dn R))) ∧ w8 = [(h0, .inr (1, [.ref p1, .ref f0, .ref s0, .int (nI R), .int (nI C), .int (bI dio)])), (p1, .inl (cI, 64, .inl (xN pos))), (f0, .inr (2, [.ref f1, .ref f2])), (f1, .inl (cI, 8, .inl (xN cl))), (f2, .inl (cI, 8, .inl (xN jn))), (s0, .inr (2, [.ref s1, .ref s2])), (s1, .inl (cI, 8, .inl (xN dl))), (s2, .inl (cI, 8, .inl (xN dn)))]) A) args9 s9 0 0 A) 3 D A [(h0, .inr (1, [.ref p1, .ref f0, .ref s0, .int (nI R), .int (nI C), .int (bI dio)])), (p1, .inl (cI, 64, .inl (xN pos))), (f0, .inr (2, [.ref f1, .ref f2])), (f1, .inl (cI, 8, .inl (xN cl))), (f2, .inl (cI, 8, .inl (xN jn))), (s0, .inr (2, [.ref s1, .ref s2])), (s1, .inl (cI, 8, .inl (xN dl))), (s2, .inl (cI, 8, .inl (xN dn)))] [(0, .ref h0), (1, .int (nI u)), (2, .int (nI i))] 4 [] := by
    intro n
    induction n with
    | zero =>
      intro i u hi hT
      refine x_iload_n hE 2 rfl dX1_ghosts_4 ?_
      refine x_aload_n hE 0 rfl dX1_ghosts_5 ?_
      refine x_get hE g25 0 rfl rfl dX1_ghosts_6 ?_
      refine xn_icmp_ge hE (by omega) (by omega) 29 (by decide) dX1_ghosts_9 (fun c9 => ?_) (fun c9 => ?_)
      · skip
        refine x_iload_n hE 1 rfl dX1_ghosts_29 ?_
        exact x_iret hE hr (⟨by rw [show u = gcN dio cl jn dl dn R from hT], rfl⟩) dX1_ghosts_30
      · skip
        exfalso; omega
    | succ n ih =>
      intro i u hi hT
      refine x_iload_n hE 2 rfl dX1_ghosts_4 ?_
      refine x_aload_n hE 0 rfl dX1_ghosts_5 ?_
      refine x_get hE g25 0 rfl rfl dX1_ghosts_6 ?_
      refine xn_icmp_ge hE (by omega) (by omega) 29 (by decide) dX1_ghosts_9 (fun c9 => ?_) (fun c9 => ?_)
      · skip
        exfalso; omega
      · skip
        refine x_iload_n hE 1 rfl dX1_ghosts_12 ?_
        refine x_aload_n hE 0 rfl dX1_ghosts_13 ?_
        refine x_iload_n hE 2 rfl dX1_ghosts_14 ?_
        refine x_callV (n := 1) (st := [.int (nI u)]) hE (kX1_ghostsIn l D cI cZ h0 p1 f0 f1 f2 s0 s1 s2 pos cl jn dl dn R C dio i (by omega) (by assumption) (by assumption) (by assumption) (by assumption)) gX1_ghosts_X1_ghostsIn rfl (by decide +kernel) ⟨by decide, by decide⟩ ⟨Nat.zero_le _, Nat.zero_le _⟩ rfl [0, 1, 2, 3, 4, 5, 6, 7] [] rfl (wr := []) rfl (by decide) (by decide) (by decide) 0 rfl rfl rfl rfl (Nat.le_of_ble_eq_true rfl) dX1_ghosts_15 (fun v9 w9 hT9 => ?_)
        obtain ⟨rfl, rfl⟩ := hT9
        refine x_at (ws' := [(h0, .inr (1, [.ref p1, .ref f0, .ref s0, .int (nI R), .int (nI C), .int (bI dio)])), (p1, .inl (cI, 64, .inl (xN pos))), (f0, .inr (2, [.ref f1, .ref f2])), (f1, .inl (cI, 8, .inl (xN cl))), (f2, .inl (cI, 8, .inl (xN jn))), (s0, .inr (2, [.ref s1, .ref s2])), (s1, .inl (cI, 8, .inl (xN dl))), (s2, .inl (cI, 8, .inl (xN dn)))]) (st' := [.int (nI (ghN dio cl jn dl dn i)), .int (nI u)]) rfl rfl ?_
        refine x_callS (n := 1) (st := [.int (nI u)]) hE (kJ6_bitCount_0f7a4 l D cI cZ (ghN dio cl jn dl dn i) (ghN_lt hcl hjn hdl hdn _)) gX1_ghosts_J6_bitCount_0f7a4 rfl (by decide +kernel) ⟨by decide, by decide⟩ ⟨Nat.zero_le _, Nat.zero_le _⟩ rfl [] [0, 1, 2, 3, 4, 5, 6, 7] rfl (wr := [(h0, .inr (1, [.ref p1, .ref f0, .ref s0, .int (nI R), .int (nI C), .int (bI dio)])), (p1, .inl (cI, 64, .inl (xN pos))), (f0, .inr (2, [.ref f1, .ref f2])), (f1, .inl (cI, 8, .inl (xN cl))), (f2, .inl (cI, 8, .inl (xN jn))), (s0, .inr (2, [.ref s1, .ref s2])), (s1, .inl (cI, 8, .inl (xN dl))), (s2, .inl (cI, 8, .inl (xN dn)))]) rfl (by decide) (by decide) (by decide) rfl (Nat.le_of_ble_eq_true rfl) dX1_ghosts_18 (fun v9 w9 hT9 => ?_)
        obtain ⟨rfl, rfl⟩ := hT9
        refine x_at (ws' := [(h0, .inr (1, [.ref p1, .ref f0, .ref s0, .int (nI R), .int (nI C), .int (bI dio)])), (p1, .inl (cI, 64, .inl (xN pos))), (f0, .inr (2, [.ref f1, .ref f2])), (f1, .inl (cI, 8, .inl (xN cl))), (f2, .inl (cI, 8, .inl (xN jn))), (s0, .inr (2, [.ref s1, .ref s2])), (s1, .inl (cI, 8, .inl (xN dl))), (s2, .inl (cI, 8, .inl (xN dn)))]) (st' := [.int (nI (pop8 (ghN dio cl jn dl dn i))), .int (nI u)]) rfl rfl ?_
        refine x_iadd hE (nI (u + (pop8 (ghN dio cl jn dl dn i)))) (nI_add _ _) dX1_ghosts_21 ?_
        refine x_istore_n hE [(1, .int (nI (u + (pop8 (ghN dio cl jn dl dn i))))), (0, .ref h0), (2, .int (nI i))] (by decide) rfl dX1_ghosts_22 ?_
        refine x_iinc hE (nI (i + 1)) [(2, .int (nI (i + 1))), (1, .int (nI (u + (pop8 (ghN dio cl jn dl dn i))))), (0, .ref h0)] 2 rfl (nI_add _ _) (by decide) rfl dX1_ghosts_23 ?_
        refine x_goto hE 4 (by decide) dX1_ghosts_26 ?_
        refine x_lv [(0, .ref h0), (1, .int (nI (u + (pop8 (ghN dio cl jn dl dn i))))), (2, .int (nI (i + 1)))] [2, 1, 0] rfl ?_
        exact ih (i + 1) (u + (pop8 (ghN dio cl jn dl dn i))) (by omega) (hT)
  refine x_iconst hE (nI 0) (by decide) dX1_ghosts_0 ?_
  refine x_istore_n hE [(1, .int (nI 0)), (0, .ref h0)] (by decide) rfl dX1_ghosts_1 ?_
  refine x_iconst hE (nI 0) (by decide) dX1_ghosts_2 ?_
  refine x_istore_n hE [(2, .int (nI 0)), (1, .int (nI 0)), (0, .ref h0)] (by decide) rfl dX1_ghosts_3 ?_
  refine x_lv [(0, .ref h0), (1, .int (nI 0)), (2, .int (nI 0))] [2, 1, 0] rfl ?_
  exact lp4 R 0 0 (Nat.zero_add _) (rfl)
set_option maxHeartbeats 4000000 in
set_option maxRecDepth 100000 in
theorem kX1_ghostsWithout (l : Launch) (D : va_G) (cI cZ : ClassId) (h0 : Nat) (p1 : Nat) (f0 : Nat) (f1 : Nat) (f2 : Nat) (s0 : Nat) (s1 : Nat) (s2 : Nat) (pos : Nat → Nat) (cl : Nat → Nat) (jn : Nat → Nat) (dl : Nat → Nat) (dn : Nat → Nat) (R : Nat) (C : Nat) (dio : Bool) (k : Nat) (hR : 1 ≤ R ∧ R ≤ 8) (hC : 1 ≤ C ∧ C ≤ 8) (hk : k < R * C) (hpos : ∀ k, pos k ≤ 2) (hcl : ∀ r, cl r < 256) (hjn : ∀ r, jn r < 256) (hdl : ∀ r, dl r < 256) (hdn : ∀ r, dn r < 256) : xC l yX1_ghostsWithout wsX1_ghostsWithout 4 0 0 90 D cI cZ [.ref h0, .int (nI k)] [(h0, .inr (1, [.ref p1, .ref f0, .ref s0, .int (nI R), .int (nI C), .int (bI dio)])), (p1, .inl (cI, 64, .inl (xN pos))), (f0, .inr (2, [.ref f1, .ref f2])), (f1, .inl (cI, 8, .inl (xN cl))), (f2, .inl (cI, 8, .inl (xN jn))), (s0, .inr (2, [.ref s1, .ref s2])), (s1, .inl (cI, 8, .inl (xN dl))), (s2, .inl (cI, 8, .inl (xN dn)))] (fun v8 w8 => v8 = some (.int (nI (gcN dio (putC cl (k / C) (k % C) (decide (1 ≤ 0))) (putJ cl jn (k / C) (k % C) (decide (1 ≤ 0))) (putC dl (k / C) (k % C) (decide (0 = 2))) (putJ dl dn (k / C) (k % C) (decide (0 = 2))) R))) ∧ w8 = [(h0, .inr (1, [.ref p1, .ref f0, .ref s0, .int (nI R), .int (nI C), .int (bI dio)])), (p1, .inl (cI, 64, .inl (xN (updN (updN pos k 0) k (pos k))))), (f0, .inr (2, [.ref f1, .ref f2])), (f1, .inl (cI, 8, .inl (xN (putC (putC cl (k / C) (k % C) (decide (1 ≤ 0))) (k / C) (k % C) (decide (1 ≤ pos k)))))), (f2, .inl (cI, 8, .inl (xN (putJ (putC cl (k / C) (k % C) (decide (1 ≤ 0))) (putJ cl jn (k / C) (k % C) (decide (1 ≤ 0))) (k / C) (k % C) (decide (1 ≤ pos k)))))), (s0, .inr (2, [.ref s1, .ref s2])), (s1, .inl (cI, 8, .inl (xN (putC (putC dl (k / C) (k % C) (decide (0 = 2))) (k / C) (k % C) (decide (pos k = 2)))))), (s2, .inl (cI, 8, .inl (xN (putJ (putC dl (k / C) (k % C) (decide (0 = 2))) (putJ dl dn (k / C) (k % C) (decide (0 = 2))) (k / C) (k % C) (decide (pos k = 2))))))]) := by
  refine xC.of (bytes := cX1_ghostsWithout) (maxL := 4) (ret := (some .int)) (own := RX1) (by decide +kernel) rfl (Nat.le_of_ble_eq_true rfl) rfl ?_
  intro p9 e9 s9 m9 args9 below9 meth9 cd9 A hE hr hin2 hA9
  have inX1 : ∀ w ∈ wsX10, w ∈ wsX1_ghostsWithout := fun w h => List.mem_cons_of_mem _ (List.mem_append_left _ (List.mem_append_right _ h))
  have g9 : xF RX1 wsX1_ghostsWithout 9 1 0 := ⟨"KeyScanner$Matrix", RX1, TX1, 6, inX1, rfl, by decide, List.mem_of_getElem? (i := 1) rfl, rfl⟩
  have hRC : R * C ≤ 64 := Nat.mul_le_mul hR.2 hC.2
  have hkq : k / C < R := Nat.div_lt_of_lt_mul (by rw [Nat.mul_comm]; exact hk)
  have hkm : k % C < C := Nat.mod_lt _ (by omega)
  have hpk := hpos k
  refine x_at (ws' := [(h0, .inr (1, [.ref p1, .ref f0, .ref s0, .int (nI R), .int (nI C), .int (bI dio)])), (p1, .inl (cI, 64, .inl (xN pos))), (f0, .inr (2, [.ref f1, .ref f2])), (f1, .inl (cI, 8, .inl (xN cl))), (f2, .inl (cI, 8, .inl (xN jn))), (s0, .inr (2, [.ref s1, .ref s2])), (s1, .inl (cI, 8, .inl (xN dl))), (s2, .inl (cI, 8, .inl (xN dn)))]) (st' := []) rfl rfl ?_
  refine x_lv [(0, .ref h0), (1, .int (nI k))] [0, 1] rfl ?_
  refine x_aload_n hE 0 rfl dX1_ghostsWithout_0 ?_
  refine x_get hE g9 0 rfl rfl dX1_ghostsWithout_1 ?_
  refine x_iload_n hE 1 rfl dX1_ghostsWithout_4 ?_
  refine x_iald hE k (nI (pos k)) (by omega) (by decide) rfl 1 rfl dX1_ghostsWithout_5 ?_
  refine x_istore_n hE [(2, .int (nI (pos k))), (0, .ref h0), (1, .int (nI k))] (by decide) rfl dX1_ghostsWithout_6 ?_
  refine x_aload_n hE 1 rfl dX1_ghostsWithout_7 ?_
  refine x_iload_n hE 2 rfl dX1_ghostsWithout_8 ?_
  refine x_iconst hE (nI 0) (by decide) dX1_ghostsWithout_9 ?_
  refine x_callV (n := 2) (st := []) hE (kX1_move l D cI cZ h0 p1 f0 f1 f2 s0 s1 s2 pos cl jn dl dn R C dio k 0 (by omega) (by omega) (by omega) (by omega) (by assumption) (by assumption) (by assumption) (by assumption)) gX1_ghostsWithout_X1_move rfl (by decide +kernel) ⟨by decide, by decide⟩ ⟨Nat.zero_le _, Nat.zero_le _⟩ rfl [0, 1, 2, 3, 4, 5, 6, 7] [] rfl (wr := []) rfl (by decide) (by decide) (by decide) 0 rfl rfl rfl rfl (Nat.le_of_ble_eq_true rfl) dX1_ghostsWithout_10 (fun v9 w9 hT9 => ?_)
  obtain ⟨rfl, rfl⟩ := hT9
  refine x_at (ws' := [(h0, .inr (1, [.ref p1, .ref f0, .ref s0, .int (nI R), .int (nI C), .int (bI dio)])), (p1, .inl (cI, 64, .inl (xN (updN pos k (0))))), (f0, .inr (2, [.ref f1, .ref f2])), (f1, .inl (cI, 8, .inl (xN (putC cl (k / C) (k % C) (decide (1 ≤ 0)))))), (f2, .inl (cI, 8, .inl (xN (putJ cl jn (k / C) (k % C) (decide (1 ≤ 0)))))), (s0, .inr (2, [.ref s1, .ref s2])), (s1, .inl (cI, 8, .inl (xN (putC dl (k / C) (k % C) (decide (0 = 2)))))), (s2, .inl (cI, 8, .inl (xN (putJ dl dn (k / C) (k % C) (decide (0 = 2))))))]) (st' := []) rfl rfl ?_
  refine x_aload_n hE 1 rfl dX1_ghostsWithout_13 ?_
  refine x_callV (n := 0) (st := []) hE (kX1_ghosts l D cI cZ h0 p1 f0 f1 f2 s0 s1 s2 (updN pos k (0)) (putC cl (k / C) (k % C) (decide (1 ≤ 0))) (putJ cl jn (k / C) (k % C) (decide (1 ≤ 0))) (putC dl (k / C) (k % C) (decide (0 = 2))) (putJ dl dn (k / C) (k % C) (decide (0 = 2))) R C dio (by omega) (by omega) (putC_lt hcl _ (by omega) _) (putJ_lt hcl hjn _ (by omega) _) (putC_lt hdl _ (by omega) _) (putJ_lt hdl hdn _ (by omega) _)) gX1_ghostsWithout_X1_ghosts rfl (by decide +kernel) ⟨by decide, by decide⟩ ⟨Nat.zero_le _, Nat.zero_le _⟩ rfl [0, 1, 2, 3, 4, 5, 6, 7] [] rfl (wr := []) rfl (by decide) (by decide) (by decide) 0 rfl rfl rfl rfl (Nat.le_of_ble_eq_true rfl) dX1_ghostsWithout_14 (fun v9 w9 hT9 => ?_)
  obtain ⟨rfl, rfl⟩ := hT9
  refine x_at (ws' := [(h0, .inr (1, [.ref p1, .ref f0, .ref s0, .int (nI R), .int (nI C), .int (bI dio)])), (p1, .inl (cI, 64, .inl (xN (updN pos k (0))))), (f0, .inr (2, [.ref f1, .ref f2])), (f1, .inl (cI, 8, .inl (xN (putC cl (k / C) (k % C) (decide (1 ≤ 0)))))), (f2, .inl (cI, 8, .inl (xN (putJ cl jn (k / C) (k % C) (decide (1 ≤ 0)))))), (s0, .inr (2, [.ref s1, .ref s2])), (s1, .inl (cI, 8, .inl (xN (putC dl (k / C) (k % C) (decide (0 = 2)))))), (s2, .inl (cI, 8, .inl (xN (putJ dl dn (k / C) (k % C) (decide (0 = 2))))))]) (st' := [.int (nI (gcN dio (putC cl (k / C) (k % C) (decide (1 ≤ 0))) (putJ cl jn (k / C) (k % C) (decide (1 ≤ 0))) (putC dl (k / C) (k % C) (decide (0 = 2))) (putJ dl dn (k / C) (k % C) (decide (0 = 2))) R))]) rfl rfl ?_
  refine x_istore_n hE [(3, .int (nI (gcN dio (putC cl (k / C) (k % C) (decide (1 ≤ 0))) (putJ cl jn (k / C) (k % C) (decide (1 ≤ 0))) (putC dl (k / C) (k % C) (decide (0 = 2))) (putJ dl dn (k / C) (k % C) (decide (0 = 2))) R))), (2, .int (nI (pos k))), (0, .ref h0), (1, .int (nI k))] (by decide) rfl dX1_ghostsWithout_17 ?_
  refine x_aload_n hE 2 rfl dX1_ghostsWithout_18 ?_
  refine x_iload_n hE 3 rfl dX1_ghostsWithout_19 ?_
  refine x_iload_n hE 1 rfl dX1_ghostsWithout_20 ?_
  refine x_callV (n := 2) (st := []) hE (kX1_move l D cI cZ h0 p1 f0 f1 f2 s0 s1 s2 (updN pos k (0)) (putC cl (k / C) (k % C) (decide (1 ≤ 0))) (putJ cl jn (k / C) (k % C) (decide (1 ≤ 0))) (putC dl (k / C) (k % C) (decide (0 = 2))) (putJ dl dn (k / C) (k % C) (decide (0 = 2))) R C dio k (pos k) (by omega) (by omega) (by omega) (by omega) (putC_lt hcl _ (by omega) _) (putJ_lt hcl hjn _ (by omega) _) (putC_lt hdl _ (by omega) _) (putJ_lt hdl hdn _ (by omega) _)) gX1_ghostsWithout_X1_move rfl (by decide +kernel) ⟨by decide, by decide⟩ ⟨Nat.zero_le _, Nat.zero_le _⟩ rfl [0, 1, 2, 3, 4, 5, 6, 7] [] rfl (wr := []) rfl (by decide) (by decide) (by decide) 0 rfl rfl rfl rfl (Nat.le_of_ble_eq_true rfl) dX1_ghostsWithout_21 (fun v9 w9 hT9 => ?_)
  obtain ⟨rfl, rfl⟩ := hT9
  refine x_at (ws' := [(h0, .inr (1, [.ref p1, .ref f0, .ref s0, .int (nI R), .int (nI C), .int (bI dio)])), (p1, .inl (cI, 64, .inl (xN (updN (updN pos k (0)) k ((pos k)))))), (f0, .inr (2, [.ref f1, .ref f2])), (f1, .inl (cI, 8, .inl (xN (putC (putC cl (k / C) (k % C) (decide (1 ≤ 0))) (k / C) (k % C) (decide (1 ≤ (pos k))))))), (f2, .inl (cI, 8, .inl (xN (putJ (putC cl (k / C) (k % C) (decide (1 ≤ 0))) (putJ cl jn (k / C) (k % C) (decide (1 ≤ 0))) (k / C) (k % C) (decide (1 ≤ (pos k))))))), (s0, .inr (2, [.ref s1, .ref s2])), (s1, .inl (cI, 8, .inl (xN (putC (putC dl (k / C) (k % C) (decide (0 = 2))) (k / C) (k % C) (decide ((pos k) = 2)))))), (s2, .inl (cI, 8, .inl (xN (putJ (putC dl (k / C) (k % C) (decide (0 = 2))) (putJ dl dn (k / C) (k % C) (decide (0 = 2))) (k / C) (k % C) (decide ((pos k) = 2))))))]) (st' := []) rfl rfl ?_
  refine x_iload_n hE 0 rfl dX1_ghostsWithout_24 ?_
  exact x_iret hE hr (⟨rfl, rfl⟩) dX1_ghostsWithout_25
