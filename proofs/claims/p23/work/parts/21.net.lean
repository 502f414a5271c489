set_option maxHeartbeats 4000000 in
set_option maxRecDepth 100000 in
theorem kX4_one (l : Launch) (D : va_G) (cI cZ : ClassId) (b : Bool)  : xC l yX4_one wsX4_one 0 0 0 0 D cI cZ [.int (bI b)] [] (fun v8 w8 => v8 = some (.int (nI (b2n b))) ∧ w8 = []) := by
  refine xC.of (bytes := cX4_one) (maxL := 1) (ret := (some .int)) (own := RX4) (by decide +kernel) rfl (Nat.le_of_ble_eq_true rfl) rfl ?_
  intro p9 e9 s9 m9 args9 below9 meth9 cd9 A hE hr hin2 hA9
  refine x_at (ws' := []) (st' := []) rfl rfl ?_
  refine x_lv [(0, .int (bI b))] [0] rfl ?_
  refine x_iload_n hE 0 rfl dX4_one_0 ?_
  refine xb_if_eq hE 8 (by decide) dX4_one_1 (fun c1 => ?_) (fun c1 => ?_)
  · skip
    refine x_iconst hE (nI 0) (by decide) dX4_one_8 ?_
    exact x_iret hE hr (⟨by simp only [b2n, if_neg (bnt c1), reduceIte, Bool.false_eq_true, Bool.true_eq_false], rfl⟩) dX4_one_9
  · skip
    refine x_iconst hE (nI 1) (by decide) dX4_one_4 ?_
    refine x_goto hE 9 (by decide) dX4_one_5 ?_
    exact x_iret hE hr (⟨by simp only [b2n, if_pos c1, reduceIte, Bool.false_eq_true, Bool.true_eq_false], rfl⟩) dX4_one_9
set_option maxHeartbeats 4000000 in
set_option maxRecDepth 100000 in
theorem kJ6_bitCount_0f7a4 (l : Launch) (D : va_G) (cI cZ : ClassId) (x : Nat) (hx : x < 256) : xC l yJ6_bitCount_0f7a4 wsJ6_bitCount_0f7a4 0 0 0 0 D cI cZ [.int (nI x)] [] (fun v8 w8 => v8 = some (.int (nI (pop8 x))) ∧ w8 = []) := by
  refine xC.of (bytes := cJ6_bitCount_0f7a4) (maxL := 1) (ret := (some .int)) (own := RJ6) (by decide +kernel) rfl (Nat.le_of_ble_eq_true rfl) rfl ?_
  intro p9 e9 s9 m9 args9 below9 meth9 cd9 A hE hr hin2 hA9
  refine x_at (ws' := []) (st' := []) rfl rfl ?_
  refine x_lv [(0, .int (nI x))] [0] rfl ?_
  refine x_iload_n hE 0 rfl dJ6_bitCount_0f7a4_0 ?_
  refine x_iload_n hE 0 rfl dJ6_bitCount_0f7a4_1 ?_
  refine x_iconst hE (nI 1) (by decide) dJ6_bitCount_0f7a4_2 ?_
  refine x_iushr hE ((((nI x)).toUInt32 >>> (((nI 1)).toUInt32 &&& Int32.toUInt32 31)).toInt32) rfl dJ6_bitCount_0f7a4_3 ?_
  refine x_ldcw hE (nI 1431655765) (List.mem_of_getElem? (i := 1) rfl) dJ6_bitCount_0f7a4_4 ?_
  refine x_iand hE (((((nI x)).toUInt32 >>> (((nI 1)).toUInt32 &&& Int32.toUInt32 31)).toInt32) &&& (nI 1431655765)) rfl dJ6_bitCount_0f7a4_7 ?_
  refine x_isub hE (bc1 (nI x)) rfl dJ6_bitCount_0f7a4_8 ?_
  refine x_istore_n hE [(0, .int (bc1 (nI x)))] (by decide) rfl dJ6_bitCount_0f7a4_9 ?_
  refine x_iload_n hE 0 rfl dJ6_bitCount_0f7a4_10 ?_
  refine x_ldcw hE (nI 858993459) (List.mem_of_getElem? (i := 2) rfl) dJ6_bitCount_0f7a4_11 ?_
  refine x_iand hE ((bc1 (nI x)) &&& (nI 858993459)) rfl dJ6_bitCount_0f7a4_14 ?_
  refine x_iload_n hE 0 rfl dJ6_bitCount_0f7a4_15 ?_
  refine x_iconst hE (nI 2) (by decide) dJ6_bitCount_0f7a4_16 ?_
  refine x_iushr hE ((((bc1 (nI x))).toUInt32 >>> (((nI 2)).toUInt32 &&& Int32.toUInt32 31)).toInt32) rfl dJ6_bitCount_0f7a4_17 ?_
  refine x_ldcw hE (nI 858993459) (List.mem_of_getElem? (i := 2) rfl) dJ6_bitCount_0f7a4_18 ?_
  refine x_iand hE (((((bc1 (nI x))).toUInt32 >>> (((nI 2)).toUInt32 &&& Int32.toUInt32 31)).toInt32) &&& (nI 858993459)) rfl dJ6_bitCount_0f7a4_21 ?_
  refine x_iadd hE (bc2 (bc1 (nI x))) rfl dJ6_bitCount_0f7a4_22 ?_
  refine x_istore_n hE [(0, .int (bc2 (bc1 (nI x))))] (by decide) rfl dJ6_bitCount_0f7a4_23 ?_
  refine x_iload_n hE 0 rfl dJ6_bitCount_0f7a4_24 ?_
  refine x_iload_n hE 0 rfl dJ6_bitCount_0f7a4_25 ?_
  refine x_iconst hE (nI 4) (by decide) dJ6_bitCount_0f7a4_26 ?_
  refine x_iushr hE ((((bc2 (bc1 (nI x)))).toUInt32 >>> (((nI 4)).toUInt32 &&& Int32.toUInt32 31)).toInt32) rfl dJ6_bitCount_0f7a4_27 ?_
  refine x_iadd hE ((bc2 (bc1 (nI x))) + ((((bc2 (bc1 (nI x)))).toUInt32 >>> (((nI 4)).toUInt32 &&& Int32.toUInt32 31)).toInt32)) rfl dJ6_bitCount_0f7a4_28 ?_
  refine x_ldcw hE (nI 252645135) (List.mem_of_getElem? (i := 3) rfl) dJ6_bitCount_0f7a4_29 ?_
  refine x_iand hE (bc3 (bc2 (bc1 (nI x)))) rfl dJ6_bitCount_0f7a4_32 ?_
  refine x_istore_n hE [(0, .int (bc3 (bc2 (bc1 (nI x)))))] (by decide) rfl dJ6_bitCount_0f7a4_33 ?_
  refine x_iload_n hE 0 rfl dJ6_bitCount_0f7a4_34 ?_
  refine x_iload_n hE 0 rfl dJ6_bitCount_0f7a4_35 ?_
  refine x_bipush hE (nI 8) (by decide) dJ6_bitCount_0f7a4_36 ?_
  refine x_iushr hE ((((bc3 (bc2 (bc1 (nI x))))).toUInt32 >>> (((nI 8)).toUInt32 &&& Int32.toUInt32 31)).toInt32) rfl dJ6_bitCount_0f7a4_38 ?_
  refine x_iadd hE (bc4 (bc3 (bc2 (bc1 (nI x))))) rfl dJ6_bitCount_0f7a4_39 ?_
  refine x_istore_n hE [(0, .int (bc4 (bc3 (bc2 (bc1 (nI x))))))] (by decide) rfl dJ6_bitCount_0f7a4_40 ?_
  refine x_iload_n hE 0 rfl dJ6_bitCount_0f7a4_41 ?_
  refine x_iload_n hE 0 rfl dJ6_bitCount_0f7a4_42 ?_
  refine x_bipush hE (nI 16) (by decide) dJ6_bitCount_0f7a4_43 ?_
  refine x_iushr hE ((((bc4 (bc3 (bc2 (bc1 (nI x)))))).toUInt32 >>> (((nI 16)).toUInt32 &&& Int32.toUInt32 31)).toInt32) rfl dJ6_bitCount_0f7a4_45 ?_
  refine x_iadd hE (bc5 (bc4 (bc3 (bc2 (bc1 (nI x)))))) rfl dJ6_bitCount_0f7a4_46 ?_
  refine x_istore_n hE [(0, .int (bc5 (bc4 (bc3 (bc2 (bc1 (nI x)))))))] (by decide) rfl dJ6_bitCount_0f7a4_47 ?_
  refine x_iload_n hE 0 rfl dJ6_bitCount_0f7a4_48 ?_
  refine x_bipush hE (nI 63) (by decide) dJ6_bitCount_0f7a4_49 ?_
  refine x_iand hE ((bc5 (bc4 (bc3 (bc2 (bc1 (nI x)))))) &&& (nI 63)) rfl dJ6_bitCount_0f7a4_51 ?_
  exact x_iret hE hr (⟨congrArg (fun q => some (Value.int q)) (bc_ok x hx), rfl⟩) dJ6_bitCount_0f7a4_52
set_option maxHeartbeats 4000000 in
set_option maxRecDepth 100000 in
theorem kX1_contains (l : Launch) (D : va_G) (cI cZ : ClassId) (a : Nat) (c : Nat) (ha : a < 256) (hc : c < 8) : xC l yX1_contains wsX1_contains 0 0 0 0 D cI cZ [.int (nI a), .int (nI c)] [] (fun v8 w8 => v8 = some (.int (bI (a.testBit c))) ∧ w8 = []) := by
  refine xC.of (bytes := cX1_contains) (maxL := 2) (ret := (some .boolean)) (own := RX1) (by decide +kernel) rfl (Nat.le_of_ble_eq_true rfl) rfl ?_
  intro p9 e9 s9 m9 args9 below9 meth9 cd9 A hE hr hin2 hA9
  have hb9 : (a >>> c) &&& 1 < 2 ^ 31 := Nat.lt_of_le_of_lt Nat.and_le_right (by decide)
  have ht9 : a.testBit c = ((a >>> c) &&& 1 != 0) := by rw [Nat.testBit, Nat.and_comm]
  refine x_at (ws' := []) (st' := []) rfl rfl ?_
  refine x_lv [(0, .int (nI a)), (1, .int (nI c))] [0, 1] rfl ?_
  refine x_iload_n hE 0 rfl dX1_contains_0 ?_
  refine x_iload_n hE 1 rfl dX1_contains_1 ?_
  refine x_ishr hE (nI (a >>> c)) (xI_shr (by omega) (by omega)) dX1_contains_2 ?_
  refine x_iconst hE (nI 1) (by decide) dX1_contains_3 ?_
  refine x_iand hE (nI ((a >>> c) &&& 1)) (fa_and _ _) dX1_contains_4 ?_
  refine xn_if_eq hE (by omega) 12 (by decide) dX1_contains_5 (fun c5 => ?_) (fun c5 => ?_)
  · skip
    refine x_iconst hE (nI 0) (by decide) dX1_contains_12 ?_
    refine x_eq (bI false) rfl ?_
    exact x_zret hE hr (⟨by rw [ht9]; first | (rw [c5]; rfl) | (rw [show (a >>> c &&& 1 != 0) = true from by simp only [bne_iff_ne, ne_eq]; exact c5]), rfl⟩) dX1_contains_13
  · skip
    refine x_iconst hE (nI 1) (by decide) dX1_contains_8 ?_
    refine x_goto hE 13 (by decide) dX1_contains_9 ?_
    refine x_eq (bI true) rfl ?_
    exact x_zret hE hr (⟨by rw [ht9]; first | (rw [c5]; rfl) | (rw [show (a >>> c &&& 1 != 0) = true from by simp only [bne_iff_ne, ne_eq]; exact c5]), rfl⟩) dX1_contains_13
set_option maxHeartbeats 4000000 in
set_option maxRecDepth 100000 in
theorem kX2_open (l : Launch) (D : va_G) (cI cZ : ClassId) (h0 : Nat) (a1 : Nat) (a2 : Nat) (cl : Nat → Nat) (jn : Nat → Nat)  : xC l yX2_open wsX2_open 0 0 0 0 D cI cZ [.ref h0] [(h0, .inr (2, [.ref a1, .ref a2])), (a1, .inl (cI, 8, .inl (xN cl))), (a2, .inl (cI, 8, .inl (xN jn)))] (fun v8 w8 => v8 = none ∧ w8 = [(h0, .inr (2, [.ref a1, .ref a2])), (a1, .inl (cI, 8, .inl (xN (zeroN cl 8)))), (a2, .inl (cI, 8, .inl (xN (zeroN jn 8))))]) := by
  refine xC.of (bytes := cX2_open) (maxL := 2) (ret := none) (own := RX2) (by decide +kernel) rfl (Nat.le_of_ble_eq_true rfl) rfl ?_
  intro p9 e9 s9 m9 args9 below9 meth9 cd9 A hE hr hin2 hA9
  have inX2 : ∀ w ∈ wsX20, w ∈ wsX2_open := fun w h => List.mem_cons_of_mem _ (List.mem_append_right _ h)
  have g9 : xF RX2 wsX2_open 9 2 0 := ⟨"KeyScanner$Net", RX2, TX2, 2, inX2, rfl, by decide, List.mem_of_getElem? (i := 1) rfl, rfl⟩
  have g15 : xF RX2 wsX2_open 15 2 1 := ⟨"KeyScanner$Net", RX2, TX2, 2, inX2, rfl, by decide, List.mem_of_getElem? (i := 2) rfl, rfl⟩
  refine x_at (ws' := [(h0, .inr (2, [.ref a1, .ref a2])), (a1, .inl (cI, 8, .inl (xN cl))), (a2, .inl (cI, 8, .inl (xN jn)))]) (st' := []) rfl rfl ?_
  refine x_lv [(0, .ref h0)] [0] rfl ?_
  have lp2 : ∀ (n : Nat) (i : Nat) (cx : Nat → Nat) (jx : Nat → Nat) (hi : i + n = 8) (hc : cx = zeroN cl i) (hj : jx = zeroN jn i), X p9 l e9 { frames := 0, cells := 0, slots := 0, locals := 0 } s9 m9 args9 below9 meth9 cd9 0 0 (MQ below9 (xQ D (fun v8 w8 => v8 = none ∧ w8 = [(h0, .inr (2, [.ref a1, .ref a2])), (a1, .inl (cI, 8, .inl (xN (zeroN cl 8)))), (a2, .inl (cI, 8, .inl (xN (zeroN jn 8))))]) A) args9 s9 0 0 A) 2 D A [(h0, .inr (2, [.ref a1, .ref a2])), (a1, .inl (cI, 8, .inl (xN cx))), (a2, .inl (cI, 8, .inl (xN jx)))] [(0, .ref h0), (1, .int (nI i))] 2 [] := by
    intro n
    induction n with
    | zero =>
      intro i cx jx hi hc hj
      refine x_iload_n hE 1 rfl dX2_open_2 ?_
      refine x_bipush hE (nI 8) (by decide) dX2_open_3 ?_
      refine xn_icmp_ge hE (by omega) (by omega) 28 (by decide) dX2_open_5 (fun c5 => ?_) (fun c5 => ?_)
      · skip
        exact x_vret hE hr (⟨rfl, by rw [hc, hj, show i = 8 by omega]⟩) dX2_open_28
      · skip
        exfalso; omega
    | succ n ih =>
      intro i cx jx hi hc hj
      refine x_iload_n hE 1 rfl dX2_open_2 ?_
      refine x_bipush hE (nI 8) (by decide) dX2_open_3 ?_
      refine xn_icmp_ge hE (by omega) (by omega) 28 (by decide) dX2_open_5 (fun c5 => ?_) (fun c5 => ?_)
      · skip
        exfalso; omega
      · skip
        refine x_aload_n hE 0 rfl dX2_open_8 ?_
        refine x_get hE g9 0 rfl rfl dX2_open_9 ?_
        refine x_iload_n hE 1 rfl dX2_open_12 ?_
        refine x_iconst hE (nI 0) (by decide) dX2_open_13 ?_
        refine x_iast hE i (xN (updN cx i 0)) (by omega) (by decide) (upd_xN _ _ _) [(h0, .inr (2, [.ref a1, .ref a2])), (a1, .inl (cI, 8, .inl (xN (updN cx i 0)))), (a2, .inl (cI, 8, .inl (xN jx)))] 1 rfl rfl dX2_open_14 ?_
        refine x_aload_n hE 0 rfl dX2_open_15 ?_
        refine x_get hE g15 0 rfl rfl dX2_open_16 ?_
        refine x_iload_n hE 1 rfl dX2_open_19 ?_
        refine x_iconst hE (nI 0) (by decide) dX2_open_20 ?_
        refine x_iast hE i (xN (updN jx i 0)) (by omega) (by decide) (upd_xN _ _ _) [(h0, .inr (2, [.ref a1, .ref a2])), (a1, .inl (cI, 8, .inl (xN (updN cx i 0)))), (a2, .inl (cI, 8, .inl (xN (updN jx i 0))))] 2 rfl rfl dX2_open_21 ?_
        refine x_iinc hE (nI (i + 1)) [(1, .int (nI (i + 1))), (0, .ref h0)] 1 rfl (nI_add _ _) (by decide) rfl dX2_open_22 ?_
        refine x_goto hE 2 (by decide) dX2_open_25 ?_
        refine x_lv [(0, .ref h0), (1, .int (nI (i + 1)))] [1, 0] rfl ?_
        exact ih (i + 1) (updN cx i 0) (updN jx i 0) (by omega) (by rw [hc]; exact fillN_succ _ _ _) (by rw [hj]; exact fillN_succ _ _ _)
  refine x_iconst hE (nI 0) (by decide) dX2_open_0 ?_
  refine x_istore_n hE [(1, .int (nI 0)), (0, .ref h0)] (by decide) rfl dX2_open_1 ?_
  refine x_lv [(0, .ref h0), (1, .int (nI 0))] [1, 0] rfl ?_
  exact lp2 8 0 cl jn (rfl) (by rw [zeroN, fa_fill_0]) (by rw [zeroN, fa_fill_0])
set_option maxHeartbeats 4000000 in
set_option maxRecDepth 100000 in
theorem kX2_joinThrough (l : Launch) (D : va_G) (cI cZ : ClassId) (h0 : Nat) (a1 : Nat) (a2 : Nat) (cl : Nat → Nat) (jn : Nat → Nat) (b : Nat) (hjn : ∀ r, jn r < 256) : xC l yX2_joinThrough wsX2_joinThrough 0 0 0 0 D cI cZ [.ref h0, .int (nI b)] [(h0, .inr (2, [.ref a1, .ref a2])), (a1, .inl (cI, 8, .inl (xN cl))), (a2, .inl (cI, 8, .inl (xN jn)))] (fun v8 w8 => v8 = none ∧ w8 = [(h0, .inr (2, [.ref a1, .ref a2])), (a1, .inl (cI, 8, .inl (xN cl))), (a2, .inl (cI, 8, .inl (xN (jthru jn b))))]) := by
  refine xC.of (bytes := cX2_joinThrough) (maxL := 4) (ret := none) (own := RX2) (by decide +kernel) rfl (Nat.le_of_ble_eq_true rfl) rfl ?_
  intro p9 e9 s9 m9 args9 below9 meth9 cd9 A hE hr hin2 hA9
  have inX2 : ∀ w ∈ wsX20, w ∈ wsX2_joinThrough := fun w h => List.mem_cons_of_mem _ (List.mem_append_right _ h)
  have g15 : xF RX2 wsX2_joinThrough 15 2 1 := ⟨"KeyScanner$Net", RX2, TX2, 2, inX2, rfl, by decide, List.mem_of_getElem? (i := 1) rfl, rfl⟩
  refine x_at (ws' := [(h0, .inr (2, [.ref a1, .ref a2])), (a1, .inl (cI, 8, .inl (xN cl))), (a2, .inl (cI, 8, .inl (xN jn)))]) (st' := []) rfl rfl ?_
  refine x_lv [(0, .ref h0), (1, .int (nI b))] [0, 1] rfl ?_
  have lp38 : ∀ (n : Nat) (i : Nat) (u : Nat) (jx : Nat → Nat) (hi : i + n = 8) (hu : u = uniN jn b) (hl : u < 256) (hjx : ∀ r, jx r < 256) (hT : lfor (fun r j' => if j' r &&& b = 0 then j' else updN j' r u) i n jx = jthru jn b), X p9 l e9 { frames := 0, cells := 0, slots := 0, locals := 0 } s9 m9 args9 below9 meth9 cd9 0 0 (MQ below9 (xQ D (fun v8 w8 => v8 = none ∧ w8 = [(h0, .inr (2, [.ref a1, .ref a2])), (a1, .inl (cI, 8, .inl (xN cl))), (a2, .inl (cI, 8, .inl (xN (jthru jn b))))]) A) args9 s9 0 0 A) 4 D A [(h0, .inr (2, [.ref a1, .ref a2])), (a1, .inl (cI, 8, .inl (xN cl))), (a2, .inl (cI, 8, .inl (xN jx)))] [(0, .ref h0), (1, .int (nI b)), (2, .int (nI u)), (3, .int (nI i))] 38 [] := by
    intro n
    induction n with
    | zero =>
      intro i u jx hi hu hl hjx hT
      refine x_iload_n hE 3 rfl dX2_joinThrough_38 ?_
      refine x_bipush hE (nI 8) (by decide) dX2_joinThrough_39 ?_
      refine xn_icmp_ge hE (by omega) (by omega) 68 (by decide) dX2_joinThrough_41 (fun c41 => ?_) (fun c41 => ?_)
      · skip
        exact x_vret hE hr (⟨rfl, by rw [show jx = jthru jn b from hT]⟩) dX2_joinThrough_68
      · skip
        exfalso; omega
    | succ n ih =>
      intro i u jx hi hu hl hjx hT
      refine x_iload_n hE 3 rfl dX2_joinThrough_38 ?_
      refine x_bipush hE (nI 8) (by decide) dX2_joinThrough_39 ?_
      refine xn_icmp_ge hE (by omega) (by omega) 68 (by decide) dX2_joinThrough_41 (fun c41 => ?_) (fun c41 => ?_)
      · skip
        exfalso; omega
      · skip
        refine x_aload_n hE 0 rfl dX2_joinThrough_44 ?_
        refine x_get hE g15 0 rfl rfl dX2_joinThrough_45 ?_
        refine x_iload_n hE 3 rfl dX2_joinThrough_48 ?_
        refine x_iald hE i (nI (jx i)) (by omega) (by decide) rfl 2 rfl dX2_joinThrough_49 ?_
        refine x_iload_n hE 1 rfl dX2_joinThrough_50 ?_
        refine x_iand hE (nI ((jx i) &&& b)) (fa_and _ _) dX2_joinThrough_51 ?_
        have hb52 : jx i &&& b < 256 := and256 (hjx i)
        refine xn_if_eq hE (by omega) 62 (by decide) dX2_joinThrough_52 (fun c52 => ?_) (fun c52 => ?_)
        · skip
          refine x_iinc hE (nI (i + 1)) [(3, .int (nI (i + 1))), (0, .ref h0), (1, .int (nI b)), (2, .int (nI u))] 3 rfl (nI_add _ _) (by decide) rfl dX2_joinThrough_62 ?_
          refine x_goto hE 38 (by decide) dX2_joinThrough_65 ?_
          refine x_lv [(0, .ref h0), (1, .int (nI b)), (2, .int (nI u)), (3, .int (nI (i + 1)))] [1, 2, 3, 0] rfl ?_
          exact ih (i + 1) u jx (by omega) (hu) (hl) (hjx) (by simpa only [lfor, lany, lfind, if_pos c41, if_pos c52, reduceIte, Bool.false_eq_true, Bool.true_eq_false] using hT)
        · skip
          refine x_aload_n hE 0 rfl dX2_joinThrough_55 ?_
          refine x_get hE g15 0 rfl rfl dX2_joinThrough_56 ?_
          refine x_iload_n hE 3 rfl dX2_joinThrough_59 ?_
          refine x_iload_n hE 2 rfl dX2_joinThrough_60 ?_
          refine x_iast hE i (xN (updN jx i u)) (by omega) (by decide) (upd_xN _ _ _) [(h0, .inr (2, [.ref a1, .ref a2])), (a1, .inl (cI, 8, .inl (xN cl))), (a2, .inl (cI, 8, .inl (xN (updN jx i u))))] 2 rfl rfl dX2_joinThrough_61 ?_
          refine x_iinc hE (nI (i + 1)) [(3, .int (nI (i + 1))), (0, .ref h0), (1, .int (nI b)), (2, .int (nI u))] 3 rfl (nI_add _ _) (by decide) rfl dX2_joinThrough_62 ?_
          refine x_goto hE 38 (by decide) dX2_joinThrough_65 ?_
          refine x_lv [(0, .ref h0), (1, .int (nI b)), (2, .int (nI u)), (3, .int (nI (i + 1)))] [1, 2, 3, 0] rfl ?_
          exact ih (i + 1) u (updN jx i u) (by omega) (hu) (hl) (updN_lt hjx hl) (by simpa only [lfor, lany, lfind, if_pos c41, if_neg c52, reduceIte, Bool.false_eq_true, Bool.true_eq_false] using hT)
  have lp4 : ∀ (n : Nat) (i : Nat) (u : Nat) (hi : i + n = 8) (hl : u < 256) (hT : lfor (fun r u => if jn r &&& b = 0 then u else u ||| jn r) i n u = uniN jn b), X p9 l e9 { frames := 0, cells := 0, slots := 0, locals := 0 } s9 m9 args9 below9 meth9 cd9 0 0 (MQ below9 (xQ D (fun v8 w8 => v8 = none ∧ w8 = [(h0, .inr (2, [.ref a1, .ref a2])), (a1, .inl (cI, 8, .inl (xN cl))), (a2, .inl (cI, 8, .inl (xN (jthru jn b))))]) A) args9 s9 0 0 A) 4 D A [(h0, .inr (2, [.ref a1, .ref a2])), (a1, .inl (cI, 8, .inl (xN cl))), (a2, .inl (cI, 8, .inl (xN jn)))] [(0, .ref h0), (1, .int (nI b)), (2, .int (nI u)), (3, .int (nI i))] 4 [] := by
    intro n
    induction n with
    | zero =>
      intro i u hi hl hT
      refine x_iload_n hE 3 rfl dX2_joinThrough_4 ?_
      refine x_bipush hE (nI 8) (by decide) dX2_joinThrough_5 ?_
      refine xn_icmp_ge hE (by omega) (by omega) 36 (by decide) dX2_joinThrough_7 (fun c7 => ?_) (fun c7 => ?_)
      · skip
        refine x_iconst hE (nI 0) (by decide) dX2_joinThrough_36 ?_
        refine x_istore_n hE [(3, .int (nI 0)), (0, .ref h0), (1, .int (nI b)), (2, .int (nI u))] (by decide) rfl dX2_joinThrough_37 ?_
        refine x_lv [(0, .ref h0), (1, .int (nI b)), (2, .int (nI u)), (3, .int (nI 0))] [1, 2, 3, 0] rfl ?_
        exact lp38 8 0 u jn (rfl) (hT) (hl) (hjn) (by rw [show u = uniN jn b from hT]; rfl)
      · skip
        exfalso; omega
    | succ n ih =>
      intro i u hi hl hT
      refine x_iload_n hE 3 rfl dX2_joinThrough_4 ?_
      refine x_bipush hE (nI 8) (by decide) dX2_joinThrough_5 ?_
      refine xn_icmp_ge hE (by omega) (by omega) 36 (by decide) dX2_joinThrough_7 (fun c7 => ?_) (fun c7 => ?_)
      · skip
        exfalso; omega
      · skip
        refine x_aload_n hE 0 rfl dX2_joinThrough_10 ?_
        refine x_get hE g15 0 rfl rfl dX2_joinThrough_11 ?_
        refine x_iload_n hE 3 rfl dX2_joinThrough_14 ?_
        refine x_iald hE i (nI (jn i)) (by omega) (by decide) rfl 2 rfl dX2_joinThrough_15 ?_
        refine x_iload_n hE 1 rfl dX2_joinThrough_16 ?_
        refine x_iand hE (nI ((jn i) &&& b)) (fa_and _ _) dX2_joinThrough_17 ?_
        have hb18 : jn i &&& b < 256 := and256 (hjn i)
        refine xn_if_eq hE (by omega) 30 (by decide) dX2_joinThrough_18 (fun c18 => ?_) (fun c18 => ?_)
        · skip
          refine x_iinc hE (nI (i + 1)) [(3, .int (nI (i + 1))), (0, .ref h0), (1, .int (nI b)), (2, .int (nI u))] 3 rfl (nI_add _ _) (by decide) rfl dX2_joinThrough_30 ?_
          refine x_goto hE 4 (by decide) dX2_joinThrough_33 ?_
          refine x_lv [(0, .ref h0), (1, .int (nI b)), (2, .int (nI u)), (3, .int (nI (i + 1)))] [1, 2, 3, 0] rfl ?_
          exact ih (i + 1) u (by omega) (hl) (by simpa only [lfor, lany, lfind, if_pos c7, if_pos c18, reduceIte, Bool.false_eq_true, Bool.true_eq_false] using hT)
        · skip
          refine x_iload_n hE 2 rfl dX2_joinThrough_21 ?_
          refine x_aload_n hE 0 rfl dX2_joinThrough_22 ?_
          refine x_get hE g15 0 rfl rfl dX2_joinThrough_23 ?_
          refine x_iload_n hE 3 rfl dX2_joinThrough_26 ?_
          refine x_iald hE i (nI (jn i)) (by omega) (by decide) rfl 2 rfl dX2_joinThrough_27 ?_
          refine x_ior hE (nI (u ||| (jn i))) (fa_or _ _) dX2_joinThrough_28 ?_
          refine x_istore_n hE [(2, .int (nI (u ||| (jn i)))), (0, .ref h0), (1, .int (nI b)), (3, .int (nI i))] (by decide) rfl dX2_joinThrough_29 ?_
          refine x_iinc hE (nI (i + 1)) [(3, .int (nI (i + 1))), (2, .int (nI (u ||| (jn i)))), (0, .ref h0), (1, .int (nI b))] 3 rfl (nI_add _ _) (by decide) rfl dX2_joinThrough_30 ?_
          refine x_goto hE 4 (by decide) dX2_joinThrough_33 ?_
          refine x_lv [(0, .ref h0), (1, .int (nI b)), (2, .int (nI (u ||| (jn i)))), (3, .int (nI (i + 1)))] [2, 3, 1, 0] rfl ?_
          exact ih (i + 1) (u ||| (jn i)) (by omega) (or256 hl (hjn i)) (by simpa only [lfor, lany, lfind, if_pos c7, if_neg c18, reduceIte, Bool.false_eq_true, Bool.true_eq_false] using hT)
  refine x_iconst hE (nI 0) (by decide) dX2_joinThrough_0 ?_
  refine x_istore_n hE [(2, .int (nI 0)), (0, .ref h0), (1, .int (nI b))] (by decide) rfl dX2_joinThrough_1 ?_
  refine x_iconst hE (nI 0) (by decide) dX2_joinThrough_2 ?_
  refine x_istore_n hE [(3, .int (nI 0)), (2, .int (nI 0)), (0, .ref h0), (1, .int (nI b))] (by decide) rfl dX2_joinThrough_3 ?_
  refine x_lv [(0, .ref h0), (1, .int (nI b)), (2, .int (nI 0)), (3, .int (nI 0))] [2, 3, 1, 0] rfl ?_
  exact lp4 8 0 0 (rfl) (by decide) (rfl)
set_option maxHeartbeats 4000000 in
set_option maxRecDepth 100000 in
theorem kX2_join (l : Launch) (D : va_G) (cI cZ : ClassId) (h0 : Nat) (a1 : Nat) (a2 : Nat) (cl : Nat → Nat) (jn : Nat → Nat) (hcl : ∀ r, cl r < 256) (hjn : ∀ r, jn r < 256) : xC l yX2_join wsX2_join 1 0 0 23 D cI cZ [.ref h0] [(h0, .inr (2, [.ref a1, .ref a2])), (a1, .inl (cI, 8, .inl (xN cl))), (a2, .inl (cI, 8, .inl (xN jn)))] (fun v8 w8 => v8 = none ∧ w8 = [(h0, .inr (2, [.ref a1, .ref a2])), (a1, .inl (cI, 8, .inl (xN cl))), (a2, .inl (cI, 8, .inl (xN (joinN cl jn))))]) := by
  refine xC.of (bytes := cX2_join) (maxL := 2) (ret := none) (own := RX2) (by decide +kernel) rfl (Nat.le_of_ble_eq_true rfl) rfl ?_
  intro p9 e9 s9 m9 args9 below9 meth9 cd9 A hE hr hin2 hA9
  have inX2 : ∀ w ∈ wsX20, w ∈ wsX2_join := fun w h => List.mem_cons_of_mem _ (List.mem_append_right _ h)
  have g15 : xF RX2 wsX2_join 15 2 1 := ⟨"KeyScanner$Net", RX2, TX2, 2, inX2, rfl, by decide, List.mem_of_getElem? (i := 1) rfl, rfl⟩
  have g9 : xF RX2 wsX2_join 9 2 0 := ⟨"KeyScanner$Net", RX2, TX2, 2, inX2, rfl, by decide, List.mem_of_getElem? (i := 2) rfl, rfl⟩
  refine x_at (ws' := [(h0, .inr (2, [.ref a1, .ref a2])), (a1, .inl (cI, 8, .inl (xN cl))), (a2, .inl (cI, 8, .inl (xN jn)))]) (st' := []) rfl rfl ?_
  refine x_lv [(0, .ref h0)] [0] rfl ?_
  have lp28 : ∀ (n : Nat) (i : Nat) (jx : Nat → Nat) (hi : i + n = 8) (hjx : ∀ r, jx r < 256) (hT : lfor (fun c j => jthru j (1 <<< c)) i n jx = joinN cl jn), X p9 l e9 { frames := 1, cells := 0, slots := 0, locals := 23 } s9 m9 args9 below9 meth9 cd9 0 0 (MQ below9 (xQ D (fun v8 w8 => v8 = none ∧ w8 = [(h0, .inr (2, [.ref a1, .ref a2])), (a1, .inl (cI, 8, .inl (xN cl))), (a2, .inl (cI, 8, .inl (xN (joinN cl jn))))]) A) args9 s9 0 0 A) 2 D A [(h0, .inr (2, [.ref a1, .ref a2])), (a1, .inl (cI, 8, .inl (xN cl))), (a2, .inl (cI, 8, .inl (xN jx)))] [(0, .ref h0), (1, .int (nI i))] 28 [] := by
    intro n
    induction n with
    | zero =>
      intro i jx hi hjx hT
      refine x_iload_n hE 1 rfl dX2_join_28 ?_
      refine x_bipush hE (nI 8) (by decide) dX2_join_29 ?_
      refine xn_icmp_ge hE (by omega) (by omega) 47 (by decide) dX2_join_31 (fun c31 => ?_) (fun c31 => ?_)
      · skip
        exact x_vret hE hr (⟨rfl, by rw [show jx = joinN cl jn from hT]⟩) dX2_join_47
      · skip
        exfalso; omega
    | succ n ih =>
      intro i jx hi hjx hT
      refine x_iload_n hE 1 rfl dX2_join_28 ?_
      refine x_bipush hE (nI 8) (by decide) dX2_join_29 ?_
      refine xn_icmp_ge hE (by omega) (by omega) 47 (by decide) dX2_join_31 (fun c31 => ?_) (fun c31 => ?_)
      · skip
        exfalso; omega
      · skip
        refine x_aload_n hE 0 rfl dX2_join_34 ?_
        refine x_iconst hE (nI 1) (by decide) dX2_join_35 ?_
        refine x_iload_n hE 1 rfl dX2_join_36 ?_
        refine x_ishl hE (nI (1 <<< i)) (xI_shl (by omega)) dX2_join_37 ?_
        refine x_callV (n := 1) (st := []) hE (kX2_joinThrough l D cI cZ h0 a1 a2 cl jx (1 <<< i) (by assumption)) gX2_join_X2_joinThrough rfl (by decide +kernel) ⟨by decide, by decide⟩ ⟨Nat.zero_le _, Nat.zero_le _⟩ rfl [0, 1, 2] [] rfl (wr := []) rfl (by decide) (by decide) (by decide) 0 rfl rfl rfl rfl (Nat.le_of_ble_eq_true rfl) dX2_join_38 (fun v9 w9 hT9 => ?_)
        obtain ⟨rfl, rfl⟩ := hT9
        refine x_at (ws' := [(h0, .inr (2, [.ref a1, .ref a2])), (a1, .inl (cI, 8, .inl (xN cl))), (a2, .inl (cI, 8, .inl (xN (jthru jx (1 <<< i)))))]) (st' := []) rfl rfl ?_
        refine x_iinc hE (nI (i + 1)) [(1, .int (nI (i + 1))), (0, .ref h0)] 1 rfl (nI_add _ _) (by decide) rfl dX2_join_41 ?_
        refine x_goto hE 28 (by decide) dX2_join_44 ?_
        refine x_lv [(0, .ref h0), (1, .int (nI (i + 1)))] [1, 0] rfl ?_
        exact ih (i + 1) (jthru jx (1 <<< i)) (by omega) (jthru_lt hjx _) (hT)
  have lp2 : ∀ (n : Nat) (i : Nat) (jx : Nat → Nat) (hi : i + n = 8) (hj : jx = fa_fill cl jn i), X p9 l e9 { frames := 1, cells := 0, slots := 0, locals := 23 } s9 m9 args9 below9 meth9 cd9 0 0 (MQ below9 (xQ D (fun v8 w8 => v8 = none ∧ w8 = [(h0, .inr (2, [.ref a1, .ref a2])), (a1, .inl (cI, 8, .inl (xN cl))), (a2, .inl (cI, 8, .inl (xN (joinN cl jn))))]) A) args9 s9 0 0 A) 2 D A [(h0, .inr (2, [.ref a1, .ref a2])), (a1, .inl (cI, 8, .inl (xN cl))), (a2, .inl (cI, 8, .inl (xN jx)))] [(0, .ref h0), (1, .int (nI i))] 2 [] := by
    intro n
    induction n with
    | zero =>
      intro i jx hi hj
      refine x_iload_n hE 1 rfl dX2_join_2 ?_
      refine x_bipush hE (nI 8) (by decide) dX2_join_3 ?_
      refine xn_icmp_ge hE (by omega) (by omega) 26 (by decide) dX2_join_5 (fun c5 => ?_) (fun c5 => ?_)
      · skip
        refine x_iconst hE (nI 0) (by decide) dX2_join_26 ?_
        refine x_istore_n hE [(1, .int (nI 0)), (0, .ref h0)] (by decide) rfl dX2_join_27 ?_
        refine x_lv [(0, .ref h0), (1, .int (nI 0))] [1, 0] rfl ?_
        exact lp28 8 0 jx (rfl) (by rw [hj]; exact fill_lt hcl hjn) (by rw [hj, show i = 8 by omega]; rfl)
      · skip
        exfalso; omega
    | succ n ih =>
      intro i jx hi hj
      refine x_iload_n hE 1 rfl dX2_join_2 ?_
      refine x_bipush hE (nI 8) (by decide) dX2_join_3 ?_
      refine xn_icmp_ge hE (by omega) (by omega) 26 (by decide) dX2_join_5 (fun c5 => ?_) (fun c5 => ?_)
      · skip
        exfalso; omega
      · skip
        refine x_aload_n hE 0 rfl dX2_join_8 ?_
        refine x_get hE g15 0 rfl rfl dX2_join_9 ?_
        refine x_iload_n hE 1 rfl dX2_join_12 ?_
        refine x_aload_n hE 0 rfl dX2_join_13 ?_
        refine x_get hE g9 0 rfl rfl dX2_join_14 ?_
        refine x_iload_n hE 1 rfl dX2_join_17 ?_
        refine x_iald hE i (nI (cl i)) (by omega) (by decide) rfl 1 rfl dX2_join_18 ?_
        refine x_iast hE i (xN (updN jx i (cl i))) (by omega) (by decide) (upd_xN _ _ _) [(h0, .inr (2, [.ref a1, .ref a2])), (a1, .inl (cI, 8, .inl (xN cl))), (a2, .inl (cI, 8, .inl (xN (updN jx i (cl i)))))] 2 rfl rfl dX2_join_19 ?_
        refine x_iinc hE (nI (i + 1)) [(1, .int (nI (i + 1))), (0, .ref h0)] 1 rfl (nI_add _ _) (by decide) rfl dX2_join_20 ?_
        refine x_goto hE 2 (by decide) dX2_join_23 ?_
        refine x_lv [(0, .ref h0), (1, .int (nI (i + 1)))] [1, 0] rfl ?_
        exact ih (i + 1) (updN jx i (cl i)) (by omega) (by rw [hj]; exact fillN_succ _ _ _)
  refine x_iconst hE (nI 0) (by decide) dX2_join_0 ?_
  refine x_istore_n hE [(1, .int (nI 0)), (0, .ref h0)] (by decide) rfl dX2_join_1 ?_
  refine x_lv [(0, .ref h0), (1, .int (nI 0))] [1, 0] rfl ?_
  exact lp2 8 0 jn (rfl) (by rw [fa_fill_0])
set_option maxHeartbeats 4000000 in
set_option maxRecDepth 100000 in
theorem kX2_put (l : Launch) (D : va_G) (cI cZ : ClassId) (h0 : Nat) (a1 : Nat) (a2 : Nat) (cl : Nat → Nat) (jn : Nat → Nat) (r : Nat) (c : Nat) (b : Bool) (hcl : ∀ r, cl r < 256) (hjn : ∀ r, jn r < 256) (hr8 : r < 8) (hc8 : c < 8) : xC l yX2_put wsX2_put 2 0 0 44 D cI cZ [.ref h0, .int (nI r), .int (nI c), .int (bI b)] [(h0, .inr (2, [.ref a1, .ref a2])), (a1, .inl (cI, 8, .inl (xN cl))), (a2, .inl (cI, 8, .inl (xN jn)))] (fun v8 w8 => v8 = none ∧ w8 = [(h0, .inr (2, [.ref a1, .ref a2])), (a1, .inl (cI, 8, .inl (xN (putC cl r c b)))), (a2, .inl (cI, 8, .inl (xN (putJ cl jn r c b))))]) := by
  refine xC.of (bytes := cX2_put) (maxL := 5) (ret := none) (own := RX2) (by decide +kernel) rfl (Nat.le_of_ble_eq_true rfl) rfl ?_
  intro p9 e9 s9 m9 args9 below9 meth9 cd9 A hE hr hin2 hA9
  have inX2 : ∀ w ∈ wsX20, w ∈ wsX2_put := fun w h => List.mem_cons_of_mem _ (List.mem_append_right _ h)
  have g9 : xF RX2 wsX2_put 9 2 0 := ⟨"KeyScanner$Net", RX2, TX2, 2, inX2, rfl, by decide, List.mem_of_getElem? (i := 1) rfl, rfl⟩
  refine x_at (ws' := [(h0, .inr (2, [.ref a1, .ref a2])), (a1, .inl (cI, 8, .inl (xN cl))), (a2, .inl (cI, 8, .inl (xN jn)))]) (st' := []) rfl rfl ?_
  refine x_lv [(0, .ref h0), (1, .int (nI r)), (2, .int (nI c)), (3, .int (bI b))] [0, 1, 2, 3] rfl ?_
  refine x_iconst hE (nI 1) (by decide) dX2_put_0 ?_
  refine x_iload_n hE 2 rfl dX2_put_1 ?_
  refine x_ishl hE (nI (1 <<< c)) (xI_shl (by omega)) dX2_put_2 ?_
  refine x_istore hE [(4, .int (nI (1 <<< c))), (0, .ref h0), (1, .int (nI r)), (2, .int (nI c)), (3, .int (bI b))] (by decide) rfl dX2_put_3 ?_
  refine x_aload_n hE 1 rfl dX2_put_5 ?_
  refine x_get hE g9 0 rfl rfl dX2_put_6 ?_
  refine x_iload_n hE 2 rfl dX2_put_9 ?_
  refine x_iload_n hE 4 rfl dX2_put_10 ?_
  refine xb_if_eq hE 26 (by decide) dX2_put_11 (fun c11 => ?_) (fun c11 => ?_)
  · skip
    refine x_aload_n hE 1 rfl dX2_put_26 ?_
    refine x_get hE g9 0 rfl rfl dX2_put_27 ?_
    refine x_iload_n hE 2 rfl dX2_put_30 ?_
    refine x_iald hE r (nI (cl r)) (by omega) (by decide) rfl 1 rfl dX2_put_31 ?_
    refine x_iload hE 0 rfl dX2_put_32 ?_
    refine x_iconst hE (-1) (by decide) dX2_put_34 ?_
    refine x_ixor hE ((nI (1 <<< c)) ^^^ (-1)) rfl dX2_put_35 ?_
    refine x_iand hE (nI (an8 (cl r) (1 <<< c))) (an8_ok (hcl r)) dX2_put_36 ?_
    refine x_iast hE r (xN (putC cl r c b)) (by omega) (by decide) ((upd_xN _ _ _).trans (by simp only [putC, c11, reduceIte, Bool.false_eq_true])) [(h0, .inr (2, [.ref a1, .ref a2])), (a1, .inl (cI, 8, .inl (xN (putC cl r c b)))), (a2, .inl (cI, 8, .inl (xN jn)))] 1 rfl rfl dX2_put_37 ?_
    refine x_aload_n hE 1 rfl dX2_put_38 ?_
    refine x_callV (n := 0) (st := []) hE (kX2_join l D cI cZ h0 a1 a2 (putC cl r c b) jn (putC_lt hcl r hc8 b) (by assumption)) gX2_put_X2_join rfl (by decide +kernel) ⟨by decide, by decide⟩ ⟨Nat.zero_le _, Nat.zero_le _⟩ rfl [0, 1, 2] [] rfl (wr := []) rfl (by decide) (by decide) (by decide) 0 rfl rfl rfl rfl (Nat.le_of_ble_eq_true rfl) dX2_put_39 (fun v9 w9 hT9 => ?_)
    obtain ⟨rfl, rfl⟩ := hT9
    refine x_at (ws' := [(h0, .inr (2, [.ref a1, .ref a2])), (a1, .inl (cI, 8, .inl (xN (putC cl r c b)))), (a2, .inl (cI, 8, .inl (xN (joinN (putC cl r c b) jn))))]) (st' := []) rfl rfl ?_
    exact x_vret hE hr (⟨rfl, rfl⟩) dX2_put_42
  · skip
    refine x_aload_n hE 1 rfl dX2_put_14 ?_
    refine x_get hE g9 0 rfl rfl dX2_put_15 ?_
    refine x_iload_n hE 2 rfl dX2_put_18 ?_
    refine x_iald hE r (nI (cl r)) (by omega) (by decide) rfl 1 rfl dX2_put_19 ?_
    refine x_iload hE 0 rfl dX2_put_20 ?_
    refine x_ior hE (nI ((cl r) ||| (1 <<< c))) (fa_or _ _) dX2_put_22 ?_
    refine x_goto hE 37 (by decide) dX2_put_23 ?_
    refine x_iast hE r (xN (putC cl r c b)) (by omega) (by decide) ((upd_xN _ _ _).trans (by simp only [putC, c11, reduceIte, Bool.false_eq_true])) [(h0, .inr (2, [.ref a1, .ref a2])), (a1, .inl (cI, 8, .inl (xN (putC cl r c b)))), (a2, .inl (cI, 8, .inl (xN jn)))] 1 rfl rfl dX2_put_37 ?_
    refine x_aload_n hE 1 rfl dX2_put_38 ?_
    refine x_callV (n := 0) (st := []) hE (kX2_join l D cI cZ h0 a1 a2 (putC cl r c b) jn (putC_lt hcl r hc8 b) (by assumption)) gX2_put_X2_join rfl (by decide +kernel) ⟨by decide, by decide⟩ ⟨Nat.zero_le _, Nat.zero_le _⟩ rfl [0, 1, 2] [] rfl (wr := []) rfl (by decide) (by decide) (by decide) 0 rfl rfl rfl rfl (Nat.le_of_ble_eq_true rfl) dX2_put_39 (fun v9 w9 hT9 => ?_)
    obtain ⟨rfl, rfl⟩ := hT9
    refine x_at (ws' := [(h0, .inr (2, [.ref a1, .ref a2])), (a1, .inl (cI, 8, .inl (xN (putC cl r c b)))), (a2, .inl (cI, 8, .inl (xN (joinN (putC cl r c b) jn))))]) (st' := []) rfl rfl ?_
    exact x_vret hE hr (⟨rfl, rfl⟩) dX2_put_42
set_option maxHeartbeats 4000000 in
set_option maxRecDepth 100000 in
theorem kX2_rowsJoinedWith (l : Launch) (D : va_G) (cI cZ : ClassId) (h0 : Nat) (a1 : Nat) (a2 : Nat) (cl : Nat → Nat) (jn : Nat → Nat) (r : Nat) (hjn : ∀ r, jn r < 256) (hr8 : r < 8) : xC l yX2_rowsJoinedWith wsX2_rowsJoinedWith 0 0 0 0 D cI cZ [.ref h0, .int (nI r)] [(h0, .inr (2, [.ref a1, .ref a2])), (a1, .inl (cI, 8, .inl (xN cl))), (a2, .inl (cI, 8, .inl (xN jn)))] (fun v8 w8 => v8 = some (.int (nI (rjwN jn r))) ∧ w8 = [(h0, .inr (2, [.ref a1, .ref a2])), (a1, .inl (cI, 8, .inl (xN cl))), (a2, .inl (cI, 8, .inl (xN jn)))]) := by
  refine xC.of (bytes := cX2_rowsJoinedWith) (maxL := 4) (ret := (some .int)) (own := RX2) (by decide +kernel) rfl (Nat.le_of_ble_eq_true rfl) rfl ?_
  intro p9 e9 s9 m9 args9 below9 meth9 cd9 A hE hr hin2 hA9
  have inX2 : ∀ w ∈ wsX20, w ∈ wsX2_rowsJoinedWith := fun w h => List.mem_cons_of_mem _ (List.mem_append_right _ h)
  have g15 : xF RX2 wsX2_rowsJoinedWith 15 2 1 := ⟨"KeyScanner$Net", RX2, TX2, 2, inX2, rfl, by decide, List.mem_of_getElem? (i := 1) rfl, rfl⟩
  refine x_at (ws' := [(h0, .inr (2, [.ref a1, .ref a2])), (a1, .inl (cI, 8, .inl (xN cl))), (a2, .inl (cI, 8, .inl (xN jn)))]) (st' := []) rfl rfl ?_
  refine x_lv [(0, .ref h0), (1, .int (nI r))] [0, 1] rfl ?_
  have lp6 : ∀ (n : Nat) (i : Nat) (u : Nat) (hi : i + n = 8) (hT : lfor (fun o a => if jn o &&& jn r = 0 then a else a ||| (1 <<< o)) i n u = rjwN jn r), X p9 l e9 { frames := 0, cells := 0, slots := 0, locals := 0 } s9 m9 args9 below9 meth9 cd9 0 0 (MQ below9 (xQ D (fun v8 w8 => v8 = some (.int (nI (rjwN jn r))) ∧ w8 = [(h0, .inr (2, [.ref a1, .ref a2])), (a1, .inl (cI, 8, .inl (xN cl))), (a2, .inl (cI, 8, .inl (xN jn)))]) A) args9 s9 0 0 A) 4 D A [(h0, .inr (2, [.ref a1, .ref a2])), (a1, .inl (cI, 8, .inl (xN cl))), (a2, .inl (cI, 8, .inl (xN jn)))] [(0, .ref h0), (1, .int (nI r)), (2, .int (nI u)), (3, .int (nI i))] 6 [] := by
    intro n
    induction n with
    | zero =>
      intro i u hi hT
      refine x_iload_n hE 3 rfl dX2_rowsJoinedWith_6 ?_
      refine x_bipush hE (nI 8) (by decide) dX2_rowsJoinedWith_7 ?_
      refine xn_icmp_ge hE (by omega) (by omega) 40 (by decide) dX2_rowsJoinedWith_9 (fun c9 => ?_) (fun c9 => ?_)
      · skip
        refine x_iload_n hE 2 rfl dX2_rowsJoinedWith_40 ?_
        exact x_iret hE hr (⟨by rw [show u = rjwN jn r from hT], rfl⟩) dX2_rowsJoinedWith_41
      · skip
        exfalso; omega
    | succ n ih =>
      intro i u hi hT
      refine x_iload_n hE 3 rfl dX2_rowsJoinedWith_6 ?_
      refine x_bipush hE (nI 8) (by decide) dX2_rowsJoinedWith_7 ?_
      refine xn_icmp_ge hE (by omega) (by omega) 40 (by decide) dX2_rowsJoinedWith_9 (fun c9 => ?_) (fun c9 => ?_)
      · skip
        exfalso; omega
      · skip
        refine x_aload_n hE 0 rfl dX2_rowsJoinedWith_12 ?_
        refine x_get hE g15 0 rfl rfl dX2_rowsJoinedWith_13 ?_
        refine x_iload_n hE 3 rfl dX2_rowsJoinedWith_16 ?_
        refine x_iald hE i (nI (jn i)) (by omega) (by decide) rfl 2 rfl dX2_rowsJoinedWith_17 ?_
        refine x_aload_n hE 0 rfl dX2_rowsJoinedWith_18 ?_
        refine x_get hE g15 0 rfl rfl dX2_rowsJoinedWith_19 ?_
        refine x_iload_n hE 1 rfl dX2_rowsJoinedWith_22 ?_
        refine x_iald hE r (nI (jn r)) (by omega) (by decide) rfl 2 rfl dX2_rowsJoinedWith_23 ?_
        refine x_iand hE (nI ((jn i) &&& (jn r))) (fa_and _ _) dX2_rowsJoinedWith_24 ?_
        have hb25 : jn i &&& jn r < 256 := and256 (hjn i)
        refine xn_if_eq hE (by omega) 34 (by decide) dX2_rowsJoinedWith_25 (fun c25 => ?_) (fun c25 => ?_)
        · skip
          refine x_iinc hE (nI (i + 1)) [(3, .int (nI (i + 1))), (0, .ref h0), (1, .int (nI r)), (2, .int (nI u))] 3 rfl (nI_add _ _) (by decide) rfl dX2_rowsJoinedWith_34 ?_
          refine x_goto hE 6 (by decide) dX2_rowsJoinedWith_37 ?_
          refine x_lv [(0, .ref h0), (1, .int (nI r)), (2, .int (nI u)), (3, .int (nI (i + 1)))] [1, 2, 3, 0] rfl ?_
          exact ih (i + 1) u (by omega) (by simpa only [lfor, lany, lfind, if_pos c9, if_pos c25, reduceIte, Bool.false_eq_true, Bool.true_eq_false] using hT)
        · skip
          refine x_iload_n hE 2 rfl dX2_rowsJoinedWith_28 ?_
          refine x_iconst hE (nI 1) (by decide) dX2_rowsJoinedWith_29 ?_
          refine x_iload_n hE 3 rfl dX2_rowsJoinedWith_30 ?_
          refine x_ishl hE (nI (1 <<< i)) (xI_shl (by omega)) dX2_rowsJoinedWith_31 ?_
          refine x_ior hE (nI (u ||| (1 <<< i))) (fa_or _ _) dX2_rowsJoinedWith_32 ?_
          refine x_istore_n hE [(2, .int (nI (u ||| (1 <<< i)))), (0, .ref h0), (1, .int (nI r)), (3, .int (nI i))] (by decide) rfl dX2_rowsJoinedWith_33 ?_
          refine x_iinc hE (nI (i + 1)) [(3, .int (nI (i + 1))), (2, .int (nI (u ||| (1 <<< i)))), (0, .ref h0), (1, .int (nI r))] 3 rfl (nI_add _ _) (by decide) rfl dX2_rowsJoinedWith_34 ?_
          refine x_goto hE 6 (by decide) dX2_rowsJoinedWith_37 ?_
          refine x_lv [(0, .ref h0), (1, .int (nI r)), (2, .int (nI (u ||| (1 <<< i)))), (3, .int (nI (i + 1)))] [2, 3, 1, 0] rfl ?_
          exact ih (i + 1) (u ||| (1 <<< i)) (by omega) (by simpa only [lfor, lany, lfind, if_pos c9, if_neg c25, reduceIte, Bool.false_eq_true, Bool.true_eq_false] using hT)
  refine x_iconst hE (nI 1) (by decide) dX2_rowsJoinedWith_0 ?_
  refine x_iload_n hE 1 rfl dX2_rowsJoinedWith_1 ?_
  refine x_ishl hE (nI (1 <<< r)) (xI_shl (by omega)) dX2_rowsJoinedWith_2 ?_
  refine x_istore_n hE [(2, .int (nI (1 <<< r))), (0, .ref h0), (1, .int (nI r))] (by decide) rfl dX2_rowsJoinedWith_3 ?_
  refine x_iconst hE (nI 0) (by decide) dX2_rowsJoinedWith_4 ?_
  refine x_istore_n hE [(3, .int (nI 0)), (2, .int (nI (1 <<< r))), (0, .ref h0), (1, .int (nI r))] (by decide) rfl dX2_rowsJoinedWith_5 ?_
  refine x_lv [(0, .ref h0), (1, .int (nI r)), (2, .int (nI (1 <<< r))), (3, .int (nI 0))] [2, 3, 1, 0] rfl ?_
  exact lp6 8 0 (1 <<< r) (rfl) (rfl)
