set_option maxHeartbeats 4000000 in
set_option maxRecDepth 100000 in
theorem kX3_silence (l : Launch) (D : va_G) (cI cZ : ClassId) (h0 : Nat) (v1 : Nat) (v2 : Nat) (v3 : Nat) (v4 : Nat) (v5 : Nat) (j0 : Nat) (a1 : Nat) (a2 : Nat) (a3 : Nat) (st : Nat → Int32) (kk : Nat → Int32) (ve : Nat → Int32) (si : Nat → Int32) (ca : Nat → Bool) (V : Nat) (ru : Int32) (tk : Int32) (sus : Bool) (sos : Bool) (jt : Nat → Int32) (jk : Nat → Int32) (jy : Nat → Int32) (mk : Nat)  : xC l yX3_silence wsX3_silence 0 0 0 0 D cI cZ [.ref h0] [(h0, .inr (3, [.ref v1, .ref v2, .ref v3, .ref v4, .ref v5, .ref j0, .int (nI V), .int ru, .int tk, .int (bI sus), .int (bI sos)])), (v1, .inl (cI, 8, .inl st)), (v2, .inl (cI, 8, .inl kk)), (v3, .inl (cI, 8, .inl ve)), (v4, .inl (cI, 8, .inl si)), (v5, .inl (cZ, 8, .inl (xB ca))), (j0, .inr (0, [.ref a1, .ref a2, .ref a3, .int (nI mk)])), (a1, .inl (cI, 16, .inl jt)), (a2, .inl (cI, 16, .inl jk)), (a3, .inl (cI, 16, .inl jy))] (fun v8 w8 => v8 = none ∧ w8 = [(h0, .inr (3, [.ref v1, .ref v2, .ref v3, .ref v4, .ref v5, .ref j0, .int (nI V), .int ru, .int (nI 0), .int (bI false), .int (bI false)])), (v1, .inl (cI, 8, .inl (zeroI st 8))), (v2, .inl (cI, 8, .inl kk)), (v3, .inl (cI, 8, .inl ve)), (v4, .inl (cI, 8, .inl si)), (v5, .inl (cZ, 8, .inl (xB (zeroB ca 8)))), (j0, .inr (0, [.ref a1, .ref a2, .ref a3, .int (nI mk)])), (a1, .inl (cI, 16, .inl jt)), (a2, .inl (cI, 16, .inl jk)), (a3, .inl (cI, 16, .inl jy))]) := by
  refine xC.of (bytes := cX3_silence) (maxL := 2) (ret := none) (own := RX3) (by decide +kernel) rfl (Nat.le_of_ble_eq_true rfl) rfl ?_
  intro p9 e9 s9 m9 args9 below9 meth9 cd9 A hE hr hin2 hA9
  have inX3 : ∀ w ∈ wsX30, w ∈ wsX3_silence := fun w h => List.mem_cons_of_mem _ (List.mem_append_right _ h)
  have g9 : xF RX3 wsX3_silence 9 3 0 := ⟨"KeyScanner$Voices", RX3, TX3, 11, inX3, rfl, by decide, List.mem_of_getElem? (i := 1) rfl, rfl⟩
  have g24 : xF RX3 wsX3_silence 24 3 4 := ⟨"KeyScanner$Voices", RX3, TX3, 11, inX3, rfl, by decide, List.mem_of_getElem? (i := 2) rfl, rfl⟩
  have p35 : xP RX3 wsX3_silence 35 3 8 false .int := ⟨"KeyScanner$Voices", RX3, TX3, 11, tyX3, inX3, rfl, by decide, List.mem_of_getElem? (i := 3) rfl, rfl, tyX3_ok, nmX3, rfl, by decide +kernel, fun h => by cases h⟩
  have p38 : xP RX3 wsX3_silence 38 3 9 false .boolean := ⟨"KeyScanner$Voices", RX3, TX3, 11, tyX3, inX3, rfl, by decide, List.mem_of_getElem? (i := 4) rfl, rfl, tyX3_ok, nmX3, rfl, by decide +kernel, fun h => by cases h⟩
  have p42 : xP RX3 wsX3_silence 42 3 10 false .boolean := ⟨"KeyScanner$Voices", RX3, TX3, 11, tyX3, inX3, rfl, by decide, List.mem_of_getElem? (i := 5) rfl, rfl, tyX3_ok, nmX3, rfl, by decide +kernel, fun h => by cases h⟩
  refine x_at (ws' := [(h0, .inr (3, [.ref v1, .ref v2, .ref v3, .ref v4, .ref v5, .ref j0, .int (nI V), .int ru, .int tk, .int (bI sus), .int (bI sos)])), (v1, .inl (cI, 8, .inl st)), (v2, .inl (cI, 8, .inl kk)), (v3, .inl (cI, 8, .inl ve)), (v4, .inl (cI, 8, .inl si)), (v5, .inl (cZ, 8, .inl (xB ca))), (j0, .inr (0, [.ref a1, .ref a2, .ref a3, .int (nI mk)])), (a1, .inl (cI, 16, .inl jt)), (a2, .inl (cI, 16, .inl jk)), (a3, .inl (cI, 16, .inl jy))]) (st' := []) rfl rfl ?_
  refine x_lv [(0, .ref h0)] [0] rfl ?_
  have lp2 : ∀ (n : Nat) (i : Nat) (sx : Nat → Int32) (cx : Nat → Bool) (hi : i + n = 8) (hs : sx = zeroI st i) (hc : cx = zeroB ca i), X p9 l e9 { frames := 0, cells := 0, slots := 0, locals := 0 } s9 m9 args9 below9 meth9 cd9 0 0 (MQ below9 (xQ D (fun v8 w8 => v8 = none ∧ w8 = [(h0, .inr (3, [.ref v1, .ref v2, .ref v3, .ref v4, .ref v5, .ref j0, .int (nI V), .int ru, .int (nI 0), .int (bI false), .int (bI false)])), (v1, .inl (cI, 8, .inl (zeroI st 8))), (v2, .inl (cI, 8, .inl kk)), (v3, .inl (cI, 8, .inl ve)), (v4, .inl (cI, 8, .inl si)), (v5, .inl (cZ, 8, .inl (xB (zeroB ca 8)))), (j0, .inr (0, [.ref a1, .ref a2, .ref a3, .int (nI mk)])), (a1, .inl (cI, 16, .inl jt)), (a2, .inl (cI, 16, .inl jk)), (a3, .inl (cI, 16, .inl jy))]) A) args9 s9 0 0 A) 2 D A [(h0, .inr (3, [.ref v1, .ref v2, .ref v3, .ref v4, .ref v5, .ref j0, .int (nI V), .int ru, .int tk, .int (bI sus), .int (bI sos)])), (v1, .inl (cI, 8, .inl sx)), (v2, .inl (cI, 8, .inl kk)), (v3, .inl (cI, 8, .inl ve)), (v4, .inl (cI, 8, .inl si)), (v5, .inl (cZ, 8, .inl (xB cx))), (j0, .inr (0, [.ref a1, .ref a2, .ref a3, .int (nI mk)])), (a1, .inl (cI, 16, .inl jt)), (a2, .inl (cI, 16, .inl jk)), (a3, .inl (cI, 16, .inl jy))] [(0, .ref h0), (1, .int (nI i))] 2 [] := by
    intro n
    induction n with
    | zero =>
      intro i sx cx hi hs hc
      refine x_iload_n hE 1 rfl dX3_silence_2 ?_
      refine x_bipush hE (nI 8) (by decide) dX3_silence_3 ?_
      refine xn_icmp_ge hE (by omega) (by omega) 28 (by decide) dX3_silence_5 (fun c5 => ?_) (fun c5 => ?_)
      · skip
        refine x_aload_n hE 0 rfl dX3_silence_28 ?_
        refine x_iconst hE (nI 0) (by decide) dX3_silence_29 ?_
        refine x_put hE p35 [(h0, .inr (3, [.ref v1, .ref v2, .ref v3, .ref v4, .ref v5, .ref j0, .int (nI V), .int ru, .int (nI 0), .int (bI sus), .int (bI sos)])), (v1, .inl (cI, 8, .inl sx)), (v2, .inl (cI, 8, .inl kk)), (v3, .inl (cI, 8, .inl ve)), (v4, .inl (cI, 8, .inl si)), (v5, .inl (cZ, 8, .inl (xB cx))), (j0, .inr (0, [.ref a1, .ref a2, .ref a3, .int (nI mk)])), (a1, .inl (cI, 16, .inl jt)), (a2, .inl (cI, 16, .inl jk)), (a3, .inl (cI, 16, .inl jy))] 0 rfl rfl rfl rfl (Nat.le_of_ble_eq_true rfl) dX3_silence_30 ?_
        refine x_aload_n hE 0 rfl dX3_silence_33 ?_
        refine x_iconst hE (nI 0) (by decide) dX3_silence_34 ?_
        refine x_eq (bI false) rfl ?_
        refine x_put hE p38 [(h0, .inr (3, [.ref v1, .ref v2, .ref v3, .ref v4, .ref v5, .ref j0, .int (nI V), .int ru, .int (nI 0), .int (bI false), .int (bI sos)])), (v1, .inl (cI, 8, .inl sx)), (v2, .inl (cI, 8, .inl kk)), (v3, .inl (cI, 8, .inl ve)), (v4, .inl (cI, 8, .inl si)), (v5, .inl (cZ, 8, .inl (xB cx))), (j0, .inr (0, [.ref a1, .ref a2, .ref a3, .int (nI mk)])), (a1, .inl (cI, 16, .inl jt)), (a2, .inl (cI, 16, .inl jk)), (a3, .inl (cI, 16, .inl jy))] 0 rfl rfl (narrow_bI _) (fits_bI _) (Nat.le_of_ble_eq_true rfl) dX3_silence_35 ?_
        refine x_aload_n hE 0 rfl dX3_silence_38 ?_
        refine x_iconst hE (nI 0) (by decide) dX3_silence_39 ?_
        refine x_eq (bI false) rfl ?_
        refine x_put hE p42 [(h0, .inr (3, [.ref v1, .ref v2, .ref v3, .ref v4, .ref v5, .ref j0, .int (nI V), .int ru, .int (nI 0), .int (bI false), .int (bI false)])), (v1, .inl (cI, 8, .inl sx)), (v2, .inl (cI, 8, .inl kk)), (v3, .inl (cI, 8, .inl ve)), (v4, .inl (cI, 8, .inl si)), (v5, .inl (cZ, 8, .inl (xB cx))), (j0, .inr (0, [.ref a1, .ref a2, .ref a3, .int (nI mk)])), (a1, .inl (cI, 16, .inl jt)), (a2, .inl (cI, 16, .inl jk)), (a3, .inl (cI, 16, .inl jy))] 0 rfl rfl (narrow_bI _) (fits_bI _) (Nat.le_of_ble_eq_true rfl) dX3_silence_40 ?_
        exact x_vret hE hr (⟨rfl, by rw [hs, hc, show i = 8 by omega]⟩) dX3_silence_43
      · skip
        exfalso; omega
    | succ n ih =>
      intro i sx cx hi hs hc
      refine x_iload_n hE 1 rfl dX3_silence_2 ?_
      refine x_bipush hE (nI 8) (by decide) dX3_silence_3 ?_
      refine xn_icmp_ge hE (by omega) (by omega) 28 (by decide) dX3_silence_5 (fun c5 => ?_) (fun c5 => ?_)
      · skip
        exfalso; omega
      · skip
        refine x_aload_n hE 0 rfl dX3_silence_8 ?_
        refine x_get hE g9 0 rfl rfl dX3_silence_9 ?_
        refine x_iload_n hE 1 rfl dX3_silence_12 ?_
        refine x_iconst hE (nI 0) (by decide) dX3_silence_13 ?_
        refine x_iast hE i (upd sx i (nI 0)) (by omega) (by decide) rfl [(h0, .inr (3, [.ref v1, .ref v2, .ref v3, .ref v4, .ref v5, .ref j0, .int (nI V), .int ru, .int tk, .int (bI sus), .int (bI sos)])), (v1, .inl (cI, 8, .inl (upd sx i (nI 0)))), (v2, .inl (cI, 8, .inl kk)), (v3, .inl (cI, 8, .inl ve)), (v4, .inl (cI, 8, .inl si)), (v5, .inl (cZ, 8, .inl (xB cx))), (j0, .inr (0, [.ref a1, .ref a2, .ref a3, .int (nI mk)])), (a1, .inl (cI, 16, .inl jt)), (a2, .inl (cI, 16, .inl jk)), (a3, .inl (cI, 16, .inl jy))] 1 rfl rfl dX3_silence_14 ?_
        refine x_aload_n hE 0 rfl dX3_silence_15 ?_
        refine x_get hE g24 0 rfl rfl dX3_silence_16 ?_
        refine x_iload_n hE 1 rfl dX3_silence_19 ?_
        refine x_iconst hE (nI 0) (by decide) dX3_silence_20 ?_
        refine x_eq (bI false) rfl ?_
        refine x_zast hE i (updB cx i false) (by omega) (by decide) rfl [(h0, .inr (3, [.ref v1, .ref v2, .ref v3, .ref v4, .ref v5, .ref j0, .int (nI V), .int ru, .int tk, .int (bI sus), .int (bI sos)])), (v1, .inl (cI, 8, .inl (upd sx i (nI 0)))), (v2, .inl (cI, 8, .inl kk)), (v3, .inl (cI, 8, .inl ve)), (v4, .inl (cI, 8, .inl si)), (v5, .inl (cZ, 8, .inl (xB (updB cx i false)))), (j0, .inr (0, [.ref a1, .ref a2, .ref a3, .int (nI mk)])), (a1, .inl (cI, 16, .inl jt)), (a2, .inl (cI, 16, .inl jk)), (a3, .inl (cI, 16, .inl jy))] 5 rfl rfl dX3_silence_21 ?_
        refine x_iinc hE (nI (i + 1)) [(1, .int (nI (i + 1))), (0, .ref h0)] 1 rfl (nI_add _ _) (by decide) rfl dX3_silence_22 ?_
        refine x_goto hE 2 (by decide) dX3_silence_25 ?_
        refine x_lv [(0, .ref h0), (1, .int (nI (i + 1)))] [1, 0] rfl ?_
        exact ih (i + 1) (upd sx i (nI 0)) (updB cx i false) (by omega) (by rw [hs]; exact fa_fill_succ _ _ _) (by rw [hc]; exact fillB_succ _ _ _)
  refine x_iconst hE (nI 0) (by decide) dX3_silence_0 ?_
  refine x_istore_n hE [(1, .int (nI 0)), (0, .ref h0)] (by decide) rfl dX3_silence_1 ?_
  refine x_lv [(0, .ref h0), (1, .int (nI 0))] [1, 0] rfl ?_
  exact lp2 8 0 st ca (rfl) (by rw [zeroI, fa_fill_0]) (by rw [zeroB, fa_fill_0])
set_option maxHeartbeats 4000000 in
set_option maxRecDepth 100000 in
theorem kX3_withKey (l : Launch) (D : va_G) (cI cZ : ClassId) (h0 : Nat) (v1 : Nat) (v2 : Nat) (v3 : Nat) (v4 : Nat) (v5 : Nat) (j0 : Nat) (a1 : Nat) (a2 : Nat) (a3 : Nat) (st : Nat → Int32) (kk : Nat → Int32) (ve : Nat → Int32) (si : Nat → Int32) (ca : Nat → Bool) (V : Nat) (ru : Int32) (tk : Int32) (sus : Bool) (sos : Bool) (jt : Nat → Int32) (jk : Nat → Int32) (jy : Nat → Int32) (mk : Nat) (ky : Int32) (hV : 1 ≤ V ∧ V ≤ 8) : xC l yX3_withKey wsX3_withKey 0 0 0 0 D cI cZ [.ref h0, .int ky] [(h0, .inr (3, [.ref v1, .ref v2, .ref v3, .ref v4, .ref v5, .ref j0, .int (nI V), .int ru, .int tk, .int (bI sus), .int (bI sos)])), (v1, .inl (cI, 8, .inl st)), (v2, .inl (cI, 8, .inl kk)), (v3, .inl (cI, 8, .inl ve)), (v4, .inl (cI, 8, .inl si)), (v5, .inl (cZ, 8, .inl (xB ca))), (j0, .inr (0, [.ref a1, .ref a2, .ref a3, .int (nI mk)])), (a1, .inl (cI, 16, .inl jt)), (a2, .inl (cI, 16, .inl jk)), (a3, .inl (cI, 16, .inl jy))] (fun v8 w8 => v8 = some (.int (rV (findN (wkP st kk ky) 0 V) V)) ∧ w8 = [(h0, .inr (3, [.ref v1, .ref v2, .ref v3, .ref v4, .ref v5, .ref j0, .int (nI V), .int ru, .int tk, .int (bI sus), .int (bI sos)])), (v1, .inl (cI, 8, .inl st)), (v2, .inl (cI, 8, .inl kk)), (v3, .inl (cI, 8, .inl ve)), (v4, .inl (cI, 8, .inl si)), (v5, .inl (cZ, 8, .inl (xB ca))), (j0, .inr (0, [.ref a1, .ref a2, .ref a3, .int (nI mk)])), (a1, .inl (cI, 16, .inl jt)), (a2, .inl (cI, 16, .inl jk)), (a3, .inl (cI, 16, .inl jy))]) := by
  refine xC.of (bytes := cX3_withKey) (maxL := 3) (ret := (some .int)) (own := RX3) (by decide +kernel) rfl (Nat.le_of_ble_eq_true rfl) rfl ?_
  intro p9 e9 s9 m9 args9 below9 meth9 cd9 A hE hr hin2 hA9
  have inX3 : ∀ w ∈ wsX30, w ∈ wsX3_withKey := fun w h => List.mem_cons_of_mem _ (List.mem_append_right _ h)
  have g28 : xF RX3 wsX3_withKey 28 3 6 := ⟨"KeyScanner$Voices", RX3, TX3, 11, inX3, rfl, by decide, List.mem_of_getElem? (i := 1) rfl, rfl⟩
  have g9 : xF RX3 wsX3_withKey 9 3 0 := ⟨"KeyScanner$Voices", RX3, TX3, 11, inX3, rfl, by decide, List.mem_of_getElem? (i := 2) rfl, rfl⟩
  have g15 : xF RX3 wsX3_withKey 15 3 1 := ⟨"KeyScanner$Voices", RX3, TX3, 11, inX3, rfl, by decide, List.mem_of_getElem? (i := 3) rfl, rfl⟩
  refine x_at (ws' := [(h0, .inr (3, [.ref v1, .ref v2, .ref v3, .ref v4, .ref v5, .ref j0, .int (nI V), .int ru, .int tk, .int (bI sus), .int (bI sos)])), (v1, .inl (cI, 8, .inl st)), (v2, .inl (cI, 8, .inl kk)), (v3, .inl (cI, 8, .inl ve)), (v4, .inl (cI, 8, .inl si)), (v5, .inl (cZ, 8, .inl (xB ca))), (j0, .inr (0, [.ref a1, .ref a2, .ref a3, .int (nI mk)])), (a1, .inl (cI, 16, .inl jt)), (a2, .inl (cI, 16, .inl jk)), (a3, .inl (cI, 16, .inl jy))]) (st' := []) rfl rfl ?_
  refine x_lv [(0, .ref h0), (1, .int ky)] [0, 1] rfl ?_
  have lp2 : ∀ (n : Nat) (i : Nat) (hi : i + n = V) (hT : findN (wkP st kk ky) i n = findN (wkP st kk ky) 0 V), X p9 l e9 { frames := 0, cells := 0, slots := 0, locals := 0 } s9 m9 args9 below9 meth9 cd9 0 0 (MQ below9 (xQ D (fun v8 w8 => v8 = some (.int (rV (findN (wkP st kk ky) 0 V) V)) ∧ w8 = [(h0, .inr (3, [.ref v1, .ref v2, .ref v3, .ref v4, .ref v5, .ref j0, .int (nI V), .int ru, .int tk, .int (bI sus), .int (bI sos)])), (v1, .inl (cI, 8, .inl st)), (v2, .inl (cI, 8, .inl kk)), (v3, .inl (cI, 8, .inl ve)), (v4, .inl (cI, 8, .inl si)), (v5, .inl (cZ, 8, .inl (xB ca))), (j0, .inr (0, [.ref a1, .ref a2, .ref a3, .int (nI mk)])), (a1, .inl (cI, 16, .inl jt)), (a2, .inl (cI, 16, .inl jk)), (a3, .inl (cI, 16, .inl jy))]) A) args9 s9 0 0 A) 3 D A [(h0, .inr (3, [.ref v1, .ref v2, .ref v3, .ref v4, .ref v5, .ref j0, .int (nI V), .int ru, .int tk, .int (bI sus), .int (bI sos)])), (v1, .inl (cI, 8, .inl st)), (v2, .inl (cI, 8, .inl kk)), (v3, .inl (cI, 8, .inl ve)), (v4, .inl (cI, 8, .inl si)), (v5, .inl (cZ, 8, .inl (xB ca))), (j0, .inr (0, [.ref a1, .ref a2, .ref a3, .int (nI mk)])), (a1, .inl (cI, 16, .inl jt)), (a2, .inl (cI, 16, .inl jk)), (a3, .inl (cI, 16, .inl jy))] [(0, .ref h0), (1, .int ky), (2, .int (nI i))] 2 [] := by
    intro n
    induction n with
    | zero =>
      intro i hi hT
      refine x_iload_n hE 2 rfl dX3_withKey_2 ?_
      refine x_aload_n hE 0 rfl dX3_withKey_3 ?_
      refine x_get hE g28 0 rfl rfl dX3_withKey_4 ?_
      refine xn_icmp_ge hE (by omega) (by omega) 37 (by decide) dX3_withKey_7 (fun c7 => ?_) (fun c7 => ?_)
      · skip
        refine x_bipush hE (-3) (by decide) dX3_withKey_37 ?_
        exact x_iret hE hr (⟨by rw [← show i = findN (wkP st kk ky) 0 V from hT, rV, if_neg (by omega)], rfl⟩) dX3_withKey_39
      · skip
        exfalso; omega
    | succ n ih =>
      intro i hi hT
      refine x_iload_n hE 2 rfl dX3_withKey_2 ?_
      refine x_aload_n hE 0 rfl dX3_withKey_3 ?_
      refine x_get hE g28 0 rfl rfl dX3_withKey_4 ?_
      refine xn_icmp_ge hE (by omega) (by omega) 37 (by decide) dX3_withKey_7 (fun c7 => ?_) (fun c7 => ?_)
      · skip
        exfalso; omega
      · skip
        refine x_aload_n hE 0 rfl dX3_withKey_10 ?_
        refine x_get hE g9 0 rfl rfl dX3_withKey_11 ?_
        refine x_iload_n hE 2 rfl dX3_withKey_14 ?_
        refine x_iald hE i (st i) (by omega) (by decide) rfl 1 rfl dX3_withKey_15 ?_
        refine x_if_eq hE 31 (by decide) dX3_withKey_16 (fun c16 => ?_) (fun c16 => ?_)
        · skip
          refine x_iinc hE (nI (i + 1)) [(2, .int (nI (i + 1))), (0, .ref h0), (1, .int ky)] 2 rfl (nI_add _ _) (by decide) rfl dX3_withKey_31 ?_
          refine x_goto hE 2 (by decide) dX3_withKey_34 ?_
          refine x_lv [(0, .ref h0), (1, .int ky), (2, .int (nI (i + 1)))] [1, 2, 0] rfl ?_
          exact ih (i + 1) (by omega) (by simpa only [lfor, lany, lfind, findN, wkP, if_pos c7, if_pos c16, reduceIte, Bool.false_eq_true, Bool.true_eq_false] using hT)
        · skip
          refine x_aload_n hE 0 rfl dX3_withKey_19 ?_
          refine x_get hE g15 0 rfl rfl dX3_withKey_20 ?_
          refine x_iload_n hE 2 rfl dX3_withKey_23 ?_
          refine x_iald hE i (kk i) (by omega) (by decide) rfl 2 rfl dX3_withKey_24 ?_
          refine x_iload_n hE 1 rfl dX3_withKey_25 ?_
          refine x_icmp_ne hE 31 (by decide) dX3_withKey_26 (fun c26 => ?_) (fun c26 => ?_)
          · skip
            refine x_iinc hE (nI (i + 1)) [(2, .int (nI (i + 1))), (0, .ref h0), (1, .int ky)] 2 rfl (nI_add _ _) (by decide) rfl dX3_withKey_31 ?_
            refine x_goto hE 2 (by decide) dX3_withKey_34 ?_
            refine x_lv [(0, .ref h0), (1, .int ky), (2, .int (nI (i + 1)))] [1, 2, 0] rfl ?_
            exact ih (i + 1) (by omega) (by simpa only [lfor, lany, lfind, findN, wkP, if_pos c7, if_neg c16, if_neg c26, reduceIte, Bool.false_eq_true, Bool.true_eq_false] using hT)
          · skip
            refine x_iload_n hE 2 rfl dX3_withKey_29 ?_
            exact x_iret hE hr (⟨by rw [← show i = findN (wkP st kk ky) 0 V from by simpa only [findN, wkP, if_pos c7, if_neg c16, if_pos c26, reduceIte, Bool.false_eq_true, Bool.true_eq_false] using hT, rV_some (by omega)], rfl⟩) dX3_withKey_30
  refine x_iconst hE (nI 0) (by decide) dX3_withKey_0 ?_
  refine x_istore_n hE [(2, .int (nI 0)), (0, .ref h0), (1, .int ky)] (by decide) rfl dX3_withKey_1 ?_
  refine x_lv [(0, .ref h0), (1, .int ky), (2, .int (nI 0))] [1, 2, 0] rfl ?_
  exact lp2 V 0 (Nat.zero_add _) (rfl)
set_option maxHeartbeats 4000000 in
set_option maxRecDepth 100000 in
theorem kX3_firstFree (l : Launch) (D : va_G) (cI cZ : ClassId) (h0 : Nat) (v1 : Nat) (v2 : Nat) (v3 : Nat) (v4 : Nat) (v5 : Nat) (j0 : Nat) (a1 : Nat) (a2 : Nat) (a3 : Nat) (st : Nat → Int32) (kk : Nat → Int32) (ve : Nat → Int32) (si : Nat → Int32) (ca : Nat → Bool) (V : Nat) (ru : Int32) (tk : Int32) (sus : Bool) (sos : Bool) (jt : Nat → Int32) (jk : Nat → Int32) (jy : Nat → Int32) (mk : Nat) (hV : 1 ≤ V ∧ V ≤ 8) : xC l yX3_firstFree wsX3_firstFree 0 0 0 0 D cI cZ [.ref h0] [(h0, .inr (3, [.ref v1, .ref v2, .ref v3, .ref v4, .ref v5, .ref j0, .int (nI V), .int ru, .int tk, .int (bI sus), .int (bI sos)])), (v1, .inl (cI, 8, .inl st)), (v2, .inl (cI, 8, .inl kk)), (v3, .inl (cI, 8, .inl ve)), (v4, .inl (cI, 8, .inl si)), (v5, .inl (cZ, 8, .inl (xB ca))), (j0, .inr (0, [.ref a1, .ref a2, .ref a3, .int (nI mk)])), (a1, .inl (cI, 16, .inl jt)), (a2, .inl (cI, 16, .inl jk)), (a3, .inl (cI, 16, .inl jy))] (fun v8 w8 => v8 = some (.int (rV (findN (ffP st) 0 V) V)) ∧ w8 = [(h0, .inr (3, [.ref v1, .ref v2, .ref v3, .ref v4, .ref v5, .ref j0, .int (nI V), .int ru, .int tk, .int (bI sus), .int (bI sos)])), (v1, .inl (cI, 8, .inl st)), (v2, .inl (cI, 8, .inl kk)), (v3, .inl (cI, 8, .inl ve)), (v4, .inl (cI, 8, .inl si)), (v5, .inl (cZ, 8, .inl (xB ca))), (j0, .inr (0, [.ref a1, .ref a2, .ref a3, .int (nI mk)])), (a1, .inl (cI, 16, .inl jt)), (a2, .inl (cI, 16, .inl jk)), (a3, .inl (cI, 16, .inl jy))]) := by
  refine xC.of (bytes := cX3_firstFree) (maxL := 2) (ret := (some .int)) (own := RX3) (by decide +kernel) rfl (Nat.le_of_ble_eq_true rfl) rfl ?_
  intro p9 e9 s9 m9 args9 below9 meth9 cd9 A hE hr hin2 hA9
  have inX3 : ∀ w ∈ wsX30, w ∈ wsX3_firstFree := fun w h => List.mem_cons_of_mem _ (List.mem_append_right _ h)
  have g28 : xF RX3 wsX3_firstFree 28 3 6 := ⟨"KeyScanner$Voices", RX3, TX3, 11, inX3, rfl, by decide, List.mem_of_getElem? (i := 1) rfl, rfl⟩
  have g9 : xF RX3 wsX3_firstFree 9 3 0 := ⟨"KeyScanner$Voices", RX3, TX3, 11, inX3, rfl, by decide, List.mem_of_getElem? (i := 2) rfl, rfl⟩
  refine x_at (ws' := [(h0, .inr (3, [.ref v1, .ref v2, .ref v3, .ref v4, .ref v5, .ref j0, .int (nI V), .int ru, .int tk, .int (bI sus), .int (bI sos)])), (v1, .inl (cI, 8, .inl st)), (v2, .inl (cI, 8, .inl kk)), (v3, .inl (cI, 8, .inl ve)), (v4, .inl (cI, 8, .inl si)), (v5, .inl (cZ, 8, .inl (xB ca))), (j0, .inr (0, [.ref a1, .ref a2, .ref a3, .int (nI mk)])), (a1, .inl (cI, 16, .inl jt)), (a2, .inl (cI, 16, .inl jk)), (a3, .inl (cI, 16, .inl jy))]) (st' := []) rfl rfl ?_
  refine x_lv [(0, .ref h0)] [0] rfl ?_
  have lp2 : ∀ (n : Nat) (i : Nat) (hi : i + n = V) (hT : findN (ffP st) i n = findN (ffP st) 0 V), X p9 l e9 { frames := 0, cells := 0, slots := 0, locals := 0 } s9 m9 args9 below9 meth9 cd9 0 0 (MQ below9 (xQ D (fun v8 w8 => v8 = some (.int (rV (findN (ffP st) 0 V) V)) ∧ w8 = [(h0, .inr (3, [.ref v1, .ref v2, .ref v3, .ref v4, .ref v5, .ref j0, .int (nI V), .int ru, .int tk, .int (bI sus), .int (bI sos)])), (v1, .inl (cI, 8, .inl st)), (v2, .inl (cI, 8, .inl kk)), (v3, .inl (cI, 8, .inl ve)), (v4, .inl (cI, 8, .inl si)), (v5, .inl (cZ, 8, .inl (xB ca))), (j0, .inr (0, [.ref a1, .ref a2, .ref a3, .int (nI mk)])), (a1, .inl (cI, 16, .inl jt)), (a2, .inl (cI, 16, .inl jk)), (a3, .inl (cI, 16, .inl jy))]) A) args9 s9 0 0 A) 2 D A [(h0, .inr (3, [.ref v1, .ref v2, .ref v3, .ref v4, .ref v5, .ref j0, .int (nI V), .int ru, .int tk, .int (bI sus), .int (bI sos)])), (v1, .inl (cI, 8, .inl st)), (v2, .inl (cI, 8, .inl kk)), (v3, .inl (cI, 8, .inl ve)), (v4, .inl (cI, 8, .inl si)), (v5, .inl (cZ, 8, .inl (xB ca))), (j0, .inr (0, [.ref a1, .ref a2, .ref a3, .int (nI mk)])), (a1, .inl (cI, 16, .inl jt)), (a2, .inl (cI, 16, .inl jk)), (a3, .inl (cI, 16, .inl jy))] [(0, .ref h0), (1, .int (nI i))] 2 [] := by
    intro n
    induction n with
    | zero =>
      intro i hi hT
      refine x_iload_n hE 1 rfl dX3_firstFree_2 ?_
      refine x_aload_n hE 0 rfl dX3_firstFree_3 ?_
      refine x_get hE g28 0 rfl rfl dX3_firstFree_4 ?_
      refine xn_icmp_ge hE (by omega) (by omega) 27 (by decide) dX3_firstFree_7 (fun c7 => ?_) (fun c7 => ?_)
      · skip
        refine x_bipush hE (-3) (by decide) dX3_firstFree_27 ?_
        exact x_iret hE hr (⟨by rw [← show i = findN (ffP st) 0 V from hT, rV, if_neg (by omega)], rfl⟩) dX3_firstFree_29
      · skip
        exfalso; omega
    | succ n ih =>
      intro i hi hT
      refine x_iload_n hE 1 rfl dX3_firstFree_2 ?_
      refine x_aload_n hE 0 rfl dX3_firstFree_3 ?_
      refine x_get hE g28 0 rfl rfl dX3_firstFree_4 ?_
      refine xn_icmp_ge hE (by omega) (by omega) 27 (by decide) dX3_firstFree_7 (fun c7 => ?_) (fun c7 => ?_)
      · skip
        exfalso; omega
      · skip
        refine x_aload_n hE 0 rfl dX3_firstFree_10 ?_
        refine x_get hE g9 0 rfl rfl dX3_firstFree_11 ?_
        refine x_iload_n hE 1 rfl dX3_firstFree_14 ?_
        refine x_iald hE i (st i) (by omega) (by decide) rfl 1 rfl dX3_firstFree_15 ?_
        refine x_if_ne hE 21 (by decide) dX3_firstFree_16 (fun c16 => ?_) (fun c16 => ?_)
        · skip
          refine x_iinc hE (nI (i + 1)) [(1, .int (nI (i + 1))), (0, .ref h0)] 1 rfl (nI_add _ _) (by decide) rfl dX3_firstFree_21 ?_
          refine x_goto hE 2 (by decide) dX3_firstFree_24 ?_
          refine x_lv [(0, .ref h0), (1, .int (nI (i + 1)))] [1, 0] rfl ?_
          exact ih (i + 1) (by omega) (by simpa only [lfor, lany, lfind, findN, ffP, if_pos c7, if_neg c16, reduceIte, Bool.false_eq_true, Bool.true_eq_false] using hT)
        · skip
          refine x_iload_n hE 1 rfl dX3_firstFree_19 ?_
          exact x_iret hE hr (⟨by rw [← show i = findN (ffP st) 0 V from by simpa only [findN, ffP, if_pos c7, if_pos c16, reduceIte, Bool.false_eq_true, Bool.true_eq_false] using hT, rV_some (by omega)], rfl⟩) dX3_firstFree_20
  refine x_iconst hE (nI 0) (by decide) dX3_firstFree_0 ?_
  refine x_istore_n hE [(1, .int (nI 0)), (0, .ref h0)] (by decide) rfl dX3_firstFree_1 ?_
  refine x_lv [(0, .ref h0), (1, .int (nI 0))] [1, 0] rfl ?_
  exact lp2 V 0 (Nat.zero_add _) (rfl)
set_option maxHeartbeats 4000000 in
set_option maxRecDepth 100000 in
theorem kX3_goesBefore (l : Launch) (D : va_G) (cI cZ : ClassId) (h0 : Nat) (v1 : Nat) (v2 : Nat) (v3 : Nat) (v4 : Nat) (v5 : Nat) (j0 : Nat) (a1 : Nat) (a2 : Nat) (a3 : Nat) (st : Nat → Int32) (kk : Nat → Int32) (ve : Nat → Int32) (si : Nat → Int32) (ca : Nat → Bool) (V : Nat) (ru : Int32) (tk : Int32) (sus : Bool) (sos : Bool) (jt : Nat → Int32) (jk : Nat → Int32) (jy : Nat → Int32) (mk : Nat) (v : Nat) (o : Nat) (hv8 : v < 8) (ho8 : o < 8) : xC l yX3_goesBefore wsX3_goesBefore 0 0 0 0 D cI cZ [.ref h0, .int (nI v), .int (nI o)] [(h0, .inr (3, [.ref v1, .ref v2, .ref v3, .ref v4, .ref v5, .ref j0, .int (nI V), .int ru, .int tk, .int (bI sus), .int (bI sos)])), (v1, .inl (cI, 8, .inl st)), (v2, .inl (cI, 8, .inl kk)), (v3, .inl (cI, 8, .inl ve)), (v4, .inl (cI, 8, .inl si)), (v5, .inl (cZ, 8, .inl (xB ca))), (j0, .inr (0, [.ref a1, .ref a2, .ref a3, .int (nI mk)])), (a1, .inl (cI, 16, .inl jt)), (a2, .inl (cI, 16, .inl jk)), (a3, .inl (cI, 16, .inl jy))] (fun v8 w8 => v8 = some (.int (bI (gbB st ve si ru v o))) ∧ w8 = [(h0, .inr (3, [.ref v1, .ref v2, .ref v3, .ref v4, .ref v5, .ref j0, .int (nI V), .int ru, .int tk, .int (bI sus), .int (bI sos)])), (v1, .inl (cI, 8, .inl st)), (v2, .inl (cI, 8, .inl kk)), (v3, .inl (cI, 8, .inl ve)), (v4, .inl (cI, 8, .inl si)), (v5, .inl (cZ, 8, .inl (xB ca))), (j0, .inr (0, [.ref a1, .ref a2, .ref a3, .int (nI mk)])), (a1, .inl (cI, 16, .inl jt)), (a2, .inl (cI, 16, .inl jk)), (a3, .inl (cI, 16, .inl jy))]) := by
  refine xC.of (bytes := cX3_goesBefore) (maxL := 3) (ret := (some .boolean)) (own := RX3) (by decide +kernel) rfl (Nat.le_of_ble_eq_true rfl) rfl ?_
  intro p9 e9 s9 m9 args9 below9 meth9 cd9 A hE hr hin2 hA9
  have inX3 : ∀ w ∈ wsX30, w ∈ wsX3_goesBefore := fun w h => List.mem_cons_of_mem _ (List.mem_append_right _ h)
  have g32 : xF RX3 wsX3_goesBefore 32 3 7 := ⟨"KeyScanner$Voices", RX3, TX3, 11, inX3, rfl, by decide, List.mem_of_getElem? (i := 1) rfl, rfl⟩
  have g21 : xF RX3 wsX3_goesBefore 21 3 3 := ⟨"KeyScanner$Voices", RX3, TX3, 11, inX3, rfl, by decide, List.mem_of_getElem? (i := 4) rfl, rfl⟩
  have g18 : xF RX3 wsX3_goesBefore 18 3 2 := ⟨"KeyScanner$Voices", RX3, TX3, 11, inX3, rfl, by decide, List.mem_of_getElem? (i := 3) rfl, rfl⟩
  have g9 : xF RX3 wsX3_goesBefore 9 3 0 := ⟨"KeyScanner$Voices", RX3, TX3, 11, inX3, rfl, by decide, List.mem_of_getElem? (i := 2) rfl, rfl⟩
  refine x_at (ws' := [(h0, .inr (3, [.ref v1, .ref v2, .ref v3, .ref v4, .ref v5, .ref j0, .int (nI V), .int ru, .int tk, .int (bI sus), .int (bI sos)])), (v1, .inl (cI, 8, .inl st)), (v2, .inl (cI, 8, .inl kk)), (v3, .inl (cI, 8, .inl ve)), (v4, .inl (cI, 8, .inl si)), (v5, .inl (cZ, 8, .inl (xB ca))), (j0, .inr (0, [.ref a1, .ref a2, .ref a3, .int (nI mk)])), (a1, .inl (cI, 16, .inl jt)), (a2, .inl (cI, 16, .inl jk)), (a3, .inl (cI, 16, .inl jy))]) (st' := []) rfl rfl ?_
  refine x_lv [(0, .ref h0), (1, .int (nI v)), (2, .int (nI o))] [0, 1, 2] rfl ?_
  refine x_aload_n hE 0 rfl dX3_goesBefore_0 ?_
  refine x_get hE g32 0 rfl rfl dX3_goesBefore_1 ?_
  refine x_iconst hE (nI 2) (by decide) dX3_goesBefore_4 ?_
  refine x_icmp_ne hE 39 (by decide) dX3_goesBefore_5 (fun c5 => ?_) (fun c5 => ?_)
  · skip
    refine x_aload_n hE 0 rfl dX3_goesBefore_39 ?_
    refine x_get hE g32 0 rfl rfl dX3_goesBefore_40 ?_
    refine x_iconst hE (nI 1) (by decide) dX3_goesBefore_43 ?_
    refine x_icmp_ne hE 83 (by decide) dX3_goesBefore_44 (fun c44 => ?_) (fun c44 => ?_)
    · skip
      refine x_aload_n hE 0 rfl dX3_goesBefore_83 ?_
      refine x_get hE g21 0 rfl rfl dX3_goesBefore_84 ?_
      refine x_iload_n hE 1 rfl dX3_goesBefore_87 ?_
      refine x_iald hE v (si v) (by omega) (by decide) rfl 4 rfl dX3_goesBefore_88 ?_
      refine x_aload_n hE 0 rfl dX3_goesBefore_89 ?_
      refine x_get hE g21 0 rfl rfl dX3_goesBefore_90 ?_
      refine x_iload_n hE 2 rfl dX3_goesBefore_93 ?_
      refine x_iald hE o (si o) (by omega) (by decide) rfl 4 rfl dX3_goesBefore_94 ?_
      refine x_icmp_ge hE 102 (by decide) dX3_goesBefore_95 (fun c95 => ?_) (fun c95 => ?_)
      · skip
        refine x_iconst hE (nI 0) (by decide) dX3_goesBefore_102 ?_
        refine x_eq (bI false) rfl ?_
        exact x_zret hE hr (⟨by simp only [gbB, if_neg c5, if_neg c44, if_neg c95, reduceIte, Bool.false_eq_true, Bool.true_eq_false], rfl⟩) dX3_goesBefore_103
      · skip
        refine x_iconst hE (nI 1) (by decide) dX3_goesBefore_98 ?_
        refine x_goto hE 103 (by decide) dX3_goesBefore_99 ?_
        refine x_eq (bI true) rfl ?_
        exact x_zret hE hr (⟨by simp only [gbB, if_neg c5, if_neg c44, if_pos c95, reduceIte, Bool.false_eq_true, Bool.true_eq_false], rfl⟩) dX3_goesBefore_103
    · skip
      refine x_aload_n hE 0 rfl dX3_goesBefore_47 ?_
      refine x_get hE g18 0 rfl rfl dX3_goesBefore_48 ?_
      refine x_iload_n hE 1 rfl dX3_goesBefore_51 ?_
      refine x_iald hE v (ve v) (by omega) (by decide) rfl 3 rfl dX3_goesBefore_52 ?_
      refine x_aload_n hE 0 rfl dX3_goesBefore_53 ?_
      refine x_get hE g18 0 rfl rfl dX3_goesBefore_54 ?_
      refine x_iload_n hE 2 rfl dX3_goesBefore_57 ?_
      refine x_iald hE o (ve o) (by omega) (by decide) rfl 3 rfl dX3_goesBefore_58 ?_
      refine x_icmp_eq hE 83 (by decide) dX3_goesBefore_59 (fun c59 => ?_) (fun c59 => ?_)
      · skip
        refine x_aload_n hE 0 rfl dX3_goesBefore_83 ?_
        refine x_get hE g21 0 rfl rfl dX3_goesBefore_84 ?_
        refine x_iload_n hE 1 rfl dX3_goesBefore_87 ?_
        refine x_iald hE v (si v) (by omega) (by decide) rfl 4 rfl dX3_goesBefore_88 ?_
        refine x_aload_n hE 0 rfl dX3_goesBefore_89 ?_
        refine x_get hE g21 0 rfl rfl dX3_goesBefore_90 ?_
        refine x_iload_n hE 2 rfl dX3_goesBefore_93 ?_
        refine x_iald hE o (si o) (by omega) (by decide) rfl 4 rfl dX3_goesBefore_94 ?_
        refine x_icmp_ge hE 102 (by decide) dX3_goesBefore_95 (fun c95 => ?_) (fun c95 => ?_)
        · skip
          refine x_iconst hE (nI 0) (by decide) dX3_goesBefore_102 ?_
          refine x_eq (bI false) rfl ?_
          exact x_zret hE hr (⟨by simp only [gbB, if_neg c5, if_pos c44, if_pos c59, if_neg c95, reduceIte, Bool.false_eq_true, Bool.true_eq_false], rfl⟩) dX3_goesBefore_103
        · skip
          refine x_iconst hE (nI 1) (by decide) dX3_goesBefore_98 ?_
          refine x_goto hE 103 (by decide) dX3_goesBefore_99 ?_
          refine x_eq (bI true) rfl ?_
          exact x_zret hE hr (⟨by simp only [gbB, if_neg c5, if_pos c44, if_pos c59, if_pos c95, reduceIte, Bool.false_eq_true, Bool.true_eq_false], rfl⟩) dX3_goesBefore_103
      · skip
        refine x_aload_n hE 0 rfl dX3_goesBefore_62 ?_
        refine x_get hE g18 0 rfl rfl dX3_goesBefore_63 ?_
        refine x_iload_n hE 1 rfl dX3_goesBefore_66 ?_
        refine x_iald hE v (ve v) (by omega) (by decide) rfl 3 rfl dX3_goesBefore_67 ?_
        refine x_aload_n hE 0 rfl dX3_goesBefore_68 ?_
        refine x_get hE g18 0 rfl rfl dX3_goesBefore_69 ?_
        refine x_iload_n hE 2 rfl dX3_goesBefore_72 ?_
        refine x_iald hE o (ve o) (by omega) (by decide) rfl 3 rfl dX3_goesBefore_73 ?_
        refine x_icmp_ge hE 81 (by decide) dX3_goesBefore_74 (fun c74 => ?_) (fun c74 => ?_)
        · skip
          refine x_iconst hE (nI 0) (by decide) dX3_goesBefore_81 ?_
          refine x_eq (bI false) rfl ?_
          exact x_zret hE hr (⟨by simp only [gbB, if_neg c5, if_pos c44, if_neg c59, if_neg c74, reduceIte, Bool.false_eq_true, Bool.true_eq_false], rfl⟩) dX3_goesBefore_82
        · skip
          refine x_iconst hE (nI 1) (by decide) dX3_goesBefore_77 ?_
          refine x_goto hE 82 (by decide) dX3_goesBefore_78 ?_
          refine x_eq (bI true) rfl ?_
          exact x_zret hE hr (⟨by simp only [gbB, if_neg c5, if_pos c44, if_neg c59, if_pos c74, reduceIte, Bool.false_eq_true, Bool.true_eq_false], rfl⟩) dX3_goesBefore_82
  · skip
    refine x_aload_n hE 0 rfl dX3_goesBefore_8 ?_
    refine x_get hE g9 0 rfl rfl dX3_goesBefore_9 ?_
    refine x_iload_n hE 1 rfl dX3_goesBefore_12 ?_
    refine x_iald hE v (st v) (by omega) (by decide) rfl 1 rfl dX3_goesBefore_13 ?_
    refine x_aload_n hE 0 rfl dX3_goesBefore_14 ?_
    refine x_get hE g9 0 rfl rfl dX3_goesBefore_15 ?_
    refine x_iload_n hE 2 rfl dX3_goesBefore_18 ?_
    refine x_iald hE o (st o) (by omega) (by decide) rfl 1 rfl dX3_goesBefore_19 ?_
    refine x_icmp_eq hE 39 (by decide) dX3_goesBefore_20 (fun c20 => ?_) (fun c20 => ?_)
    · skip
      refine x_aload_n hE 0 rfl dX3_goesBefore_39 ?_
      refine x_get hE g32 0 rfl rfl dX3_goesBefore_40 ?_
      refine x_iconst hE (nI 1) (by decide) dX3_goesBefore_43 ?_
      refine x_icmp_ne hE 83 (by decide) dX3_goesBefore_44 (fun c44 => ?_) (fun c44 => ?_)
      · skip
        refine x_aload_n hE 0 rfl dX3_goesBefore_83 ?_
        refine x_get hE g21 0 rfl rfl dX3_goesBefore_84 ?_
        refine x_iload_n hE 1 rfl dX3_goesBefore_87 ?_
        refine x_iald hE v (si v) (by omega) (by decide) rfl 4 rfl dX3_goesBefore_88 ?_
        refine x_aload_n hE 0 rfl dX3_goesBefore_89 ?_
        refine x_get hE g21 0 rfl rfl dX3_goesBefore_90 ?_
        refine x_iload_n hE 2 rfl dX3_goesBefore_93 ?_
        refine x_iald hE o (si o) (by omega) (by decide) rfl 4 rfl dX3_goesBefore_94 ?_
        refine x_icmp_ge hE 102 (by decide) dX3_goesBefore_95 (fun c95 => ?_) (fun c95 => ?_)
        · skip
          refine x_iconst hE (nI 0) (by decide) dX3_goesBefore_102 ?_
          refine x_eq (bI false) rfl ?_
          exact x_zret hE hr (⟨by simp only [gbB, if_pos c5, if_pos c20, if_neg c44, if_neg c95, reduceIte, Bool.false_eq_true, Bool.true_eq_false], rfl⟩) dX3_goesBefore_103
        · skip
          refine x_iconst hE (nI 1) (by decide) dX3_goesBefore_98 ?_
          refine x_goto hE 103 (by decide) dX3_goesBefore_99 ?_
          refine x_eq (bI true) rfl ?_
          exact x_zret hE hr (⟨by simp only [gbB, if_pos c5, if_pos c20, if_neg c44, if_pos c95, reduceIte, Bool.false_eq_true, Bool.true_eq_false], rfl⟩) dX3_goesBefore_103
      · skip
        refine x_aload_n hE 0 rfl dX3_goesBefore_47 ?_
        refine x_get hE g18 0 rfl rfl dX3_goesBefore_48 ?_
        refine x_iload_n hE 1 rfl dX3_goesBefore_51 ?_
        refine x_iald hE v (ve v) (by omega) (by decide) rfl 3 rfl dX3_goesBefore_52 ?_
        refine x_aload_n hE 0 rfl dX3_goesBefore_53 ?_
        refine x_get hE g18 0 rfl rfl dX3_goesBefore_54 ?_
        refine x_iload_n hE 2 rfl dX3_goesBefore_57 ?_
        refine x_iald hE o (ve o) (by omega) (by decide) rfl 3 rfl dX3_goesBefore_58 ?_
        refine x_icmp_eq hE 83 (by decide) dX3_goesBefore_59 (fun c59 => ?_) (fun c59 => ?_)
        · skip
          refine x_aload_n hE 0 rfl dX3_goesBefore_83 ?_
          refine x_get hE g21 0 rfl rfl dX3_goesBefore_84 ?_
          refine x_iload_n hE 1 rfl dX3_goesBefore_87 ?_
          refine x_iald hE v (si v) (by omega) (by decide) rfl 4 rfl dX3_goesBefore_88 ?_
          refine x_aload_n hE 0 rfl dX3_goesBefore_89 ?_
          refine x_get hE g21 0 rfl rfl dX3_goesBefore_90 ?_
          refine x_iload_n hE 2 rfl dX3_goesBefore_93 ?_
          refine x_iald hE o (si o) (by omega) (by decide) rfl 4 rfl dX3_goesBefore_94 ?_
          refine x_icmp_ge hE 102 (by decide) dX3_goesBefore_95 (fun c95 => ?_) (fun c95 => ?_)
          · skip
            refine x_iconst hE (nI 0) (by decide) dX3_goesBefore_102 ?_
            refine x_eq (bI false) rfl ?_
            exact x_zret hE hr (⟨by simp only [gbB, if_pos c5, if_pos c20, if_pos c44, if_pos c59, if_neg c95, reduceIte, Bool.false_eq_true, Bool.true_eq_false], rfl⟩) dX3_goesBefore_103
          · skip
            refine x_iconst hE (nI 1) (by decide) dX3_goesBefore_98 ?_
            refine x_goto hE 103 (by decide) dX3_goesBefore_99 ?_
            refine x_eq (bI true) rfl ?_
            exact x_zret hE hr (⟨by simp only [gbB, if_pos c5, if_pos c20, if_pos c44, if_pos c59, if_pos c95, reduceIte, Bool.false_eq_true, Bool.true_eq_false], rfl⟩) dX3_goesBefore_103
        · skip
          refine x_aload_n hE 0 rfl dX3_goesBefore_62 ?_
          refine x_get hE g18 0 rfl rfl dX3_goesBefore_63 ?_
          refine x_iload_n hE 1 rfl dX3_goesBefore_66 ?_
          refine x_iald hE v (ve v) (by omega) (by decide) rfl 3 rfl dX3_goesBefore_67 ?_
          refine x_aload_n hE 0 rfl dX3_goesBefore_68 ?_
          refine x_get hE g18 0 rfl rfl dX3_goesBefore_69 ?_
          refine x_iload_n hE 2 rfl dX3_goesBefore_72 ?_
          refine x_iald hE o (ve o) (by omega) (by decide) rfl 3 rfl dX3_goesBefore_73 ?_
          refine x_icmp_ge hE 81 (by decide) dX3_goesBefore_74 (fun c74 => ?_) (fun c74 => ?_)
          · skip
            refine x_iconst hE (nI 0) (by decide) dX3_goesBefore_81 ?_
            refine x_eq (bI false) rfl ?_
            exact x_zret hE hr (⟨by simp only [gbB, if_pos c5, if_pos c20, if_pos c44, if_neg c59, if_neg c74, reduceIte, Bool.false_eq_true, Bool.true_eq_false], rfl⟩) dX3_goesBefore_82
          · skip
            refine x_iconst hE (nI 1) (by decide) dX3_goesBefore_77 ?_
            refine x_goto hE 82 (by decide) dX3_goesBefore_78 ?_
            refine x_eq (bI true) rfl ?_
            exact x_zret hE hr (⟨by simp only [gbB, if_pos c5, if_pos c20, if_pos c44, if_neg c59, if_pos c74, reduceIte, Bool.false_eq_true, Bool.true_eq_false], rfl⟩) dX3_goesBefore_82
    · skip
      refine x_aload_n hE 0 rfl dX3_goesBefore_23 ?_
      refine x_get hE g9 0 rfl rfl dX3_goesBefore_24 ?_
      refine x_iload_n hE 1 rfl dX3_goesBefore_27 ?_
      refine x_iald hE v (st v) (by omega) (by decide) rfl 1 rfl dX3_goesBefore_28 ?_
      refine x_iconst hE (nI 2) (by decide) dX3_goesBefore_29 ?_
      refine x_icmp_ne hE 37 (by decide) dX3_goesBefore_30 (fun c30 => ?_) (fun c30 => ?_)
      · skip
        refine x_iconst hE (nI 0) (by decide) dX3_goesBefore_37 ?_
        refine x_eq (bI false) rfl ?_
        exact x_zret hE hr (⟨by simp only [gbB, if_pos c5, if_neg c20, if_neg c30, reduceIte, Bool.false_eq_true, Bool.true_eq_false], rfl⟩) dX3_goesBefore_38
      · skip
        refine x_iconst hE (nI 1) (by decide) dX3_goesBefore_33 ?_
        refine x_goto hE 38 (by decide) dX3_goesBefore_34 ?_
        refine x_eq (bI true) rfl ?_
        exact x_zret hE hr (⟨by simp only [gbB, if_pos c5, if_neg c20, if_pos c30, reduceIte, Bool.false_eq_true, Bool.true_eq_false], rfl⟩) dX3_goesBefore_38
set_option maxHeartbeats 4000000 in
set_option maxRecDepth 100000 in
theorem kX3_victim (l : Launch) (D : va_G) (cI cZ : ClassId) (h0 : Nat) (v1 : Nat) (v2 : Nat) (v3 : Nat) (v4 : Nat) (v5 : Nat) (j0 : Nat) (a1 : Nat) (a2 : Nat) (a3 : Nat) (st : Nat → Int32) (kk : Nat → Int32) (ve : Nat → Int32) (si : Nat → Int32) (ca : Nat → Bool) (V : Nat) (ru : Int32) (tk : Int32) (sus : Bool) (sos : Bool) (jt : Nat → Int32) (jk : Nat → Int32) (jy : Nat → Int32) (mk : Nat) (hV : 1 ≤ V ∧ V ≤ 8) : xC l yX3_victim wsX3_victim 1 0 0 22 D cI cZ [.ref h0] [(h0, .inr (3, [.ref v1, .ref v2, .ref v3, .ref v4, .ref v5, .ref j0, .int (nI V), .int ru, .int tk, .int (bI sus), .int (bI sos)])), (v1, .inl (cI, 8, .inl st)), (v2, .inl (cI, 8, .inl kk)), (v3, .inl (cI, 8, .inl ve)), (v4, .inl (cI, 8, .inl si)), (v5, .inl (cZ, 8, .inl (xB ca))), (j0, .inr (0, [.ref a1, .ref a2, .ref a3, .int (nI mk)])), (a1, .inl (cI, 16, .inl jt)), (a2, .inl (cI, 16, .inl jk)), (a3, .inl (cI, 16, .inl jy))] (fun v8 w8 => v8 = some (.int (nI (vicN st ve si ru V))) ∧ w8 = [(h0, .inr (3, [.ref v1, .ref v2, .ref v3, .ref v4, .ref v5, .ref j0, .int (nI V), .int ru, .int tk, .int (bI sus), .int (bI sos)])), (v1, .inl (cI, 8, .inl st)), (v2, .inl (cI, 8, .inl kk)), (v3, .inl (cI, 8, .inl ve)), (v4, .inl (cI, 8, .inl si)), (v5, .inl (cZ, 8, .inl (xB ca))), (j0, .inr (0, [.ref a1, .ref a2, .ref a3, .int (nI mk)])), (a1, .inl (cI, 16, .inl jt)), (a2, .inl (cI, 16, .inl jk)), (a3, .inl (cI, 16, .inl jy))]) := by
  refine xC.of (bytes := cX3_victim) (maxL := 3) (ret := (some .int)) (own := RX3) (by decide +kernel) rfl (Nat.le_of_ble_eq_true rfl) rfl ?_
  intro p9 e9 s9 m9 args9 below9 meth9 cd9 A hE hr hin2 hA9
  have inX3 : ∀ w ∈ wsX30, w ∈ wsX3_victim := fun w h => List.mem_cons_of_mem _ (List.mem_append_right _ h)
  have g28 : xF RX3 wsX3_victim 28 3 6 := ⟨"KeyScanner$Voices", RX3, TX3, 11, inX3, rfl, by decide, List.mem_of_getElem? (i := 1) rfl, rfl⟩
  refine x_at (ws' := [(h0, .inr (3, [.ref v1, .ref v2, .ref v3, .ref v4, .ref v5, .ref j0, .int (nI V), .int ru, .int tk, .int (bI sus), .int (bI sos)])), (v1, .inl (cI, 8, .inl st)), (v2, .inl (cI, 8, .inl kk)), (v3, .inl (cI, 8, .inl ve)), (v4, .inl (cI, 8, .inl si)), (v5, .inl (cZ, 8, .inl (xB ca))), (j0, .inr (0, [.ref a1, .ref a2, .ref a3, .int (nI mk)])), (a1, .inl (cI, 16, .inl jt)), (a2, .inl (cI, 16, .inl jk)), (a3, .inl (cI, 16, .inl jy))]) (st' := []) rfl rfl ?_
  refine x_lv [(0, .ref h0)] [0] rfl ?_
  have lp4 : ∀ (n : Nat) (i : Nat) (b : Nat) (hi : i + n = V) (hb8 : b < 8) (hT : lfor (fun v b => if gbB st ve si ru v b = true then v else b) i n b = vicN st ve si ru V), X p9 l e9 { frames := 1, cells := 0, slots := 0, locals := 22 } s9 m9 args9 below9 meth9 cd9 0 0 (MQ below9 (xQ D (fun v8 w8 => v8 = some (.int (nI (vicN st ve si ru V))) ∧ w8 = [(h0, .inr (3, [.ref v1, .ref v2, .ref v3, .ref v4, .ref v5, .ref j0, .int (nI V), .int ru, .int tk, .int (bI sus), .int (bI sos)])), (v1, .inl (cI, 8, .inl st)), (v2, .inl (cI, 8, .inl kk)), (v3, .inl (cI, 8, .inl ve)), (v4, .inl (cI, 8, .inl si)), (v5, .inl (cZ, 8, .inl (xB ca))), (j0, .inr (0, [.ref a1, .ref a2, .ref a3, .int (nI mk)])), (a1, .inl (cI, 16, .inl jt)), (a2, .inl (cI, 16, .inl jk)), (a3, .inl (cI, 16, .inl jy))]) A) args9 s9 0 0 A) 3 D A [(h0, .inr (3, [.ref v1, .ref v2, .ref v3, .ref v4, .ref v5, .ref j0, .int (nI V), .int ru, .int tk, .int (bI sus), .int (bI sos)])), (v1, .inl (cI, 8, .inl st)), (v2, .inl (cI, 8, .inl kk)), (v3, .inl (cI, 8, .inl ve)), (v4, .inl (cI, 8, .inl si)), (v5, .inl (cZ, 8, .inl (xB ca))), (j0, .inr (0, [.ref a1, .ref a2, .ref a3, .int (nI mk)])), (a1, .inl (cI, 16, .inl jt)), (a2, .inl (cI, 16, .inl jk)), (a3, .inl (cI, 16, .inl jy))] [(0, .ref h0), (1, .int (nI b)), (2, .int (nI i))] 4 [] := by
    intro n
    induction n with
    | zero =>
      intro i b hi hb8 hT
      refine x_iload_n hE 2 rfl dX3_victim_4 ?_
      refine x_aload_n hE 0 rfl dX3_victim_5 ?_
      refine x_get hE g28 0 rfl rfl dX3_victim_6 ?_
      refine xn_icmp_ge hE (by omega) (by omega) 29 (by decide) dX3_victim_9 (fun c9 => ?_) (fun c9 => ?_)
      · skip
        refine x_iload_n hE 1 rfl dX3_victim_29 ?_
        exact x_iret hE hr (⟨by rw [show b = vicN st ve si ru V from hT], rfl⟩) dX3_victim_30
      · skip
        exfalso; omega
    | succ n ih =>
      intro i b hi hb8 hT
      refine x_iload_n hE 2 rfl dX3_victim_4 ?_
      refine x_aload_n hE 0 rfl dX3_victim_5 ?_
      refine x_get hE g28 0 rfl rfl dX3_victim_6 ?_
      refine xn_icmp_ge hE (by omega) (by omega) 29 (by decide) dX3_victim_9 (fun c9 => ?_) (fun c9 => ?_)
      · skip
        exfalso; omega
      · skip
        refine x_aload_n hE 0 rfl dX3_victim_12 ?_
        refine x_iload_n hE 2 rfl dX3_victim_13 ?_
        refine x_iload_n hE 1 rfl dX3_victim_14 ?_
        refine x_callV (n := 2) (st := []) hE (kX3_goesBefore l D cI cZ h0 v1 v2 v3 v4 v5 j0 a1 a2 a3 st kk ve si ca V ru tk sus sos jt jk jy mk i b (by omega) (by omega)) gX3_victim_X3_goesBefore rfl (by decide +kernel) ⟨by decide, by decide⟩ ⟨Nat.zero_le _, Nat.zero_le _⟩ rfl [0, 1, 2, 3, 4, 5, 6, 7, 8, 9] [] rfl (wr := []) rfl (by decide) (by decide) (by decide) 0 rfl rfl rfl rfl (Nat.le_of_ble_eq_true rfl) dX3_victim_15 (fun v9 w9 hT9 => ?_)
        obtain ⟨rfl, rfl⟩ := hT9
        refine x_at (ws' := [(h0, .inr (3, [.ref v1, .ref v2, .ref v3, .ref v4, .ref v5, .ref j0, .int (nI V), .int ru, .int tk, .int (bI sus), .int (bI sos)])), (v1, .inl (cI, 8, .inl st)), (v2, .inl (cI, 8, .inl kk)), (v3, .inl (cI, 8, .inl ve)), (v4, .inl (cI, 8, .inl si)), (v5, .inl (cZ, 8, .inl (xB ca))), (j0, .inr (0, [.ref a1, .ref a2, .ref a3, .int (nI mk)])), (a1, .inl (cI, 16, .inl jt)), (a2, .inl (cI, 16, .inl jk)), (a3, .inl (cI, 16, .inl jy))]) (st' := [.int (bI (gbB st ve si ru i b))]) rfl rfl ?_
        refine xb_if_eq hE 23 (by decide) dX3_victim_18 (fun c18 => ?_) (fun c18 => ?_)
        · skip
          refine x_iinc hE (nI (i + 1)) [(2, .int (nI (i + 1))), (0, .ref h0), (1, .int (nI b))] 2 rfl (nI_add _ _) (by decide) rfl dX3_victim_23 ?_
          refine x_goto hE 4 (by decide) dX3_victim_26 ?_
          refine x_lv [(0, .ref h0), (1, .int (nI b)), (2, .int (nI (i + 1)))] [1, 2, 0] rfl ?_
          exact ih (i + 1) b (by omega) (by omega) (by simpa only [lfor, lany, lfind, if_pos c9, if_neg (bnt c18), reduceIte, Bool.false_eq_true, Bool.true_eq_false] using hT)
        · skip
          refine x_iload_n hE 2 rfl dX3_victim_21 ?_
          refine x_istore_n hE [(1, .int (nI i)), (0, .ref h0), (2, .int (nI i))] (by decide) rfl dX3_victim_22 ?_
          refine x_iinc hE (nI (i + 1)) [(2, .int (nI (i + 1))), (1, .int (nI i)), (0, .ref h0)] 2 rfl (nI_add _ _) (by decide) rfl dX3_victim_23 ?_
          refine x_goto hE 4 (by decide) dX3_victim_26 ?_
          refine x_lv [(0, .ref h0), (1, .int (nI i)), (2, .int (nI (i + 1)))] [2, 1, 0] rfl ?_
          exact ih (i + 1) i (by omega) (by omega) (by simpa only [lfor, lany, lfind, if_pos c9, if_pos c18, reduceIte, Bool.false_eq_true, Bool.true_eq_false] using hT)
  refine x_iconst hE (nI 0) (by decide) dX3_victim_0 ?_
  refine x_istore_n hE [(1, .int (nI 0)), (0, .ref h0)] (by decide) rfl dX3_victim_1 ?_
  refine x_iconst hE (nI 1) (by decide) dX3_victim_2 ?_
  refine x_istore_n hE [(2, .int (nI 1)), (1, .int (nI 0)), (0, .ref h0)] (by decide) rfl dX3_victim_3 ?_
  refine x_lv [(0, .ref h0), (1, .int (nI 0)), (2, .int (nI 1))] [2, 1, 0] rfl ?_
  exact lp4 (V - 1) 1 0 (by omega) (by decide) (rfl)
set_option maxHeartbeats 4000000 in
set_option maxRecDepth 100000 in
theorem kX3_inState (l : Launch) (D : va_G) (cI cZ : ClassId) (h0 : Nat) (v1 : Nat) (v2 : Nat) (v3 : Nat) (v4 : Nat) (v5 : Nat) (j0 : Nat) (a1 : Nat) (a2 : Nat) (a3 : Nat) (st : Nat → Int32) (kk : Nat → Int32) (ve : Nat → Int32) (si : Nat → Int32) (ca : Nat → Bool) (V : Nat) (ru : Int32) (tk : Int32) (sus : Bool) (sos : Bool) (jt : Nat → Int32) (jk : Nat → Int32) (jy : Nat → Int32) (mk : Nat) (x : Int32) (hV : 1 ≤ V ∧ V ≤ 8) : xC l yX3_inState wsX3_inState 0 0 0 0 D cI cZ [.ref h0, .int x] [(h0, .inr (3, [.ref v1, .ref v2, .ref v3, .ref v4, .ref v5, .ref j0, .int (nI V), .int ru, .int tk, .int (bI sus), .int (bI sos)])), (v1, .inl (cI, 8, .inl st)), (v2, .inl (cI, 8, .inl kk)), (v3, .inl (cI, 8, .inl ve)), (v4, .inl (cI, 8, .inl si)), (v5, .inl (cZ, 8, .inl (xB ca))), (j0, .inr (0, [.ref a1, .ref a2, .ref a3, .int (nI mk)])), (a1, .inl (cI, 16, .inl jt)), (a2, .inl (cI, 16, .inl jk)), (a3, .inl (cI, 16, .inl jy))] (fun v8 w8 => v8 = some (.int (nI (isN st x V))) ∧ w8 = [(h0, .inr (3, [.ref v1, .ref v2, .ref v3, .ref v4, .ref v5, .ref j0, .int (nI V), .int ru, .int tk, .int (bI sus), .int (bI sos)])), (v1, .inl (cI, 8, .inl st)), (v2, .inl (cI, 8, .inl kk)), (v3, .inl (cI, 8, .inl ve)), (v4, .inl (cI, 8, .inl si)), (v5, .inl (cZ, 8, .inl (xB ca))), (j0, .inr (0, [.ref a1, .ref a2, .ref a3, .int (nI mk)])), (a1, .inl (cI, 16, .inl jt)), (a2, .inl (cI, 16, .inl jk)), (a3, .inl (cI, 16, .inl jy))]) := by
  refine xC.of (bytes := cX3_inState) (maxL := 4) (ret := (some .int)) (own := RX3) (by decide +kernel) rfl (Nat.le_of_ble_eq_true rfl) rfl ?_
  intro p9 e9 s9 m9 args9 below9 meth9 cd9 A hE hr hin2 hA9
  have inX3 : ∀ w ∈ wsX30, w ∈ wsX3_inState := fun w h => List.mem_cons_of_mem _ (List.mem_append_right _ h)
  have g28 : xF RX3 wsX3_inState 28 3 6 := ⟨"KeyScanner$Voices", RX3, TX3, 11, inX3, rfl, by decide, List.mem_of_getElem? (i := 1) rfl, rfl⟩
  have g9 : xF RX3 wsX3_inState 9 3 0 := ⟨"KeyScanner$Voices", RX3, TX3, 11, inX3, rfl, by decide, List.mem_of_getElem? (i := 2) rfl, rfl⟩
  refine x_at (ws' := [(h0, .inr (3, [.ref v1, .ref v2, .ref v3, .ref v4, .ref v5, .ref j0, .int (nI V), .int ru, .int tk, .int (bI sus), .int (bI sos)])), (v1, .inl (cI, 8, .inl st)), (v2, .inl (cI, 8, .inl kk)), (v3, .inl (cI, 8, .inl ve)), (v4, .inl (cI, 8, .inl si)), (v5, .inl (cZ, 8, .inl (xB ca))), (j0, .inr (0, [.ref a1, .ref a2, .ref a3, .int (nI mk)])), (a1, .inl (cI, 16, .inl jt)), (a2, .inl (cI, 16, .inl jk)), (a3, .inl (cI, 16, .inl jy))]) (st' := []) rfl rfl ?_
  refine x_lv [(0, .ref h0), (1, .int x)] [0, 1] rfl ?_
  have lp4 : ∀ (n : Nat) (i : Nat) (u : Nat) (hi : i + n = V) (hT : lfor (fun v a => if st v = x then a + 1 else a) i n u = isN st x V), X p9 l e9 { frames := 0, cells := 0, slots := 0, locals := 0 } s9 m9 args9 below9 meth9 cd9 0 0 (MQ below9 (xQ D (fun v8 w8 => v8 = some (.int (nI (isN st x V))) ∧ w8 = [(h0, .inr (3, [.ref v1, .ref v2, .ref v3, .ref v4, .ref v5, .ref j0, .int (nI V), .int ru, .int tk, .int (bI sus), .int (bI sos)])), (v1, .inl (cI, 8, .inl st)), (v2, .inl (cI, 8, .inl kk)), (v3, .inl (cI, 8, .inl ve)), (v4, .inl (cI, 8, .inl si)), (v5, .inl (cZ, 8, .inl (xB ca))), (j0, .inr (0, [.ref a1, .ref a2, .ref a3, .int (nI mk)])), (a1, .inl (cI, 16, .inl jt)), (a2, .inl (cI, 16, .inl jk)), (a3, .inl (cI, 16, .inl jy))]) A) args9 s9 0 0 A) 4 D A [(h0, .inr (3, [.ref v1, .ref v2, .ref v3, .ref v4, .ref v5, .ref j0, .int (nI V), .int ru, .int tk, .int (bI sus), .int (bI sos)])), (v1, .inl (cI, 8, .inl st)), (v2, .inl (cI, 8, .inl kk)), (v3, .inl (cI, 8, .inl ve)), (v4, .inl (cI, 8, .inl si)), (v5, .inl (cZ, 8, .inl (xB ca))), (j0, .inr (0, [.ref a1, .ref a2, .ref a3, .int (nI mk)])), (a1, .inl (cI, 16, .inl jt)), (a2, .inl (cI, 16, .inl jk)), (a3, .inl (cI, 16, .inl jy))] [(0, .ref h0), (1, .int x), (2, .int (nI u)), (3, .int (nI i))] 4 [] := by
    intro n
    induction n with
    | zero =>
      intro i u hi hT
      refine x_iload_n hE 3 rfl dX3_inState_4 ?_
      refine x_aload_n hE 0 rfl dX3_inState_5 ?_
      refine x_get hE g28 0 rfl rfl dX3_inState_6 ?_
      refine xn_icmp_ge hE (by omega) (by omega) 31 (by decide) dX3_inState_9 (fun c9 => ?_) (fun c9 => ?_)
      · skip
        refine x_iload_n hE 2 rfl dX3_inState_31 ?_
        exact x_iret hE hr (⟨by rw [show u = isN st x V from hT], rfl⟩) dX3_inState_32
      · skip
        exfalso; omega
    | succ n ih =>
      intro i u hi hT
      refine x_iload_n hE 3 rfl dX3_inState_4 ?_
      refine x_aload_n hE 0 rfl dX3_inState_5 ?_
      refine x_get hE g28 0 rfl rfl dX3_inState_6 ?_
      refine xn_icmp_ge hE (by omega) (by omega) 31 (by decide) dX3_inState_9 (fun c9 => ?_) (fun c9 => ?_)
      · skip
        exfalso; omega
      · skip
        refine x_aload_n hE 0 rfl dX3_inState_12 ?_
        refine x_get hE g9 0 rfl rfl dX3_inState_13 ?_
        refine x_iload_n hE 3 rfl dX3_inState_16 ?_
        refine x_iald hE i (st i) (by omega) (by decide) rfl 1 rfl dX3_inState_17 ?_
        refine x_iload_n hE 1 rfl dX3_inState_18 ?_
        refine x_icmp_ne hE 25 (by decide) dX3_inState_19 (fun c19 => ?_) (fun c19 => ?_)
        · skip
          refine x_iinc hE (nI (i + 1)) [(3, .int (nI (i + 1))), (0, .ref h0), (1, .int x), (2, .int (nI u))] 3 rfl (nI_add _ _) (by decide) rfl dX3_inState_25 ?_
          refine x_goto hE 4 (by decide) dX3_inState_28 ?_
          refine x_lv [(0, .ref h0), (1, .int x), (2, .int (nI u)), (3, .int (nI (i + 1)))] [1, 2, 3, 0] rfl ?_
          exact ih (i + 1) u (by omega) (by simpa only [lfor, lany, lfind, if_pos c9, if_neg c19, reduceIte, Bool.false_eq_true, Bool.true_eq_false] using hT)
        · skip
          refine x_iinc hE (nI (u + 1)) [(2, .int (nI (u + 1))), (0, .ref h0), (1, .int x), (3, .int (nI i))] 2 rfl (nI_add _ _) (by decide) rfl dX3_inState_22 ?_
          refine x_iinc hE (nI (i + 1)) [(3, .int (nI (i + 1))), (2, .int (nI (u + 1))), (0, .ref h0), (1, .int x)] 3 rfl (nI_add _ _) (by decide) rfl dX3_inState_25 ?_
          refine x_goto hE 4 (by decide) dX3_inState_28 ?_
          refine x_lv [(0, .ref h0), (1, .int x), (2, .int (nI (u + 1))), (3, .int (nI (i + 1)))] [2, 3, 1, 0] rfl ?_
          exact ih (i + 1) (u + 1) (by omega) (by simpa only [lfor, lany, lfind, if_pos c9, if_pos c19, reduceIte, Bool.false_eq_true, Bool.true_eq_false] using hT)
  refine x_iconst hE (nI 0) (by decide) dX3_inState_0 ?_
  refine x_istore_n hE [(2, .int (nI 0)), (0, .ref h0), (1, .int x)] (by decide) rfl dX3_inState_1 ?_
  refine x_iconst hE (nI 0) (by decide) dX3_inState_2 ?_
  refine x_istore_n hE [(3, .int (nI 0)), (2, .int (nI 0)), (0, .ref h0), (1, .int x)] (by decide) rfl dX3_inState_3 ?_
  refine x_lv [(0, .ref h0), (1, .int x), (2, .int (nI 0)), (3, .int (nI 0))] [2, 3, 1, 0] rfl ?_
  exact lp4 V 0 0 (Nat.zero_add _) (rfl)
set_option maxHeartbeats 4000000 in
set_option maxRecDepth 100000 in
theorem kX3_isKeptByPedal (l : Launch) (D : va_G) (cI cZ : ClassId) (h0 : Nat) (v1 : Nat) (v2 : Nat) (v3 : Nat) (v4 : Nat) (v5 : Nat) (j0 : Nat) (a1 : Nat) (a2 : Nat) (a3 : Nat) (st : Nat → Int32) (kk : Nat → Int32) (ve : Nat → Int32) (si : Nat → Int32) (ca : Nat → Bool) (V : Nat) (ru : Int32) (tk : Int32) (sus : Bool) (sos : Bool) (jt : Nat → Int32) (jk : Nat → Int32) (jy : Nat → Int32) (mk : Nat) (v : Nat) (hv8 : v < 8) : xC l yX3_isKeptByPedal wsX3_isKeptByPedal 0 0 0 0 D cI cZ [.ref h0, .int (nI v)] [(h0, .inr (3, [.ref v1, .ref v2, .ref v3, .ref v4, .ref v5, .ref j0, .int (nI V), .int ru, .int tk, .int (bI sus), .int (bI sos)])), (v1, .inl (cI, 8, .inl st)), (v2, .inl (cI, 8, .inl kk)), (v3, .inl (cI, 8, .inl ve)), (v4, .inl (cI, 8, .inl si)), (v5, .inl (cZ, 8, .inl (xB ca))), (j0, .inr (0, [.ref a1, .ref a2, .ref a3, .int (nI mk)])), (a1, .inl (cI, 16, .inl jt)), (a2, .inl (cI, 16, .inl jk)), (a3, .inl (cI, 16, .inl jy))] (fun v8 w8 => v8 = some (.int (bI (kpB sus sos ca v))) ∧ w8 = [(h0, .inr (3, [.ref v1, .ref v2, .ref v3, .ref v4, .ref v5, .ref j0, .int (nI V), .int ru, .int tk, .int (bI sus), .int (bI sos)])), (v1, .inl (cI, 8, .inl st)), (v2, .inl (cI, 8, .inl kk)), (v3, .inl (cI, 8, .inl ve)), (v4, .inl (cI, 8, .inl si)), (v5, .inl (cZ, 8, .inl (xB ca))), (j0, .inr (0, [.ref a1, .ref a2, .ref a3, .int (nI mk)])), (a1, .inl (cI, 16, .inl jt)), (a2, .inl (cI, 16, .inl jk)), (a3, .inl (cI, 16, .inl jy))]) := by
  refine xC.of (bytes := cX3_isKeptByPedal) (maxL := 2) (ret := (some .boolean)) (own := RX3) (by decide +kernel) rfl (Nat.le_of_ble_eq_true rfl) rfl ?_
  intro p9 e9 s9 m9 args9 below9 meth9 cd9 A hE hr hin2 hA9
  have inX3 : ∀ w ∈ wsX30, w ∈ wsX3_isKeptByPedal := fun w h => List.mem_cons_of_mem _ (List.mem_append_right _ h)
  have g38 : xF RX3 wsX3_isKeptByPedal 38 3 9 := ⟨"KeyScanner$Voices", RX3, TX3, 11, inX3, rfl, by decide, List.mem_of_getElem? (i := 1) rfl, rfl⟩
  have g42 : xF RX3 wsX3_isKeptByPedal 42 3 10 := ⟨"KeyScanner$Voices", RX3, TX3, 11, inX3, rfl, by decide, List.mem_of_getElem? (i := 2) rfl, rfl⟩
  have g24 : xF RX3 wsX3_isKeptByPedal 24 3 4 := ⟨"KeyScanner$Voices", RX3, TX3, 11, inX3, rfl, by decide, List.mem_of_getElem? (i := 3) rfl, rfl⟩
  refine x_at (ws' := [(h0, .inr (3, [.ref v1, .ref v2, .ref v3, .ref v4, .ref v5, .ref j0, .int (nI V), .int ru, .int tk, .int (bI sus), .int (bI sos)])), (v1, .inl (cI, 8, .inl st)), (v2, .inl (cI, 8, .inl kk)), (v3, .inl (cI, 8, .inl ve)), (v4, .inl (cI, 8, .inl si)), (v5, .inl (cZ, 8, .inl (xB ca))), (j0, .inr (0, [.ref a1, .ref a2, .ref a3, .int (nI mk)])), (a1, .inl (cI, 16, .inl jt)), (a2, .inl (cI, 16, .inl jk)), (a3, .inl (cI, 16, .inl jy))]) (st' := []) rfl rfl ?_
  refine x_lv [(0, .ref h0), (1, .int (nI v))] [0, 1] rfl ?_
  refine x_aload_n hE 0 rfl dX3_isKeptByPedal_0 ?_
  refine x_get hE g38 0 rfl rfl dX3_isKeptByPedal_1 ?_
  refine xb_if_ne hE 23 (by decide) dX3_isKeptByPedal_4 (fun c4 => ?_) (fun c4 => ?_)
  · skip
    refine x_iconst hE (nI 1) (by decide) dX3_isKeptByPedal_23 ?_
    refine x_goto hE 28 (by decide) dX3_isKeptByPedal_24 ?_
    refine x_eq (bI true) rfl ?_
    exact x_zret hE hr (⟨by simp only [kpB, if_pos c4, reduceIte, Bool.false_eq_true, Bool.true_eq_false], rfl⟩) dX3_isKeptByPedal_28
  · skip
    refine x_aload_n hE 0 rfl dX3_isKeptByPedal_7 ?_
    refine x_get hE g42 0 rfl rfl dX3_isKeptByPedal_8 ?_
    refine xb_if_eq hE 27 (by decide) dX3_isKeptByPedal_11 (fun c11 => ?_) (fun c11 => ?_)
    · skip
      refine x_iconst hE (nI 0) (by decide) dX3_isKeptByPedal_27 ?_
      refine x_eq (bI false) rfl ?_
      exact x_zret hE hr (⟨by simp only [kpB, if_neg (bnt c4), if_neg (bnt c11), reduceIte, Bool.false_eq_true, Bool.true_eq_false], rfl⟩) dX3_isKeptByPedal_28
    · skip
      refine x_aload_n hE 0 rfl dX3_isKeptByPedal_14 ?_
      refine x_get hE g24 0 rfl rfl dX3_isKeptByPedal_15 ?_
      refine x_iload_n hE 1 rfl dX3_isKeptByPedal_18 ?_
      refine x_zald hE v (ca v) (by omega) (by decide) rfl 5 rfl dX3_isKeptByPedal_19 ?_
      refine xb_if_eq hE 27 (by decide) dX3_isKeptByPedal_20 (fun c20 => ?_) (fun c20 => ?_)
      · skip
        refine x_iconst hE (nI 0) (by decide) dX3_isKeptByPedal_27 ?_
        refine x_eq (bI false) rfl ?_
        exact x_zret hE hr (⟨by simp only [kpB, if_neg (bnt c4), if_pos c11, if_neg (bnt c20), reduceIte, Bool.false_eq_true, Bool.true_eq_false], rfl⟩) dX3_isKeptByPedal_28
      · skip
        refine x_iconst hE (nI 1) (by decide) dX3_isKeptByPedal_23 ?_
        refine x_goto hE 28 (by decide) dX3_isKeptByPedal_24 ?_
        refine x_eq (bI true) rfl ?_
        exact x_zret hE hr (⟨by simp only [kpB, if_neg (bnt c4), if_pos c11, if_pos c20, reduceIte, Bool.false_eq_true, Bool.true_eq_false], rfl⟩) dX3_isKeptByPedal_28
set_option maxHeartbeats 4000000 in
set_option maxRecDepth 100000 in
theorem kX3_free (l : Launch) (D : va_G) (cI cZ : ClassId) (h0 : Nat) (v1 : Nat) (v2 : Nat) (v3 : Nat) (v4 : Nat) (v5 : Nat) (j0 : Nat) (a1 : Nat) (a2 : Nat) (a3 : Nat) (st : Nat → Int32) (kk : Nat → Int32) (ve : Nat → Int32) (si : Nat → Int32) (ca : Nat → Bool) (V : Nat) (ru : Int32) (tk : Int32) (sus : Bool) (sos : Bool) (jt : Nat → Int32) (jk : Nat → Int32) (jy : Nat → Int32) (mk : Nat) (v : Nat) (now : Int32) (hm : mk < 2 ^ 30) (hv8 : v < 8) : xC l yX3_free wsX3_free 2 0 0 46 D cI cZ [.ref h0, .int (nI v), .int now] [(h0, .inr (3, [.ref v1, .ref v2, .ref v3, .ref v4, .ref v5, .ref j0, .int (nI V), .int ru, .int tk, .int (bI sus), .int (bI sos)])), (v1, .inl (cI, 8, .inl st)), (v2, .inl (cI, 8, .inl kk)), (v3, .inl (cI, 8, .inl ve)), (v4, .inl (cI, 8, .inl si)), (v5, .inl (cZ, 8, .inl (xB ca))), (j0, .inr (0, [.ref a1, .ref a2, .ref a3, .int (nI mk)])), (a1, .inl (cI, 16, .inl jt)), (a2, .inl (cI, 16, .inl jk)), (a3, .inl (cI, 16, .inl jy))] (fun v8 w8 => v8 = none ∧ w8 = [(h0, .inr (3, [.ref v1, .ref v2, .ref v3, .ref v4, .ref v5, .ref j0, .int (nI V), .int ru, .int tk, .int (bI sus), .int (bI sos)])), (v1, .inl (cI, 8, .inl (upd st v (nI 0)))), (v2, .inl (cI, 8, .inl kk)), (v3, .inl (cI, 8, .inl ve)), (v4, .inl (cI, 8, .inl si)), (v5, .inl (cZ, 8, .inl (xB (updB ca v false)))), (j0, .inr (0, [.ref a1, .ref a2, .ref a3, .int (nI (mk + 1))])), (a1, .inl (cI, 16, .inl (upd jt (mk % 16) now))), (a2, .inl (cI, 16, .inl (upd jk (mk % 16) (nI 2)))), (a3, .inl (cI, 16, .inl (upd jy (mk % 16) (kk v))))]) := by
  refine xC.of (bytes := cX3_free) (maxL := 3) (ret := none) (own := RX3) (by decide +kernel) rfl (Nat.le_of_ble_eq_true rfl) rfl ?_
  intro p9 e9 s9 m9 args9 below9 meth9 cd9 A hE hr hin2 hA9
  have inX3 : ∀ w ∈ wsX30, w ∈ wsX3_free := fun w h => List.mem_cons_of_mem _ (List.mem_append_left _ (List.mem_append_right _ h))
  have g9 : xF RX3 wsX3_free 9 3 0 := ⟨"KeyScanner$Voices", RX3, TX3, 11, inX3, rfl, by decide, List.mem_of_getElem? (i := 1) rfl, rfl⟩
  have g24 : xF RX3 wsX3_free 24 3 4 := ⟨"KeyScanner$Voices", RX3, TX3, 11, inX3, rfl, by decide, List.mem_of_getElem? (i := 2) rfl, rfl⟩
  have g45 : xF RX3 wsX3_free 45 3 5 := ⟨"KeyScanner$Voices", RX3, TX3, 11, inX3, rfl, by decide, List.mem_of_getElem? (i := 3) rfl, rfl⟩
  have g15 : xF RX3 wsX3_free 15 3 1 := ⟨"KeyScanner$Voices", RX3, TX3, 11, inX3, rfl, by decide, List.mem_of_getElem? (i := 4) rfl, rfl⟩
  refine x_at (ws' := [(h0, .inr (3, [.ref v1, .ref v2, .ref v3, .ref v4, .ref v5, .ref j0, .int (nI V), .int ru, .int tk, .int (bI sus), .int (bI sos)])), (v1, .inl (cI, 8, .inl st)), (v2, .inl (cI, 8, .inl kk)), (v3, .inl (cI, 8, .inl ve)), (v4, .inl (cI, 8, .inl si)), (v5, .inl (cZ, 8, .inl (xB ca))), (j0, .inr (0, [.ref a1, .ref a2, .ref a3, .int (nI mk)])), (a1, .inl (cI, 16, .inl jt)), (a2, .inl (cI, 16, .inl jk)), (a3, .inl (cI, 16, .inl jy))]) (st' := []) rfl rfl ?_
  refine x_lv [(0, .ref h0), (1, .int (nI v)), (2, .int now)] [0, 1, 2] rfl ?_
  refine x_aload_n hE 0 rfl dX3_free_0 ?_
  refine x_get hE g9 0 rfl rfl dX3_free_1 ?_
  refine x_iload_n hE 1 rfl dX3_free_4 ?_
  refine x_iconst hE (nI 0) (by decide) dX3_free_5 ?_
  refine x_iast hE v (upd st v (nI 0)) (by omega) (by decide) rfl [(h0, .inr (3, [.ref v1, .ref v2, .ref v3, .ref v4, .ref v5, .ref j0, .int (nI V), .int ru, .int tk, .int (bI sus), .int (bI sos)])), (v1, .inl (cI, 8, .inl (upd st v (nI 0)))), (v2, .inl (cI, 8, .inl kk)), (v3, .inl (cI, 8, .inl ve)), (v4, .inl (cI, 8, .inl si)), (v5, .inl (cZ, 8, .inl (xB ca))), (j0, .inr (0, [.ref a1, .ref a2, .ref a3, .int (nI mk)])), (a1, .inl (cI, 16, .inl jt)), (a2, .inl (cI, 16, .inl jk)), (a3, .inl (cI, 16, .inl jy))] 1 rfl rfl dX3_free_6 ?_
  refine x_aload_n hE 0 rfl dX3_free_7 ?_
  refine x_get hE g24 0 rfl rfl dX3_free_8 ?_
  refine x_iload_n hE 1 rfl dX3_free_11 ?_
  refine x_iconst hE (nI 0) (by decide) dX3_free_12 ?_
  refine x_eq (bI false) rfl ?_
  refine x_zast hE v (updB ca v false) (by omega) (by decide) rfl [(h0, .inr (3, [.ref v1, .ref v2, .ref v3, .ref v4, .ref v5, .ref j0, .int (nI V), .int ru, .int tk, .int (bI sus), .int (bI sos)])), (v1, .inl (cI, 8, .inl (upd st v (nI 0)))), (v2, .inl (cI, 8, .inl kk)), (v3, .inl (cI, 8, .inl ve)), (v4, .inl (cI, 8, .inl si)), (v5, .inl (cZ, 8, .inl (xB (updB ca v false)))), (j0, .inr (0, [.ref a1, .ref a2, .ref a3, .int (nI mk)])), (a1, .inl (cI, 16, .inl jt)), (a2, .inl (cI, 16, .inl jk)), (a3, .inl (cI, 16, .inl jy))] 5 rfl rfl dX3_free_13 ?_
  refine x_aload_n hE 0 rfl dX3_free_14 ?_
  refine x_get hE g45 0 rfl rfl dX3_free_15 ?_
  refine x_iload_n hE 2 rfl dX3_free_18 ?_
  refine x_iconst hE (nI 2) (by decide) dX3_free_19 ?_
  refine x_aload_n hE 0 rfl dX3_free_20 ?_
  refine x_get hE g15 0 rfl rfl dX3_free_21 ?_
  refine x_iload_n hE 1 rfl dX3_free_24 ?_
  refine x_iald hE v (kk v) (by omega) (by decide) rfl 2 rfl dX3_free_25 ?_
  refine x_callV (n := 3) (st := []) hE (kX0_write l D cI cZ j0 a1 a2 a3 jt jk jy mk now (nI 2) (kk v) (by omega)) gX3_free_X0_write rfl (by decide +kernel) ⟨by decide, by decide⟩ ⟨Nat.zero_le _, Nat.zero_le _⟩ rfl [6, 7, 8, 9] [0, 1, 2, 3, 4, 5] rfl (wr := [(h0, .inr (3, [.ref v1, .ref v2, .ref v3, .ref v4, .ref v5, .ref j0, .int (nI V), .int ru, .int tk, .int (bI sus), .int (bI sos)])), (v1, .inl (cI, 8, .inl (upd st v (nI 0)))), (v2, .inl (cI, 8, .inl kk)), (v3, .inl (cI, 8, .inl ve)), (v4, .inl (cI, 8, .inl si)), (v5, .inl (cZ, 8, .inl (xB (updB ca v false))))]) rfl (by decide) (by decide) (by decide) 0 rfl rfl rfl rfl (Nat.le_of_ble_eq_true rfl) dX3_free_26 (fun v9 w9 hT9 => ?_)
  obtain ⟨rfl, rfl⟩ := hT9
  refine x_at (ws' := [(h0, .inr (3, [.ref v1, .ref v2, .ref v3, .ref v4, .ref v5, .ref j0, .int (nI V), .int ru, .int tk, .int (bI sus), .int (bI sos)])), (v1, .inl (cI, 8, .inl (upd st v (nI 0)))), (v2, .inl (cI, 8, .inl kk)), (v3, .inl (cI, 8, .inl ve)), (v4, .inl (cI, 8, .inl si)), (v5, .inl (cZ, 8, .inl (xB (updB ca v false)))), (j0, .inr (0, [.ref a1, .ref a2, .ref a3, .int (nI (mk + 1))])), (a1, .inl (cI, 16, .inl (upd jt (mk % 16) now))), (a2, .inl (cI, 16, .inl (upd jk (mk % 16) (nI 2)))), (a3, .inl (cI, 16, .inl (upd jy (mk % 16) (kk v))))]) (st' := []) rfl rfl ?_
  refine x_sub [(h0, .inr (3, [.ref v1, .ref v2, .ref v3, .ref v4, .ref v5, .ref j0, .int (nI V), .int ru, .int tk, .int (bI sus), .int (bI sos)])), (v1, .inl (cI, 8, .inl (upd st v (nI 0)))), (v2, .inl (cI, 8, .inl kk)), (v3, .inl (cI, 8, .inl ve)), (v4, .inl (cI, 8, .inl si)), (v5, .inl (cZ, 8, .inl (xB (updB ca v false)))), (j0, .inr (0, [.ref a1, .ref a2, .ref a3, .int (nI (mk + 1))])), (a1, .inl (cI, 16, .inl (upd jt (mk % 16) now))), (a2, .inl (cI, 16, .inl (upd jk (mk % 16) (nI 2)))), (a3, .inl (cI, 16, .inl (upd jy (mk % 16) (kk v))))] [0, 1, 2, 3, 4, 5, 6, 7, 8, 9] (by decide) rfl ?_
  exact x_vret hE hr (⟨rfl, rfl⟩) dX3_free_29
set_option maxHeartbeats 4000000 in
set_option maxRecDepth 100000 in
theorem kX3_limit (l : Launch) (D : va_G) (cI cZ : ClassId) (h0 : Nat) (v1 : Nat) (v2 : Nat) (v3 : Nat) (v4 : Nat) (v5 : Nat) (j0 : Nat) (a1 : Nat) (a2 : Nat) (a3 : Nat) (st : Nat → Int32) (kk : Nat → Int32) (ve : Nat → Int32) (si : Nat → Int32) (ca : Nat → Bool) (V : Nat) (ru : Int32) (tk : Int32) (sus : Bool) (sos : Bool) (jt : Nat → Int32) (jk : Nat → Int32) (jy : Nat → Int32) (mk : Nat) (q : Nat) (now : Int32) (hV : 1 ≤ V ∧ V ≤ 8) (hm : mk < 2 ^ 29) (hq : 1 ≤ q ∧ q ≤ 8) : xC l yX3_limit wsX3_limit 3 0 0 68 D cI cZ [.ref h0, .int (nI q), .int now] [(h0, .inr (3, [.ref v1, .ref v2, .ref v3, .ref v4, .ref v5, .ref j0, .int (nI V), .int ru, .int tk, .int (bI sus), .int (bI sos)])), (v1, .inl (cI, 8, .inl st)), (v2, .inl (cI, 8, .inl kk)), (v3, .inl (cI, 8, .inl ve)), (v4, .inl (cI, 8, .inl si)), (v5, .inl (cZ, 8, .inl (xB ca))), (j0, .inr (0, [.ref a1, .ref a2, .ref a3, .int (nI mk)])), (a1, .inl (cI, 16, .inl jt)), (a2, .inl (cI, 16, .inl jk)), (a3, .inl (cI, 16, .inl jy))] (fun v8 w8 => v8 = none ∧ w8 = [(h0, .inr (3, [.ref v1, .ref v2, .ref v3, .ref v4, .ref v5, .ref j0, .int (nI q), .int ru, .int tk, .int (bI sus), .int (bI sos)])), (v1, .inl (cI, 8, .inl ((limV kk now q V (st, ca, jt, jk, jy, mk)).1))), (v2, .inl (cI, 8, .inl kk)), (v3, .inl (cI, 8, .inl ve)), (v4, .inl (cI, 8, .inl si)), (v5, .inl (cZ, 8, .inl (xB ((limV kk now q V (st, ca, jt, jk, jy, mk)).2.1)))), (j0, .inr (0, [.ref a1, .ref a2, .ref a3, .int (nI ((limV kk now q V (st, ca, jt, jk, jy, mk)).2.2.2.2.2))])), (a1, .inl (cI, 16, .inl ((limV kk now q V (st, ca, jt, jk, jy, mk)).2.2.1))), (a2, .inl (cI, 16, .inl ((limV kk now q V (st, ca, jt, jk, jy, mk)).2.2.2.1))), (a3, .inl (cI, 16, .inl ((limV kk now q V (st, ca, jt, jk, jy, mk)).2.2.2.2.1)))]) := by
  refine xC.of (bytes := cX3_limit) (maxL := 4) (ret := none) (own := RX3) (by decide +kernel) rfl (Nat.le_of_ble_eq_true rfl) rfl ?_
  intro p9 e9 s9 m9 args9 below9 meth9 cd9 A hE hr hin2 hA9
  have inX3 : ∀ w ∈ wsX30, w ∈ wsX3_limit := fun w h => List.mem_cons_of_mem _ (List.mem_append_left _ (List.mem_append_right _ h))
  have g28 : xF RX3 wsX3_limit 28 3 6 := ⟨"KeyScanner$Voices", RX3, TX3, 11, inX3, rfl, by decide, List.mem_of_getElem? (i := 1) rfl, rfl⟩
  have g9 : xF RX3 wsX3_limit 9 3 0 := ⟨"KeyScanner$Voices", RX3, TX3, 11, inX3, rfl, by decide, List.mem_of_getElem? (i := 2) rfl, rfl⟩
  have p28 : xP RX3 wsX3_limit 28 3 6 false .int := ⟨"KeyScanner$Voices", RX3, TX3, 11, tyX3, inX3, rfl, by decide, List.mem_of_getElem? (i := 1) rfl, rfl, tyX3_ok, nmX3, rfl, by decide +kernel, fun h => by cases h⟩
  refine x_at (ws' := [(h0, .inr (3, [.ref v1, .ref v2, .ref v3, .ref v4, .ref v5, .ref j0, .int (nI V), .int ru, .int tk, .int (bI sus), .int (bI sos)])), (v1, .inl (cI, 8, .inl st)), (v2, .inl (cI, 8, .inl kk)), (v3, .inl (cI, 8, .inl ve)), (v4, .inl (cI, 8, .inl si)), (v5, .inl (cZ, 8, .inl (xB ca))), (j0, .inr (0, [.ref a1, .ref a2, .ref a3, .int (nI mk)])), (a1, .inl (cI, 16, .inl jt)), (a2, .inl (cI, 16, .inl jk)), (a3, .inl (cI, 16, .inl jy))]) (st' := []) rfl rfl ?_
  refine x_lv [(0, .ref h0), (1, .int (nI q)), (2, .int now)] [0, 1, 2] rfl ?_
  have lp2 : ∀ (n : Nat) (i : Nat) (sx : Nat → Int32) (cx : Nat → Bool) (tx : Nat → Int32) (kx : Nat → Int32) (yx : Nat → Int32) (mx : Nat) (hi : n = V - i) (hi8 : i ≤ 8) (hmx : mx + n < 2 ^ 29 + 8) (hT : lfor (limS kk now) i n (sx, cx, tx, kx, yx, mx) = limV kk now q V (st, ca, jt, jk, jy, mk)), X p9 l e9 { frames := 3, cells := 0, slots := 0, locals := 68 } s9 m9 args9 below9 meth9 cd9 0 0 (MQ below9 (xQ D (fun v8 w8 => v8 = none ∧ w8 = [(h0, .inr (3, [.ref v1, .ref v2, .ref v3, .ref v4, .ref v5, .ref j0, .int (nI q), .int ru, .int tk, .int (bI sus), .int (bI sos)])), (v1, .inl (cI, 8, .inl ((limV kk now q V (st, ca, jt, jk, jy, mk)).1))), (v2, .inl (cI, 8, .inl kk)), (v3, .inl (cI, 8, .inl ve)), (v4, .inl (cI, 8, .inl si)), (v5, .inl (cZ, 8, .inl (xB ((limV kk now q V (st, ca, jt, jk, jy, mk)).2.1)))), (j0, .inr (0, [.ref a1, .ref a2, .ref a3, .int (nI ((limV kk now q V (st, ca, jt, jk, jy, mk)).2.2.2.2.2))])), (a1, .inl (cI, 16, .inl ((limV kk now q V (st, ca, jt, jk, jy, mk)).2.2.1))), (a2, .inl (cI, 16, .inl ((limV kk now q V (st, ca, jt, jk, jy, mk)).2.2.2.1))), (a3, .inl (cI, 16, .inl ((limV kk now q V (st, ca, jt, jk, jy, mk)).2.2.2.2.1)))]) A) args9 s9 0 0 A) 4 D A [(h0, .inr (3, [.ref v1, .ref v2, .ref v3, .ref v4, .ref v5, .ref j0, .int (nI V), .int ru, .int tk, .int (bI sus), .int (bI sos)])), (v1, .inl (cI, 8, .inl sx)), (v2, .inl (cI, 8, .inl kk)), (v3, .inl (cI, 8, .inl ve)), (v4, .inl (cI, 8, .inl si)), (v5, .inl (cZ, 8, .inl (xB cx))), (j0, .inr (0, [.ref a1, .ref a2, .ref a3, .int (nI mx)])), (a1, .inl (cI, 16, .inl tx)), (a2, .inl (cI, 16, .inl kx)), (a3, .inl (cI, 16, .inl yx))] [(0, .ref h0), (1, .int (nI q)), (2, .int now), (3, .int (nI i))] 2 [] := by
    intro n
    induction n with
    | zero =>
      intro i sx cx tx kx yx mx hi hi8 hmx hT
      refine x_iload_n hE 3 rfl dX3_limit_2 ?_
      refine x_aload_n hE 0 rfl dX3_limit_3 ?_
      refine x_get hE g28 0 rfl rfl dX3_limit_4 ?_
      refine xn_icmp_ge hE (by omega) (by omega) 31 (by decide) dX3_limit_7 (fun c7 => ?_) (fun c7 => ?_)
      · skip
        refine x_aload_n hE 0 rfl dX3_limit_31 ?_
        refine x_iload_n hE 1 rfl dX3_limit_32 ?_
        refine x_put hE p28 [(h0, .inr (3, [.ref v1, .ref v2, .ref v3, .ref v4, .ref v5, .ref j0, .int (nI q), .int ru, .int tk, .int (bI sus), .int (bI sos)])), (v1, .inl (cI, 8, .inl sx)), (v2, .inl (cI, 8, .inl kk)), (v3, .inl (cI, 8, .inl ve)), (v4, .inl (cI, 8, .inl si)), (v5, .inl (cZ, 8, .inl (xB cx))), (j0, .inr (0, [.ref a1, .ref a2, .ref a3, .int (nI mx)])), (a1, .inl (cI, 16, .inl tx)), (a2, .inl (cI, 16, .inl kx)), (a3, .inl (cI, 16, .inl yx))] 0 rfl rfl rfl rfl (Nat.le_of_ble_eq_true rfl) dX3_limit_33 ?_
        exact x_vret hE hr (⟨rfl, by rw [← show (sx, cx, tx, kx, yx, mx) = limV kk now q V (st, ca, jt, jk, jy, mk) from hT]⟩) dX3_limit_36
      · skip
        exfalso; omega
    | succ n ih =>
      intro i sx cx tx kx yx mx hi hi8 hmx hT
      refine x_iload_n hE 3 rfl dX3_limit_2 ?_
      refine x_aload_n hE 0 rfl dX3_limit_3 ?_
      refine x_get hE g28 0 rfl rfl dX3_limit_4 ?_
      refine xn_icmp_ge hE (by omega) (by omega) 31 (by decide) dX3_limit_7 (fun c7 => ?_) (fun c7 => ?_)
      · skip
        exfalso; omega
      · skip
        refine x_aload_n hE 0 rfl dX3_limit_10 ?_
        refine x_get hE g9 0 rfl rfl dX3_limit_11 ?_
        refine x_iload_n hE 3 rfl dX3_limit_14 ?_
        refine x_iald hE i (sx i) (by omega) (by decide) rfl 1 rfl dX3_limit_15 ?_
        refine x_if_eq hE 25 (by decide) dX3_limit_16 (fun c16 => ?_) (fun c16 => ?_)
        · skip
          refine x_iinc hE (nI (i + 1)) [(3, .int (nI (i + 1))), (0, .ref h0), (1, .int (nI q)), (2, .int now)] 3 rfl (nI_add _ _) (by decide) rfl dX3_limit_25 ?_
          refine x_goto hE 2 (by decide) dX3_limit_28 ?_
          refine x_lv [(0, .ref h0), (1, .int (nI q)), (2, .int now), (3, .int (nI (i + 1)))] [1, 2, 3, 0] rfl ?_
          exact ih (i + 1) sx cx tx kx yx mx (by omega) (by omega) (by omega) (by simpa only [lfor, lany, lfind, limS, freeV, if_pos c7, if_pos c16, reduceIte, Bool.false_eq_true, Bool.true_eq_false] using hT)
        · skip
          refine x_aload_n hE 0 rfl dX3_limit_19 ?_
          refine x_iload_n hE 3 rfl dX3_limit_20 ?_
          refine x_iload_n hE 2 rfl dX3_limit_21 ?_
          refine x_callV (n := 2) (st := []) hE (kX3_free l D cI cZ h0 v1 v2 v3 v4 v5 j0 a1 a2 a3 sx kk ve si cx V ru tk sus sos tx kx yx mx i now (by omega) (by omega)) gX3_limit_X3_free rfl (by decide +kernel) ⟨by decide, by decide⟩ ⟨Nat.zero_le _, Nat.zero_le _⟩ rfl [0, 1, 2, 3, 4, 5, 6, 7, 8, 9] [] rfl (wr := []) rfl (by decide) (by decide) (by decide) 0 rfl rfl rfl rfl (Nat.le_of_ble_eq_true rfl) dX3_limit_22 (fun v9 w9 hT9 => ?_)
          obtain ⟨rfl, rfl⟩ := hT9
          refine x_at (ws' := [(h0, .inr (3, [.ref v1, .ref v2, .ref v3, .ref v4, .ref v5, .ref j0, .int (nI V), .int ru, .int tk, .int (bI sus), .int (bI sos)])), (v1, .inl (cI, 8, .inl (upd sx i (nI 0)))), (v2, .inl (cI, 8, .inl kk)), (v3, .inl (cI, 8, .inl ve)), (v4, .inl (cI, 8, .inl si)), (v5, .inl (cZ, 8, .inl (xB (updB cx i false)))), (j0, .inr (0, [.ref a1, .ref a2, .ref a3, .int (nI (mx + 1))])), (a1, .inl (cI, 16, .inl (upd tx (mx % 16) now))), (a2, .inl (cI, 16, .inl (upd kx (mx % 16) (nI 2)))), (a3, .inl (cI, 16, .inl (upd yx (mx % 16) (kk i))))]) (st' := []) rfl rfl ?_
          refine x_iinc hE (nI (i + 1)) [(3, .int (nI (i + 1))), (0, .ref h0), (1, .int (nI q)), (2, .int now)] 3 rfl (nI_add _ _) (by decide) rfl dX3_limit_25 ?_
          refine x_goto hE 2 (by decide) dX3_limit_28 ?_
          refine x_lv [(0, .ref h0), (1, .int (nI q)), (2, .int now), (3, .int (nI (i + 1)))] [1, 2, 3, 0] rfl ?_
          exact ih (i + 1) (upd sx i (nI 0)) (updB cx i false) (upd tx (mx % 16) now) (upd kx (mx % 16) (nI 2)) (upd yx (mx % 16) (kk i)) (mx + 1) (by omega) (by omega) (by omega) (by simpa only [lfor, lany, lfind, limS, freeV, if_pos c7, if_neg c16, reduceIte, Bool.false_eq_true, Bool.true_eq_false] using hT)
  refine x_iload_n hE 1 rfl dX3_limit_0 ?_
  refine x_istore_n hE [(3, .int (nI q)), (0, .ref h0), (1, .int (nI q)), (2, .int now)] (by decide) rfl dX3_limit_1 ?_
  refine x_lv [(0, .ref h0), (1, .int (nI q)), (2, .int now), (3, .int (nI q))] [1, 2, 3, 0] rfl ?_
  exact lp2 (V - q) q st ca jt jk jy mk (rfl) (by omega) (by omega) (rfl)
set_option maxHeartbeats 4000000 in
set_option maxRecDepth 100000 in
theorem kX3_freeKept (l : Launch) (D : va_G) (cI cZ : ClassId) (h0 : Nat) (v1 : Nat) (v2 : Nat) (v3 : Nat) (v4 : Nat) (v5 : Nat) (j0 : Nat) (a1 : Nat) (a2 : Nat) (a3 : Nat) (st : Nat → Int32) (kk : Nat → Int32) (ve : Nat → Int32) (si : Nat → Int32) (ca : Nat → Bool) (V : Nat) (ru : Int32) (tk : Int32) (sus : Bool) (sos : Bool) (jt : Nat → Int32) (jk : Nat → Int32) (jy : Nat → Int32) (mk : Nat) (now : Int32) (hV : 1 ≤ V ∧ V ≤ 8) (hm : mk < 2 ^ 29) : xC l yX3_freeKept wsX3_freeKept 3 0 0 68 D cI cZ [.ref h0, .int now] [(h0, .inr (3, [.ref v1, .ref v2, .ref v3, .ref v4, .ref v5, .ref j0, .int (nI V), .int ru, .int tk, .int (bI sus), .int (bI sos)])), (v1, .inl (cI, 8, .inl st)), (v2, .inl (cI, 8, .inl kk)), (v3, .inl (cI, 8, .inl ve)), (v4, .inl (cI, 8, .inl si)), (v5, .inl (cZ, 8, .inl (xB ca))), (j0, .inr (0, [.ref a1, .ref a2, .ref a3, .int (nI mk)])), (a1, .inl (cI, 16, .inl jt)), (a2, .inl (cI, 16, .inl jk)), (a3, .inl (cI, 16, .inl jy))] (fun v8 w8 => v8 = some (.int (nI ((fkV kk now sus sos V (st, ca, jt, jk, jy, mk)).2))) ∧ w8 = [(h0, .inr (3, [.ref v1, .ref v2, .ref v3, .ref v4, .ref v5, .ref j0, .int (nI V), .int ru, .int tk, .int (bI sus), .int (bI sos)])), (v1, .inl (cI, 8, .inl (((fkV kk now sus sos V (st, ca, jt, jk, jy, mk)).1).1))), (v2, .inl (cI, 8, .inl kk)), (v3, .inl (cI, 8, .inl ve)), (v4, .inl (cI, 8, .inl si)), (v5, .inl (cZ, 8, .inl (xB (((fkV kk now sus sos V (st, ca, jt, jk, jy, mk)).1).2.1)))), (j0, .inr (0, [.ref a1, .ref a2, .ref a3, .int (nI (((fkV kk now sus sos V (st, ca, jt, jk, jy, mk)).1).2.2.2.2.2))])), (a1, .inl (cI, 16, .inl (((fkV kk now sus sos V (st, ca, jt, jk, jy, mk)).1).2.2.1))), (a2, .inl (cI, 16, .inl (((fkV kk now sus sos V (st, ca, jt, jk, jy, mk)).1).2.2.2.1))), (a3, .inl (cI, 16, .inl (((fkV kk now sus sos V (st, ca, jt, jk, jy, mk)).1).2.2.2.2.1)))]) := by
  refine xC.of (bytes := cX3_freeKept) (maxL := 4) (ret := (some .int)) (own := RX3) (by decide +kernel) rfl (Nat.le_of_ble_eq_true rfl) rfl ?_
  intro p9 e9 s9 m9 args9 below9 meth9 cd9 A hE hr hin2 hA9
  have inX3 : ∀ w ∈ wsX30, w ∈ wsX3_freeKept := fun w h => List.mem_cons_of_mem _ (List.mem_append_left _ (List.mem_append_right _ h))
  have g28 : xF RX3 wsX3_freeKept 28 3 6 := ⟨"KeyScanner$Voices", RX3, TX3, 11, inX3, rfl, by decide, List.mem_of_getElem? (i := 1) rfl, rfl⟩
  have g9 : xF RX3 wsX3_freeKept 9 3 0 := ⟨"KeyScanner$Voices", RX3, TX3, 11, inX3, rfl, by decide, List.mem_of_getElem? (i := 2) rfl, rfl⟩
  refine x_at (ws' := [(h0, .inr (3, [.ref v1, .ref v2, .ref v3, .ref v4, .ref v5, .ref j0, .int (nI V), .int ru, .int tk, .int (bI sus), .int (bI sos)])), (v1, .inl (cI, 8, .inl st)), (v2, .inl (cI, 8, .inl kk)), (v3, .inl (cI, 8, .inl ve)), (v4, .inl (cI, 8, .inl si)), (v5, .inl (cZ, 8, .inl (xB ca))), (j0, .inr (0, [.ref a1, .ref a2, .ref a3, .int (nI mk)])), (a1, .inl (cI, 16, .inl jt)), (a2, .inl (cI, 16, .inl jk)), (a3, .inl (cI, 16, .inl jy))]) (st' := []) rfl rfl ?_
  refine x_lv [(0, .ref h0), (1, .int now)] [0, 1] rfl ?_
  have lp4 : ∀ (n : Nat) (i : Nat) (u : Nat) (sx : Nat → Int32) (cx : Nat → Bool) (tx : Nat → Int32) (kx : Nat → Int32) (yx : Nat → Int32) (mx : Nat) (hi : i + n = V) (hmx : mx + n < 2 ^ 29 + 8) (hT : lfor (fkS kk now sus sos) i n ((sx, cx, tx, kx, yx, mx), u) = fkV kk now sus sos V (st, ca, jt, jk, jy, mk)), X p9 l e9 { frames := 3, cells := 0, slots := 0, locals := 68 } s9 m9 args9 below9 meth9 cd9 0 0 (MQ below9 (xQ D (fun v8 w8 => v8 = some (.int (nI ((fkV kk now sus sos V (st, ca, jt, jk, jy, mk)).2))) ∧ w8 = [(h0, .inr (3, [.ref v1, .ref v2, .ref v3, .ref v4, .ref v5, .ref j0, .int (nI V), .int ru, .int tk, .int (bI sus), .int (bI sos)])), (v1, .inl (cI, 8, .inl (((fkV kk now sus sos V (st, ca, jt, jk, jy, mk)).1).1))), (v2, .inl (cI, 8, .inl kk)), (v3, .inl (cI, 8, .inl ve)), (v4, .inl (cI, 8, .inl si)), (v5, .inl (cZ, 8, .inl (xB (((fkV kk now sus sos V (st, ca, jt, jk, jy, mk)).1).2.1)))), (j0, .inr (0, [.ref a1, .ref a2, .ref a3, .int (nI (((fkV kk now sus sos V (st, ca, jt, jk, jy, mk)).1).2.2.2.2.2))])), (a1, .inl (cI, 16, .inl (((fkV kk now sus sos V (st, ca, jt, jk, jy, mk)).1).2.2.1))), (a2, .inl (cI, 16, .inl (((fkV kk now sus sos V (st, ca, jt, jk, jy, mk)).1).2.2.2.1))), (a3, .inl (cI, 16, .inl (((fkV kk now sus sos V (st, ca, jt, jk, jy, mk)).1).2.2.2.2.1)))]) A) args9 s9 0 0 A) 4 D A [(h0, .inr (3, [.ref v1, .ref v2, .ref v3, .ref v4, .ref v5, .ref j0, .int (nI V), .int ru, .int tk, .int (bI sus), .int (bI sos)])), (v1, .inl (cI, 8, .inl sx)), (v2, .inl (cI, 8, .inl kk)), (v3, .inl (cI, 8, .inl ve)), (v4, .inl (cI, 8, .inl si)), (v5, .inl (cZ, 8, .inl (xB cx))), (j0, .inr (0, [.ref a1, .ref a2, .ref a3, .int (nI mx)])), (a1, .inl (cI, 16, .inl tx)), (a2, .inl (cI, 16, .inl kx)), (a3, .inl (cI, 16, .inl yx))] [(0, .ref h0), (1, .int now), (2, .int (nI u)), (3, .int (nI i))] 4 [] := by
    intro n
    induction n with
    | zero =>
      intro i u sx cx tx kx yx mx hi hmx hT
      refine x_iload_n hE 3 rfl dX3_freeKept_4 ?_
      refine x_aload_n hE 0 rfl dX3_freeKept_5 ?_
      refine x_get hE g28 0 rfl rfl dX3_freeKept_6 ?_
      refine xn_icmp_ge hE (by omega) (by omega) 45 (by decide) dX3_freeKept_9 (fun c9 => ?_) (fun c9 => ?_)
      · skip
        refine x_iload_n hE 2 rfl dX3_freeKept_45 ?_
        exact x_iret hE hr (⟨by rw [← show ((sx, cx, tx, kx, yx, mx), u) = fkV kk now sus sos V (st, ca, jt, jk, jy, mk) from hT], by rw [← show ((sx, cx, tx, kx, yx, mx), u) = fkV kk now sus sos V (st, ca, jt, jk, jy, mk) from hT]⟩) dX3_freeKept_46
      · skip
        exfalso; omega
    | succ n ih =>
      intro i u sx cx tx kx yx mx hi hmx hT
      refine x_iload_n hE 3 rfl dX3_freeKept_4 ?_
      refine x_aload_n hE 0 rfl dX3_freeKept_5 ?_
      refine x_get hE g28 0 rfl rfl dX3_freeKept_6 ?_
      refine xn_icmp_ge hE (by omega) (by omega) 45 (by decide) dX3_freeKept_9 (fun c9 => ?_) (fun c9 => ?_)
      · skip
        exfalso; omega
      · skip
        refine x_aload_n hE 0 rfl dX3_freeKept_12 ?_
        refine x_get hE g9 0 rfl rfl dX3_freeKept_13 ?_
        refine x_iload_n hE 3 rfl dX3_freeKept_16 ?_
        refine x_iald hE i (sx i) (by omega) (by decide) rfl 1 rfl dX3_freeKept_17 ?_
        refine x_iconst hE (nI 2) (by decide) dX3_freeKept_18 ?_
        refine x_icmp_ne hE 39 (by decide) dX3_freeKept_19 (fun c19 => ?_) (fun c19 => ?_)
        · skip
          refine x_iinc hE (nI (i + 1)) [(3, .int (nI (i + 1))), (0, .ref h0), (1, .int now), (2, .int (nI u))] 3 rfl (nI_add _ _) (by decide) rfl dX3_freeKept_39 ?_
          refine x_goto hE 4 (by decide) dX3_freeKept_42 ?_
          refine x_lv [(0, .ref h0), (1, .int now), (2, .int (nI u)), (3, .int (nI (i + 1)))] [1, 2, 3, 0] rfl ?_
          exact ih (i + 1) u sx cx tx kx yx mx (by omega) (by omega) (by simpa only [lfor, lany, lfind, fkS, freeV, if_pos c9, if_neg c19, reduceIte, Bool.false_eq_true, Bool.true_eq_false] using hT)
        · skip
          refine x_aload_n hE 0 rfl dX3_freeKept_22 ?_
          refine x_iload_n hE 3 rfl dX3_freeKept_23 ?_
          refine x_callV (n := 1) (st := []) hE (kX3_isKeptByPedal l D cI cZ h0 v1 v2 v3 v4 v5 j0 a1 a2 a3 sx kk ve si cx V ru tk sus sos tx kx yx mx i (by omega)) gX3_freeKept_X3_isKeptByPedal rfl (by decide +kernel) ⟨by decide, by decide⟩ ⟨Nat.zero_le _, Nat.zero_le _⟩ rfl [0, 1, 2, 3, 4, 5, 6, 7, 8, 9] [] rfl (wr := []) rfl (by decide) (by decide) (by decide) 0 rfl rfl rfl rfl (Nat.le_of_ble_eq_true rfl) dX3_freeKept_24 (fun v9 w9 hT9 => ?_)
          obtain ⟨rfl, rfl⟩ := hT9
          refine x_at (ws' := [(h0, .inr (3, [.ref v1, .ref v2, .ref v3, .ref v4, .ref v5, .ref j0, .int (nI V), .int ru, .int tk, .int (bI sus), .int (bI sos)])), (v1, .inl (cI, 8, .inl sx)), (v2, .inl (cI, 8, .inl kk)), (v3, .inl (cI, 8, .inl ve)), (v4, .inl (cI, 8, .inl si)), (v5, .inl (cZ, 8, .inl (xB cx))), (j0, .inr (0, [.ref a1, .ref a2, .ref a3, .int (nI mx)])), (a1, .inl (cI, 16, .inl tx)), (a2, .inl (cI, 16, .inl kx)), (a3, .inl (cI, 16, .inl yx))]) (st' := [.int (bI (kpB sus sos cx i))]) rfl rfl ?_
          refine xb_if_ne hE 39 (by decide) dX3_freeKept_27 (fun c27 => ?_) (fun c27 => ?_)
          · skip
            refine x_iinc hE (nI (i + 1)) [(3, .int (nI (i + 1))), (0, .ref h0), (1, .int now), (2, .int (nI u))] 3 rfl (nI_add _ _) (by decide) rfl dX3_freeKept_39 ?_
            refine x_goto hE 4 (by decide) dX3_freeKept_42 ?_
            refine x_lv [(0, .ref h0), (1, .int now), (2, .int (nI u)), (3, .int (nI (i + 1)))] [1, 2, 3, 0] rfl ?_
            exact ih (i + 1) u sx cx tx kx yx mx (by omega) (by omega) (by simpa only [lfor, lany, lfind, fkS, freeV, if_pos c9, if_pos c19, if_pos c27, reduceIte, Bool.false_eq_true, Bool.true_eq_false] using hT)
          · skip
            refine x_aload_n hE 0 rfl dX3_freeKept_30 ?_
            refine x_iload_n hE 3 rfl dX3_freeKept_31 ?_
            refine x_iload_n hE 1 rfl dX3_freeKept_32 ?_
            refine x_callV (n := 2) (st := []) hE (kX3_free l D cI cZ h0 v1 v2 v3 v4 v5 j0 a1 a2 a3 sx kk ve si cx V ru tk sus sos tx kx yx mx i now (by omega) (by omega)) gX3_freeKept_X3_free rfl (by decide +kernel) ⟨by decide, by decide⟩ ⟨Nat.zero_le _, Nat.zero_le _⟩ rfl [0, 1, 2, 3, 4, 5, 6, 7, 8, 9] [] rfl (wr := []) rfl (by decide) (by decide) (by decide) 0 rfl rfl rfl rfl (Nat.le_of_ble_eq_true rfl) dX3_freeKept_33 (fun v9 w9 hT9 => ?_)
            obtain ⟨rfl, rfl⟩ := hT9
            refine x_at (ws' := [(h0, .inr (3, [.ref v1, .ref v2, .ref v3, .ref v4, .ref v5, .ref j0, .int (nI V), .int ru, .int tk, .int (bI sus), .int (bI sos)])), (v1, .inl (cI, 8, .inl (upd sx i (nI 0)))), (v2, .inl (cI, 8, .inl kk)), (v3, .inl (cI, 8, .inl ve)), (v4, .inl (cI, 8, .inl si)), (v5, .inl (cZ, 8, .inl (xB (updB cx i false)))), (j0, .inr (0, [.ref a1, .ref a2, .ref a3, .int (nI (mx + 1))])), (a1, .inl (cI, 16, .inl (upd tx (mx % 16) now))), (a2, .inl (cI, 16, .inl (upd kx (mx % 16) (nI 2)))), (a3, .inl (cI, 16, .inl (upd yx (mx % 16) (kk i))))]) (st' := []) rfl rfl ?_
            refine x_iinc hE (nI (u + 1)) [(2, .int (nI (u + 1))), (0, .ref h0), (1, .int now), (3, .int (nI i))] 2 rfl (nI_add _ _) (by decide) rfl dX3_freeKept_36 ?_
            refine x_iinc hE (nI (i + 1)) [(3, .int (nI (i + 1))), (2, .int (nI (u + 1))), (0, .ref h0), (1, .int now)] 3 rfl (nI_add _ _) (by decide) rfl dX3_freeKept_39 ?_
            refine x_goto hE 4 (by decide) dX3_freeKept_42 ?_
            refine x_lv [(0, .ref h0), (1, .int now), (2, .int (nI (u + 1))), (3, .int (nI (i + 1)))] [2, 3, 1, 0] rfl ?_
            exact ih (i + 1) (u + 1) (upd sx i (nI 0)) (updB cx i false) (upd tx (mx % 16) now) (upd kx (mx % 16) (nI 2)) (upd yx (mx % 16) (kk i)) (mx + 1) (by omega) (by omega) (by simpa only [lfor, lany, lfind, fkS, freeV, if_pos c9, if_pos c19, if_neg (bnt c27), reduceIte, Bool.false_eq_true, Bool.true_eq_false] using hT)
  refine x_iconst hE (nI 0) (by decide) dX3_freeKept_0 ?_
  refine x_istore_n hE [(2, .int (nI 0)), (0, .ref h0), (1, .int now)] (by decide) rfl dX3_freeKept_1 ?_
  refine x_iconst hE (nI 0) (by decide) dX3_freeKept_2 ?_
  refine x_istore_n hE [(3, .int (nI 0)), (2, .int (nI 0)), (0, .ref h0), (1, .int now)] (by decide) rfl dX3_freeKept_3 ?_
  refine x_lv [(0, .ref h0), (1, .int now), (2, .int (nI 0)), (3, .int (nI 0))] [2, 3, 1, 0] rfl ?_
  exact lp4 V 0 0 st ca jt jk jy mk (Nat.zero_add _) (by omega) (rfl)
set_option maxHeartbeats 4000000 in
set_option maxRecDepth 100000 in
theorem kX3_moveSustain (l : Launch) (D : va_G) (cI cZ : ClassId) (h0 : Nat) (v1 : Nat) (v2 : Nat) (v3 : Nat) (v4 : Nat) (v5 : Nat) (j0 : Nat) (a1 : Nat) (a2 : Nat) (a3 : Nat) (st : Nat → Int32) (kk : Nat → Int32) (ve : Nat → Int32) (si : Nat → Int32) (ca : Nat → Bool) (V : Nat) (ru : Int32) (tk : Int32) (sus : Bool) (sos : Bool) (jt : Nat → Int32) (jk : Nat → Int32) (jy : Nat → Int32) (mk : Nat) (dn : Bool) (now : Int32) (hV : 1 ≤ V ∧ V ≤ 8) (hm : mk < 2 ^ 29) : xC l yX3_moveSustain wsX3_moveSustain 4 0 0 91 D cI cZ [.ref h0, .int (bI dn), .int now] [(h0, .inr (3, [.ref v1, .ref v2, .ref v3, .ref v4, .ref v5, .ref j0, .int (nI V), .int ru, .int tk, .int (bI sus), .int (bI sos)])), (v1, .inl (cI, 8, .inl st)), (v2, .inl (cI, 8, .inl kk)), (v3, .inl (cI, 8, .inl ve)), (v4, .inl (cI, 8, .inl si)), (v5, .inl (cZ, 8, .inl (xB ca))), (j0, .inr (0, [.ref a1, .ref a2, .ref a3, .int (nI mk)])), (a1, .inl (cI, 16, .inl jt)), (a2, .inl (cI, 16, .inl jk)), (a3, .inl (cI, 16, .inl jy))] (fun v8 w8 => v8 = some (.int (nI ((msuV kk now sus sos dn V (st, ca, jt, jk, jy, mk)).2))) ∧ w8 = [(h0, .inr (3, [.ref v1, .ref v2, .ref v3, .ref v4, .ref v5, .ref j0, .int (nI V), .int ru, .int tk, .int (bI dn), .int (bI sos)])), (v1, .inl (cI, 8, .inl (((msuV kk now sus sos dn V (st, ca, jt, jk, jy, mk)).1).1))), (v2, .inl (cI, 8, .inl kk)), (v3, .inl (cI, 8, .inl ve)), (v4, .inl (cI, 8, .inl si)), (v5, .inl (cZ, 8, .inl (xB (((msuV kk now sus sos dn V (st, ca, jt, jk, jy, mk)).1).2.1)))), (j0, .inr (0, [.ref a1, .ref a2, .ref a3, .int (nI (((msuV kk now sus sos dn V (st, ca, jt, jk, jy, mk)).1).2.2.2.2.2))])), (a1, .inl (cI, 16, .inl (((msuV kk now sus sos dn V (st, ca, jt, jk, jy, mk)).1).2.2.1))), (a2, .inl (cI, 16, .inl (((msuV kk now sus sos dn V (st, ca, jt, jk, jy, mk)).1).2.2.2.1))), (a3, .inl (cI, 16, .inl (((msuV kk now sus sos dn V (st, ca, jt, jk, jy, mk)).1).2.2.2.2.1)))]) := by
  refine xC.of (bytes := cX3_moveSustain) (maxL := 3) (ret := (some .int)) (own := RX3) (by decide +kernel) rfl (Nat.le_of_ble_eq_true rfl) rfl ?_
  intro p9 e9 s9 m9 args9 below9 meth9 cd9 A hE hr hin2 hA9
  have inX3 : ∀ w ∈ wsX30, w ∈ wsX3_moveSustain := fun w h => List.mem_cons_of_mem _ (List.mem_append_left _ (List.mem_append_right _ h))
  have g38 : xF RX3 wsX3_moveSustain 38 3 9 := ⟨"KeyScanner$Voices", RX3, TX3, 11, inX3, rfl, by decide, List.mem_of_getElem? (i := 1) rfl, rfl⟩
  have p38 : xP RX3 wsX3_moveSustain 38 3 9 false .boolean := ⟨"KeyScanner$Voices", RX3, TX3, 11, tyX3, inX3, rfl, by decide, List.mem_of_getElem? (i := 1) rfl, rfl, tyX3_ok, nmX3, rfl, by decide +kernel, fun h => by cases h⟩
  refine x_at (ws' := [(h0, .inr (3, [.ref v1, .ref v2, .ref v3, .ref v4, .ref v5, .ref j0, .int (nI V), .int ru, .int tk, .int (bI sus), .int (bI sos)])), (v1, .inl (cI, 8, .inl st)), (v2, .inl (cI, 8, .inl kk)), (v3, .inl (cI, 8, .inl ve)), (v4, .inl (cI, 8, .inl si)), (v5, .inl (cZ, 8, .inl (xB ca))), (j0, .inr (0, [.ref a1, .ref a2, .ref a3, .int (nI mk)])), (a1, .inl (cI, 16, .inl jt)), (a2, .inl (cI, 16, .inl jk)), (a3, .inl (cI, 16, .inl jy))]) (st' := []) rfl rfl ?_
  refine x_lv [(0, .ref h0), (1, .int (bI dn)), (2, .int now)] [0, 1, 2] rfl ?_
  refine x_iload_n hE 1 rfl dX3_moveSustain_0 ?_
  refine x_aload_n hE 0 rfl dX3_moveSustain_1 ?_
  refine x_get hE g38 0 rfl rfl dX3_moveSustain_2 ?_
  refine xb_icmp_ne hE 10 (by decide) dX3_moveSustain_5 (fun c5 => ?_) (fun c5 => ?_)
  · skip
    refine x_aload_n hE 0 rfl dX3_moveSustain_10 ?_
    refine x_iload_n hE 1 rfl dX3_moveSustain_11 ?_
    refine x_put hE p38 [(h0, .inr (3, [.ref v1, .ref v2, .ref v3, .ref v4, .ref v5, .ref j0, .int (nI V), .int ru, .int tk, .int (bI dn), .int (bI sos)])), (v1, .inl (cI, 8, .inl st)), (v2, .inl (cI, 8, .inl kk)), (v3, .inl (cI, 8, .inl ve)), (v4, .inl (cI, 8, .inl si)), (v5, .inl (cZ, 8, .inl (xB ca))), (j0, .inr (0, [.ref a1, .ref a2, .ref a3, .int (nI mk)])), (a1, .inl (cI, 16, .inl jt)), (a2, .inl (cI, 16, .inl jk)), (a3, .inl (cI, 16, .inl jy))] 0 rfl rfl (narrow_bI _) (fits_bI _) (Nat.le_of_ble_eq_true rfl) dX3_moveSustain_12 ?_
    refine x_iload_n hE 1 rfl dX3_moveSustain_15 ?_
    refine xb_if_eq hE 23 (by decide) dX3_moveSustain_16 (fun c16 => ?_) (fun c16 => ?_)
    · skip
      refine x_aload_n hE 0 rfl dX3_moveSustain_23 ?_
      refine x_iload_n hE 2 rfl dX3_moveSustain_24 ?_
      refine x_callV (n := 1) (st := []) hE (kX3_freeKept l D cI cZ h0 v1 v2 v3 v4 v5 j0 a1 a2 a3 st kk ve si ca V ru tk dn sos jt jk jy mk now (by omega) (by omega)) gX3_moveSustain_X3_freeKept rfl (by decide +kernel) ⟨by decide, by decide⟩ ⟨Nat.zero_le _, Nat.zero_le _⟩ rfl [0, 1, 2, 3, 4, 5, 6, 7, 8, 9] [] rfl (wr := []) rfl (by decide) (by decide) (by decide) 0 rfl rfl rfl rfl (Nat.le_of_ble_eq_true rfl) dX3_moveSustain_25 (fun v9 w9 hT9 => ?_)
      obtain ⟨rfl, rfl⟩ := hT9
      refine x_at (ws' := [(h0, .inr (3, [.ref v1, .ref v2, .ref v3, .ref v4, .ref v5, .ref j0, .int (nI V), .int ru, .int tk, .int (bI dn), .int (bI sos)])), (v1, .inl (cI, 8, .inl (((fkV kk now dn sos V (st, ca, jt, jk, jy, mk)).1).1))), (v2, .inl (cI, 8, .inl kk)), (v3, .inl (cI, 8, .inl ve)), (v4, .inl (cI, 8, .inl si)), (v5, .inl (cZ, 8, .inl (xB (((fkV kk now dn sos V (st, ca, jt, jk, jy, mk)).1).2.1)))), (j0, .inr (0, [.ref a1, .ref a2, .ref a3, .int (nI (((fkV kk now dn sos V (st, ca, jt, jk, jy, mk)).1).2.2.2.2.2))])), (a1, .inl (cI, 16, .inl (((fkV kk now dn sos V (st, ca, jt, jk, jy, mk)).1).2.2.1))), (a2, .inl (cI, 16, .inl (((fkV kk now dn sos V (st, ca, jt, jk, jy, mk)).1).2.2.2.1))), (a3, .inl (cI, 16, .inl (((fkV kk now dn sos V (st, ca, jt, jk, jy, mk)).1).2.2.2.2.1)))]) (st' := [.int (nI ((fkV kk now dn sos V (st, ca, jt, jk, jy, mk)).2))]) rfl rfl ?_
      exact x_iret hE hr (⟨by simp only [msuV, if_neg c5]; simp only [if_neg c5, if_neg (bnt c16), reduceIte, Bool.false_eq_true, Bool.true_eq_false], by simp only [msuV, if_neg c5]; simp only [if_neg c5, if_neg (bnt c16), reduceIte, Bool.false_eq_true, Bool.true_eq_false]⟩) dX3_moveSustain_28
    · skip
      refine x_iconst hE (nI 0) (by decide) dX3_moveSustain_19 ?_
      refine x_goto hE 28 (by decide) dX3_moveSustain_20 ?_
      exact x_iret hE hr (⟨by simp only [msuV, if_neg c5]; simp only [if_neg c5, if_pos c16, reduceIte, Bool.false_eq_true, Bool.true_eq_false], by simp only [msuV, if_neg c5]; simp only [if_neg c5, if_pos c16, reduceIte, Bool.false_eq_true, Bool.true_eq_false]⟩) dX3_moveSustain_28
  · skip
    refine x_iconst hE (nI 0) (by decide) dX3_moveSustain_8 ?_
    exact x_iret hE hr (⟨by simp only [msuV, if_pos c5], by simp only [msuV, if_pos c5]; rw [c5]⟩) dX3_moveSustain_9
set_option maxHeartbeats 4000000 in
set_option maxRecDepth 100000 in
theorem kX3_moveSostenuto (l : Launch) (D : va_G) (cI cZ : ClassId) (h0 : Nat) (v1 : Nat) (v2 : Nat) (v3 : Nat) (v4 : Nat) (v5 : Nat) (j0 : Nat) (a1 : Nat) (a2 : Nat) (a3 : Nat) (st : Nat → Int32) (kk : Nat → Int32) (ve : Nat → Int32) (si : Nat → Int32) (ca : Nat → Bool) (V : Nat) (ru : Int32) (tk : Int32) (sus : Bool) (sos : Bool) (jt : Nat → Int32) (jk : Nat → Int32) (jy : Nat → Int32) (mk : Nat) (dn : Bool) (now : Int32) (hV : 1 ≤ V ∧ V ≤ 8) (hm : mk < 2 ^ 29) : xC l yX3_moveSostenuto wsX3_moveSostenuto 4 0 0 91 D cI cZ [.ref h0, .int (bI dn), .int now] [(h0, .inr (3, [.ref v1, .ref v2, .ref v3, .ref v4, .ref v5, .ref j0, .int (nI V), .int ru, .int tk, .int (bI sus), .int (bI sos)])), (v1, .inl (cI, 8, .inl st)), (v2, .inl (cI, 8, .inl kk)), (v3, .inl (cI, 8, .inl ve)), (v4, .inl (cI, 8, .inl si)), (v5, .inl (cZ, 8, .inl (xB ca))), (j0, .inr (0, [.ref a1, .ref a2, .ref a3, .int (nI mk)])), (a1, .inl (cI, 16, .inl jt)), (a2, .inl (cI, 16, .inl jk)), (a3, .inl (cI, 16, .inl jy))] (fun v8 w8 => v8 = some (.int (nI ((msoV kk now sus sos dn V (st, ca, jt, jk, jy, mk)).2))) ∧ w8 = [(h0, .inr (3, [.ref v1, .ref v2, .ref v3, .ref v4, .ref v5, .ref j0, .int (nI V), .int ru, .int tk, .int (bI sus), .int (bI dn)])), (v1, .inl (cI, 8, .inl (((msoV kk now sus sos dn V (st, ca, jt, jk, jy, mk)).1).1))), (v2, .inl (cI, 8, .inl kk)), (v3, .inl (cI, 8, .inl ve)), (v4, .inl (cI, 8, .inl si)), (v5, .inl (cZ, 8, .inl (xB (((msoV kk now sus sos dn V (st, ca, jt, jk, jy, mk)).1).2.1)))), (j0, .inr (0, [.ref a1, .ref a2, .ref a3, .int (nI (((msoV kk now sus sos dn V (st, ca, jt, jk, jy, mk)).1).2.2.2.2.2))])), (a1, .inl (cI, 16, .inl (((msoV kk now sus sos dn V (st, ca, jt, jk, jy, mk)).1).2.2.1))), (a2, .inl (cI, 16, .inl (((msoV kk now sus sos dn V (st, ca, jt, jk, jy, mk)).1).2.2.2.1))), (a3, .inl (cI, 16, .inl (((msoV kk now sus sos dn V (st, ca, jt, jk, jy, mk)).1).2.2.2.2.1)))]) := by
  refine xC.of (bytes := cX3_moveSostenuto) (maxL := 4) (ret := (some .int)) (own := RX3) (by decide +kernel) rfl (Nat.le_of_ble_eq_true rfl) rfl ?_
  intro p9 e9 s9 m9 args9 below9 meth9 cd9 A hE hr hin2 hA9
  have inX3 : ∀ w ∈ wsX30, w ∈ wsX3_moveSostenuto := fun w h => List.mem_cons_of_mem _ (List.mem_append_left _ (List.mem_append_right _ h))
  have g28 : xF RX3 wsX3_moveSostenuto 28 3 6 := ⟨"KeyScanner$Voices", RX3, TX3, 11, inX3, rfl, by decide, List.mem_of_getElem? (i := 2) rfl, rfl⟩
  have g24 : xF RX3 wsX3_moveSostenuto 24 3 4 := ⟨"KeyScanner$Voices", RX3, TX3, 11, inX3, rfl, by decide, List.mem_of_getElem? (i := 3) rfl, rfl⟩
  have g9 : xF RX3 wsX3_moveSostenuto 9 3 0 := ⟨"KeyScanner$Voices", RX3, TX3, 11, inX3, rfl, by decide, List.mem_of_getElem? (i := 4) rfl, rfl⟩
  have g42 : xF RX3 wsX3_moveSostenuto 42 3 10 := ⟨"KeyScanner$Voices", RX3, TX3, 11, inX3, rfl, by decide, List.mem_of_getElem? (i := 1) rfl, rfl⟩
  have p42 : xP RX3 wsX3_moveSostenuto 42 3 10 false .boolean := ⟨"KeyScanner$Voices", RX3, TX3, 11, tyX3, inX3, rfl, by decide, List.mem_of_getElem? (i := 1) rfl, rfl, tyX3_ok, nmX3, rfl, by decide +kernel, fun h => by cases h⟩
  refine x_at (ws' := [(h0, .inr (3, [.ref v1, .ref v2, .ref v3, .ref v4, .ref v5, .ref j0, .int (nI V), .int ru, .int tk, .int (bI sus), .int (bI sos)])), (v1, .inl (cI, 8, .inl st)), (v2, .inl (cI, 8, .inl kk)), (v3, .inl (cI, 8, .inl ve)), (v4, .inl (cI, 8, .inl si)), (v5, .inl (cZ, 8, .inl (xB ca))), (j0, .inr (0, [.ref a1, .ref a2, .ref a3, .int (nI mk)])), (a1, .inl (cI, 16, .inl jt)), (a2, .inl (cI, 16, .inl jk)), (a3, .inl (cI, 16, .inl jy))]) (st' := []) rfl rfl ?_
  refine x_lv [(0, .ref h0), (1, .int (bI dn)), (2, .int now)] [0, 1, 2] rfl ?_
  have lp17 : ∀ (n : Nat) (i : Nat) (cx : Nat → Bool) (hi : i + n = V) (hds : ¬ dn = sos) (hT : lfor (capS st dn) i n cx = capV st dn V ca), X p9 l e9 { frames := 4, cells := 0, slots := 0, locals := 91 } s9 m9 args9 below9 meth9 cd9 0 0 (MQ below9 (xQ D (fun v8 w8 => v8 = some (.int (nI ((msoV kk now sus sos dn V (st, ca, jt, jk, jy, mk)).2))) ∧ w8 = [(h0, .inr (3, [.ref v1, .ref v2, .ref v3, .ref v4, .ref v5, .ref j0, .int (nI V), .int ru, .int tk, .int (bI sus), .int (bI dn)])), (v1, .inl (cI, 8, .inl (((msoV kk now sus sos dn V (st, ca, jt, jk, jy, mk)).1).1))), (v2, .inl (cI, 8, .inl kk)), (v3, .inl (cI, 8, .inl ve)), (v4, .inl (cI, 8, .inl si)), (v5, .inl (cZ, 8, .inl (xB (((msoV kk now sus sos dn V (st, ca, jt, jk, jy, mk)).1).2.1)))), (j0, .inr (0, [.ref a1, .ref a2, .ref a3, .int (nI (((msoV kk now sus sos dn V (st, ca, jt, jk, jy, mk)).1).2.2.2.2.2))])), (a1, .inl (cI, 16, .inl (((msoV kk now sus sos dn V (st, ca, jt, jk, jy, mk)).1).2.2.1))), (a2, .inl (cI, 16, .inl (((msoV kk now sus sos dn V (st, ca, jt, jk, jy, mk)).1).2.2.2.1))), (a3, .inl (cI, 16, .inl (((msoV kk now sus sos dn V (st, ca, jt, jk, jy, mk)).1).2.2.2.2.1)))]) A) args9 s9 0 0 A) 4 D A [(h0, .inr (3, [.ref v1, .ref v2, .ref v3, .ref v4, .ref v5, .ref j0, .int (nI V), .int ru, .int tk, .int (bI sus), .int (bI dn)])), (v1, .inl (cI, 8, .inl st)), (v2, .inl (cI, 8, .inl kk)), (v3, .inl (cI, 8, .inl ve)), (v4, .inl (cI, 8, .inl si)), (v5, .inl (cZ, 8, .inl (xB cx))), (j0, .inr (0, [.ref a1, .ref a2, .ref a3, .int (nI mk)])), (a1, .inl (cI, 16, .inl jt)), (a2, .inl (cI, 16, .inl jk)), (a3, .inl (cI, 16, .inl jy))] [(0, .ref h0), (1, .int (bI dn)), (2, .int now), (3, .int (nI i))] 17 [] := by
    intro n
    induction n with
    | zero =>
      intro i cx hi hds hT
      refine x_iload_n hE 3 rfl dX3_moveSostenuto_17 ?_
      refine x_aload_n hE 0 rfl dX3_moveSostenuto_18 ?_
      refine x_get hE g28 0 rfl rfl dX3_moveSostenuto_19 ?_
      refine xn_icmp_ge hE (by omega) (by omega) 56 (by decide) dX3_moveSostenuto_22 (fun c22 => ?_) (fun c22 => ?_)
      · skip
        refine x_iload_n hE 1 rfl dX3_moveSostenuto_56 ?_
        refine xb_if_eq hE 68 (by decide) dX3_moveSostenuto_57 (fun c57 => ?_) (fun c57 => ?_)
        · skip
          refine x_aload_n hE 0 rfl dX3_moveSostenuto_68 ?_
          refine x_iload_n hE 2 rfl dX3_moveSostenuto_69 ?_
          refine x_callV (n := 1) (st := []) hE (kX3_freeKept l D cI cZ h0 v1 v2 v3 v4 v5 j0 a1 a2 a3 st kk ve si cx V ru tk sus dn jt jk jy mk now (by omega) (by omega)) gX3_moveSostenuto_X3_freeKept rfl (by decide +kernel) ⟨by decide, by decide⟩ ⟨Nat.zero_le _, Nat.zero_le _⟩ rfl [0, 1, 2, 3, 4, 5, 6, 7, 8, 9] [] rfl (wr := []) rfl (by decide) (by decide) (by decide) 0 rfl rfl rfl rfl (Nat.le_of_ble_eq_true rfl) dX3_moveSostenuto_70 (fun v9 w9 hT9 => ?_)
          obtain ⟨rfl, rfl⟩ := hT9
          refine x_at (ws' := [(h0, .inr (3, [.ref v1, .ref v2, .ref v3, .ref v4, .ref v5, .ref j0, .int (nI V), .int ru, .int tk, .int (bI sus), .int (bI dn)])), (v1, .inl (cI, 8, .inl (((fkV kk now sus dn V (st, cx, jt, jk, jy, mk)).1).1))), (v2, .inl (cI, 8, .inl kk)), (v3, .inl (cI, 8, .inl ve)), (v4, .inl (cI, 8, .inl si)), (v5, .inl (cZ, 8, .inl (xB (((fkV kk now sus dn V (st, cx, jt, jk, jy, mk)).1).2.1)))), (j0, .inr (0, [.ref a1, .ref a2, .ref a3, .int (nI (((fkV kk now sus dn V (st, cx, jt, jk, jy, mk)).1).2.2.2.2.2))])), (a1, .inl (cI, 16, .inl (((fkV kk now sus dn V (st, cx, jt, jk, jy, mk)).1).2.2.1))), (a2, .inl (cI, 16, .inl (((fkV kk now sus dn V (st, cx, jt, jk, jy, mk)).1).2.2.2.1))), (a3, .inl (cI, 16, .inl (((fkV kk now sus dn V (st, cx, jt, jk, jy, mk)).1).2.2.2.2.1)))]) (st' := [.int (nI ((fkV kk now sus dn V (st, cx, jt, jk, jy, mk)).2))]) rfl rfl ?_
          exact x_iret hE hr (⟨by simp only [msoV, if_neg hds, show cx = capV st dn V ca from hT]; simp only [if_neg c22, if_neg (bnt c57), reduceIte, Bool.false_eq_true, Bool.true_eq_false], by simp only [msoV, if_neg hds, show cx = capV st dn V ca from hT]; simp only [if_neg c22, if_neg (bnt c57), reduceIte, Bool.false_eq_true, Bool.true_eq_false]⟩) dX3_moveSostenuto_73
        · skip
          refine x_aload_n hE 0 rfl dX3_moveSostenuto_60 ?_
          refine x_iconst hE (nI 1) (by decide) dX3_moveSostenuto_61 ?_
          refine x_callV (n := 1) (st := []) hE (kX3_inState l D cI cZ h0 v1 v2 v3 v4 v5 j0 a1 a2 a3 st kk ve si cx V ru tk sus dn jt jk jy mk (nI 1) (by omega)) gX3_moveSostenuto_X3_inState rfl (by decide +kernel) ⟨by decide, by decide⟩ ⟨Nat.zero_le _, Nat.zero_le _⟩ rfl [0, 1, 2, 3, 4, 5, 6, 7, 8, 9] [] rfl (wr := []) rfl (by decide) (by decide) (by decide) 0 rfl rfl rfl rfl (Nat.le_of_ble_eq_true rfl) dX3_moveSostenuto_62 (fun v9 w9 hT9 => ?_)
          obtain ⟨rfl, rfl⟩ := hT9
          refine x_at (ws' := [(h0, .inr (3, [.ref v1, .ref v2, .ref v3, .ref v4, .ref v5, .ref j0, .int (nI V), .int ru, .int tk, .int (bI sus), .int (bI dn)])), (v1, .inl (cI, 8, .inl st)), (v2, .inl (cI, 8, .inl kk)), (v3, .inl (cI, 8, .inl ve)), (v4, .inl (cI, 8, .inl si)), (v5, .inl (cZ, 8, .inl (xB cx))), (j0, .inr (0, [.ref a1, .ref a2, .ref a3, .int (nI mk)])), (a1, .inl (cI, 16, .inl jt)), (a2, .inl (cI, 16, .inl jk)), (a3, .inl (cI, 16, .inl jy))]) (st' := [.int (nI (isN st (nI 1) V))]) rfl rfl ?_
          refine x_goto hE 73 (by decide) dX3_moveSostenuto_65 ?_
          exact x_iret hE hr (⟨by simp only [msoV, if_neg hds, show cx = capV st dn V ca from hT]; simp only [if_neg c22, if_pos c57, reduceIte, Bool.false_eq_true, Bool.true_eq_false], by simp only [msoV, if_neg hds, show cx = capV st dn V ca from hT]; simp only [if_neg c22, if_pos c57, reduceIte, Bool.false_eq_true, Bool.true_eq_false]⟩) dX3_moveSostenuto_73
      · skip
        exfalso; omega
    | succ n ih =>
      intro i cx hi hds hT
      refine x_iload_n hE 3 rfl dX3_moveSostenuto_17 ?_
      refine x_aload_n hE 0 rfl dX3_moveSostenuto_18 ?_
      refine x_get hE g28 0 rfl rfl dX3_moveSostenuto_19 ?_
      refine xn_icmp_ge hE (by omega) (by omega) 56 (by decide) dX3_moveSostenuto_22 (fun c22 => ?_) (fun c22 => ?_)
      · skip
        exfalso; omega
      · skip
        refine x_aload_n hE 0 rfl dX3_moveSostenuto_25 ?_
        refine x_get hE g24 0 rfl rfl dX3_moveSostenuto_26 ?_
        refine x_iload_n hE 3 rfl dX3_moveSostenuto_29 ?_
        refine x_iload_n hE 1 rfl dX3_moveSostenuto_30 ?_
        refine xb_if_eq hE 48 (by decide) dX3_moveSostenuto_31 (fun c31 => ?_) (fun c31 => ?_)
        · skip
          refine x_iconst hE (nI 0) (by decide) dX3_moveSostenuto_48 ?_
          refine x_eq (bI (if dn = true then (if st i = nI 1 then true else false) else false)) (by rw [show (if dn = true then (if st i = nI 1 then true else false) else false) = false from by simp only [if_pos c22, if_neg (bnt c31), reduceIte, Bool.false_eq_true, Bool.true_eq_false]]; rfl) ?_
          refine x_zast hE i (updB cx i (if dn = true then (if st i = nI 1 then true else false) else false)) (by omega) (by decide) rfl [(h0, .inr (3, [.ref v1, .ref v2, .ref v3, .ref v4, .ref v5, .ref j0, .int (nI V), .int ru, .int tk, .int (bI sus), .int (bI dn)])), (v1, .inl (cI, 8, .inl st)), (v2, .inl (cI, 8, .inl kk)), (v3, .inl (cI, 8, .inl ve)), (v4, .inl (cI, 8, .inl si)), (v5, .inl (cZ, 8, .inl (xB (updB cx i (if dn = true then (if st i = nI 1 then true else false) else false))))), (j0, .inr (0, [.ref a1, .ref a2, .ref a3, .int (nI mk)])), (a1, .inl (cI, 16, .inl jt)), (a2, .inl (cI, 16, .inl jk)), (a3, .inl (cI, 16, .inl jy))] 5 rfl rfl dX3_moveSostenuto_49 ?_
          refine x_iinc hE (nI (i + 1)) [(3, .int (nI (i + 1))), (0, .ref h0), (1, .int (bI dn)), (2, .int now)] 3 rfl (nI_add _ _) (by decide) rfl dX3_moveSostenuto_50 ?_
          refine x_goto hE 17 (by decide) dX3_moveSostenuto_53 ?_
          refine x_lv [(0, .ref h0), (1, .int (bI dn)), (2, .int now), (3, .int (nI (i + 1)))] [1, 2, 3, 0] rfl ?_
          exact ih (i + 1) (updB cx i (if dn = true then (if st i = nI 1 then true else false) else false)) (by omega) (hds) (hT)
        · skip
          refine x_aload_n hE 0 rfl dX3_moveSostenuto_34 ?_
          refine x_get hE g9 0 rfl rfl dX3_moveSostenuto_35 ?_
          refine x_iload_n hE 3 rfl dX3_moveSostenuto_38 ?_
          refine x_iald hE i (st i) (by omega) (by decide) rfl 1 rfl dX3_moveSostenuto_39 ?_
          refine x_iconst hE (nI 1) (by decide) dX3_moveSostenuto_40 ?_
          refine x_icmp_ne hE 48 (by decide) dX3_moveSostenuto_41 (fun c41 => ?_) (fun c41 => ?_)
          · skip
            refine x_iconst hE (nI 0) (by decide) dX3_moveSostenuto_48 ?_
            refine x_eq (bI (if dn = true then (if st i = nI 1 then true else false) else false)) (by rw [show (if dn = true then (if st i = nI 1 then true else false) else false) = false from by simp only [if_pos c22, if_pos c31, if_neg c41, reduceIte, Bool.false_eq_true, Bool.true_eq_false]]; rfl) ?_
            refine x_zast hE i (updB cx i (if dn = true then (if st i = nI 1 then true else false) else false)) (by omega) (by decide) rfl [(h0, .inr (3, [.ref v1, .ref v2, .ref v3, .ref v4, .ref v5, .ref j0, .int (nI V), .int ru, .int tk, .int (bI sus), .int (bI dn)])), (v1, .inl (cI, 8, .inl st)), (v2, .inl (cI, 8, .inl kk)), (v3, .inl (cI, 8, .inl ve)), (v4, .inl (cI, 8, .inl si)), (v5, .inl (cZ, 8, .inl (xB (updB cx i (if dn = true then (if st i = nI 1 then true else false) else false))))), (j0, .inr (0, [.ref a1, .ref a2, .ref a3, .int (nI mk)])), (a1, .inl (cI, 16, .inl jt)), (a2, .inl (cI, 16, .inl jk)), (a3, .inl (cI, 16, .inl jy))] 5 rfl rfl dX3_moveSostenuto_49 ?_
            refine x_iinc hE (nI (i + 1)) [(3, .int (nI (i + 1))), (0, .ref h0), (1, .int (bI dn)), (2, .int now)] 3 rfl (nI_add _ _) (by decide) rfl dX3_moveSostenuto_50 ?_
            refine x_goto hE 17 (by decide) dX3_moveSostenuto_53 ?_
            refine x_lv [(0, .ref h0), (1, .int (bI dn)), (2, .int now), (3, .int (nI (i + 1)))] [1, 2, 3, 0] rfl ?_
            exact ih (i + 1) (updB cx i (if dn = true then (if st i = nI 1 then true else false) else false)) (by omega) (hds) (hT)
          · skip
            refine x_iconst hE (nI 1) (by decide) dX3_moveSostenuto_44 ?_
            refine x_goto hE 49 (by decide) dX3_moveSostenuto_45 ?_
            refine x_eq (bI (if dn = true then (if st i = nI 1 then true else false) else false)) (by rw [show (if dn = true then (if st i = nI 1 then true else false) else false) = true from by simp only [if_pos c22, if_pos c31, if_pos c41, reduceIte, Bool.false_eq_true, Bool.true_eq_false]]; rfl) ?_
            refine x_zast hE i (updB cx i (if dn = true then (if st i = nI 1 then true else false) else false)) (by omega) (by decide) rfl [(h0, .inr (3, [.ref v1, .ref v2, .ref v3, .ref v4, .ref v5, .ref j0, .int (nI V), .int ru, .int tk, .int (bI sus), .int (bI dn)])), (v1, .inl (cI, 8, .inl st)), (v2, .inl (cI, 8, .inl kk)), (v3, .inl (cI, 8, .inl ve)), (v4, .inl (cI, 8, .inl si)), (v5, .inl (cZ, 8, .inl (xB (updB cx i (if dn = true then (if st i = nI 1 then true else false) else false))))), (j0, .inr (0, [.ref a1, .ref a2, .ref a3, .int (nI mk)])), (a1, .inl (cI, 16, .inl jt)), (a2, .inl (cI, 16, .inl jk)), (a3, .inl (cI, 16, .inl jy))] 5 rfl rfl dX3_moveSostenuto_49 ?_
            refine x_iinc hE (nI (i + 1)) [(3, .int (nI (i + 1))), (0, .ref h0), (1, .int (bI dn)), (2, .int now)] 3 rfl (nI_add _ _) (by decide) rfl dX3_moveSostenuto_50 ?_
            refine x_goto hE 17 (by decide) dX3_moveSostenuto_53 ?_
            refine x_lv [(0, .ref h0), (1, .int (bI dn)), (2, .int now), (3, .int (nI (i + 1)))] [1, 2, 3, 0] rfl ?_
            exact ih (i + 1) (updB cx i (if dn = true then (if st i = nI 1 then true else false) else false)) (by omega) (hds) (hT)
  refine x_iload_n hE 1 rfl dX3_moveSostenuto_0 ?_
  refine x_aload_n hE 0 rfl dX3_moveSostenuto_1 ?_
  refine x_get hE g42 0 rfl rfl dX3_moveSostenuto_2 ?_
  refine xb_icmp_ne hE 10 (by decide) dX3_moveSostenuto_5 (fun c5 => ?_) (fun c5 => ?_)
  · skip
    refine x_aload_n hE 0 rfl dX3_moveSostenuto_10 ?_
    refine x_iload_n hE 1 rfl dX3_moveSostenuto_11 ?_
    refine x_put hE p42 [(h0, .inr (3, [.ref v1, .ref v2, .ref v3, .ref v4, .ref v5, .ref j0, .int (nI V), .int ru, .int tk, .int (bI sus), .int (bI dn)])), (v1, .inl (cI, 8, .inl st)), (v2, .inl (cI, 8, .inl kk)), (v3, .inl (cI, 8, .inl ve)), (v4, .inl (cI, 8, .inl si)), (v5, .inl (cZ, 8, .inl (xB ca))), (j0, .inr (0, [.ref a1, .ref a2, .ref a3, .int (nI mk)])), (a1, .inl (cI, 16, .inl jt)), (a2, .inl (cI, 16, .inl jk)), (a3, .inl (cI, 16, .inl jy))] 0 rfl rfl (narrow_bI _) (fits_bI _) (Nat.le_of_ble_eq_true rfl) dX3_moveSostenuto_12 ?_
    refine x_iconst hE (nI 0) (by decide) dX3_moveSostenuto_15 ?_
    refine x_istore_n hE [(3, .int (nI 0)), (0, .ref h0), (1, .int (bI dn)), (2, .int now)] (by decide) rfl dX3_moveSostenuto_16 ?_
    refine x_lv [(0, .ref h0), (1, .int (bI dn)), (2, .int now), (3, .int (nI 0))] [1, 2, 3, 0] rfl ?_
    exact lp17 V 0 ca (Nat.zero_add _) (c5) (rfl)
  · skip
    refine x_iconst hE (nI 0) (by decide) dX3_moveSostenuto_8 ?_
    exact x_iret hE hr (⟨by simp only [msoV, if_pos c5], by simp only [msoV, if_pos c5]; rw [c5]⟩) dX3_moveSostenuto_9
set_option maxHeartbeats 4000000 in
set_option maxRecDepth 100000 in
theorem kX3_release (l : Launch) (D : va_G) (cI cZ : ClassId) (h0 : Nat) (v1 : Nat) (v2 : Nat) (v3 : Nat) (v4 : Nat) (v5 : Nat) (j0 : Nat) (a1 : Nat) (a2 : Nat) (a3 : Nat) (st : Nat → Int32) (kk : Nat → Int32) (ve : Nat → Int32) (si : Nat → Int32) (ca : Nat → Bool) (V : Nat) (ru : Int32) (tk : Int32) (sus : Bool) (sos : Bool) (jt : Nat → Int32) (jk : Nat → Int32) (jy : Nat → Int32) (mk : Nat) (ky : Int32) (now : Int32) (hV : 1 ≤ V ∧ V ≤ 8) (hm : mk < 2 ^ 29) : xC l yX3_release wsX3_release 3 0 0 68 D cI cZ [.ref h0, .int ky, .int now] [(h0, .inr (3, [.ref v1, .ref v2, .ref v3, .ref v4, .ref v5, .ref j0, .int (nI V), .int ru, .int tk, .int (bI sus), .int (bI sos)])), (v1, .inl (cI, 8, .inl st)), (v2, .inl (cI, 8, .inl kk)), (v3, .inl (cI, 8, .inl ve)), (v4, .inl (cI, 8, .inl si)), (v5, .inl (cZ, 8, .inl (xB ca))), (j0, .inr (0, [.ref a1, .ref a2, .ref a3, .int (nI mk)])), (a1, .inl (cI, 16, .inl jt)), (a2, .inl (cI, 16, .inl jk)), (a3, .inl (cI, 16, .inl jy))] (fun v8 w8 => v8 = none ∧ w8 = [(h0, .inr (3, [.ref v1, .ref v2, .ref v3, .ref v4, .ref v5, .ref j0, .int (nI V), .int ru, .int tk, .int (bI sus), .int (bI sos)])), (v1, .inl (cI, 8, .inl ((relV kk sus sos ky now V (st, ca, jt, jk, jy, mk)).1))), (v2, .inl (cI, 8, .inl kk)), (v3, .inl (cI, 8, .inl ve)), (v4, .inl (cI, 8, .inl si)), (v5, .inl (cZ, 8, .inl (xB ((relV kk sus sos ky now V (st, ca, jt, jk, jy, mk)).2.1)))), (j0, .inr (0, [.ref a1, .ref a2, .ref a3, .int (nI ((relV kk sus sos ky now V (st, ca, jt, jk, jy, mk)).2.2.2.2.2))])), (a1, .inl (cI, 16, .inl ((relV kk sus sos ky now V (st, ca, jt, jk, jy, mk)).2.2.1))), (a2, .inl (cI, 16, .inl ((relV kk sus sos ky now V (st, ca, jt, jk, jy, mk)).2.2.2.1))), (a3, .inl (cI, 16, .inl ((relV kk sus sos ky now V (st, ca, jt, jk, jy, mk)).2.2.2.2.1)))]) := by
  refine xC.of (bytes := cX3_release) (maxL := 4) (ret := none) (own := RX3) (by decide +kernel) rfl (Nat.le_of_ble_eq_true rfl) rfl ?_
  intro p9 e9 s9 m9 args9 below9 meth9 cd9 A hE hr hin2 hA9
  have inX3 : ∀ w ∈ wsX30, w ∈ wsX3_release := fun w h => List.mem_cons_of_mem _ (List.mem_append_left _ (List.mem_append_right _ h))
  have g9 : xF RX3 wsX3_release 9 3 0 := ⟨"KeyScanner$Voices", RX3, TX3, 11, inX3, rfl, by decide, List.mem_of_getElem? (i := 1) rfl, rfl⟩
  refine x_at (ws' := [(h0, .inr (3, [.ref v1, .ref v2, .ref v3, .ref v4, .ref v5, .ref j0, .int (nI V), .int ru, .int tk, .int (bI sus), .int (bI sos)])), (v1, .inl (cI, 8, .inl st)), (v2, .inl (cI, 8, .inl kk)), (v3, .inl (cI, 8, .inl ve)), (v4, .inl (cI, 8, .inl si)), (v5, .inl (cZ, 8, .inl (xB ca))), (j0, .inr (0, [.ref a1, .ref a2, .ref a3, .int (nI mk)])), (a1, .inl (cI, 16, .inl jt)), (a2, .inl (cI, 16, .inl jk)), (a3, .inl (cI, 16, .inl jy))]) (st' := []) rfl rfl ?_
  refine x_lv [(0, .ref h0), (1, .int ky), (2, .int now)] [0, 1, 2] rfl ?_
  refine x_aload_n hE 0 rfl dX3_release_0 ?_
  refine x_iload_n hE 1 rfl dX3_release_1 ?_
  refine x_callV (n := 1) (st := []) hE (kX3_withKey l D cI cZ h0 v1 v2 v3 v4 v5 j0 a1 a2 a3 st kk ve si ca V ru tk sus sos jt jk jy mk ky (by omega)) gX3_release_X3_withKey rfl (by decide +kernel) ⟨by decide, by decide⟩ ⟨Nat.zero_le _, Nat.zero_le _⟩ rfl [0, 1, 2, 3, 4, 5, 6, 7, 8, 9] [] rfl (wr := []) rfl (by decide) (by decide) (by decide) 0 rfl rfl rfl rfl (Nat.le_of_ble_eq_true rfl) dX3_release_2 (fun v9 w9 hT9 => ?_)
  obtain ⟨rfl, rfl⟩ := hT9
  refine x_at (ws' := [(h0, .inr (3, [.ref v1, .ref v2, .ref v3, .ref v4, .ref v5, .ref j0, .int (nI V), .int ru, .int tk, .int (bI sus), .int (bI sos)])), (v1, .inl (cI, 8, .inl st)), (v2, .inl (cI, 8, .inl kk)), (v3, .inl (cI, 8, .inl ve)), (v4, .inl (cI, 8, .inl si)), (v5, .inl (cZ, 8, .inl (xB ca))), (j0, .inr (0, [.ref a1, .ref a2, .ref a3, .int (nI mk)])), (a1, .inl (cI, 16, .inl jt)), (a2, .inl (cI, 16, .inl jk)), (a3, .inl (cI, 16, .inl jy))]) (st' := [.int (rV (findN (wkP st kk ky) 0 V) V)]) rfl rfl ?_
  refine x_istore_n hE [(3, .int (rV (findN (wkP st kk ky) 0 V) V)), (0, .ref h0), (1, .int ky), (2, .int now)] (by decide) rfl dX3_release_5 ?_
  refine x_iload_n hE 0 rfl dX3_release_6 ?_
  refine x_bipush hE (-3) (by decide) dX3_release_7 ?_
  refine x_icmp_eq hE 22 (by decide) dX3_release_9 (fun c9 => ?_) (fun c9 => ?_)
  · skip
    have hw9 : ¬ findN (wkP st kk ky) 0 V < V := rV_none (by omega) c9
    exact x_vret hE hr (⟨rfl, by simp only [relV, freeV, if_pos c9, if_neg hw9, reduceIte, Bool.false_eq_true, Bool.true_eq_false]⟩) dX3_release_22
  · skip
    have hw9 : findN (wkP st kk ky) 0 V < V := rV_lt c9
    rw [rV_some hw9]
    refine x_aload_n hE 1 rfl dX3_release_12 ?_
    refine x_get hE g9 0 rfl rfl dX3_release_13 ?_
    refine x_iload_n hE 0 rfl dX3_release_16 ?_
    refine x_iald hE (findN (wkP st kk ky) 0 V) (st (findN (wkP st kk ky) 0 V)) (by omega) (by decide) rfl 1 rfl dX3_release_17 ?_
    refine x_iconst hE (nI 1) (by decide) dX3_release_18 ?_
    refine x_icmp_eq hE 23 (by decide) dX3_release_19 (fun c19 => ?_) (fun c19 => ?_)
    · skip
      refine x_aload_n hE 1 rfl dX3_release_23 ?_
      refine x_iload_n hE 0 rfl dX3_release_24 ?_
      refine x_callV (n := 1) (st := []) hE (kX3_isKeptByPedal l D cI cZ h0 v1 v2 v3 v4 v5 j0 a1 a2 a3 st kk ve si ca V ru tk sus sos jt jk jy mk (findN (wkP st kk ky) 0 V) (by omega)) gX3_release_X3_isKeptByPedal rfl (by decide +kernel) ⟨by decide, by decide⟩ ⟨Nat.zero_le _, Nat.zero_le _⟩ rfl [0, 1, 2, 3, 4, 5, 6, 7, 8, 9] [] rfl (wr := []) rfl (by decide) (by decide) (by decide) 0 rfl rfl rfl rfl (Nat.le_of_ble_eq_true rfl) dX3_release_25 (fun v9 w9 hT9 => ?_)
      obtain ⟨rfl, rfl⟩ := hT9
      refine x_at (ws' := [(h0, .inr (3, [.ref v1, .ref v2, .ref v3, .ref v4, .ref v5, .ref j0, .int (nI V), .int ru, .int tk, .int (bI sus), .int (bI sos)])), (v1, .inl (cI, 8, .inl st)), (v2, .inl (cI, 8, .inl kk)), (v3, .inl (cI, 8, .inl ve)), (v4, .inl (cI, 8, .inl si)), (v5, .inl (cZ, 8, .inl (xB ca))), (j0, .inr (0, [.ref a1, .ref a2, .ref a3, .int (nI mk)])), (a1, .inl (cI, 16, .inl jt)), (a2, .inl (cI, 16, .inl jk)), (a3, .inl (cI, 16, .inl jy))]) (st' := [.int (bI (kpB sus sos ca (findN (wkP st kk ky) 0 V)))]) rfl rfl ?_
      refine xb_if_eq hE 41 (by decide) dX3_release_28 (fun c28 => ?_) (fun c28 => ?_)
      · skip
        refine x_aload_n hE 1 rfl dX3_release_41 ?_
        refine x_iload_n hE 0 rfl dX3_release_42 ?_
        refine x_iload_n hE 3 rfl dX3_release_43 ?_
        refine x_callV (n := 2) (st := []) hE (kX3_free l D cI cZ h0 v1 v2 v3 v4 v5 j0 a1 a2 a3 st kk ve si ca V ru tk sus sos jt jk jy mk (findN (wkP st kk ky) 0 V) now (by omega) (by omega)) gX3_release_X3_free rfl (by decide +kernel) ⟨by decide, by decide⟩ ⟨Nat.zero_le _, Nat.zero_le _⟩ rfl [0, 1, 2, 3, 4, 5, 6, 7, 8, 9] [] rfl (wr := []) rfl (by decide) (by decide) (by decide) 0 rfl rfl rfl rfl (Nat.le_of_ble_eq_true rfl) dX3_release_44 (fun v9 w9 hT9 => ?_)
        obtain ⟨rfl, rfl⟩ := hT9
        refine x_at (ws' := [(h0, .inr (3, [.ref v1, .ref v2, .ref v3, .ref v4, .ref v5, .ref j0, .int (nI V), .int ru, .int tk, .int (bI sus), .int (bI sos)])), (v1, .inl (cI, 8, .inl (upd st (findN (wkP st kk ky) 0 V) (nI 0)))), (v2, .inl (cI, 8, .inl kk)), (v3, .inl (cI, 8, .inl ve)), (v4, .inl (cI, 8, .inl si)), (v5, .inl (cZ, 8, .inl (xB (updB ca (findN (wkP st kk ky) 0 V) false)))), (j0, .inr (0, [.ref a1, .ref a2, .ref a3, .int (nI (mk + 1))])), (a1, .inl (cI, 16, .inl (upd jt (mk % 16) now))), (a2, .inl (cI, 16, .inl (upd jk (mk % 16) (nI 2)))), (a3, .inl (cI, 16, .inl (upd jy (mk % 16) (kk (findN (wkP st kk ky) 0 V)))))]) (st' := []) rfl rfl ?_
        exact x_vret hE hr (⟨rfl, by simp only [relV, freeV, if_neg c9, if_pos hw9, if_pos c19, if_neg (bnt c28), reduceIte, Bool.false_eq_true, Bool.true_eq_false]⟩) dX3_release_47
      · skip
        refine x_aload_n hE 1 rfl dX3_release_31 ?_
        refine x_get hE g9 0 rfl rfl dX3_release_32 ?_
        refine x_iload_n hE 0 rfl dX3_release_35 ?_
        refine x_iconst hE (nI 2) (by decide) dX3_release_36 ?_
        refine x_iast hE (findN (wkP st kk ky) 0 V) (upd st (findN (wkP st kk ky) 0 V) (nI 2)) (by omega) (by decide) rfl [(h0, .inr (3, [.ref v1, .ref v2, .ref v3, .ref v4, .ref v5, .ref j0, .int (nI V), .int ru, .int tk, .int (bI sus), .int (bI sos)])), (v1, .inl (cI, 8, .inl (upd st (findN (wkP st kk ky) 0 V) (nI 2)))), (v2, .inl (cI, 8, .inl kk)), (v3, .inl (cI, 8, .inl ve)), (v4, .inl (cI, 8, .inl si)), (v5, .inl (cZ, 8, .inl (xB ca))), (j0, .inr (0, [.ref a1, .ref a2, .ref a3, .int (nI mk)])), (a1, .inl (cI, 16, .inl jt)), (a2, .inl (cI, 16, .inl jk)), (a3, .inl (cI, 16, .inl jy))] 1 rfl rfl dX3_release_37 ?_
        refine x_goto hE 47 (by decide) dX3_release_38 ?_
        exact x_vret hE hr (⟨rfl, by simp only [relV, freeV, if_neg c9, if_pos hw9, if_pos c19, if_pos c28, reduceIte, Bool.false_eq_true, Bool.true_eq_false]⟩) dX3_release_47
    · skip
      exact x_vret hE hr (⟨rfl, by simp only [relV, freeV, if_neg c9, if_pos hw9, if_neg c19, reduceIte, Bool.false_eq_true, Bool.true_eq_false]⟩) dX3_release_22
set_option maxHeartbeats 4000000 in
set_option maxRecDepth 100000 in
theorem kX3_sound (l : Launch) (D : va_G) (cI cZ : ClassId) (h0 : Nat) (v1 : Nat) (v2 : Nat) (v3 : Nat) (v4 : Nat) (v5 : Nat) (j0 : Nat) (a1 : Nat) (a2 : Nat) (a3 : Nat) (st : Nat → Int32) (kk : Nat → Int32) (ve : Nat → Int32) (si : Nat → Int32) (ca : Nat → Bool) (V : Nat) (ru : Int32) (tk : Int32) (sus : Bool) (sos : Bool) (jt : Nat → Int32) (jk : Nat → Int32) (jy : Nat → Int32) (mk : Nat) (ky : Int32) (vl : Int32) (now : Int32) (hV : 1 ≤ V ∧ V ≤ 8) (hm : mk < 2 ^ 29) : xC l yX3_sound wsX3_sound 2 0 0 46 D cI cZ [.ref h0, .int ky, .int vl, .int now] [(h0, .inr (3, [.ref v1, .ref v2, .ref v3, .ref v4, .ref v5, .ref j0, .int (nI V), .int ru, .int tk, .int (bI sus), .int (bI sos)])), (v1, .inl (cI, 8, .inl st)), (v2, .inl (cI, 8, .inl kk)), (v3, .inl (cI, 8, .inl ve)), (v4, .inl (cI, 8, .inl si)), (v5, .inl (cZ, 8, .inl (xB ca))), (j0, .inr (0, [.ref a1, .ref a2, .ref a3, .int (nI mk)])), (a1, .inl (cI, 16, .inl jt)), (a2, .inl (cI, 16, .inl jk)), (a3, .inl (cI, 16, .inl jy))] (fun v8 w8 => v8 = none ∧ w8 = [(h0, .inr (3, [.ref v1, .ref v2, .ref v3, .ref v4, .ref v5, .ref j0, .int (nI V), .int ru, .int (if sndT st kk ky V = true then tk + nI 1 else tk), .int (bI sus), .int (bI sos)])), (v1, .inl (cI, 8, .inl (upd st (sndW st kk ve si ru ky V) (nI 1)))), (v2, .inl (cI, 8, .inl (upd kk (sndW st kk ve si ru ky V) ky))), (v3, .inl (cI, 8, .inl (upd ve (sndW st kk ve si ru ky V) vl))), (v4, .inl (cI, 8, .inl (upd si (sndW st kk ve si ru ky V) now))), (v5, .inl (cZ, 8, .inl (xB (updB ca (sndW st kk ve si ru ky V) false)))), (j0, .inr (0, [.ref a1, .ref a2, .ref a3, .int (nI ((sndJ st kk ve si ru ky now V (jt, jk, jy, mk)).2.2.2))])), (a1, .inl (cI, 16, .inl ((sndJ st kk ve si ru ky now V (jt, jk, jy, mk)).1))), (a2, .inl (cI, 16, .inl ((sndJ st kk ve si ru ky now V (jt, jk, jy, mk)).2.1))), (a3, .inl (cI, 16, .inl ((sndJ st kk ve si ru ky now V (jt, jk, jy, mk)).2.2.1)))]) := by
  refine xC.of (bytes := cX3_sound) (maxL := 5) (ret := none) (own := RX3) (by decide +kernel) rfl (Nat.le_of_ble_eq_true rfl) rfl ?_
  intro p9 e9 s9 m9 args9 below9 meth9 cd9 A hE hr hin2 hA9
  have inX3 : ∀ w ∈ wsX30, w ∈ wsX3_sound := fun w h => List.mem_cons_of_mem _ (List.mem_append_left _ (List.mem_append_right _ h))
  have g9 : xF RX3 wsX3_sound 9 3 0 := ⟨"KeyScanner$Voices", RX3, TX3, 11, inX3, rfl, by decide, List.mem_of_getElem? (i := 4) rfl, rfl⟩
  have g15 : xF RX3 wsX3_sound 15 3 1 := ⟨"KeyScanner$Voices", RX3, TX3, 11, inX3, rfl, by decide, List.mem_of_getElem? (i := 3) rfl, rfl⟩
  have g18 : xF RX3 wsX3_sound 18 3 2 := ⟨"KeyScanner$Voices", RX3, TX3, 11, inX3, rfl, by decide, List.mem_of_getElem? (i := 5) rfl, rfl⟩
  have g21 : xF RX3 wsX3_sound 21 3 3 := ⟨"KeyScanner$Voices", RX3, TX3, 11, inX3, rfl, by decide, List.mem_of_getElem? (i := 6) rfl, rfl⟩
  have g24 : xF RX3 wsX3_sound 24 3 4 := ⟨"KeyScanner$Voices", RX3, TX3, 11, inX3, rfl, by decide, List.mem_of_getElem? (i := 7) rfl, rfl⟩
  have g45 : xF RX3 wsX3_sound 45 3 5 := ⟨"KeyScanner$Voices", RX3, TX3, 11, inX3, rfl, by decide, List.mem_of_getElem? (i := 2) rfl, rfl⟩
  have g35 : xF RX3 wsX3_sound 35 3 8 := ⟨"KeyScanner$Voices", RX3, TX3, 11, inX3, rfl, by decide, List.mem_of_getElem? (i := 1) rfl, rfl⟩
  have p35 : xP RX3 wsX3_sound 35 3 8 false .int := ⟨"KeyScanner$Voices", RX3, TX3, 11, tyX3, inX3, rfl, by decide, List.mem_of_getElem? (i := 1) rfl, rfl, tyX3_ok, nmX3, rfl, by decide +kernel, fun h => by cases h⟩
  have hvic : vicN st ve si ru V < V := vicN_lt hV.1
  refine x_at (ws' := [(h0, .inr (3, [.ref v1, .ref v2, .ref v3, .ref v4, .ref v5, .ref j0, .int (nI V), .int ru, .int tk, .int (bI sus), .int (bI sos)])), (v1, .inl (cI, 8, .inl st)), (v2, .inl (cI, 8, .inl kk)), (v3, .inl (cI, 8, .inl ve)), (v4, .inl (cI, 8, .inl si)), (v5, .inl (cZ, 8, .inl (xB ca))), (j0, .inr (0, [.ref a1, .ref a2, .ref a3, .int (nI mk)])), (a1, .inl (cI, 16, .inl jt)), (a2, .inl (cI, 16, .inl jk)), (a3, .inl (cI, 16, .inl jy))]) (st' := []) rfl rfl ?_
  refine x_lv [(0, .ref h0), (1, .int ky), (2, .int vl), (3, .int now)] [0, 1, 2, 3] rfl ?_
  refine x_aload_n hE 0 rfl dX3_sound_0 ?_
  refine x_iload_n hE 1 rfl dX3_sound_1 ?_
  refine x_callV (n := 1) (st := []) hE (kX3_withKey l D cI cZ h0 v1 v2 v3 v4 v5 j0 a1 a2 a3 st kk ve si ca V ru tk sus sos jt jk jy mk ky (by omega)) gX3_sound_X3_withKey rfl (by decide +kernel) ⟨by decide, by decide⟩ ⟨Nat.zero_le _, Nat.zero_le _⟩ rfl [0, 1, 2, 3, 4, 5, 6, 7, 8, 9] [] rfl (wr := []) rfl (by decide) (by decide) (by decide) 0 rfl rfl rfl rfl (Nat.le_of_ble_eq_true rfl) dX3_sound_2 (fun v9 w9 hT9 => ?_)
  obtain ⟨rfl, rfl⟩ := hT9
  refine x_at (ws' := [(h0, .inr (3, [.ref v1, .ref v2, .ref v3, .ref v4, .ref v5, .ref j0, .int (nI V), .int ru, .int tk, .int (bI sus), .int (bI sos)])), (v1, .inl (cI, 8, .inl st)), (v2, .inl (cI, 8, .inl kk)), (v3, .inl (cI, 8, .inl ve)), (v4, .inl (cI, 8, .inl si)), (v5, .inl (cZ, 8, .inl (xB ca))), (j0, .inr (0, [.ref a1, .ref a2, .ref a3, .int (nI mk)])), (a1, .inl (cI, 16, .inl jt)), (a2, .inl (cI, 16, .inl jk)), (a3, .inl (cI, 16, .inl jy))]) (st' := [.int (rV (findN (wkP st kk ky) 0 V) V)]) rfl rfl ?_
  refine x_istore hE [(4, .int (rV (findN (wkP st kk ky) 0 V) V)), (0, .ref h0), (1, .int ky), (2, .int vl), (3, .int now)] (by decide) rfl dX3_sound_5 ?_
  refine x_iload hE 0 rfl dX3_sound_7 ?_
  refine x_bipush hE (-3) (by decide) dX3_sound_9 ?_
  refine x_icmp_ne hE 20 (by decide) dX3_sound_11 (fun c11 => ?_) (fun c11 => ?_)
  · skip
    have hw11 : findN (wkP st kk ky) 0 V < V := rV_lt c11
    rw [rV_some hw11]
    refine x_iload hE 0 rfl dX3_sound_20 ?_
    refine x_bipush hE (-3) (by decide) dX3_sound_22 ?_
    refine x_icmp_ne hE 59 (by decide) dX3_sound_24 (fun c24 => ?_) (fun c24 => ?_)
    · skip
      refine x_aload_n hE 1 rfl dX3_sound_59 ?_
      refine x_get hE g9 0 rfl rfl dX3_sound_60 ?_
      refine x_iload hE 0 rfl dX3_sound_63 ?_
      refine x_iconst hE (nI 1) (by decide) dX3_sound_65 ?_
      refine x_iast hE (findN (wkP st kk ky) 0 V) (upd st (findN (wkP st kk ky) 0 V) (nI 1)) (by omega) (by decide) rfl [(h0, .inr (3, [.ref v1, .ref v2, .ref v3, .ref v4, .ref v5, .ref j0, .int (nI V), .int ru, .int tk, .int (bI sus), .int (bI sos)])), (v1, .inl (cI, 8, .inl (upd st (findN (wkP st kk ky) 0 V) (nI 1)))), (v2, .inl (cI, 8, .inl kk)), (v3, .inl (cI, 8, .inl ve)), (v4, .inl (cI, 8, .inl si)), (v5, .inl (cZ, 8, .inl (xB ca))), (j0, .inr (0, [.ref a1, .ref a2, .ref a3, .int (nI mk)])), (a1, .inl (cI, 16, .inl jt)), (a2, .inl (cI, 16, .inl jk)), (a3, .inl (cI, 16, .inl jy))] 1 rfl rfl dX3_sound_66 ?_
      refine x_aload_n hE 1 rfl dX3_sound_67 ?_
      refine x_get hE g15 0 rfl rfl dX3_sound_68 ?_
      refine x_iload hE 0 rfl dX3_sound_71 ?_
      refine x_iload_n hE 2 rfl dX3_sound_73 ?_
      refine x_iast hE (findN (wkP st kk ky) 0 V) (upd kk (findN (wkP st kk ky) 0 V) ky) (by omega) (by decide) rfl [(h0, .inr (3, [.ref v1, .ref v2, .ref v3, .ref v4, .ref v5, .ref j0, .int (nI V), .int ru, .int tk, .int (bI sus), .int (bI sos)])), (v1, .inl (cI, 8, .inl (upd st (findN (wkP st kk ky) 0 V) (nI 1)))), (v2, .inl (cI, 8, .inl (upd kk (findN (wkP st kk ky) 0 V) ky))), (v3, .inl (cI, 8, .inl ve)), (v4, .inl (cI, 8, .inl si)), (v5, .inl (cZ, 8, .inl (xB ca))), (j0, .inr (0, [.ref a1, .ref a2, .ref a3, .int (nI mk)])), (a1, .inl (cI, 16, .inl jt)), (a2, .inl (cI, 16, .inl jk)), (a3, .inl (cI, 16, .inl jy))] 2 rfl rfl dX3_sound_74 ?_
      refine x_aload_n hE 1 rfl dX3_sound_75 ?_
      refine x_get hE g18 0 rfl rfl dX3_sound_76 ?_
      refine x_iload hE 0 rfl dX3_sound_79 ?_
      refine x_iload_n hE 3 rfl dX3_sound_81 ?_
      refine x_iast hE (findN (wkP st kk ky) 0 V) (upd ve (findN (wkP st kk ky) 0 V) vl) (by omega) (by decide) rfl [(h0, .inr (3, [.ref v1, .ref v2, .ref v3, .ref v4, .ref v5, .ref j0, .int (nI V), .int ru, .int tk, .int (bI sus), .int (bI sos)])), (v1, .inl (cI, 8, .inl (upd st (findN (wkP st kk ky) 0 V) (nI 1)))), (v2, .inl (cI, 8, .inl (upd kk (findN (wkP st kk ky) 0 V) ky))), (v3, .inl (cI, 8, .inl (upd ve (findN (wkP st kk ky) 0 V) vl))), (v4, .inl (cI, 8, .inl si)), (v5, .inl (cZ, 8, .inl (xB ca))), (j0, .inr (0, [.ref a1, .ref a2, .ref a3, .int (nI mk)])), (a1, .inl (cI, 16, .inl jt)), (a2, .inl (cI, 16, .inl jk)), (a3, .inl (cI, 16, .inl jy))] 3 rfl rfl dX3_sound_82 ?_
      refine x_aload_n hE 1 rfl dX3_sound_83 ?_
      refine x_get hE g21 0 rfl rfl dX3_sound_84 ?_
      refine x_iload hE 0 rfl dX3_sound_87 ?_
      refine x_iload_n hE 4 rfl dX3_sound_89 ?_
      refine x_iast hE (findN (wkP st kk ky) 0 V) (upd si (findN (wkP st kk ky) 0 V) now) (by omega) (by decide) rfl [(h0, .inr (3, [.ref v1, .ref v2, .ref v3, .ref v4, .ref v5, .ref j0, .int (nI V), .int ru, .int tk, .int (bI sus), .int (bI sos)])), (v1, .inl (cI, 8, .inl (upd st (findN (wkP st kk ky) 0 V) (nI 1)))), (v2, .inl (cI, 8, .inl (upd kk (findN (wkP st kk ky) 0 V) ky))), (v3, .inl (cI, 8, .inl (upd ve (findN (wkP st kk ky) 0 V) vl))), (v4, .inl (cI, 8, .inl (upd si (findN (wkP st kk ky) 0 V) now))), (v5, .inl (cZ, 8, .inl (xB ca))), (j0, .inr (0, [.ref a1, .ref a2, .ref a3, .int (nI mk)])), (a1, .inl (cI, 16, .inl jt)), (a2, .inl (cI, 16, .inl jk)), (a3, .inl (cI, 16, .inl jy))] 4 rfl rfl dX3_sound_90 ?_
      refine x_aload_n hE 1 rfl dX3_sound_91 ?_
      refine x_get hE g24 0 rfl rfl dX3_sound_92 ?_
      refine x_iload hE 0 rfl dX3_sound_95 ?_
      refine x_iconst hE (nI 0) (by decide) dX3_sound_97 ?_
      refine x_eq (bI false) rfl ?_
      refine x_zast hE (findN (wkP st kk ky) 0 V) (updB ca (findN (wkP st kk ky) 0 V) false) (by omega) (by decide) rfl [(h0, .inr (3, [.ref v1, .ref v2, .ref v3, .ref v4, .ref v5, .ref j0, .int (nI V), .int ru, .int tk, .int (bI sus), .int (bI sos)])), (v1, .inl (cI, 8, .inl (upd st (findN (wkP st kk ky) 0 V) (nI 1)))), (v2, .inl (cI, 8, .inl (upd kk (findN (wkP st kk ky) 0 V) ky))), (v3, .inl (cI, 8, .inl (upd ve (findN (wkP st kk ky) 0 V) vl))), (v4, .inl (cI, 8, .inl (upd si (findN (wkP st kk ky) 0 V) now))), (v5, .inl (cZ, 8, .inl (xB (updB ca (findN (wkP st kk ky) 0 V) false)))), (j0, .inr (0, [.ref a1, .ref a2, .ref a3, .int (nI mk)])), (a1, .inl (cI, 16, .inl jt)), (a2, .inl (cI, 16, .inl jk)), (a3, .inl (cI, 16, .inl jy))] 5 rfl rfl dX3_sound_98 ?_
      refine x_aload_n hE 1 rfl dX3_sound_99 ?_
      refine x_get hE g45 0 rfl rfl dX3_sound_100 ?_
      refine x_iload_n hE 4 rfl dX3_sound_103 ?_
      refine x_iconst hE (nI 1) (by decide) dX3_sound_104 ?_
      refine x_iload_n hE 2 rfl dX3_sound_105 ?_
      refine x_callV (n := 3) (st := []) hE (kX0_write l D cI cZ j0 a1 a2 a3 jt jk jy mk now (nI 1) ky (by omega)) gX3_sound_X0_write rfl (by decide +kernel) ⟨by decide, by decide⟩ ⟨Nat.zero_le _, Nat.zero_le _⟩ rfl [6, 7, 8, 9] [0, 1, 2, 3, 4, 5] rfl (wr := [(h0, .inr (3, [.ref v1, .ref v2, .ref v3, .ref v4, .ref v5, .ref j0, .int (nI V), .int ru, .int tk, .int (bI sus), .int (bI sos)])), (v1, .inl (cI, 8, .inl (upd st (findN (wkP st kk ky) 0 V) (nI 1)))), (v2, .inl (cI, 8, .inl (upd kk (findN (wkP st kk ky) 0 V) ky))), (v3, .inl (cI, 8, .inl (upd ve (findN (wkP st kk ky) 0 V) vl))), (v4, .inl (cI, 8, .inl (upd si (findN (wkP st kk ky) 0 V) now))), (v5, .inl (cZ, 8, .inl (xB (updB ca (findN (wkP st kk ky) 0 V) false))))]) rfl (by decide) (by decide) (by decide) 0 rfl rfl rfl rfl (Nat.le_of_ble_eq_true rfl) dX3_sound_106 (fun v9 w9 hT9 => ?_)
      obtain ⟨rfl, rfl⟩ := hT9
      refine x_at (ws' := [(h0, .inr (3, [.ref v1, .ref v2, .ref v3, .ref v4, .ref v5, .ref j0, .int (nI V), .int ru, .int tk, .int (bI sus), .int (bI sos)])), (v1, .inl (cI, 8, .inl (upd st (findN (wkP st kk ky) 0 V) (nI 1)))), (v2, .inl (cI, 8, .inl (upd kk (findN (wkP st kk ky) 0 V) ky))), (v3, .inl (cI, 8, .inl (upd ve (findN (wkP st kk ky) 0 V) vl))), (v4, .inl (cI, 8, .inl (upd si (findN (wkP st kk ky) 0 V) now))), (v5, .inl (cZ, 8, .inl (xB (updB ca (findN (wkP st kk ky) 0 V) false)))), (j0, .inr (0, [.ref a1, .ref a2, .ref a3, .int (nI (mk + 1))])), (a1, .inl (cI, 16, .inl (upd jt (mk % 16) now))), (a2, .inl (cI, 16, .inl (upd jk (mk % 16) (nI 1)))), (a3, .inl (cI, 16, .inl (upd jy (mk % 16) ky)))]) (st' := []) rfl rfl ?_
      refine x_sub [(h0, .inr (3, [.ref v1, .ref v2, .ref v3, .ref v4, .ref v5, .ref j0, .int (nI V), .int ru, .int tk, .int (bI sus), .int (bI sos)])), (v1, .inl (cI, 8, .inl (upd st (findN (wkP st kk ky) 0 V) (nI 1)))), (v2, .inl (cI, 8, .inl (upd kk (findN (wkP st kk ky) 0 V) ky))), (v3, .inl (cI, 8, .inl (upd ve (findN (wkP st kk ky) 0 V) vl))), (v4, .inl (cI, 8, .inl (upd si (findN (wkP st kk ky) 0 V) now))), (v5, .inl (cZ, 8, .inl (xB (updB ca (findN (wkP st kk ky) 0 V) false)))), (j0, .inr (0, [.ref a1, .ref a2, .ref a3, .int (nI (mk + 1))])), (a1, .inl (cI, 16, .inl (upd jt (mk % 16) now))), (a2, .inl (cI, 16, .inl (upd jk (mk % 16) (nI 1)))), (a3, .inl (cI, 16, .inl (upd jy (mk % 16) ky)))] [0, 1, 2, 3, 4, 5, 6, 7, 8, 9] (by decide) rfl ?_
      exact x_vret hE hr (⟨rfl, by simp only [sndJ, wrJ, sndT, sndW, if_pos hw11, reduceIte, Bool.false_eq_true]⟩) dX3_sound_109
    · skip
      exact absurd c24 (nI_m3 (by omega))
  · skip
    have hw11 : ¬ findN (wkP st kk ky) 0 V < V := rV_none (by omega) c11
    refine x_aload_n hE 1 rfl dX3_sound_14 ?_
    refine x_callV (n := 0) (st := []) hE (kX3_firstFree l D cI cZ h0 v1 v2 v3 v4 v5 j0 a1 a2 a3 st kk ve si ca V ru tk sus sos jt jk jy mk (by omega)) gX3_sound_X3_firstFree rfl (by decide +kernel) ⟨by decide, by decide⟩ ⟨Nat.zero_le _, Nat.zero_le _⟩ rfl [0, 1, 2, 3, 4, 5, 6, 7, 8, 9] [] rfl (wr := []) rfl (by decide) (by decide) (by decide) 0 rfl rfl rfl rfl (Nat.le_of_ble_eq_true rfl) dX3_sound_15 (fun v9 w9 hT9 => ?_)
    obtain ⟨rfl, rfl⟩ := hT9
    refine x_at (ws' := [(h0, .inr (3, [.ref v1, .ref v2, .ref v3, .ref v4, .ref v5, .ref j0, .int (nI V), .int ru, .int tk, .int (bI sus), .int (bI sos)])), (v1, .inl (cI, 8, .inl st)), (v2, .inl (cI, 8, .inl kk)), (v3, .inl (cI, 8, .inl ve)), (v4, .inl (cI, 8, .inl si)), (v5, .inl (cZ, 8, .inl (xB ca))), (j0, .inr (0, [.ref a1, .ref a2, .ref a3, .int (nI mk)])), (a1, .inl (cI, 16, .inl jt)), (a2, .inl (cI, 16, .inl jk)), (a3, .inl (cI, 16, .inl jy))]) (st' := [.int (rV (findN (ffP st) 0 V) V)]) rfl rfl ?_
    refine x_istore hE [(4, .int (rV (findN (ffP st) 0 V) V)), (0, .ref h0), (1, .int ky), (2, .int vl), (3, .int now)] (by decide) rfl dX3_sound_18 ?_
    refine x_iload hE 0 rfl dX3_sound_20 ?_
    refine x_bipush hE (-3) (by decide) dX3_sound_22 ?_
    refine x_icmp_ne hE 59 (by decide) dX3_sound_24 (fun c24 => ?_) (fun c24 => ?_)
    · skip
      have hw24 : findN (ffP st) 0 V < V := rV_lt c24
      rw [rV_some hw24]
      refine x_aload_n hE 1 rfl dX3_sound_59 ?_
      refine x_get hE g9 0 rfl rfl dX3_sound_60 ?_
      refine x_iload hE 0 rfl dX3_sound_63 ?_
      refine x_iconst hE (nI 1) (by decide) dX3_sound_65 ?_
      refine x_iast hE (findN (ffP st) 0 V) (upd st (findN (ffP st) 0 V) (nI 1)) (by omega) (by decide) rfl [(h0, .inr (3, [.ref v1, .ref v2, .ref v3, .ref v4, .ref v5, .ref j0, .int (nI V), .int ru, .int tk, .int (bI sus), .int (bI sos)])), (v1, .inl (cI, 8, .inl (upd st (findN (ffP st) 0 V) (nI 1)))), (v2, .inl (cI, 8, .inl kk)), (v3, .inl (cI, 8, .inl ve)), (v4, .inl (cI, 8, .inl si)), (v5, .inl (cZ, 8, .inl (xB ca))), (j0, .inr (0, [.ref a1, .ref a2, .ref a3, .int (nI mk)])), (a1, .inl (cI, 16, .inl jt)), (a2, .inl (cI, 16, .inl jk)), (a3, .inl (cI, 16, .inl jy))] 1 rfl rfl dX3_sound_66 ?_
      refine x_aload_n hE 1 rfl dX3_sound_67 ?_
      refine x_get hE g15 0 rfl rfl dX3_sound_68 ?_
      refine x_iload hE 0 rfl dX3_sound_71 ?_
      refine x_iload_n hE 2 rfl dX3_sound_73 ?_
      refine x_iast hE (findN (ffP st) 0 V) (upd kk (findN (ffP st) 0 V) ky) (by omega) (by decide) rfl [(h0, .inr (3, [.ref v1, .ref v2, .ref v3, .ref v4, .ref v5, .ref j0, .int (nI V), .int ru, .int tk, .int (bI sus), .int (bI sos)])), (v1, .inl (cI, 8, .inl (upd st (findN (ffP st) 0 V) (nI 1)))), (v2, .inl (cI, 8, .inl (upd kk (findN (ffP st) 0 V) ky))), (v3, .inl (cI, 8, .inl ve)), (v4, .inl (cI, 8, .inl si)), (v5, .inl (cZ, 8, .inl (xB ca))), (j0, .inr (0, [.ref a1, .ref a2, .ref a3, .int (nI mk)])), (a1, .inl (cI, 16, .inl jt)), (a2, .inl (cI, 16, .inl jk)), (a3, .inl (cI, 16, .inl jy))] 2 rfl rfl dX3_sound_74 ?_
      refine x_aload_n hE 1 rfl dX3_sound_75 ?_
      refine x_get hE g18 0 rfl rfl dX3_sound_76 ?_
      refine x_iload hE 0 rfl dX3_sound_79 ?_
      refine x_iload_n hE 3 rfl dX3_sound_81 ?_
      refine x_iast hE (findN (ffP st) 0 V) (upd ve (findN (ffP st) 0 V) vl) (by omega) (by decide) rfl [(h0, .inr (3, [.ref v1, .ref v2, .ref v3, .ref v4, .ref v5, .ref j0, .int (nI V), .int ru, .int tk, .int (bI sus), .int (bI sos)])), (v1, .inl (cI, 8, .inl (upd st (findN (ffP st) 0 V) (nI 1)))), (v2, .inl (cI, 8, .inl (upd kk (findN (ffP st) 0 V) ky))), (v3, .inl (cI, 8, .inl (upd ve (findN (ffP st) 0 V) vl))), (v4, .inl (cI, 8, .inl si)), (v5, .inl (cZ, 8, .inl (xB ca))), (j0, .inr (0, [.ref a1, .ref a2, .ref a3, .int (nI mk)])), (a1, .inl (cI, 16, .inl jt)), (a2, .inl (cI, 16, .inl jk)), (a3, .inl (cI, 16, .inl jy))] 3 rfl rfl dX3_sound_82 ?_
      refine x_aload_n hE 1 rfl dX3_sound_83 ?_
      refine x_get hE g21 0 rfl rfl dX3_sound_84 ?_
      refine x_iload hE 0 rfl dX3_sound_87 ?_
      refine x_iload_n hE 4 rfl dX3_sound_89 ?_
      refine x_iast hE (findN (ffP st) 0 V) (upd si (findN (ffP st) 0 V) now) (by omega) (by decide) rfl [(h0, .inr (3, [.ref v1, .ref v2, .ref v3, .ref v4, .ref v5, .ref j0, .int (nI V), .int ru, .int tk, .int (bI sus), .int (bI sos)])), (v1, .inl (cI, 8, .inl (upd st (findN (ffP st) 0 V) (nI 1)))), (v2, .inl (cI, 8, .inl (upd kk (findN (ffP st) 0 V) ky))), (v3, .inl (cI, 8, .inl (upd ve (findN (ffP st) 0 V) vl))), (v4, .inl (cI, 8, .inl (upd si (findN (ffP st) 0 V) now))), (v5, .inl (cZ, 8, .inl (xB ca))), (j0, .inr (0, [.ref a1, .ref a2, .ref a3, .int (nI mk)])), (a1, .inl (cI, 16, .inl jt)), (a2, .inl (cI, 16, .inl jk)), (a3, .inl (cI, 16, .inl jy))] 4 rfl rfl dX3_sound_90 ?_
      refine x_aload_n hE 1 rfl dX3_sound_91 ?_
      refine x_get hE g24 0 rfl rfl dX3_sound_92 ?_
      refine x_iload hE 0 rfl dX3_sound_95 ?_
      refine x_iconst hE (nI 0) (by decide) dX3_sound_97 ?_
      refine x_eq (bI false) rfl ?_
      refine x_zast hE (findN (ffP st) 0 V) (updB ca (findN (ffP st) 0 V) false) (by omega) (by decide) rfl [(h0, .inr (3, [.ref v1, .ref v2, .ref v3, .ref v4, .ref v5, .ref j0, .int (nI V), .int ru, .int tk, .int (bI sus), .int (bI sos)])), (v1, .inl (cI, 8, .inl (upd st (findN (ffP st) 0 V) (nI 1)))), (v2, .inl (cI, 8, .inl (upd kk (findN (ffP st) 0 V) ky))), (v3, .inl (cI, 8, .inl (upd ve (findN (ffP st) 0 V) vl))), (v4, .inl (cI, 8, .inl (upd si (findN (ffP st) 0 V) now))), (v5, .inl (cZ, 8, .inl (xB (updB ca (findN (ffP st) 0 V) false)))), (j0, .inr (0, [.ref a1, .ref a2, .ref a3, .int (nI mk)])), (a1, .inl (cI, 16, .inl jt)), (a2, .inl (cI, 16, .inl jk)), (a3, .inl (cI, 16, .inl jy))] 5 rfl rfl dX3_sound_98 ?_
      refine x_aload_n hE 1 rfl dX3_sound_99 ?_
      refine x_get hE g45 0 rfl rfl dX3_sound_100 ?_
      refine x_iload_n hE 4 rfl dX3_sound_103 ?_
      refine x_iconst hE (nI 1) (by decide) dX3_sound_104 ?_
      refine x_iload_n hE 2 rfl dX3_sound_105 ?_
      refine x_callV (n := 3) (st := []) hE (kX0_write l D cI cZ j0 a1 a2 a3 jt jk jy mk now (nI 1) ky (by omega)) gX3_sound_X0_write rfl (by decide +kernel) ⟨by decide, by decide⟩ ⟨Nat.zero_le _, Nat.zero_le _⟩ rfl [6, 7, 8, 9] [0, 1, 2, 3, 4, 5] rfl (wr := [(h0, .inr (3, [.ref v1, .ref v2, .ref v3, .ref v4, .ref v5, .ref j0, .int (nI V), .int ru, .int tk, .int (bI sus), .int (bI sos)])), (v1, .inl (cI, 8, .inl (upd st (findN (ffP st) 0 V) (nI 1)))), (v2, .inl (cI, 8, .inl (upd kk (findN (ffP st) 0 V) ky))), (v3, .inl (cI, 8, .inl (upd ve (findN (ffP st) 0 V) vl))), (v4, .inl (cI, 8, .inl (upd si (findN (ffP st) 0 V) now))), (v5, .inl (cZ, 8, .inl (xB (updB ca (findN (ffP st) 0 V) false))))]) rfl (by decide) (by decide) (by decide) 0 rfl rfl rfl rfl (Nat.le_of_ble_eq_true rfl) dX3_sound_106 (fun v9 w9 hT9 => ?_)
      obtain ⟨rfl, rfl⟩ := hT9
      refine x_at (ws' := [(h0, .inr (3, [.ref v1, .ref v2, .ref v3, .ref v4, .ref v5, .ref j0, .int (nI V), .int ru, .int tk, .int (bI sus), .int (bI sos)])), (v1, .inl (cI, 8, .inl (upd st (findN (ffP st) 0 V) (nI 1)))), (v2, .inl (cI, 8, .inl (upd kk (findN (ffP st) 0 V) ky))), (v3, .inl (cI, 8, .inl (upd ve (findN (ffP st) 0 V) vl))), (v4, .inl (cI, 8, .inl (upd si (findN (ffP st) 0 V) now))), (v5, .inl (cZ, 8, .inl (xB (updB ca (findN (ffP st) 0 V) false)))), (j0, .inr (0, [.ref a1, .ref a2, .ref a3, .int (nI (mk + 1))])), (a1, .inl (cI, 16, .inl (upd jt (mk % 16) now))), (a2, .inl (cI, 16, .inl (upd jk (mk % 16) (nI 1)))), (a3, .inl (cI, 16, .inl (upd jy (mk % 16) ky)))]) (st' := []) rfl rfl ?_
      refine x_sub [(h0, .inr (3, [.ref v1, .ref v2, .ref v3, .ref v4, .ref v5, .ref j0, .int (nI V), .int ru, .int tk, .int (bI sus), .int (bI sos)])), (v1, .inl (cI, 8, .inl (upd st (findN (ffP st) 0 V) (nI 1)))), (v2, .inl (cI, 8, .inl (upd kk (findN (ffP st) 0 V) ky))), (v3, .inl (cI, 8, .inl (upd ve (findN (ffP st) 0 V) vl))), (v4, .inl (cI, 8, .inl (upd si (findN (ffP st) 0 V) now))), (v5, .inl (cZ, 8, .inl (xB (updB ca (findN (ffP st) 0 V) false)))), (j0, .inr (0, [.ref a1, .ref a2, .ref a3, .int (nI (mk + 1))])), (a1, .inl (cI, 16, .inl (upd jt (mk % 16) now))), (a2, .inl (cI, 16, .inl (upd jk (mk % 16) (nI 1)))), (a3, .inl (cI, 16, .inl (upd jy (mk % 16) ky)))] [0, 1, 2, 3, 4, 5, 6, 7, 8, 9] (by decide) rfl ?_
      exact x_vret hE hr (⟨rfl, by simp only [sndJ, wrJ, sndT, sndW, if_neg hw11, if_pos hw24, reduceIte, Bool.false_eq_true]⟩) dX3_sound_109
    · skip
      have hw24 : ¬ findN (ffP st) 0 V < V := rV_none (by omega) c24
      refine x_aload_n hE 1 rfl dX3_sound_27 ?_
      refine x_callV (n := 0) (st := []) hE (kX3_victim l D cI cZ h0 v1 v2 v3 v4 v5 j0 a1 a2 a3 st kk ve si ca V ru tk sus sos jt jk jy mk (by omega)) gX3_sound_X3_victim rfl (by decide +kernel) ⟨by decide, by decide⟩ ⟨Nat.zero_le _, Nat.zero_le _⟩ rfl [0, 1, 2, 3, 4, 5, 6, 7, 8, 9] [] rfl (wr := []) rfl (by decide) (by decide) (by decide) 0 rfl rfl rfl rfl (Nat.le_of_ble_eq_true rfl) dX3_sound_28 (fun v9 w9 hT9 => ?_)
      obtain ⟨rfl, rfl⟩ := hT9
      refine x_at (ws' := [(h0, .inr (3, [.ref v1, .ref v2, .ref v3, .ref v4, .ref v5, .ref j0, .int (nI V), .int ru, .int tk, .int (bI sus), .int (bI sos)])), (v1, .inl (cI, 8, .inl st)), (v2, .inl (cI, 8, .inl kk)), (v3, .inl (cI, 8, .inl ve)), (v4, .inl (cI, 8, .inl si)), (v5, .inl (cZ, 8, .inl (xB ca))), (j0, .inr (0, [.ref a1, .ref a2, .ref a3, .int (nI mk)])), (a1, .inl (cI, 16, .inl jt)), (a2, .inl (cI, 16, .inl jk)), (a3, .inl (cI, 16, .inl jy))]) (st' := [.int (nI (vicN st ve si ru V))]) rfl rfl ?_
      refine x_istore hE [(4, .int (nI (vicN st ve si ru V))), (0, .ref h0), (1, .int ky), (2, .int vl), (3, .int now)] (by decide) rfl dX3_sound_31 ?_
      refine x_aload_n hE 1 rfl dX3_sound_33 ?_
      refine x_dup hE rfl dX3_sound_34 ?_
      refine x_get hE g35 0 rfl rfl dX3_sound_35 ?_
      refine x_iconst hE (nI 1) (by decide) dX3_sound_38 ?_
      refine x_iadd hE (tk + (nI 1)) rfl dX3_sound_39 ?_
      refine x_put hE p35 [(h0, .inr (3, [.ref v1, .ref v2, .ref v3, .ref v4, .ref v5, .ref j0, .int (nI V), .int ru, .int (tk + (nI 1)), .int (bI sus), .int (bI sos)])), (v1, .inl (cI, 8, .inl st)), (v2, .inl (cI, 8, .inl kk)), (v3, .inl (cI, 8, .inl ve)), (v4, .inl (cI, 8, .inl si)), (v5, .inl (cZ, 8, .inl (xB ca))), (j0, .inr (0, [.ref a1, .ref a2, .ref a3, .int (nI mk)])), (a1, .inl (cI, 16, .inl jt)), (a2, .inl (cI, 16, .inl jk)), (a3, .inl (cI, 16, .inl jy))] 0 rfl rfl rfl rfl (Nat.le_of_ble_eq_true rfl) dX3_sound_40 ?_
      refine x_aload_n hE 1 rfl dX3_sound_43 ?_
      refine x_get hE g45 0 rfl rfl dX3_sound_44 ?_
      refine x_iload_n hE 4 rfl dX3_sound_47 ?_
      refine x_iconst hE (nI 3) (by decide) dX3_sound_48 ?_
      refine x_aload_n hE 1 rfl dX3_sound_49 ?_
      refine x_get hE g15 0 rfl rfl dX3_sound_50 ?_
      refine x_iload hE 0 rfl dX3_sound_53 ?_
      refine x_iald hE (vicN st ve si ru V) (kk (vicN st ve si ru V)) (by omega) (by decide) rfl 2 rfl dX3_sound_55 ?_
      refine x_callV (n := 3) (st := []) hE (kX0_write l D cI cZ j0 a1 a2 a3 jt jk jy mk now (nI 3) (kk (vicN st ve si ru V)) (by omega)) gX3_sound_X0_write rfl (by decide +kernel) ⟨by decide, by decide⟩ ⟨Nat.zero_le _, Nat.zero_le _⟩ rfl [6, 7, 8, 9] [0, 1, 2, 3, 4, 5] rfl (wr := [(h0, .inr (3, [.ref v1, .ref v2, .ref v3, .ref v4, .ref v5, .ref j0, .int (nI V), .int ru, .int (tk + (nI 1)), .int (bI sus), .int (bI sos)])), (v1, .inl (cI, 8, .inl st)), (v2, .inl (cI, 8, .inl kk)), (v3, .inl (cI, 8, .inl ve)), (v4, .inl (cI, 8, .inl si)), (v5, .inl (cZ, 8, .inl (xB ca)))]) rfl (by decide) (by decide) (by decide) 0 rfl rfl rfl rfl (Nat.le_of_ble_eq_true rfl) dX3_sound_56 (fun v9 w9 hT9 => ?_)
      obtain ⟨rfl, rfl⟩ := hT9
      refine x_at (ws' := [(h0, .inr (3, [.ref v1, .ref v2, .ref v3, .ref v4, .ref v5, .ref j0, .int (nI V), .int ru, .int (tk + (nI 1)), .int (bI sus), .int (bI sos)])), (v1, .inl (cI, 8, .inl st)), (v2, .inl (cI, 8, .inl kk)), (v3, .inl (cI, 8, .inl ve)), (v4, .inl (cI, 8, .inl si)), (v5, .inl (cZ, 8, .inl (xB ca))), (j0, .inr (0, [.ref a1, .ref a2, .ref a3, .int (nI (mk + 1))])), (a1, .inl (cI, 16, .inl (upd jt (mk % 16) now))), (a2, .inl (cI, 16, .inl (upd jk (mk % 16) (nI 3)))), (a3, .inl (cI, 16, .inl (upd jy (mk % 16) (kk (vicN st ve si ru V)))))]) (st' := []) rfl rfl ?_
      refine x_sub [(h0, .inr (3, [.ref v1, .ref v2, .ref v3, .ref v4, .ref v5, .ref j0, .int (nI V), .int ru, .int (tk + (nI 1)), .int (bI sus), .int (bI sos)])), (v1, .inl (cI, 8, .inl st)), (v2, .inl (cI, 8, .inl kk)), (v3, .inl (cI, 8, .inl ve)), (v4, .inl (cI, 8, .inl si)), (v5, .inl (cZ, 8, .inl (xB ca))), (j0, .inr (0, [.ref a1, .ref a2, .ref a3, .int (nI (mk + 1))])), (a1, .inl (cI, 16, .inl (upd jt (mk % 16) now))), (a2, .inl (cI, 16, .inl (upd jk (mk % 16) (nI 3)))), (a3, .inl (cI, 16, .inl (upd jy (mk % 16) (kk (vicN st ve si ru V)))))] [0, 1, 2, 3, 4, 5, 6, 7, 8, 9] (by decide) rfl ?_
      refine x_aload_n hE 1 rfl dX3_sound_59 ?_
      refine x_get hE g9 0 rfl rfl dX3_sound_60 ?_
      refine x_iload hE 0 rfl dX3_sound_63 ?_
      refine x_iconst hE (nI 1) (by decide) dX3_sound_65 ?_
      refine x_iast hE (vicN st ve si ru V) (upd st (vicN st ve si ru V) (nI 1)) (by omega) (by decide) rfl [(h0, .inr (3, [.ref v1, .ref v2, .ref v3, .ref v4, .ref v5, .ref j0, .int (nI V), .int ru, .int (tk + (nI 1)), .int (bI sus), .int (bI sos)])), (v1, .inl (cI, 8, .inl (upd st (vicN st ve si ru V) (nI 1)))), (v2, .inl (cI, 8, .inl kk)), (v3, .inl (cI, 8, .inl ve)), (v4, .inl (cI, 8, .inl si)), (v5, .inl (cZ, 8, .inl (xB ca))), (j0, .inr (0, [.ref a1, .ref a2, .ref a3, .int (nI (mk + 1))])), (a1, .inl (cI, 16, .inl (upd jt (mk % 16) now))), (a2, .inl (cI, 16, .inl (upd jk (mk % 16) (nI 3)))), (a3, .inl (cI, 16, .inl (upd jy (mk % 16) (kk (vicN st ve si ru V)))))] 1 rfl rfl dX3_sound_66 ?_
      refine x_aload_n hE 1 rfl dX3_sound_67 ?_
      refine x_get hE g15 0 rfl rfl dX3_sound_68 ?_
      refine x_iload hE 0 rfl dX3_sound_71 ?_
      refine x_iload_n hE 2 rfl dX3_sound_73 ?_
      refine x_iast hE (vicN st ve si ru V) (upd kk (vicN st ve si ru V) ky) (by omega) (by decide) rfl [(h0, .inr (3, [.ref v1, .ref v2, .ref v3, .ref v4, .ref v5, .ref j0, .int (nI V), .int ru, .int (tk + (nI 1)), .int (bI sus), .int (bI sos)])), (v1, .inl (cI, 8, .inl (upd st (vicN st ve si ru V) (nI 1)))), (v2, .inl (cI, 8, .inl (upd kk (vicN st ve si ru V) ky))), (v3, .inl (cI, 8, .inl ve)), (v4, .inl (cI, 8, .inl si)), (v5, .inl (cZ, 8, .inl (xB ca))), (j0, .inr (0, [.ref a1, .ref a2, .ref a3, .int (nI (mk + 1))])), (a1, .inl (cI, 16, .inl (upd jt (mk % 16) now))), (a2, .inl (cI, 16, .inl (upd jk (mk % 16) (nI 3)))), (a3, .inl (cI, 16, .inl (upd jy (mk % 16) (kk (vicN st ve si ru V)))))] 2 rfl rfl dX3_sound_74 ?_
      refine x_aload_n hE 1 rfl dX3_sound_75 ?_
      refine x_get hE g18 0 rfl rfl dX3_sound_76 ?_
      refine x_iload hE 0 rfl dX3_sound_79 ?_
      refine x_iload_n hE 3 rfl dX3_sound_81 ?_
      refine x_iast hE (vicN st ve si ru V) (upd ve (vicN st ve si ru V) vl) (by omega) (by decide) rfl [(h0, .inr (3, [.ref v1, .ref v2, .ref v3, .ref v4, .ref v5, .ref j0, .int (nI V), .int ru, .int (tk + (nI 1)), .int (bI sus), .int (bI sos)])), (v1, .inl (cI, 8, .inl (upd st (vicN st ve si ru V) (nI 1)))), (v2, .inl (cI, 8, .inl (upd kk (vicN st ve si ru V) ky))), (v3, .inl (cI, 8, .inl (upd ve (vicN st ve si ru V) vl))), (v4, .inl (cI, 8, .inl si)), (v5, .inl (cZ, 8, .inl (xB ca))), (j0, .inr (0, [.ref a1, .ref a2, .ref a3, .int (nI (mk + 1))])), (a1, .inl (cI, 16, .inl (upd jt (mk % 16) now))), (a2, .inl (cI, 16, .inl (upd jk (mk % 16) (nI 3)))), (a3, .inl (cI, 16, .inl (upd jy (mk % 16) (kk (vicN st ve si ru V)))))] 3 rfl rfl dX3_sound_82 ?_
      refine x_aload_n hE 1 rfl dX3_sound_83 ?_
      refine x_get hE g21 0 rfl rfl dX3_sound_84 ?_
      refine x_iload hE 0 rfl dX3_sound_87 ?_
      refine x_iload_n hE 4 rfl dX3_sound_89 ?_
      refine x_iast hE (vicN st ve si ru V) (upd si (vicN st ve si ru V) now) (by omega) (by decide) rfl [(h0, .inr (3, [.ref v1, .ref v2, .ref v3, .ref v4, .ref v5, .ref j0, .int (nI V), .int ru, .int (tk + (nI 1)), .int (bI sus), .int (bI sos)])), (v1, .inl (cI, 8, .inl (upd st (vicN st ve si ru V) (nI 1)))), (v2, .inl (cI, 8, .inl (upd kk (vicN st ve si ru V) ky))), (v3, .inl (cI, 8, .inl (upd ve (vicN st ve si ru V) vl))), (v4, .inl (cI, 8, .inl (upd si (vicN st ve si ru V) now))), (v5, .inl (cZ, 8, .inl (xB ca))), (j0, .inr (0, [.ref a1, .ref a2, .ref a3, .int (nI (mk + 1))])), (a1, .inl (cI, 16, .inl (upd jt (mk % 16) now))), (a2, .inl (cI, 16, .inl (upd jk (mk % 16) (nI 3)))), (a3, .inl (cI, 16, .inl (upd jy (mk % 16) (kk (vicN st ve si ru V)))))] 4 rfl rfl dX3_sound_90 ?_
      refine x_aload_n hE 1 rfl dX3_sound_91 ?_
      refine x_get hE g24 0 rfl rfl dX3_sound_92 ?_
      refine x_iload hE 0 rfl dX3_sound_95 ?_
      refine x_iconst hE (nI 0) (by decide) dX3_sound_97 ?_
      refine x_eq (bI false) rfl ?_
      refine x_zast hE (vicN st ve si ru V) (updB ca (vicN st ve si ru V) false) (by omega) (by decide) rfl [(h0, .inr (3, [.ref v1, .ref v2, .ref v3, .ref v4, .ref v5, .ref j0, .int (nI V), .int ru, .int (tk + (nI 1)), .int (bI sus), .int (bI sos)])), (v1, .inl (cI, 8, .inl (upd st (vicN st ve si ru V) (nI 1)))), (v2, .inl (cI, 8, .inl (upd kk (vicN st ve si ru V) ky))), (v3, .inl (cI, 8, .inl (upd ve (vicN st ve si ru V) vl))), (v4, .inl (cI, 8, .inl (upd si (vicN st ve si ru V) now))), (v5, .inl (cZ, 8, .inl (xB (updB ca (vicN st ve si ru V) false)))), (j0, .inr (0, [.ref a1, .ref a2, .ref a3, .int (nI (mk + 1))])), (a1, .inl (cI, 16, .inl (upd jt (mk % 16) now))), (a2, .inl (cI, 16, .inl (upd jk (mk % 16) (nI 3)))), (a3, .inl (cI, 16, .inl (upd jy (mk % 16) (kk (vicN st ve si ru V)))))] 5 rfl rfl dX3_sound_98 ?_
      refine x_aload_n hE 1 rfl dX3_sound_99 ?_
      refine x_get hE g45 0 rfl rfl dX3_sound_100 ?_
      refine x_iload_n hE 4 rfl dX3_sound_103 ?_
      refine x_iconst hE (nI 1) (by decide) dX3_sound_104 ?_
      refine x_iload_n hE 2 rfl dX3_sound_105 ?_
      refine x_callV (n := 3) (st := []) hE (kX0_write l D cI cZ j0 a1 a2 a3 (upd jt (mk % 16) now) (upd jk (mk % 16) (nI 3)) (upd jy (mk % 16) (kk (vicN st ve si ru V))) (mk + 1) now (nI 1) ky (by omega)) gX3_sound_X0_write rfl (by decide +kernel) ⟨by decide, by decide⟩ ⟨Nat.zero_le _, Nat.zero_le _⟩ rfl [6, 7, 8, 9] [0, 1, 2, 3, 4, 5] rfl (wr := [(h0, .inr (3, [.ref v1, .ref v2, .ref v3, .ref v4, .ref v5, .ref j0, .int (nI V), .int ru, .int (tk + (nI 1)), .int (bI sus), .int (bI sos)])), (v1, .inl (cI, 8, .inl (upd st (vicN st ve si ru V) (nI 1)))), (v2, .inl (cI, 8, .inl (upd kk (vicN st ve si ru V) ky))), (v3, .inl (cI, 8, .inl (upd ve (vicN st ve si ru V) vl))), (v4, .inl (cI, 8, .inl (upd si (vicN st ve si ru V) now))), (v5, .inl (cZ, 8, .inl (xB (updB ca (vicN st ve si ru V) false))))]) rfl (by decide) (by decide) (by decide) 0 rfl rfl rfl rfl (Nat.le_of_ble_eq_true rfl) dX3_sound_106 (fun v9 w9 hT9 => ?_)
      obtain ⟨rfl, rfl⟩ := hT9
      refine x_at (ws' := [(h0, .inr (3, [.ref v1, .ref v2, .ref v3, .ref v4, .ref v5, .ref j0, .int (nI V), .int ru, .int (tk + (nI 1)), .int (bI sus), .int (bI sos)])), (v1, .inl (cI, 8, .inl (upd st (vicN st ve si ru V) (nI 1)))), (v2, .inl (cI, 8, .inl (upd kk (vicN st ve si ru V) ky))), (v3, .inl (cI, 8, .inl (upd ve (vicN st ve si ru V) vl))), (v4, .inl (cI, 8, .inl (upd si (vicN st ve si ru V) now))), (v5, .inl (cZ, 8, .inl (xB (updB ca (vicN st ve si ru V) false)))), (j0, .inr (0, [.ref a1, .ref a2, .ref a3, .int (nI ((mk + 1) + 1))])), (a1, .inl (cI, 16, .inl (upd (upd jt (mk % 16) now) ((mk + 1) % 16) now))), (a2, .inl (cI, 16, .inl (upd (upd jk (mk % 16) (nI 3)) ((mk + 1) % 16) (nI 1)))), (a3, .inl (cI, 16, .inl (upd (upd jy (mk % 16) (kk (vicN st ve si ru V))) ((mk + 1) % 16) ky)))]) (st' := []) rfl rfl ?_
      refine x_sub [(h0, .inr (3, [.ref v1, .ref v2, .ref v3, .ref v4, .ref v5, .ref j0, .int (nI V), .int ru, .int (tk + (nI 1)), .int (bI sus), .int (bI sos)])), (v1, .inl (cI, 8, .inl (upd st (vicN st ve si ru V) (nI 1)))), (v2, .inl (cI, 8, .inl (upd kk (vicN st ve si ru V) ky))), (v3, .inl (cI, 8, .inl (upd ve (vicN st ve si ru V) vl))), (v4, .inl (cI, 8, .inl (upd si (vicN st ve si ru V) now))), (v5, .inl (cZ, 8, .inl (xB (updB ca (vicN st ve si ru V) false)))), (j0, .inr (0, [.ref a1, .ref a2, .ref a3, .int (nI ((mk + 1) + 1))])), (a1, .inl (cI, 16, .inl (upd (upd jt (mk % 16) now) ((mk + 1) % 16) now))), (a2, .inl (cI, 16, .inl (upd (upd jk (mk % 16) (nI 3)) ((mk + 1) % 16) (nI 1)))), (a3, .inl (cI, 16, .inl (upd (upd jy (mk % 16) (kk (vicN st ve si ru V))) ((mk + 1) % 16) ky)))] [0, 1, 2, 3, 4, 5, 6, 7, 8, 9] (by decide) rfl ?_
      exact x_vret hE hr (⟨rfl, by simp only [sndJ, wrJ, sndT, sndW, if_neg hw11, if_neg hw24, reduceIte, Bool.false_eq_true]⟩) dX3_sound_109
