set_option maxHeartbeats 4000000 in
set_option maxRecDepth 100000 in
theorem kX5_in (l : Launch) (D : va_G) (cI cZ : ClassId) (x : Int32) (a : Int32) (b : Int32)  : xC l yX5_in wsX5_in 0 0 0 0 D cI cZ [.int x, .int a, .int b] [] (fun v8 w8 => v8 = some (.int (bI (wiB x a b))) ∧ w8 = []) := by
  refine xC.of (bytes := cX5_in) (maxL := 3) (ret := (some .boolean)) (own := RX5) (by decide +kernel) rfl (Nat.le_of_ble_eq_true rfl) rfl ?_
  intro p9 e9 s9 m9 args9 below9 meth9 cd9 A hE hr hin2 hA9
  refine x_at (ws' := []) (st' := []) rfl rfl ?_
  refine x_lv [(0, .int x), (1, .int a), (2, .int b)] [0, 1, 2] rfl ?_
  refine x_iload_n hE 0 rfl dX5_in_0 ?_
  refine x_iload_n hE 1 rfl dX5_in_1 ?_
  refine x_icmp_lt hE 14 (by decide) dX5_in_2 (fun c2 => ?_) (fun c2 => ?_)
  · skip
    refine x_iconst hE (nI 0) (by decide) dX5_in_14 ?_
    refine x_eq (bI false) rfl ?_
    exact x_zret hE hr (⟨by simp only [wiB, if_pos c2, reduceIte, Bool.false_eq_true, Bool.true_eq_false], rfl⟩) dX5_in_15
  · skip
    refine x_iload_n hE 0 rfl dX5_in_5 ?_
    refine x_iload_n hE 2 rfl dX5_in_6 ?_
    refine x_icmp_gt hE 14 (by decide) dX5_in_7 (fun c7 => ?_) (fun c7 => ?_)
    · skip
      refine x_iconst hE (nI 0) (by decide) dX5_in_14 ?_
      refine x_eq (bI false) rfl ?_
      exact x_zret hE hr (⟨by simp only [wiB, if_neg c2, if_pos c7, reduceIte, Bool.false_eq_true, Bool.true_eq_false], rfl⟩) dX5_in_15
    · skip
      refine x_iconst hE (nI 1) (by decide) dX5_in_10 ?_
      refine x_goto hE 15 (by decide) dX5_in_11 ?_
      refine x_eq (bI true) rfl ?_
      exact x_zret hE hr (⟨by simp only [wiB, if_neg c2, if_neg c7, reduceIte, Bool.false_eq_true, Bool.true_eq_false], rfl⟩) dX5_in_15
set_option maxHeartbeats 4000000 in
set_option maxRecDepth 100000 in
theorem kX5_keys (l : Launch) (D : va_G) (cI cZ : ClassId) (h0 : Nat) (d1 : Nat) (d2 : Nat) (d3 : Nat) (d4 : Nat) (d5 : Nat) (d6 : Nat) (d7 : Nat) (d8 : Nat) (d9 : Nat) (d10 : Nat) (d11 : Nat) (d12 : Nat) (d13 : Nat) (R : Nat) (C : Nat) (dio : Bool) (bk : Bool) (lt : Bool) (sl : Int32) (V : Nat) (ru : Int32) (sus : Bool) (sos : Bool) (T : Nat) (pos : Nat → Nat) (ph : Nat → Int32) (bg : Nat → Int32) (fs : Nat → Bool) (gs : Nat → Bool) (st : Nat → Int32) (kk : Nat → Int32) (ve : Nat → Int32) (si : Nat → Int32) (ca : Nat → Bool) (mk : Nat) (lg : Nat → Int32) (sk : Int32) (rf : Int32) (tk : Int32) (fr : Nat) (fc : Nat) (op : Nat → Int32) (ob : Nat → Int32)  : xC l yX5_keys wsX5_keys 0 0 0 0 D cI cZ [.ref h0] [(h0, .inr (5, [.int (nI R), .int (nI C), .int (bI dio), .int (bI bk), .int (bI lt), .int sl, .int (nI V), .int ru, .int (bI sus), .int (bI sos), .int (nI T), .ref d1, .ref d2, .ref d3, .ref d4, .ref d5, .ref d6, .ref d7, .ref d8, .ref d9, .ref d10, .int (nI mk), .ref d11, .int sk, .int rf, .int tk, .int (nI fr), .int (nI fc), .ref d12, .ref d13])), (d1, .inl (cI, 64, .inl (xN pos))), (d2, .inl (cI, 64, .inl ph)), (d3, .inl (cI, 64, .inl bg)), (d4, .inl (cZ, 64, .inl (xB fs))), (d5, .inl (cZ, 64, .inl (xB gs))), (d6, .inl (cI, 8, .inl st)), (d7, .inl (cI, 8, .inl kk)), (d8, .inl (cI, 8, .inl ve)), (d9, .inl (cI, 8, .inl si)), (d10, .inl (cZ, 8, .inl (xB ca))), (d11, .inl (cI, 48, .inl lg)), (d12, .inl (cI, 64, .inl op)), (d13, .inl (cI, 64, .inl ob))] (fun v8 w8 => v8 = some (.int (nI (R * C))) ∧ w8 = [(h0, .inr (5, [.int (nI R), .int (nI C), .int (bI dio), .int (bI bk), .int (bI lt), .int sl, .int (nI V), .int ru, .int (bI sus), .int (bI sos), .int (nI T), .ref d1, .ref d2, .ref d3, .ref d4, .ref d5, .ref d6, .ref d7, .ref d8, .ref d9, .ref d10, .int (nI mk), .ref d11, .int sk, .int rf, .int tk, .int (nI fr), .int (nI fc), .ref d12, .ref d13])), (d1, .inl (cI, 64, .inl (xN pos))), (d2, .inl (cI, 64, .inl ph)), (d3, .inl (cI, 64, .inl bg)), (d4, .inl (cZ, 64, .inl (xB fs))), (d5, .inl (cZ, 64, .inl (xB gs))), (d6, .inl (cI, 8, .inl st)), (d7, .inl (cI, 8, .inl kk)), (d8, .inl (cI, 8, .inl ve)), (d9, .inl (cI, 8, .inl si)), (d10, .inl (cZ, 8, .inl (xB ca))), (d11, .inl (cI, 48, .inl lg)), (d12, .inl (cI, 64, .inl op)), (d13, .inl (cI, 64, .inl ob))]) := by
  refine xC.of (bytes := cX5_keys) (maxL := 1) (ret := (some .int)) (own := RX5) (by decide +kernel) rfl (Nat.le_of_ble_eq_true rfl) rfl ?_
  intro p9 e9 s9 m9 args9 below9 meth9 cd9 A hE hr hin2 hA9
  have inX5 : ∀ w ∈ wsX50, w ∈ wsX5_keys := fun w h => List.mem_cons_of_mem _ (List.mem_append_right _ h)
  have g61 : xF RX5 wsX5_keys 61 5 0 := ⟨"KeyScannerModel", RX5, TX5, 30, inX5, rfl, by decide, List.mem_of_getElem? (i := 1) rfl, rfl⟩
  have g64 : xF RX5 wsX5_keys 64 5 1 := ⟨"KeyScannerModel", RX5, TX5, 30, inX5, rfl, by decide, List.mem_of_getElem? (i := 2) rfl, rfl⟩
  refine x_at (ws' := [(h0, .inr (5, [.int (nI R), .int (nI C), .int (bI dio), .int (bI bk), .int (bI lt), .int sl, .int (nI V), .int ru, .int (bI sus), .int (bI sos), .int (nI T), .ref d1, .ref d2, .ref d3, .ref d4, .ref d5, .ref d6, .ref d7, .ref d8, .ref d9, .ref d10, .int (nI mk), .ref d11, .int sk, .int rf, .int tk, .int (nI fr), .int (nI fc), .ref d12, .ref d13])), (d1, .inl (cI, 64, .inl (xN pos))), (d2, .inl (cI, 64, .inl ph)), (d3, .inl (cI, 64, .inl bg)), (d4, .inl (cZ, 64, .inl (xB fs))), (d5, .inl (cZ, 64, .inl (xB gs))), (d6, .inl (cI, 8, .inl st)), (d7, .inl (cI, 8, .inl kk)), (d8, .inl (cI, 8, .inl ve)), (d9, .inl (cI, 8, .inl si)), (d10, .inl (cZ, 8, .inl (xB ca))), (d11, .inl (cI, 48, .inl lg)), (d12, .inl (cI, 64, .inl op)), (d13, .inl (cI, 64, .inl ob))]) (st' := []) rfl rfl ?_
  refine x_lv [(0, .ref h0)] [0] rfl ?_
  refine x_aload_n hE 0 rfl dX5_keys_0 ?_
  refine x_get hE g61 0 rfl rfl dX5_keys_1 ?_
  refine x_aload_n hE 0 rfl dX5_keys_4 ?_
  refine x_get hE g64 0 rfl rfl dX5_keys_5 ?_
  refine x_imul hE (nI (R * C)) (xI_mul _ _) dX5_keys_8 ?_
  exact x_iret hE hr (⟨rfl, rfl⟩) dX5_keys_9
set_option maxHeartbeats 4000000 in
set_option maxRecDepth 100000 in
theorem kX5_enter (l : Launch) (D : va_G) (cI cZ : ClassId) (h0 : Nat) (d1 : Nat) (d2 : Nat) (d3 : Nat) (d4 : Nat) (d5 : Nat) (d6 : Nat) (d7 : Nat) (d8 : Nat) (d9 : Nat) (d10 : Nat) (d11 : Nat) (d12 : Nat) (d13 : Nat) (R : Nat) (C : Nat) (dio : Bool) (bk : Bool) (lt : Bool) (sl : Int32) (V : Nat) (ru : Int32) (sus : Bool) (sos : Bool) (T : Nat) (pos : Nat → Nat) (ph : Nat → Int32) (bg : Nat → Int32) (fs : Nat → Bool) (gs : Nat → Bool) (st : Nat → Int32) (kk : Nat → Int32) (ve : Nat → Int32) (si : Nat → Int32) (ca : Nat → Bool) (mk : Nat) (lg : Nat → Int32) (sk : Int32) (rf : Int32) (tk : Int32) (fr : Nat) (fc : Nat) (op : Nat → Int32) (ob : Nat → Int32) (kd : Int32) (ky : Int32)  : xC l yX5_enter wsX5_enter 0 0 0 0 D cI cZ [.ref h0, .int kd, .int ky] [(h0, .inr (5, [.int (nI R), .int (nI C), .int (bI dio), .int (bI bk), .int (bI lt), .int sl, .int (nI V), .int ru, .int (bI sus), .int (bI sos), .int (nI T), .ref d1, .ref d2, .ref d3, .ref d4, .ref d5, .ref d6, .ref d7, .ref d8, .ref d9, .ref d10, .int (nI mk), .ref d11, .int sk, .int rf, .int tk, .int (nI fr), .int (nI fc), .ref d12, .ref d13])), (d1, .inl (cI, 64, .inl (xN pos))), (d2, .inl (cI, 64, .inl ph)), (d3, .inl (cI, 64, .inl bg)), (d4, .inl (cZ, 64, .inl (xB fs))), (d5, .inl (cZ, 64, .inl (xB gs))), (d6, .inl (cI, 8, .inl st)), (d7, .inl (cI, 8, .inl kk)), (d8, .inl (cI, 8, .inl ve)), (d9, .inl (cI, 8, .inl si)), (d10, .inl (cZ, 8, .inl (xB ca))), (d11, .inl (cI, 48, .inl lg)), (d12, .inl (cI, 64, .inl op)), (d13, .inl (cI, 64, .inl ob))] (fun v8 w8 => v8 = none ∧ w8 = [(h0, .inr (5, [.int (nI R), .int (nI C), .int (bI dio), .int (bI bk), .int (bI lt), .int sl, .int (nI V), .int ru, .int (bI sus), .int (bI sos), .int (nI T), .ref d1, .ref d2, .ref d3, .ref d4, .ref d5, .ref d6, .ref d7, .ref d8, .ref d9, .ref d10, .int (nI (mk + 1)), .ref d11, .int sk, .int rf, .int tk, .int (nI fr), .int (nI fc), .ref d12, .ref d13])), (d1, .inl (cI, 64, .inl (xN pos))), (d2, .inl (cI, 64, .inl ph)), (d3, .inl (cI, 64, .inl bg)), (d4, .inl (cZ, 64, .inl (xB fs))), (d5, .inl (cZ, 64, .inl (xB gs))), (d6, .inl (cI, 8, .inl st)), (d7, .inl (cI, 8, .inl kk)), (d8, .inl (cI, 8, .inl ve)), (d9, .inl (cI, 8, .inl si)), (d10, .inl (cZ, 8, .inl (xB ca))), (d11, .inl (cI, 48, .inl (entL (nI T) kd ky lg))), (d12, .inl (cI, 64, .inl op)), (d13, .inl (cI, 64, .inl ob))]) := by
  refine xC.of (bytes := cX5_enter) (maxL := 4) (ret := none) (own := RX5) (by decide +kernel) rfl (Nat.le_of_ble_eq_true rfl) rfl ?_
  intro p9 e9 s9 m9 args9 below9 meth9 cd9 A hE hr hin2 hA9
  have inX5 : ∀ w ∈ wsX50, w ∈ wsX5_enter := fun w h => List.mem_cons_of_mem _ (List.mem_append_right _ h)
  have g48 : xF RX5 wsX5_enter 48 5 22 := ⟨"KeyScannerModel", RX5, TX5, 30, inX5, rfl, by decide, List.mem_of_getElem? (i := 1) rfl, rfl⟩
  have g74 : xF RX5 wsX5_enter 74 5 10 := ⟨"KeyScannerModel", RX5, TX5, 30, inX5, rfl, by decide, List.mem_of_getElem? (i := 2) rfl, rfl⟩
  have g77 : xF RX5 wsX5_enter 77 5 21 := ⟨"KeyScannerModel", RX5, TX5, 30, inX5, rfl, by decide, List.mem_of_getElem? (i := 3) rfl, rfl⟩
  have p77 : xP RX5 wsX5_enter 77 5 21 false .int := ⟨"KeyScannerModel", RX5, TX5, 30, tyX5, inX5, rfl, by decide, List.mem_of_getElem? (i := 3) rfl, rfl, tyX5_ok, nmX5, rfl, by decide +kernel, fun h => by cases h⟩
  refine x_at (ws' := [(h0, .inr (5, [.int (nI R), .int (nI C), .int (bI dio), .int (bI bk), .int (bI lt), .int sl, .int (nI V), .int ru, .int (bI sus), .int (bI sos), .int (nI T), .ref d1, .ref d2, .ref d3, .ref d4, .ref d5, .ref d6, .ref d7, .ref d8, .ref d9, .ref d10, .int (nI mk), .ref d11, .int sk, .int rf, .int tk, .int (nI fr), .int (nI fc), .ref d12, .ref d13])), (d1, .inl (cI, 64, .inl (xN pos))), (d2, .inl (cI, 64, .inl ph)), (d3, .inl (cI, 64, .inl bg)), (d4, .inl (cZ, 64, .inl (xB fs))), (d5, .inl (cZ, 64, .inl (xB gs))), (d6, .inl (cI, 8, .inl st)), (d7, .inl (cI, 8, .inl kk)), (d8, .inl (cI, 8, .inl ve)), (d9, .inl (cI, 8, .inl si)), (d10, .inl (cZ, 8, .inl (xB ca))), (d11, .inl (cI, 48, .inl lg)), (d12, .inl (cI, 64, .inl op)), (d13, .inl (cI, 64, .inl ob))]) (st' := []) rfl rfl ?_
  refine x_lv [(0, .ref h0), (1, .int kd), (2, .int ky)] [0, 1, 2] rfl ?_
  have lp3 : ∀ (n : Nat) (i : Nat) (lx : Nat → Int32) (hi : i = n + 2) (hi8 : i < 48) (hl : lx = shL lg i), X p9 l e9 { frames := 0, cells := 0, slots := 0, locals := 0 } s9 m9 args9 below9 meth9 cd9 0 0 (MQ below9 (xQ D (fun v8 w8 => v8 = none ∧ w8 = [(h0, .inr (5, [.int (nI R), .int (nI C), .int (bI dio), .int (bI bk), .int (bI lt), .int sl, .int (nI V), .int ru, .int (bI sus), .int (bI sos), .int (nI T), .ref d1, .ref d2, .ref d3, .ref d4, .ref d5, .ref d6, .ref d7, .ref d8, .ref d9, .ref d10, .int (nI (mk + 1)), .ref d11, .int sk, .int rf, .int tk, .int (nI fr), .int (nI fc), .ref d12, .ref d13])), (d1, .inl (cI, 64, .inl (xN pos))), (d2, .inl (cI, 64, .inl ph)), (d3, .inl (cI, 64, .inl bg)), (d4, .inl (cZ, 64, .inl (xB fs))), (d5, .inl (cZ, 64, .inl (xB gs))), (d6, .inl (cI, 8, .inl st)), (d7, .inl (cI, 8, .inl kk)), (d8, .inl (cI, 8, .inl ve)), (d9, .inl (cI, 8, .inl si)), (d10, .inl (cZ, 8, .inl (xB ca))), (d11, .inl (cI, 48, .inl (entL (nI T) kd ky lg))), (d12, .inl (cI, 64, .inl op)), (d13, .inl (cI, 64, .inl ob))]) A) args9 s9 0 0 A) 4 D A [(h0, .inr (5, [.int (nI R), .int (nI C), .int (bI dio), .int (bI bk), .int (bI lt), .int sl, .int (nI V), .int ru, .int (bI sus), .int (bI sos), .int (nI T), .ref d1, .ref d2, .ref d3, .ref d4, .ref d5, .ref d6, .ref d7, .ref d8, .ref d9, .ref d10, .int (nI mk), .ref d11, .int sk, .int rf, .int tk, .int (nI fr), .int (nI fc), .ref d12, .ref d13])), (d1, .inl (cI, 64, .inl (xN pos))), (d2, .inl (cI, 64, .inl ph)), (d3, .inl (cI, 64, .inl bg)), (d4, .inl (cZ, 64, .inl (xB fs))), (d5, .inl (cZ, 64, .inl (xB gs))), (d6, .inl (cI, 8, .inl st)), (d7, .inl (cI, 8, .inl kk)), (d8, .inl (cI, 8, .inl ve)), (d9, .inl (cI, 8, .inl si)), (d10, .inl (cZ, 8, .inl (xB ca))), (d11, .inl (cI, 48, .inl lx)), (d12, .inl (cI, 64, .inl op)), (d13, .inl (cI, 64, .inl ob))] [(0, .ref h0), (1, .int kd), (2, .int ky), (3, .int (nI i))] 3 [] := by
    intro n
    induction n with
    | zero =>
      intro i lx hi hi8 hl
      refine x_iload_n hE 3 rfl dX5_enter_3 ?_
      refine x_iconst hE (nI 3) (by decide) dX5_enter_4 ?_
      refine xn_icmp_lt hE (by omega) (by omega) 28 (by decide) dX5_enter_5 (fun c5 => ?_) (fun c5 => ?_)
      · skip
        refine x_aload_n hE 0 rfl dX5_enter_28 ?_
        refine x_get hE g48 0 rfl rfl dX5_enter_29 ?_
        refine x_iconst hE (nI 0) (by decide) dX5_enter_32 ?_
        refine x_aload_n hE 0 rfl dX5_enter_33 ?_
        refine x_get hE g74 0 rfl rfl dX5_enter_34 ?_
        refine x_iast hE 0 (upd lx 0 (nI T)) (by omega) (by decide) rfl [(h0, .inr (5, [.int (nI R), .int (nI C), .int (bI dio), .int (bI bk), .int (bI lt), .int sl, .int (nI V), .int ru, .int (bI sus), .int (bI sos), .int (nI T), .ref d1, .ref d2, .ref d3, .ref d4, .ref d5, .ref d6, .ref d7, .ref d8, .ref d9, .ref d10, .int (nI mk), .ref d11, .int sk, .int rf, .int tk, .int (nI fr), .int (nI fc), .ref d12, .ref d13])), (d1, .inl (cI, 64, .inl (xN pos))), (d2, .inl (cI, 64, .inl ph)), (d3, .inl (cI, 64, .inl bg)), (d4, .inl (cZ, 64, .inl (xB fs))), (d5, .inl (cZ, 64, .inl (xB gs))), (d6, .inl (cI, 8, .inl st)), (d7, .inl (cI, 8, .inl kk)), (d8, .inl (cI, 8, .inl ve)), (d9, .inl (cI, 8, .inl si)), (d10, .inl (cZ, 8, .inl (xB ca))), (d11, .inl (cI, 48, .inl (upd lx 0 (nI T)))), (d12, .inl (cI, 64, .inl op)), (d13, .inl (cI, 64, .inl ob))] 11 rfl rfl dX5_enter_37 ?_
        refine x_aload_n hE 0 rfl dX5_enter_38 ?_
        refine x_get hE g48 0 rfl rfl dX5_enter_39 ?_
        refine x_iconst hE (nI 1) (by decide) dX5_enter_42 ?_
        refine x_iload_n hE 1 rfl dX5_enter_43 ?_
        refine x_iast hE 1 (upd (upd lx 0 (nI T)) 1 kd) (by omega) (by decide) rfl [(h0, .inr (5, [.int (nI R), .int (nI C), .int (bI dio), .int (bI bk), .int (bI lt), .int sl, .int (nI V), .int ru, .int (bI sus), .int (bI sos), .int (nI T), .ref d1, .ref d2, .ref d3, .ref d4, .ref d5, .ref d6, .ref d7, .ref d8, .ref d9, .ref d10, .int (nI mk), .ref d11, .int sk, .int rf, .int tk, .int (nI fr), .int (nI fc), .ref d12, .ref d13])), (d1, .inl (cI, 64, .inl (xN pos))), (d2, .inl (cI, 64, .inl ph)), (d3, .inl (cI, 64, .inl bg)), (d4, .inl (cZ, 64, .inl (xB fs))), (d5, .inl (cZ, 64, .inl (xB gs))), (d6, .inl (cI, 8, .inl st)), (d7, .inl (cI, 8, .inl kk)), (d8, .inl (cI, 8, .inl ve)), (d9, .inl (cI, 8, .inl si)), (d10, .inl (cZ, 8, .inl (xB ca))), (d11, .inl (cI, 48, .inl (upd (upd lx 0 (nI T)) 1 kd))), (d12, .inl (cI, 64, .inl op)), (d13, .inl (cI, 64, .inl ob))] 11 rfl rfl dX5_enter_44 ?_
        refine x_aload_n hE 0 rfl dX5_enter_45 ?_
        refine x_get hE g48 0 rfl rfl dX5_enter_46 ?_
        refine x_iconst hE (nI 2) (by decide) dX5_enter_49 ?_
        refine x_iload_n hE 2 rfl dX5_enter_50 ?_
        refine x_iast hE 2 (upd (upd (upd lx 0 (nI T)) 1 kd) 2 ky) (by omega) (by decide) rfl [(h0, .inr (5, [.int (nI R), .int (nI C), .int (bI dio), .int (bI bk), .int (bI lt), .int sl, .int (nI V), .int ru, .int (bI sus), .int (bI sos), .int (nI T), .ref d1, .ref d2, .ref d3, .ref d4, .ref d5, .ref d6, .ref d7, .ref d8, .ref d9, .ref d10, .int (nI mk), .ref d11, .int sk, .int rf, .int tk, .int (nI fr), .int (nI fc), .ref d12, .ref d13])), (d1, .inl (cI, 64, .inl (xN pos))), (d2, .inl (cI, 64, .inl ph)), (d3, .inl (cI, 64, .inl bg)), (d4, .inl (cZ, 64, .inl (xB fs))), (d5, .inl (cZ, 64, .inl (xB gs))), (d6, .inl (cI, 8, .inl st)), (d7, .inl (cI, 8, .inl kk)), (d8, .inl (cI, 8, .inl ve)), (d9, .inl (cI, 8, .inl si)), (d10, .inl (cZ, 8, .inl (xB ca))), (d11, .inl (cI, 48, .inl (upd (upd (upd lx 0 (nI T)) 1 kd) 2 ky))), (d12, .inl (cI, 64, .inl op)), (d13, .inl (cI, 64, .inl ob))] 11 rfl rfl dX5_enter_51 ?_
        refine x_aload_n hE 0 rfl dX5_enter_52 ?_
        refine x_dup hE rfl dX5_enter_53 ?_
        refine x_get hE g77 0 rfl rfl dX5_enter_54 ?_
        refine x_iconst hE (nI 1) (by decide) dX5_enter_57 ?_
        refine x_iadd hE (nI (mk + 1)) (nI_add _ _) dX5_enter_58 ?_
        refine x_put hE p77 [(h0, .inr (5, [.int (nI R), .int (nI C), .int (bI dio), .int (bI bk), .int (bI lt), .int sl, .int (nI V), .int ru, .int (bI sus), .int (bI sos), .int (nI T), .ref d1, .ref d2, .ref d3, .ref d4, .ref d5, .ref d6, .ref d7, .ref d8, .ref d9, .ref d10, .int (nI (mk + 1)), .ref d11, .int sk, .int rf, .int tk, .int (nI fr), .int (nI fc), .ref d12, .ref d13])), (d1, .inl (cI, 64, .inl (xN pos))), (d2, .inl (cI, 64, .inl ph)), (d3, .inl (cI, 64, .inl bg)), (d4, .inl (cZ, 64, .inl (xB fs))), (d5, .inl (cZ, 64, .inl (xB gs))), (d6, .inl (cI, 8, .inl st)), (d7, .inl (cI, 8, .inl kk)), (d8, .inl (cI, 8, .inl ve)), (d9, .inl (cI, 8, .inl si)), (d10, .inl (cZ, 8, .inl (xB ca))), (d11, .inl (cI, 48, .inl (upd (upd (upd lx 0 (nI T)) 1 kd) 2 ky))), (d12, .inl (cI, 64, .inl op)), (d13, .inl (cI, 64, .inl ob))] 0 rfl rfl rfl rfl (Nat.le_of_ble_eq_true rfl) dX5_enter_59 ?_
        exact x_vret hE hr (⟨rfl, by rw [hl, show i = 2 by omega]; rfl⟩) dX5_enter_62
      · skip
        exfalso; omega
    | succ n ih =>
      intro i lx hi hi8 hl
      refine x_iload_n hE 3 rfl dX5_enter_3 ?_
      refine x_iconst hE (nI 3) (by decide) dX5_enter_4 ?_
      refine xn_icmp_lt hE (by omega) (by omega) 28 (by decide) dX5_enter_5 (fun c5 => ?_) (fun c5 => ?_)
      · skip
        exfalso; omega
      · skip
        refine x_aload_n hE 0 rfl dX5_enter_8 ?_
        refine x_get hE g48 0 rfl rfl dX5_enter_9 ?_
        refine x_iload_n hE 3 rfl dX5_enter_12 ?_
        refine x_aload_n hE 0 rfl dX5_enter_13 ?_
        refine x_get hE g48 0 rfl rfl dX5_enter_14 ?_
        refine x_iload_n hE 3 rfl dX5_enter_17 ?_
        refine x_iconst hE (nI 3) (by decide) dX5_enter_18 ?_
        refine x_isub hE (nI (i - 3)) (xI_sub (by omega)) dX5_enter_19 ?_
        refine x_iald hE (i - 3) (lx (i - 3)) (by omega) (by decide) rfl 11 rfl dX5_enter_20 ?_
        refine x_iast hE i (upd lx i (lx (i - 3))) (by omega) (by decide) rfl [(h0, .inr (5, [.int (nI R), .int (nI C), .int (bI dio), .int (bI bk), .int (bI lt), .int sl, .int (nI V), .int ru, .int (bI sus), .int (bI sos), .int (nI T), .ref d1, .ref d2, .ref d3, .ref d4, .ref d5, .ref d6, .ref d7, .ref d8, .ref d9, .ref d10, .int (nI mk), .ref d11, .int sk, .int rf, .int tk, .int (nI fr), .int (nI fc), .ref d12, .ref d13])), (d1, .inl (cI, 64, .inl (xN pos))), (d2, .inl (cI, 64, .inl ph)), (d3, .inl (cI, 64, .inl bg)), (d4, .inl (cZ, 64, .inl (xB fs))), (d5, .inl (cZ, 64, .inl (xB gs))), (d6, .inl (cI, 8, .inl st)), (d7, .inl (cI, 8, .inl kk)), (d8, .inl (cI, 8, .inl ve)), (d9, .inl (cI, 8, .inl si)), (d10, .inl (cZ, 8, .inl (xB ca))), (d11, .inl (cI, 48, .inl (upd lx i (lx (i - 3))))), (d12, .inl (cI, 64, .inl op)), (d13, .inl (cI, 64, .inl ob))] 11 rfl rfl dX5_enter_21 ?_
        refine x_iinc hE (nI (i - 1)) [(3, .int (nI (i - 1))), (0, .ref h0), (1, .int kd), (2, .int ky)] 3 rfl (xI_dec (n := 1) (by omega)) (by decide) rfl dX5_enter_22 ?_
        refine x_goto hE 3 (by decide) dX5_enter_25 ?_
        refine x_lv [(0, .ref h0), (1, .int kd), (2, .int ky), (3, .int (nI (i - 1)))] [1, 2, 3, 0] rfl ?_
        exact ih (i - 1) (upd lx i (lx (i - 3))) (by omega) (by omega) (by rw [hl]; exact shL_step lg (by omega) hi8)
  refine x_bipush hE (nI 47) (by decide) dX5_enter_0 ?_
  refine x_istore_n hE [(3, .int (nI 47)), (0, .ref h0), (1, .int kd), (2, .int ky)] (by decide) rfl dX5_enter_2 ?_
  refine x_lv [(0, .ref h0), (1, .int kd), (2, .int ky), (3, .int (nI 47))] [1, 2, 3, 0] rfl ?_
  exact lp3 45 47 lg (rfl) (by decide) (by rw [shL_47])
set_option maxHeartbeats 4000000 in
set_option maxRecDepth 100000 in
theorem kX5_frees (l : Launch) (D : va_G) (cI cZ : ClassId) (h0 : Nat) (d1 : Nat) (d2 : Nat) (d3 : Nat) (d4 : Nat) (d5 : Nat) (d6 : Nat) (d7 : Nat) (d8 : Nat) (d9 : Nat) (d10 : Nat) (d11 : Nat) (d12 : Nat) (d13 : Nat) (R : Nat) (C : Nat) (dio : Bool) (bk : Bool) (lt : Bool) (sl : Int32) (V : Nat) (ru : Int32) (sus : Bool) (sos : Bool) (T : Nat) (pos : Nat → Nat) (ph : Nat → Int32) (bg : Nat → Int32) (fs : Nat → Bool) (gs : Nat → Bool) (st : Nat → Int32) (kk : Nat → Int32) (ve : Nat → Int32) (si : Nat → Int32) (ca : Nat → Bool) (mk : Nat) (lg : Nat → Int32) (sk : Int32) (rf : Int32) (tk : Int32) (fr : Nat) (fc : Nat) (op : Nat → Int32) (ob : Nat → Int32) (v : Nat) (hv8 : v < 8) : xC l yX5_frees wsX5_frees 1 0 0 23 D cI cZ [.ref h0, .int (nI v)] [(h0, .inr (5, [.int (nI R), .int (nI C), .int (bI dio), .int (bI bk), .int (bI lt), .int sl, .int (nI V), .int ru, .int (bI sus), .int (bI sos), .int (nI T), .ref d1, .ref d2, .ref d3, .ref d4, .ref d5, .ref d6, .ref d7, .ref d8, .ref d9, .ref d10, .int (nI mk), .ref d11, .int sk, .int rf, .int tk, .int (nI fr), .int (nI fc), .ref d12, .ref d13])), (d1, .inl (cI, 64, .inl (xN pos))), (d2, .inl (cI, 64, .inl ph)), (d3, .inl (cI, 64, .inl bg)), (d4, .inl (cZ, 64, .inl (xB fs))), (d5, .inl (cZ, 64, .inl (xB gs))), (d6, .inl (cI, 8, .inl st)), (d7, .inl (cI, 8, .inl kk)), (d8, .inl (cI, 8, .inl ve)), (d9, .inl (cI, 8, .inl si)), (d10, .inl (cZ, 8, .inl (xB ca))), (d11, .inl (cI, 48, .inl lg)), (d12, .inl (cI, 64, .inl op)), (d13, .inl (cI, 64, .inl ob))] (fun v8 w8 => v8 = some (.int (nI (if st v = nI 0 then 0 else 1))) ∧ w8 = [(h0, .inr (5, [.int (nI R), .int (nI C), .int (bI dio), .int (bI bk), .int (bI lt), .int sl, .int (nI V), .int ru, .int (bI sus), .int (bI sos), .int (nI T), .ref d1, .ref d2, .ref d3, .ref d4, .ref d5, .ref d6, .ref d7, .ref d8, .ref d9, .ref d10, .int (nI ((limM kk T v (st, ca, lg, mk)).2.2.2)), .ref d11, .int sk, .int rf, .int tk, .int (nI fr), .int (nI fc), .ref d12, .ref d13])), (d1, .inl (cI, 64, .inl (xN pos))), (d2, .inl (cI, 64, .inl ph)), (d3, .inl (cI, 64, .inl bg)), (d4, .inl (cZ, 64, .inl (xB fs))), (d5, .inl (cZ, 64, .inl (xB gs))), (d6, .inl (cI, 8, .inl ((limM kk T v (st, ca, lg, mk)).1))), (d7, .inl (cI, 8, .inl kk)), (d8, .inl (cI, 8, .inl ve)), (d9, .inl (cI, 8, .inl si)), (d10, .inl (cZ, 8, .inl (xB ((limM kk T v (st, ca, lg, mk)).2.1)))), (d11, .inl (cI, 48, .inl ((limM kk T v (st, ca, lg, mk)).2.2.1))), (d12, .inl (cI, 64, .inl op)), (d13, .inl (cI, 64, .inl ob))]) := by
  refine xC.of (bytes := cX5_frees) (maxL := 2) (ret := (some .int)) (own := RX5) (by decide +kernel) rfl (Nat.le_of_ble_eq_true rfl) rfl ?_
  intro p9 e9 s9 m9 args9 below9 meth9 cd9 A hE hr hin2 hA9
  have inX5 : ∀ w ∈ wsX50, w ∈ wsX5_frees := fun w h => List.mem_cons_of_mem _ (List.mem_append_right _ h)
  have g33 : xF RX5 wsX5_frees 33 5 16 := ⟨"KeyScannerModel", RX5, TX5, 30, inX5, rfl, by decide, List.mem_of_getElem? (i := 1) rfl, rfl⟩
  have g45 : xF RX5 wsX5_frees 45 5 20 := ⟨"KeyScannerModel", RX5, TX5, 30, inX5, rfl, by decide, List.mem_of_getElem? (i := 2) rfl, rfl⟩
  have g36 : xF RX5 wsX5_frees 36 5 17 := ⟨"KeyScannerModel", RX5, TX5, 30, inX5, rfl, by decide, List.mem_of_getElem? (i := 3) rfl, rfl⟩
  refine x_at (ws' := [(h0, .inr (5, [.int (nI R), .int (nI C), .int (bI dio), .int (bI bk), .int (bI lt), .int sl, .int (nI V), .int ru, .int (bI sus), .int (bI sos), .int (nI T), .ref d1, .ref d2, .ref d3, .ref d4, .ref d5, .ref d6, .ref d7, .ref d8, .ref d9, .ref d10, .int (nI mk), .ref d11, .int sk, .int rf, .int tk, .int (nI fr), .int (nI fc), .ref d12, .ref d13])), (d1, .inl (cI, 64, .inl (xN pos))), (d2, .inl (cI, 64, .inl ph)), (d3, .inl (cI, 64, .inl bg)), (d4, .inl (cZ, 64, .inl (xB fs))), (d5, .inl (cZ, 64, .inl (xB gs))), (d6, .inl (cI, 8, .inl st)), (d7, .inl (cI, 8, .inl kk)), (d8, .inl (cI, 8, .inl ve)), (d9, .inl (cI, 8, .inl si)), (d10, .inl (cZ, 8, .inl (xB ca))), (d11, .inl (cI, 48, .inl lg)), (d12, .inl (cI, 64, .inl op)), (d13, .inl (cI, 64, .inl ob))]) (st' := []) rfl rfl ?_
  refine x_lv [(0, .ref h0), (1, .int (nI v))] [0, 1] rfl ?_
  refine x_aload_n hE 0 rfl dX5_frees_0 ?_
  refine x_get hE g33 0 rfl rfl dX5_frees_1 ?_
  refine x_iload_n hE 1 rfl dX5_frees_4 ?_
  refine x_iald hE v (st v) (by omega) (by decide) rfl 6 rfl dX5_frees_5 ?_
  refine x_if_ne hE 11 (by decide) dX5_frees_6 (fun c6 => ?_) (fun c6 => ?_)
  · skip
    refine x_aload_n hE 0 rfl dX5_frees_11 ?_
    refine x_get hE g33 0 rfl rfl dX5_frees_12 ?_
    refine x_iload_n hE 1 rfl dX5_frees_15 ?_
    refine x_iconst hE (nI 0) (by decide) dX5_frees_16 ?_
    refine x_iast hE v (upd st v (nI 0)) (by omega) (by decide) rfl [(h0, .inr (5, [.int (nI R), .int (nI C), .int (bI dio), .int (bI bk), .int (bI lt), .int sl, .int (nI V), .int ru, .int (bI sus), .int (bI sos), .int (nI T), .ref d1, .ref d2, .ref d3, .ref d4, .ref d5, .ref d6, .ref d7, .ref d8, .ref d9, .ref d10, .int (nI mk), .ref d11, .int sk, .int rf, .int tk, .int (nI fr), .int (nI fc), .ref d12, .ref d13])), (d1, .inl (cI, 64, .inl (xN pos))), (d2, .inl (cI, 64, .inl ph)), (d3, .inl (cI, 64, .inl bg)), (d4, .inl (cZ, 64, .inl (xB fs))), (d5, .inl (cZ, 64, .inl (xB gs))), (d6, .inl (cI, 8, .inl (upd st v (nI 0)))), (d7, .inl (cI, 8, .inl kk)), (d8, .inl (cI, 8, .inl ve)), (d9, .inl (cI, 8, .inl si)), (d10, .inl (cZ, 8, .inl (xB ca))), (d11, .inl (cI, 48, .inl lg)), (d12, .inl (cI, 64, .inl op)), (d13, .inl (cI, 64, .inl ob))] 6 rfl rfl dX5_frees_17 ?_
    refine x_aload_n hE 0 rfl dX5_frees_18 ?_
    refine x_get hE g45 0 rfl rfl dX5_frees_19 ?_
    refine x_iload_n hE 1 rfl dX5_frees_22 ?_
    refine x_iconst hE (nI 0) (by decide) dX5_frees_23 ?_
    refine x_eq (bI false) rfl ?_
    refine x_zast hE v (updB ca v false) (by omega) (by decide) rfl [(h0, .inr (5, [.int (nI R), .int (nI C), .int (bI dio), .int (bI bk), .int (bI lt), .int sl, .int (nI V), .int ru, .int (bI sus), .int (bI sos), .int (nI T), .ref d1, .ref d2, .ref d3, .ref d4, .ref d5, .ref d6, .ref d7, .ref d8, .ref d9, .ref d10, .int (nI mk), .ref d11, .int sk, .int rf, .int tk, .int (nI fr), .int (nI fc), .ref d12, .ref d13])), (d1, .inl (cI, 64, .inl (xN pos))), (d2, .inl (cI, 64, .inl ph)), (d3, .inl (cI, 64, .inl bg)), (d4, .inl (cZ, 64, .inl (xB fs))), (d5, .inl (cZ, 64, .inl (xB gs))), (d6, .inl (cI, 8, .inl (upd st v (nI 0)))), (d7, .inl (cI, 8, .inl kk)), (d8, .inl (cI, 8, .inl ve)), (d9, .inl (cI, 8, .inl si)), (d10, .inl (cZ, 8, .inl (xB (updB ca v false)))), (d11, .inl (cI, 48, .inl lg)), (d12, .inl (cI, 64, .inl op)), (d13, .inl (cI, 64, .inl ob))] 10 rfl rfl dX5_frees_24 ?_
    refine x_aload_n hE 0 rfl dX5_frees_25 ?_
    refine x_iconst hE (nI 2) (by decide) dX5_frees_26 ?_
    refine x_aload_n hE 0 rfl dX5_frees_27 ?_
    refine x_get hE g36 0 rfl rfl dX5_frees_28 ?_
    refine x_iload_n hE 1 rfl dX5_frees_31 ?_
    refine x_iald hE v (kk v) (by omega) (by decide) rfl 7 rfl dX5_frees_32 ?_
    refine x_callV (n := 2) (st := []) hE (kX5_enter l D cI cZ h0 d1 d2 d3 d4 d5 d6 d7 d8 d9 d10 d11 d12 d13 R C dio bk lt sl V ru sus sos T pos ph bg fs gs (upd st v (nI 0)) kk ve si (updB ca v false) mk lg sk rf tk fr fc op ob (nI 2) (kk v) ) gX5_frees_X5_enter rfl (by decide +kernel) ⟨by decide, by decide⟩ ⟨Nat.zero_le _, Nat.zero_le _⟩ rfl [0, 1, 2, 3, 4, 5, 6, 7, 8, 9, 10, 11, 12, 13] [] rfl (wr := []) rfl (by decide) (by decide) (by decide) 0 rfl rfl rfl rfl (Nat.le_of_ble_eq_true rfl) dX5_frees_33 (fun v9 w9 hT9 => ?_)
    obtain ⟨rfl, rfl⟩ := hT9
    refine x_at (ws' := [(h0, .inr (5, [.int (nI R), .int (nI C), .int (bI dio), .int (bI bk), .int (bI lt), .int sl, .int (nI V), .int ru, .int (bI sus), .int (bI sos), .int (nI T), .ref d1, .ref d2, .ref d3, .ref d4, .ref d5, .ref d6, .ref d7, .ref d8, .ref d9, .ref d10, .int (nI (mk + 1)), .ref d11, .int sk, .int rf, .int tk, .int (nI fr), .int (nI fc), .ref d12, .ref d13])), (d1, .inl (cI, 64, .inl (xN pos))), (d2, .inl (cI, 64, .inl ph)), (d3, .inl (cI, 64, .inl bg)), (d4, .inl (cZ, 64, .inl (xB fs))), (d5, .inl (cZ, 64, .inl (xB gs))), (d6, .inl (cI, 8, .inl (upd st v (nI 0)))), (d7, .inl (cI, 8, .inl kk)), (d8, .inl (cI, 8, .inl ve)), (d9, .inl (cI, 8, .inl si)), (d10, .inl (cZ, 8, .inl (xB (updB ca v false)))), (d11, .inl (cI, 48, .inl (entL (nI T) (nI 2) (kk v) lg))), (d12, .inl (cI, 64, .inl op)), (d13, .inl (cI, 64, .inl ob))]) (st' := []) rfl rfl ?_
    refine x_iconst hE (nI 1) (by decide) dX5_frees_36 ?_
    exact x_iret hE hr (⟨by simp only [if_neg c6, reduceIte, Bool.false_eq_true, Bool.true_eq_false], by simp only [limM, freeM, if_neg c6, reduceIte, Bool.false_eq_true, Bool.true_eq_false]⟩) dX5_frees_37
  · skip
    refine x_iconst hE (nI 0) (by decide) dX5_frees_9 ?_
    exact x_iret hE hr (⟨by simp only [if_pos c6, reduceIte, Bool.false_eq_true, Bool.true_eq_false], by simp only [limM, freeM, if_pos c6, reduceIte, Bool.false_eq_true, Bool.true_eq_false]⟩) dX5_frees_10
set_option maxHeartbeats 4000000 in
set_option maxRecDepth 100000 in
theorem kX5_voiceOf (l : Launch) (D : va_G) (cI cZ : ClassId) (h0 : Nat) (d1 : Nat) (d2 : Nat) (d3 : Nat) (d4 : Nat) (d5 : Nat) (d6 : Nat) (d7 : Nat) (d8 : Nat) (d9 : Nat) (d10 : Nat) (d11 : Nat) (d12 : Nat) (d13 : Nat) (R : Nat) (C : Nat) (dio : Bool) (bk : Bool) (lt : Bool) (sl : Int32) (V : Nat) (ru : Int32) (sus : Bool) (sos : Bool) (T : Nat) (pos : Nat → Nat) (ph : Nat → Int32) (bg : Nat → Int32) (fs : Nat → Bool) (gs : Nat → Bool) (st : Nat → Int32) (kk : Nat → Int32) (ve : Nat → Int32) (si : Nat → Int32) (ca : Nat → Bool) (mk : Nat) (lg : Nat → Int32) (sk : Int32) (rf : Int32) (tk : Int32) (fr : Nat) (fc : Nat) (op : Nat → Int32) (ob : Nat → Int32) (ky : Int32) (hV : 1 ≤ V ∧ V ≤ 8) : xC l yX5_voiceOf wsX5_voiceOf 0 0 0 0 D cI cZ [.ref h0, .int ky] [(h0, .inr (5, [.int (nI R), .int (nI C), .int (bI dio), .int (bI bk), .int (bI lt), .int sl, .int (nI V), .int ru, .int (bI sus), .int (bI sos), .int (nI T), .ref d1, .ref d2, .ref d3, .ref d4, .ref d5, .ref d6, .ref d7, .ref d8, .ref d9, .ref d10, .int (nI mk), .ref d11, .int sk, .int rf, .int tk, .int (nI fr), .int (nI fc), .ref d12, .ref d13])), (d1, .inl (cI, 64, .inl (xN pos))), (d2, .inl (cI, 64, .inl ph)), (d3, .inl (cI, 64, .inl bg)), (d4, .inl (cZ, 64, .inl (xB fs))), (d5, .inl (cZ, 64, .inl (xB gs))), (d6, .inl (cI, 8, .inl st)), (d7, .inl (cI, 8, .inl kk)), (d8, .inl (cI, 8, .inl ve)), (d9, .inl (cI, 8, .inl si)), (d10, .inl (cZ, 8, .inl (xB ca))), (d11, .inl (cI, 48, .inl lg)), (d12, .inl (cI, 64, .inl op)), (d13, .inl (cI, 64, .inl ob))] (fun v8 w8 => v8 = some (.int (rV (findN (wkP st kk ky) 0 V) V)) ∧ w8 = [(h0, .inr (5, [.int (nI R), .int (nI C), .int (bI dio), .int (bI bk), .int (bI lt), .int sl, .int (nI V), .int ru, .int (bI sus), .int (bI sos), .int (nI T), .ref d1, .ref d2, .ref d3, .ref d4, .ref d5, .ref d6, .ref d7, .ref d8, .ref d9, .ref d10, .int (nI mk), .ref d11, .int sk, .int rf, .int tk, .int (nI fr), .int (nI fc), .ref d12, .ref d13])), (d1, .inl (cI, 64, .inl (xN pos))), (d2, .inl (cI, 64, .inl ph)), (d3, .inl (cI, 64, .inl bg)), (d4, .inl (cZ, 64, .inl (xB fs))), (d5, .inl (cZ, 64, .inl (xB gs))), (d6, .inl (cI, 8, .inl st)), (d7, .inl (cI, 8, .inl kk)), (d8, .inl (cI, 8, .inl ve)), (d9, .inl (cI, 8, .inl si)), (d10, .inl (cZ, 8, .inl (xB ca))), (d11, .inl (cI, 48, .inl lg)), (d12, .inl (cI, 64, .inl op)), (d13, .inl (cI, 64, .inl ob))]) := by
  refine xC.of (bytes := cX5_voiceOf) (maxL := 3) (ret := (some .int)) (own := RX5) (by decide +kernel) rfl (Nat.le_of_ble_eq_true rfl) rfl ?_
  intro p9 e9 s9 m9 args9 below9 meth9 cd9 A hE hr hin2 hA9
  have inX5 : ∀ w ∈ wsX50, w ∈ wsX5_voiceOf := fun w h => List.mem_cons_of_mem _ (List.mem_append_right _ h)
  have g13 : xF RX5 wsX5_voiceOf 13 5 6 := ⟨"KeyScannerModel", RX5, TX5, 30, inX5, rfl, by decide, List.mem_of_getElem? (i := 1) rfl, rfl⟩
  have g33 : xF RX5 wsX5_voiceOf 33 5 16 := ⟨"KeyScannerModel", RX5, TX5, 30, inX5, rfl, by decide, List.mem_of_getElem? (i := 2) rfl, rfl⟩
  have g36 : xF RX5 wsX5_voiceOf 36 5 17 := ⟨"KeyScannerModel", RX5, TX5, 30, inX5, rfl, by decide, List.mem_of_getElem? (i := 3) rfl, rfl⟩
  refine x_at (ws' := [(h0, .inr (5, [.int (nI R), .int (nI C), .int (bI dio), .int (bI bk), .int (bI lt), .int sl, .int (nI V), .int ru, .int (bI sus), .int (bI sos), .int (nI T), .ref d1, .ref d2, .ref d3, .ref d4, .ref d5, .ref d6, .ref d7, .ref d8, .ref d9, .ref d10, .int (nI mk), .ref d11, .int sk, .int rf, .int tk, .int (nI fr), .int (nI fc), .ref d12, .ref d13])), (d1, .inl (cI, 64, .inl (xN pos))), (d2, .inl (cI, 64, .inl ph)), (d3, .inl (cI, 64, .inl bg)), (d4, .inl (cZ, 64, .inl (xB fs))), (d5, .inl (cZ, 64, .inl (xB gs))), (d6, .inl (cI, 8, .inl st)), (d7, .inl (cI, 8, .inl kk)), (d8, .inl (cI, 8, .inl ve)), (d9, .inl (cI, 8, .inl si)), (d10, .inl (cZ, 8, .inl (xB ca))), (d11, .inl (cI, 48, .inl lg)), (d12, .inl (cI, 64, .inl op)), (d13, .inl (cI, 64, .inl ob))]) (st' := []) rfl rfl ?_
  refine x_lv [(0, .ref h0), (1, .int ky)] [0, 1] rfl ?_
  have lp2 : ∀ (n : Nat) (i : Nat) (hi : i + n = V) (hT : findN (wkP st kk ky) i n = findN (wkP st kk ky) 0 V), X p9 l e9 { frames := 0, cells := 0, slots := 0, locals := 0 } s9 m9 args9 below9 meth9 cd9 0 0 (MQ below9 (xQ D (fun v8 w8 => v8 = some (.int (rV (findN (wkP st kk ky) 0 V) V)) ∧ w8 = [(h0, .inr (5, [.int (nI R), .int (nI C), .int (bI dio), .int (bI bk), .int (bI lt), .int sl, .int (nI V), .int ru, .int (bI sus), .int (bI sos), .int (nI T), .ref d1, .ref d2, .ref d3, .ref d4, .ref d5, .ref d6, .ref d7, .ref d8, .ref d9, .ref d10, .int (nI mk), .ref d11, .int sk, .int rf, .int tk, .int (nI fr), .int (nI fc), .ref d12, .ref d13])), (d1, .inl (cI, 64, .inl (xN pos))), (d2, .inl (cI, 64, .inl ph)), (d3, .inl (cI, 64, .inl bg)), (d4, .inl (cZ, 64, .inl (xB fs))), (d5, .inl (cZ, 64, .inl (xB gs))), (d6, .inl (cI, 8, .inl st)), (d7, .inl (cI, 8, .inl kk)), (d8, .inl (cI, 8, .inl ve)), (d9, .inl (cI, 8, .inl si)), (d10, .inl (cZ, 8, .inl (xB ca))), (d11, .inl (cI, 48, .inl lg)), (d12, .inl (cI, 64, .inl op)), (d13, .inl (cI, 64, .inl ob))]) A) args9 s9 0 0 A) 3 D A [(h0, .inr (5, [.int (nI R), .int (nI C), .int (bI dio), .int (bI bk), .int (bI lt), .int sl, .int (nI V), .int ru, .int (bI sus), .int (bI sos), .int (nI T), .ref d1, .ref d2, .ref d3, .ref d4, .ref d5, .ref d6, .ref d7, .ref d8, .ref d9, .ref d10, .int (nI mk), .ref d11, .int sk, .int rf, .int tk, .int (nI fr), .int (nI fc), .ref d12, .ref d13])), (d1, .inl (cI, 64, .inl (xN pos))), (d2, .inl (cI, 64, .inl ph)), (d3, .inl (cI, 64, .inl bg)), (d4, .inl (cZ, 64, .inl (xB fs))), (d5, .inl (cZ, 64, .inl (xB gs))), (d6, .inl (cI, 8, .inl st)), (d7, .inl (cI, 8, .inl kk)), (d8, .inl (cI, 8, .inl ve)), (d9, .inl (cI, 8, .inl si)), (d10, .inl (cZ, 8, .inl (xB ca))), (d11, .inl (cI, 48, .inl lg)), (d12, .inl (cI, 64, .inl op)), (d13, .inl (cI, 64, .inl ob))] [(0, .ref h0), (1, .int ky), (2, .int (nI i))] 2 [] := by
    intro n
    induction n with
    | zero =>
      intro i hi hT
      refine x_iload_n hE 2 rfl dX5_voiceOf_2 ?_
      refine x_aload_n hE 0 rfl dX5_voiceOf_3 ?_
      refine x_get hE g13 0 rfl rfl dX5_voiceOf_4 ?_
      refine xn_icmp_ge hE (by omega) (by omega) 37 (by decide) dX5_voiceOf_7 (fun c7 => ?_) (fun c7 => ?_)
      · skip
        refine x_bipush hE (-3) (by decide) dX5_voiceOf_37 ?_
        exact x_iret hE hr (⟨by rw [← show i = findN (wkP st kk ky) 0 V from hT, rV, if_neg (by omega)], rfl⟩) dX5_voiceOf_39
      · skip
        exfalso; omega
    | succ n ih =>
      intro i hi hT
      refine x_iload_n hE 2 rfl dX5_voiceOf_2 ?_
      refine x_aload_n hE 0 rfl dX5_voiceOf_3 ?_
      refine x_get hE g13 0 rfl rfl dX5_voiceOf_4 ?_
      refine xn_icmp_ge hE (by omega) (by omega) 37 (by decide) dX5_voiceOf_7 (fun c7 => ?_) (fun c7 => ?_)
      · skip
        exfalso; omega
      · skip
        refine x_aload_n hE 0 rfl dX5_voiceOf_10 ?_
        refine x_get hE g33 0 rfl rfl dX5_voiceOf_11 ?_
        refine x_iload_n hE 2 rfl dX5_voiceOf_14 ?_
        refine x_iald hE i (st i) (by omega) (by decide) rfl 6 rfl dX5_voiceOf_15 ?_
        refine x_if_eq hE 31 (by decide) dX5_voiceOf_16 (fun c16 => ?_) (fun c16 => ?_)
        · skip
          refine x_iinc hE (nI (i + 1)) [(2, .int (nI (i + 1))), (0, .ref h0), (1, .int ky)] 2 rfl (nI_add _ _) (by decide) rfl dX5_voiceOf_31 ?_
          refine x_goto hE 2 (by decide) dX5_voiceOf_34 ?_
          refine x_lv [(0, .ref h0), (1, .int ky), (2, .int (nI (i + 1)))] [1, 2, 0] rfl ?_
          exact ih (i + 1) (by omega) (by simpa only [lfor, lany, lfind, findN, wkP, if_pos c7, if_pos c16, reduceIte, Bool.false_eq_true, Bool.true_eq_false] using hT)
        · skip
          refine x_aload_n hE 0 rfl dX5_voiceOf_19 ?_
          refine x_get hE g36 0 rfl rfl dX5_voiceOf_20 ?_
          refine x_iload_n hE 2 rfl dX5_voiceOf_23 ?_
          refine x_iald hE i (kk i) (by omega) (by decide) rfl 7 rfl dX5_voiceOf_24 ?_
          refine x_iload_n hE 1 rfl dX5_voiceOf_25 ?_
          refine x_icmp_ne hE 31 (by decide) dX5_voiceOf_26 (fun c26 => ?_) (fun c26 => ?_)
          · skip
            refine x_iinc hE (nI (i + 1)) [(2, .int (nI (i + 1))), (0, .ref h0), (1, .int ky)] 2 rfl (nI_add _ _) (by decide) rfl dX5_voiceOf_31 ?_
            refine x_goto hE 2 (by decide) dX5_voiceOf_34 ?_
            refine x_lv [(0, .ref h0), (1, .int ky), (2, .int (nI (i + 1)))] [1, 2, 0] rfl ?_
            exact ih (i + 1) (by omega) (by simpa only [lfor, lany, lfind, findN, wkP, if_pos c7, if_neg c16, if_neg c26, reduceIte, Bool.false_eq_true, Bool.true_eq_false] using hT)
          · skip
            refine x_iload_n hE 2 rfl dX5_voiceOf_29 ?_
            exact x_iret hE hr (⟨by rw [← show i = findN (wkP st kk ky) 0 V from by simpa only [findN, wkP, if_pos c7, if_neg c16, if_pos c26, reduceIte, Bool.false_eq_true, Bool.true_eq_false] using hT, rV_some (by omega)], rfl⟩) dX5_voiceOf_30
  refine x_iconst hE (nI 0) (by decide) dX5_voiceOf_0 ?_
  refine x_istore_n hE [(2, .int (nI 0)), (0, .ref h0), (1, .int ky)] (by decide) rfl dX5_voiceOf_1 ?_
  refine x_lv [(0, .ref h0), (1, .int ky), (2, .int (nI 0))] [1, 2, 0] rfl ?_
  exact lp2 V 0 (Nat.zero_add _) (rfl)
set_option maxHeartbeats 4000000 in
set_option maxRecDepth 100000 in
theorem kX5_freeVoice (l : Launch) (D : va_G) (cI cZ : ClassId) (h0 : Nat) (d1 : Nat) (d2 : Nat) (d3 : Nat) (d4 : Nat) (d5 : Nat) (d6 : Nat) (d7 : Nat) (d8 : Nat) (d9 : Nat) (d10 : Nat) (d11 : Nat) (d12 : Nat) (d13 : Nat) (R : Nat) (C : Nat) (dio : Bool) (bk : Bool) (lt : Bool) (sl : Int32) (V : Nat) (ru : Int32) (sus : Bool) (sos : Bool) (T : Nat) (pos : Nat → Nat) (ph : Nat → Int32) (bg : Nat → Int32) (fs : Nat → Bool) (gs : Nat → Bool) (st : Nat → Int32) (kk : Nat → Int32) (ve : Nat → Int32) (si : Nat → Int32) (ca : Nat → Bool) (mk : Nat) (lg : Nat → Int32) (sk : Int32) (rf : Int32) (tk : Int32) (fr : Nat) (fc : Nat) (op : Nat → Int32) (ob : Nat → Int32) (hV : 1 ≤ V ∧ V ≤ 8) : xC l yX5_freeVoice wsX5_freeVoice 0 0 0 0 D cI cZ [.ref h0] [(h0, .inr (5, [.int (nI R), .int (nI C), .int (bI dio), .int (bI bk), .int (bI lt), .int sl, .int (nI V), .int ru, .int (bI sus), .int (bI sos), .int (nI T), .ref d1, .ref d2, .ref d3, .ref d4, .ref d5, .ref d6, .ref d7, .ref d8, .ref d9, .ref d10, .int (nI mk), .ref d11, .int sk, .int rf, .int tk, .int (nI fr), .int (nI fc), .ref d12, .ref d13])), (d1, .inl (cI, 64, .inl (xN pos))), (d2, .inl (cI, 64, .inl ph)), (d3, .inl (cI, 64, .inl bg)), (d4, .inl (cZ, 64, .inl (xB fs))), (d5, .inl (cZ, 64, .inl (xB gs))), (d6, .inl (cI, 8, .inl st)), (d7, .inl (cI, 8, .inl kk)), (d8, .inl (cI, 8, .inl ve)), (d9, .inl (cI, 8, .inl si)), (d10, .inl (cZ, 8, .inl (xB ca))), (d11, .inl (cI, 48, .inl lg)), (d12, .inl (cI, 64, .inl op)), (d13, .inl (cI, 64, .inl ob))] (fun v8 w8 => v8 = some (.int (rV (findN (ffP st) 0 V) V)) ∧ w8 = [(h0, .inr (5, [.int (nI R), .int (nI C), .int (bI dio), .int (bI bk), .int (bI lt), .int sl, .int (nI V), .int ru, .int (bI sus), .int (bI sos), .int (nI T), .ref d1, .ref d2, .ref d3, .ref d4, .ref d5, .ref d6, .ref d7, .ref d8, .ref d9, .ref d10, .int (nI mk), .ref d11, .int sk, .int rf, .int tk, .int (nI fr), .int (nI fc), .ref d12, .ref d13])), (d1, .inl (cI, 64, .inl (xN pos))), (d2, .inl (cI, 64, .inl ph)), (d3, .inl (cI, 64, .inl bg)), (d4, .inl (cZ, 64, .inl (xB fs))), (d5, .inl (cZ, 64, .inl (xB gs))), (d6, .inl (cI, 8, .inl st)), (d7, .inl (cI, 8, .inl kk)), (d8, .inl (cI, 8, .inl ve)), (d9, .inl (cI, 8, .inl si)), (d10, .inl (cZ, 8, .inl (xB ca))), (d11, .inl (cI, 48, .inl lg)), (d12, .inl (cI, 64, .inl op)), (d13, .inl (cI, 64, .inl ob))]) := by
  refine xC.of (bytes := cX5_freeVoice) (maxL := 2) (ret := (some .int)) (own := RX5) (by decide +kernel) rfl (Nat.le_of_ble_eq_true rfl) rfl ?_
  intro p9 e9 s9 m9 args9 below9 meth9 cd9 A hE hr hin2 hA9
  have inX5 : ∀ w ∈ wsX50, w ∈ wsX5_freeVoice := fun w h => List.mem_cons_of_mem _ (List.mem_append_right _ h)
  have g13 : xF RX5 wsX5_freeVoice 13 5 6 := ⟨"KeyScannerModel", RX5, TX5, 30, inX5, rfl, by decide, List.mem_of_getElem? (i := 1) rfl, rfl⟩
  have g33 : xF RX5 wsX5_freeVoice 33 5 16 := ⟨"KeyScannerModel", RX5, TX5, 30, inX5, rfl, by decide, List.mem_of_getElem? (i := 2) rfl, rfl⟩
  refine x_at (ws' := [(h0, .inr (5, [.int (nI R), .int (nI C), .int (bI dio), .int (bI bk), .int (bI lt), .int sl, .int (nI V), .int ru, .int (bI sus), .int (bI sos), .int (nI T), .ref d1, .ref d2, .ref d3, .ref d4, .ref d5, .ref d6, .ref d7, .ref d8, .ref d9, .ref d10, .int (nI mk), .ref d11, .int sk, .int rf, .int tk, .int (nI fr), .int (nI fc), .ref d12, .ref d13])), (d1, .inl (cI, 64, .inl (xN pos))), (d2, .inl (cI, 64, .inl ph)), (d3, .inl (cI, 64, .inl bg)), (d4, .inl (cZ, 64, .inl (xB fs))), (d5, .inl (cZ, 64, .inl (xB gs))), (d6, .inl (cI, 8, .inl st)), (d7, .inl (cI, 8, .inl kk)), (d8, .inl (cI, 8, .inl ve)), (d9, .inl (cI, 8, .inl si)), (d10, .inl (cZ, 8, .inl (xB ca))), (d11, .inl (cI, 48, .inl lg)), (d12, .inl (cI, 64, .inl op)), (d13, .inl (cI, 64, .inl ob))]) (st' := []) rfl rfl ?_
  refine x_lv [(0, .ref h0)] [0] rfl ?_
  have lp2 : ∀ (n : Nat) (i : Nat) (hi : i + n = V) (hT : findN (ffP st) i n = findN (ffP st) 0 V), X p9 l e9 { frames := 0, cells := 0, slots := 0, locals := 0 } s9 m9 args9 below9 meth9 cd9 0 0 (MQ below9 (xQ D (fun v8 w8 => v8 = some (.int (rV (findN (ffP st) 0 V) V)) ∧ w8 = [(h0, .inr (5, [.int (nI R), .int (nI C), .int (bI dio), .int (bI bk), .int (bI lt), .int sl, .int (nI V), .int ru, .int (bI sus), .int (bI sos), .int (nI T), .ref d1, .ref d2, .ref d3, .ref d4, .ref d5, .ref d6, .ref d7, .ref d8, .ref d9, .ref d10, .int (nI mk), .ref d11, .int sk, .int rf, .int tk, .int (nI fr), .int (nI fc), .ref d12, .ref d13])), (d1, .inl (cI, 64, .inl (xN pos))), (d2, .inl (cI, 64, .inl ph)), (d3, .inl (cI, 64, .inl bg)), (d4, .inl (cZ, 64, .inl (xB fs))), (d5, .inl (cZ, 64, .inl (xB gs))), (d6, .inl (cI, 8, .inl st)), (d7, .inl (cI, 8, .inl kk)), (d8, .inl (cI, 8, .inl ve)), (d9, .inl (cI, 8, .inl si)), (d10, .inl (cZ, 8, .inl (xB ca))), (d11, .inl (cI, 48, .inl lg)), (d12, .inl (cI, 64, .inl op)), (d13, .inl (cI, 64, .inl ob))]) A) args9 s9 0 0 A) 2 D A [(h0, .inr (5, [.int (nI R), .int (nI C), .int (bI dio), .int (bI bk), .int (bI lt), .int sl, .int (nI V), .int ru, .int (bI sus), .int (bI sos), .int (nI T), .ref d1, .ref d2, .ref d3, .ref d4, .ref d5, .ref d6, .ref d7, .ref d8, .ref d9, .ref d10, .int (nI mk), .ref d11, .int sk, .int rf, .int tk, .int (nI fr), .int (nI fc), .ref d12, .ref d13])), (d1, .inl (cI, 64, .inl (xN pos))), (d2, .inl (cI, 64, .inl ph)), (d3, .inl (cI, 64, .inl bg)), (d4, .inl (cZ, 64, .inl (xB fs))), (d5, .inl (cZ, 64, .inl (xB gs))), (d6, .inl (cI, 8, .inl st)), (d7, .inl (cI, 8, .inl kk)), (d8, .inl (cI, 8, .inl ve)), (d9, .inl (cI, 8, .inl si)), (d10, .inl (cZ, 8, .inl (xB ca))), (d11, .inl (cI, 48, .inl lg)), (d12, .inl (cI, 64, .inl op)), (d13, .inl (cI, 64, .inl ob))] [(0, .ref h0), (1, .int (nI i))] 2 [] := by
    intro n
    induction n with
    | zero =>
      intro i hi hT
      refine x_iload_n hE 1 rfl dX5_freeVoice_2 ?_
      refine x_aload_n hE 0 rfl dX5_freeVoice_3 ?_
      refine x_get hE g13 0 rfl rfl dX5_freeVoice_4 ?_
      refine xn_icmp_ge hE (by omega) (by omega) 27 (by decide) dX5_freeVoice_7 (fun c7 => ?_) (fun c7 => ?_)
      · skip
        refine x_bipush hE (-3) (by decide) dX5_freeVoice_27 ?_
        exact x_iret hE hr (⟨by rw [← show i = findN (ffP st) 0 V from hT, rV, if_neg (by omega)], rfl⟩) dX5_freeVoice_29
      · skip
        exfalso; omega
    | succ n ih =>
      intro i hi hT
      refine x_iload_n hE 1 rfl dX5_freeVoice_2 ?_
      refine x_aload_n hE 0 rfl dX5_freeVoice_3 ?_
      refine x_get hE g13 0 rfl rfl dX5_freeVoice_4 ?_
      refine xn_icmp_ge hE (by omega) (by omega) 27 (by decide) dX5_freeVoice_7 (fun c7 => ?_) (fun c7 => ?_)
      · skip
        exfalso; omega
      · skip
        refine x_aload_n hE 0 rfl dX5_freeVoice_10 ?_
        refine x_get hE g33 0 rfl rfl dX5_freeVoice_11 ?_
        refine x_iload_n hE 1 rfl dX5_freeVoice_14 ?_
        refine x_iald hE i (st i) (by omega) (by decide) rfl 6 rfl dX5_freeVoice_15 ?_
        refine x_if_ne hE 21 (by decide) dX5_freeVoice_16 (fun c16 => ?_) (fun c16 => ?_)
        · skip
          refine x_iinc hE (nI (i + 1)) [(1, .int (nI (i + 1))), (0, .ref h0)] 1 rfl (nI_add _ _) (by decide) rfl dX5_freeVoice_21 ?_
          refine x_goto hE 2 (by decide) dX5_freeVoice_24 ?_
          refine x_lv [(0, .ref h0), (1, .int (nI (i + 1)))] [1, 0] rfl ?_
          exact ih (i + 1) (by omega) (by simpa only [lfor, lany, lfind, findN, ffP, if_pos c7, if_neg c16, reduceIte, Bool.false_eq_true, Bool.true_eq_false] using hT)
        · skip
          refine x_iload_n hE 1 rfl dX5_freeVoice_19 ?_
          exact x_iret hE hr (⟨by rw [← show i = findN (ffP st) 0 V from by simpa only [findN, ffP, if_pos c7, if_pos c16, reduceIte, Bool.false_eq_true, Bool.true_eq_false] using hT, rV_some (by omega)], rfl⟩) dX5_freeVoice_20
  refine x_iconst hE (nI 0) (by decide) dX5_freeVoice_0 ?_
  refine x_istore_n hE [(1, .int (nI 0)), (0, .ref h0)] (by decide) rfl dX5_freeVoice_1 ?_
  refine x_lv [(0, .ref h0), (1, .int (nI 0))] [1, 0] rfl ?_
  exact lp2 V 0 (Nat.zero_add _) (rfl)
set_option maxHeartbeats 4000000 in
set_option maxRecDepth 100000 in
theorem kX5_isWeaker (l : Launch) (D : va_G) (cI cZ : ClassId) (h0 : Nat) (d1 : Nat) (d2 : Nat) (d3 : Nat) (d4 : Nat) (d5 : Nat) (d6 : Nat) (d7 : Nat) (d8 : Nat) (d9 : Nat) (d10 : Nat) (d11 : Nat) (d12 : Nat) (d13 : Nat) (R : Nat) (C : Nat) (dio : Bool) (bk : Bool) (lt : Bool) (sl : Int32) (V : Nat) (ru : Int32) (sus : Bool) (sos : Bool) (T : Nat) (pos : Nat → Nat) (ph : Nat → Int32) (bg : Nat → Int32) (fs : Nat → Bool) (gs : Nat → Bool) (st : Nat → Int32) (kk : Nat → Int32) (ve : Nat → Int32) (si : Nat → Int32) (ca : Nat → Bool) (mk : Nat) (lg : Nat → Int32) (sk : Int32) (rf : Int32) (tk : Int32) (fr : Nat) (fc : Nat) (op : Nat → Int32) (ob : Nat → Int32) (v : Nat) (o : Nat) (hv8 : v < 8) (ho8 : o < 8) : xC l yX5_isWeaker wsX5_isWeaker 0 0 0 0 D cI cZ [.ref h0, .int (nI v), .int (nI o)] [(h0, .inr (5, [.int (nI R), .int (nI C), .int (bI dio), .int (bI bk), .int (bI lt), .int sl, .int (nI V), .int ru, .int (bI sus), .int (bI sos), .int (nI T), .ref d1, .ref d2, .ref d3, .ref d4, .ref d5, .ref d6, .ref d7, .ref d8, .ref d9, .ref d10, .int (nI mk), .ref d11, .int sk, .int rf, .int tk, .int (nI fr), .int (nI fc), .ref d12, .ref d13])), (d1, .inl (cI, 64, .inl (xN pos))), (d2, .inl (cI, 64, .inl ph)), (d3, .inl (cI, 64, .inl bg)), (d4, .inl (cZ, 64, .inl (xB fs))), (d5, .inl (cZ, 64, .inl (xB gs))), (d6, .inl (cI, 8, .inl st)), (d7, .inl (cI, 8, .inl kk)), (d8, .inl (cI, 8, .inl ve)), (d9, .inl (cI, 8, .inl si)), (d10, .inl (cZ, 8, .inl (xB ca))), (d11, .inl (cI, 48, .inl lg)), (d12, .inl (cI, 64, .inl op)), (d13, .inl (cI, 64, .inl ob))] (fun v8 w8 => v8 = some (.int (bI (wkB ve si ru v o))) ∧ w8 = [(h0, .inr (5, [.int (nI R), .int (nI C), .int (bI dio), .int (bI bk), .int (bI lt), .int sl, .int (nI V), .int ru, .int (bI sus), .int (bI sos), .int (nI T), .ref d1, .ref d2, .ref d3, .ref d4, .ref d5, .ref d6, .ref d7, .ref d8, .ref d9, .ref d10, .int (nI mk), .ref d11, .int sk, .int rf, .int tk, .int (nI fr), .int (nI fc), .ref d12, .ref d13])), (d1, .inl (cI, 64, .inl (xN pos))), (d2, .inl (cI, 64, .inl ph)), (d3, .inl (cI, 64, .inl bg)), (d4, .inl (cZ, 64, .inl (xB fs))), (d5, .inl (cZ, 64, .inl (xB gs))), (d6, .inl (cI, 8, .inl st)), (d7, .inl (cI, 8, .inl kk)), (d8, .inl (cI, 8, .inl ve)), (d9, .inl (cI, 8, .inl si)), (d10, .inl (cZ, 8, .inl (xB ca))), (d11, .inl (cI, 48, .inl lg)), (d12, .inl (cI, 64, .inl op)), (d13, .inl (cI, 64, .inl ob))]) := by
  refine xC.of (bytes := cX5_isWeaker) (maxL := 3) (ret := (some .boolean)) (own := RX5) (by decide +kernel) rfl (Nat.le_of_ble_eq_true rfl) rfl ?_
  intro p9 e9 s9 m9 args9 below9 meth9 cd9 A hE hr hin2 hA9
  have inX5 : ∀ w ∈ wsX50, w ∈ wsX5_isWeaker := fun w h => List.mem_cons_of_mem _ (List.mem_append_right _ h)
  have g129 : xF RX5 wsX5_isWeaker 129 5 7 := ⟨"KeyScannerModel", RX5, TX5, 30, inX5, rfl, by decide, List.mem_of_getElem? (i := 1) rfl, rfl⟩
  have g42 : xF RX5 wsX5_isWeaker 42 5 19 := ⟨"KeyScannerModel", RX5, TX5, 30, inX5, rfl, by decide, List.mem_of_getElem? (i := 3) rfl, rfl⟩
  have g39 : xF RX5 wsX5_isWeaker 39 5 18 := ⟨"KeyScannerModel", RX5, TX5, 30, inX5, rfl, by decide, List.mem_of_getElem? (i := 2) rfl, rfl⟩
  refine x_at (ws' := [(h0, .inr (5, [.int (nI R), .int (nI C), .int (bI dio), .int (bI bk), .int (bI lt), .int sl, .int (nI V), .int ru, .int (bI sus), .int (bI sos), .int (nI T), .ref d1, .ref d2, .ref d3, .ref d4, .ref d5, .ref d6, .ref d7, .ref d8, .ref d9, .ref d10, .int (nI mk), .ref d11, .int sk, .int rf, .int tk, .int (nI fr), .int (nI fc), .ref d12, .ref d13])), (d1, .inl (cI, 64, .inl (xN pos))), (d2, .inl (cI, 64, .inl ph)), (d3, .inl (cI, 64, .inl bg)), (d4, .inl (cZ, 64, .inl (xB fs))), (d5, .inl (cZ, 64, .inl (xB gs))), (d6, .inl (cI, 8, .inl st)), (d7, .inl (cI, 8, .inl kk)), (d8, .inl (cI, 8, .inl ve)), (d9, .inl (cI, 8, .inl si)), (d10, .inl (cZ, 8, .inl (xB ca))), (d11, .inl (cI, 48, .inl lg)), (d12, .inl (cI, 64, .inl op)), (d13, .inl (cI, 64, .inl ob))]) (st' := []) rfl rfl ?_
  refine x_lv [(0, .ref h0), (1, .int (nI v)), (2, .int (nI o))] [0, 1, 2] rfl ?_
  refine x_aload_n hE 0 rfl dX5_isWeaker_0 ?_
  refine x_get hE g129 0 rfl rfl dX5_isWeaker_1 ?_
  refine x_iconst hE (nI 1) (by decide) dX5_isWeaker_4 ?_
  refine x_icmp_ne hE 44 (by decide) dX5_isWeaker_5 (fun c5 => ?_) (fun c5 => ?_)
  · skip
    refine x_aload_n hE 0 rfl dX5_isWeaker_44 ?_
    refine x_get hE g42 0 rfl rfl dX5_isWeaker_45 ?_
    refine x_iload_n hE 1 rfl dX5_isWeaker_48 ?_
    refine x_iald hE v (si v) (by omega) (by decide) rfl 9 rfl dX5_isWeaker_49 ?_
    refine x_aload_n hE 0 rfl dX5_isWeaker_50 ?_
    refine x_get hE g42 0 rfl rfl dX5_isWeaker_51 ?_
    refine x_iload_n hE 2 rfl dX5_isWeaker_54 ?_
    refine x_iald hE o (si o) (by omega) (by decide) rfl 9 rfl dX5_isWeaker_55 ?_
    refine x_icmp_ge hE 63 (by decide) dX5_isWeaker_56 (fun c56 => ?_) (fun c56 => ?_)
    · skip
      refine x_iconst hE (nI 0) (by decide) dX5_isWeaker_63 ?_
      refine x_eq (bI false) rfl ?_
      exact x_zret hE hr (⟨by simp only [wkB, if_neg c5, if_neg c56, reduceIte, Bool.false_eq_true, Bool.true_eq_false], rfl⟩) dX5_isWeaker_64
    · skip
      refine x_iconst hE (nI 1) (by decide) dX5_isWeaker_59 ?_
      refine x_goto hE 64 (by decide) dX5_isWeaker_60 ?_
      refine x_eq (bI true) rfl ?_
      exact x_zret hE hr (⟨by simp only [wkB, if_neg c5, if_pos c56, reduceIte, Bool.false_eq_true, Bool.true_eq_false], rfl⟩) dX5_isWeaker_64
  · skip
    refine x_aload_n hE 0 rfl dX5_isWeaker_8 ?_
    refine x_get hE g39 0 rfl rfl dX5_isWeaker_9 ?_
    refine x_iload_n hE 1 rfl dX5_isWeaker_12 ?_
    refine x_iald hE v (ve v) (by omega) (by decide) rfl 8 rfl dX5_isWeaker_13 ?_
    refine x_aload_n hE 0 rfl dX5_isWeaker_14 ?_
    refine x_get hE g39 0 rfl rfl dX5_isWeaker_15 ?_
    refine x_iload_n hE 2 rfl dX5_isWeaker_18 ?_
    refine x_iald hE o (ve o) (by omega) (by decide) rfl 8 rfl dX5_isWeaker_19 ?_
    refine x_icmp_eq hE 44 (by decide) dX5_isWeaker_20 (fun c20 => ?_) (fun c20 => ?_)
    · skip
      refine x_aload_n hE 0 rfl dX5_isWeaker_44 ?_
      refine x_get hE g42 0 rfl rfl dX5_isWeaker_45 ?_
      refine x_iload_n hE 1 rfl dX5_isWeaker_48 ?_
      refine x_iald hE v (si v) (by omega) (by decide) rfl 9 rfl dX5_isWeaker_49 ?_
      refine x_aload_n hE 0 rfl dX5_isWeaker_50 ?_
      refine x_get hE g42 0 rfl rfl dX5_isWeaker_51 ?_
      refine x_iload_n hE 2 rfl dX5_isWeaker_54 ?_
      refine x_iald hE o (si o) (by omega) (by decide) rfl 9 rfl dX5_isWeaker_55 ?_
      refine x_icmp_ge hE 63 (by decide) dX5_isWeaker_56 (fun c56 => ?_) (fun c56 => ?_)
      · skip
        refine x_iconst hE (nI 0) (by decide) dX5_isWeaker_63 ?_
        refine x_eq (bI false) rfl ?_
        exact x_zret hE hr (⟨by simp only [wkB, if_pos c5, if_pos c20, if_neg c56, reduceIte, Bool.false_eq_true, Bool.true_eq_false], rfl⟩) dX5_isWeaker_64
      · skip
        refine x_iconst hE (nI 1) (by decide) dX5_isWeaker_59 ?_
        refine x_goto hE 64 (by decide) dX5_isWeaker_60 ?_
        refine x_eq (bI true) rfl ?_
        exact x_zret hE hr (⟨by simp only [wkB, if_pos c5, if_pos c20, if_pos c56, reduceIte, Bool.false_eq_true, Bool.true_eq_false], rfl⟩) dX5_isWeaker_64
    · skip
      refine x_aload_n hE 0 rfl dX5_isWeaker_23 ?_
      refine x_get hE g39 0 rfl rfl dX5_isWeaker_24 ?_
      refine x_iload_n hE 1 rfl dX5_isWeaker_27 ?_
      refine x_iald hE v (ve v) (by omega) (by decide) rfl 8 rfl dX5_isWeaker_28 ?_
      refine x_aload_n hE 0 rfl dX5_isWeaker_29 ?_
      refine x_get hE g39 0 rfl rfl dX5_isWeaker_30 ?_
      refine x_iload_n hE 2 rfl dX5_isWeaker_33 ?_
      refine x_iald hE o (ve o) (by omega) (by decide) rfl 8 rfl dX5_isWeaker_34 ?_
      refine x_icmp_ge hE 42 (by decide) dX5_isWeaker_35 (fun c35 => ?_) (fun c35 => ?_)
      · skip
        refine x_iconst hE (nI 0) (by decide) dX5_isWeaker_42 ?_
        refine x_eq (bI false) rfl ?_
        exact x_zret hE hr (⟨by simp only [wkB, if_pos c5, if_neg c20, if_neg c35, reduceIte, Bool.false_eq_true, Bool.true_eq_false], rfl⟩) dX5_isWeaker_43
      · skip
        refine x_iconst hE (nI 1) (by decide) dX5_isWeaker_38 ?_
        refine x_goto hE 43 (by decide) dX5_isWeaker_39 ?_
        refine x_eq (bI true) rfl ?_
        exact x_zret hE hr (⟨by simp only [wkB, if_pos c5, if_neg c20, if_pos c35, reduceIte, Bool.false_eq_true, Bool.true_eq_false], rfl⟩) dX5_isWeaker_43
set_option maxHeartbeats 4000000 in
set_option maxRecDepth 100000 in
theorem kX5_weakest (l : Launch) (D : va_G) (cI cZ : ClassId) (h0 : Nat) (d1 : Nat) (d2 : Nat) (d3 : Nat) (d4 : Nat) (d5 : Nat) (d6 : Nat) (d7 : Nat) (d8 : Nat) (d9 : Nat) (d10 : Nat) (d11 : Nat) (d12 : Nat) (d13 : Nat) (R : Nat) (C : Nat) (dio : Bool) (bk : Bool) (lt : Bool) (sl : Int32) (V : Nat) (ru : Int32) (sus : Bool) (sos : Bool) (T : Nat) (pos : Nat → Nat) (ph : Nat → Int32) (bg : Nat → Int32) (fs : Nat → Bool) (gs : Nat → Bool) (st : Nat → Int32) (kk : Nat → Int32) (ve : Nat → Int32) (si : Nat → Int32) (ca : Nat → Bool) (mk : Nat) (lg : Nat → Int32) (sk : Int32) (rf : Int32) (tk : Int32) (fr : Nat) (fc : Nat) (op : Nat → Int32) (ob : Nat → Int32) (kp : Bool) (hV : 1 ≤ V ∧ V ≤ 8) : xC l yX5_weakest wsX5_weakest 1 0 0 22 D cI cZ [.ref h0, .int (bI kp)] [(h0, .inr (5, [.int (nI R), .int (nI C), .int (bI dio), .int (bI bk), .int (bI lt), .int sl, .int (nI V), .int ru, .int (bI sus), .int (bI sos), .int (nI T), .ref d1, .ref d2, .ref d3, .ref d4, .ref d5, .ref d6, .ref d7, .ref d8, .ref d9, .ref d10, .int (nI mk), .ref d11, .int sk, .int rf, .int tk, .int (nI fr), .int (nI fc), .ref d12, .ref d13])), (d1, .inl (cI, 64, .inl (xN pos))), (d2, .inl (cI, 64, .inl ph)), (d3, .inl (cI, 64, .inl bg)), (d4, .inl (cZ, 64, .inl (xB fs))), (d5, .inl (cZ, 64, .inl (xB gs))), (d6, .inl (cI, 8, .inl st)), (d7, .inl (cI, 8, .inl kk)), (d8, .inl (cI, 8, .inl ve)), (d9, .inl (cI, 8, .inl si)), (d10, .inl (cZ, 8, .inl (xB ca))), (d11, .inl (cI, 48, .inl lg)), (d12, .inl (cI, 64, .inl op)), (d13, .inl (cI, 64, .inl ob))] (fun v8 w8 => v8 = some (.int (rV (wkN kp st ve si ru V) V)) ∧ w8 = [(h0, .inr (5, [.int (nI R), .int (nI C), .int (bI dio), .int (bI bk), .int (bI lt), .int sl, .int (nI V), .int ru, .int (bI sus), .int (bI sos), .int (nI T), .ref d1, .ref d2, .ref d3, .ref d4, .ref d5, .ref d6, .ref d7, .ref d8, .ref d9, .ref d10, .int (nI mk), .ref d11, .int sk, .int rf, .int tk, .int (nI fr), .int (nI fc), .ref d12, .ref d13])), (d1, .inl (cI, 64, .inl (xN pos))), (d2, .inl (cI, 64, .inl ph)), (d3, .inl (cI, 64, .inl bg)), (d4, .inl (cZ, 64, .inl (xB fs))), (d5, .inl (cZ, 64, .inl (xB gs))), (d6, .inl (cI, 8, .inl st)), (d7, .inl (cI, 8, .inl kk)), (d8, .inl (cI, 8, .inl ve)), (d9, .inl (cI, 8, .inl si)), (d10, .inl (cZ, 8, .inl (xB ca))), (d11, .inl (cI, 48, .inl lg)), (d12, .inl (cI, 64, .inl op)), (d13, .inl (cI, 64, .inl ob))]) := by
  refine xC.of (bytes := cX5_weakest) (maxL := 4) (ret := (some .int)) (own := RX5) (by decide +kernel) rfl (Nat.le_of_ble_eq_true rfl) rfl ?_
  intro p9 e9 s9 m9 args9 below9 meth9 cd9 A hE hr hin2 hA9
  have inX5 : ∀ w ∈ wsX50, w ∈ wsX5_weakest := fun w h => List.mem_cons_of_mem _ (List.mem_append_right _ h)
  have g13 : xF RX5 wsX5_weakest 13 5 6 := ⟨"KeyScannerModel", RX5, TX5, 30, inX5, rfl, by decide, List.mem_of_getElem? (i := 1) rfl, rfl⟩
  have g33 : xF RX5 wsX5_weakest 33 5 16 := ⟨"KeyScannerModel", RX5, TX5, 30, inX5, rfl, by decide, List.mem_of_getElem? (i := 2) rfl, rfl⟩
  refine x_at (ws' := [(h0, .inr (5, [.int (nI R), .int (nI C), .int (bI dio), .int (bI bk), .int (bI lt), .int sl, .int (nI V), .int ru, .int (bI sus), .int (bI sos), .int (nI T), .ref d1, .ref d2, .ref d3, .ref d4, .ref d5, .ref d6, .ref d7, .ref d8, .ref d9, .ref d10, .int (nI mk), .ref d11, .int sk, .int rf, .int tk, .int (nI fr), .int (nI fc), .ref d12, .ref d13])), (d1, .inl (cI, 64, .inl (xN pos))), (d2, .inl (cI, 64, .inl ph)), (d3, .inl (cI, 64, .inl bg)), (d4, .inl (cZ, 64, .inl (xB fs))), (d5, .inl (cZ, 64, .inl (xB gs))), (d6, .inl (cI, 8, .inl st)), (d7, .inl (cI, 8, .inl kk)), (d8, .inl (cI, 8, .inl ve)), (d9, .inl (cI, 8, .inl si)), (d10, .inl (cZ, 8, .inl (xB ca))), (d11, .inl (cI, 48, .inl lg)), (d12, .inl (cI, 64, .inl op)), (d13, .inl (cI, 64, .inl ob))]) (st' := []) rfl rfl ?_
  refine x_lv [(0, .ref h0), (1, .int (bI kp))] [0, 1] rfl ?_
  have lp5 : ∀ (n : Nat) (i : Nat) (b : Nat) (hi : i + n = V) (hT : lfor (wkS kp st ve si ru V) i n b = wkN kp st ve si ru V), X p9 l e9 { frames := 1, cells := 0, slots := 0, locals := 22 } s9 m9 args9 below9 meth9 cd9 0 0 (MQ below9 (xQ D (fun v8 w8 => v8 = some (.int (rV (wkN kp st ve si ru V) V)) ∧ w8 = [(h0, .inr (5, [.int (nI R), .int (nI C), .int (bI dio), .int (bI bk), .int (bI lt), .int sl, .int (nI V), .int ru, .int (bI sus), .int (bI sos), .int (nI T), .ref d1, .ref d2, .ref d3, .ref d4, .ref d5, .ref d6, .ref d7, .ref d8, .ref d9, .ref d10, .int (nI mk), .ref d11, .int sk, .int rf, .int tk, .int (nI fr), .int (nI fc), .ref d12, .ref d13])), (d1, .inl (cI, 64, .inl (xN pos))), (d2, .inl (cI, 64, .inl ph)), (d3, .inl (cI, 64, .inl bg)), (d4, .inl (cZ, 64, .inl (xB fs))), (d5, .inl (cZ, 64, .inl (xB gs))), (d6, .inl (cI, 8, .inl st)), (d7, .inl (cI, 8, .inl kk)), (d8, .inl (cI, 8, .inl ve)), (d9, .inl (cI, 8, .inl si)), (d10, .inl (cZ, 8, .inl (xB ca))), (d11, .inl (cI, 48, .inl lg)), (d12, .inl (cI, 64, .inl op)), (d13, .inl (cI, 64, .inl ob))]) A) args9 s9 0 0 A) 4 D A [(h0, .inr (5, [.int (nI R), .int (nI C), .int (bI dio), .int (bI bk), .int (bI lt), .int sl, .int (nI V), .int ru, .int (bI sus), .int (bI sos), .int (nI T), .ref d1, .ref d2, .ref d3, .ref d4, .ref d5, .ref d6, .ref d7, .ref d8, .ref d9, .ref d10, .int (nI mk), .ref d11, .int sk, .int rf, .int tk, .int (nI fr), .int (nI fc), .ref d12, .ref d13])), (d1, .inl (cI, 64, .inl (xN pos))), (d2, .inl (cI, 64, .inl ph)), (d3, .inl (cI, 64, .inl bg)), (d4, .inl (cZ, 64, .inl (xB fs))), (d5, .inl (cZ, 64, .inl (xB gs))), (d6, .inl (cI, 8, .inl st)), (d7, .inl (cI, 8, .inl kk)), (d8, .inl (cI, 8, .inl ve)), (d9, .inl (cI, 8, .inl si)), (d10, .inl (cZ, 8, .inl (xB ca))), (d11, .inl (cI, 48, .inl lg)), (d12, .inl (cI, 64, .inl op)), (d13, .inl (cI, 64, .inl ob))] [(0, .ref h0), (1, .int (bI kp)), (2, .int (rV b V)), (3, .int (nI i))] 5 [] := by
    intro n
    induction n with
    | zero =>
      intro i b hi hT
      refine x_iload_n hE 3 rfl dX5_weakest_5 ?_
      refine x_aload_n hE 0 rfl dX5_weakest_6 ?_
      refine x_get hE g13 0 rfl rfl dX5_weakest_7 ?_
      refine xn_icmp_ge hE (by omega) (by omega) 52 (by decide) dX5_weakest_10 (fun c10 => ?_) (fun c10 => ?_)
      · skip
        refine x_iload_n hE 2 rfl dX5_weakest_52 ?_
        exact x_iret hE hr (⟨by rw [show b = wkN kp st ve si ru V from hT], rfl⟩) dX5_weakest_53
      · skip
        exfalso; omega
    | succ n ih =>
      intro i b hi hT
      refine x_iload_n hE 3 rfl dX5_weakest_5 ?_
      refine x_aload_n hE 0 rfl dX5_weakest_6 ?_
      refine x_get hE g13 0 rfl rfl dX5_weakest_7 ?_
      refine xn_icmp_ge hE (by omega) (by omega) 52 (by decide) dX5_weakest_10 (fun c10 => ?_) (fun c10 => ?_)
      · skip
        exfalso; omega
      · skip
        refine x_iload_n hE 1 rfl dX5_weakest_13 ?_
        refine xb_if_eq hE 27 (by decide) dX5_weakest_14 (fun c14 => ?_) (fun c14 => ?_)
        · skip
          refine x_iload_n hE 2 rfl dX5_weakest_27 ?_
          refine x_if_lt hE 40 (by decide) dX5_weakest_28 (fun c28 => ?_) (fun c28 => ?_)
          · skip
            have hb28 : ¬ b < V := (rV_neg (by omega)).mp c28
            refine x_iload_n hE 3 rfl dX5_weakest_40 ?_
            refine x_goto hE 45 (by decide) dX5_weakest_41 ?_
            refine x_eq (rV i V) (by rw [rV_some (by omega)]) ?_
            refine x_istore_n hE [(2, .int (rV i V)), (0, .ref h0), (1, .int (bI kp)), (3, .int (nI i))] (by decide) rfl dX5_weakest_45 ?_
            refine x_iinc hE (nI (i + 1)) [(3, .int (nI (i + 1))), (2, .int (rV i V)), (0, .ref h0), (1, .int (bI kp))] 3 rfl (nI_add _ _) (by decide) rfl dX5_weakest_46 ?_
            refine x_goto hE 5 (by decide) dX5_weakest_49 ?_
            refine x_lv [(0, .ref h0), (1, .int (bI kp)), (2, .int (rV i V)), (3, .int (nI (i + 1)))] [2, 3, 1, 0] rfl ?_
            exact ih (i + 1) i (by omega) (by simpa only [lfor, lany, lfind, wkS, if_pos c10, if_neg (bnt c14), if_pos c28, if_neg hb28, reduceIte, Bool.false_eq_true, Bool.true_eq_false] using hT)
          · skip
            have hb28 : b < V := Decidable.of_not_not (fun q9 => c28 ((rV_neg (by omega)).mpr q9))
            rw [rV_some hb28]
            refine x_aload_n hE 0 rfl dX5_weakest_31 ?_
            refine x_iload_n hE 3 rfl dX5_weakest_32 ?_
            refine x_iload_n hE 2 rfl dX5_weakest_33 ?_
            refine x_callV (n := 2) (st := []) hE (kX5_isWeaker l D cI cZ h0 d1 d2 d3 d4 d5 d6 d7 d8 d9 d10 d11 d12 d13 R C dio bk lt sl V ru sus sos T pos ph bg fs gs st kk ve si ca mk lg sk rf tk fr fc op ob i b (by omega) (by omega)) gX5_weakest_X5_isWeaker rfl (by decide +kernel) ⟨by decide, by decide⟩ ⟨Nat.zero_le _, Nat.zero_le _⟩ rfl [0, 1, 2, 3, 4, 5, 6, 7, 8, 9, 10, 11, 12, 13] [] rfl (wr := []) rfl (by decide) (by decide) (by decide) 0 rfl rfl rfl rfl (Nat.le_of_ble_eq_true rfl) dX5_weakest_34 (fun v9 w9 hT9 => ?_)
            obtain ⟨rfl, rfl⟩ := hT9
            refine x_at (ws' := [(h0, .inr (5, [.int (nI R), .int (nI C), .int (bI dio), .int (bI bk), .int (bI lt), .int sl, .int (nI V), .int ru, .int (bI sus), .int (bI sos), .int (nI T), .ref d1, .ref d2, .ref d3, .ref d4, .ref d5, .ref d6, .ref d7, .ref d8, .ref d9, .ref d10, .int (nI mk), .ref d11, .int sk, .int rf, .int tk, .int (nI fr), .int (nI fc), .ref d12, .ref d13])), (d1, .inl (cI, 64, .inl (xN pos))), (d2, .inl (cI, 64, .inl ph)), (d3, .inl (cI, 64, .inl bg)), (d4, .inl (cZ, 64, .inl (xB fs))), (d5, .inl (cZ, 64, .inl (xB gs))), (d6, .inl (cI, 8, .inl st)), (d7, .inl (cI, 8, .inl kk)), (d8, .inl (cI, 8, .inl ve)), (d9, .inl (cI, 8, .inl si)), (d10, .inl (cZ, 8, .inl (xB ca))), (d11, .inl (cI, 48, .inl lg)), (d12, .inl (cI, 64, .inl op)), (d13, .inl (cI, 64, .inl ob))]) (st' := [.int (bI (wkB ve si ru i b))]) rfl rfl ?_
            refine xb_if_eq hE 44 (by decide) dX5_weakest_37 (fun c37 => ?_) (fun c37 => ?_)
            · skip
              refine x_iload_n hE 2 rfl dX5_weakest_44 ?_
              refine x_eq (rV b V) (by rw [rV_some (by omega)]) ?_
              refine x_istore_n hE [(2, .int (rV b V)), (0, .ref h0), (1, .int (bI kp)), (3, .int (nI i))] (by decide) rfl dX5_weakest_45 ?_
              refine x_iinc hE (nI (i + 1)) [(3, .int (nI (i + 1))), (2, .int (rV b V)), (0, .ref h0), (1, .int (bI kp))] 3 rfl (nI_add _ _) (by decide) rfl dX5_weakest_46 ?_
              refine x_goto hE 5 (by decide) dX5_weakest_49 ?_
              refine x_lv [(0, .ref h0), (1, .int (bI kp)), (2, .int (rV b V)), (3, .int (nI (i + 1)))] [2, 3, 1, 0] rfl ?_
              exact ih (i + 1) b (by omega) (by simpa only [lfor, lany, lfind, wkS, if_pos c10, if_neg (bnt c14), if_neg c28, if_pos hb28, if_neg (bnt c37), reduceIte, Bool.false_eq_true, Bool.true_eq_false] using hT)
            · skip
              refine x_iload_n hE 3 rfl dX5_weakest_40 ?_
              refine x_goto hE 45 (by decide) dX5_weakest_41 ?_
              refine x_eq (rV i V) (by rw [rV_some (by omega)]) ?_
              refine x_istore_n hE [(2, .int (rV i V)), (0, .ref h0), (1, .int (bI kp)), (3, .int (nI i))] (by decide) rfl dX5_weakest_45 ?_
              refine x_iinc hE (nI (i + 1)) [(3, .int (nI (i + 1))), (2, .int (rV i V)), (0, .ref h0), (1, .int (bI kp))] 3 rfl (nI_add _ _) (by decide) rfl dX5_weakest_46 ?_
              refine x_goto hE 5 (by decide) dX5_weakest_49 ?_
              refine x_lv [(0, .ref h0), (1, .int (bI kp)), (2, .int (rV i V)), (3, .int (nI (i + 1)))] [2, 3, 1, 0] rfl ?_
              exact ih (i + 1) i (by omega) (by simpa only [lfor, lany, lfind, wkS, if_pos c10, if_neg (bnt c14), if_neg c28, if_pos hb28, if_pos c37, reduceIte, Bool.false_eq_true, Bool.true_eq_false] using hT)
        · skip
          refine x_aload_n hE 0 rfl dX5_weakest_17 ?_
          refine x_get hE g33 0 rfl rfl dX5_weakest_18 ?_
          refine x_iload_n hE 3 rfl dX5_weakest_21 ?_
          refine x_iald hE i (st i) (by omega) (by decide) rfl 6 rfl dX5_weakest_22 ?_
          refine x_iconst hE (nI 2) (by decide) dX5_weakest_23 ?_
          refine x_icmp_ne hE 46 (by decide) dX5_weakest_24 (fun c24 => ?_) (fun c24 => ?_)
          · skip
            refine x_iinc hE (nI (i + 1)) [(3, .int (nI (i + 1))), (0, .ref h0), (1, .int (bI kp)), (2, .int (rV b V))] 3 rfl (nI_add _ _) (by decide) rfl dX5_weakest_46 ?_
            refine x_goto hE 5 (by decide) dX5_weakest_49 ?_
            refine x_lv [(0, .ref h0), (1, .int (bI kp)), (2, .int (rV b V)), (3, .int (nI (i + 1)))] [1, 2, 3, 0] rfl ?_
            exact ih (i + 1) b (by omega) (by simpa only [lfor, lany, lfind, wkS, if_pos c10, if_pos c14, if_neg c24, reduceIte, Bool.false_eq_true, Bool.true_eq_false] using hT)
          · skip
            refine x_iload_n hE 2 rfl dX5_weakest_27 ?_
            refine x_if_lt hE 40 (by decide) dX5_weakest_28 (fun c28 => ?_) (fun c28 => ?_)
            · skip
              have hb28 : ¬ b < V := (rV_neg (by omega)).mp c28
              refine x_iload_n hE 3 rfl dX5_weakest_40 ?_
              refine x_goto hE 45 (by decide) dX5_weakest_41 ?_
              refine x_eq (rV i V) (by rw [rV_some (by omega)]) ?_
              refine x_istore_n hE [(2, .int (rV i V)), (0, .ref h0), (1, .int (bI kp)), (3, .int (nI i))] (by decide) rfl dX5_weakest_45 ?_
              refine x_iinc hE (nI (i + 1)) [(3, .int (nI (i + 1))), (2, .int (rV i V)), (0, .ref h0), (1, .int (bI kp))] 3 rfl (nI_add _ _) (by decide) rfl dX5_weakest_46 ?_
              refine x_goto hE 5 (by decide) dX5_weakest_49 ?_
              refine x_lv [(0, .ref h0), (1, .int (bI kp)), (2, .int (rV i V)), (3, .int (nI (i + 1)))] [2, 3, 1, 0] rfl ?_
              exact ih (i + 1) i (by omega) (by simpa only [lfor, lany, lfind, wkS, if_pos c10, if_pos c14, if_pos c24, if_pos c28, if_neg hb28, reduceIte, Bool.false_eq_true, Bool.true_eq_false] using hT)
            · skip
              have hb28 : b < V := Decidable.of_not_not (fun q9 => c28 ((rV_neg (by omega)).mpr q9))
              rw [rV_some hb28]
              refine x_aload_n hE 0 rfl dX5_weakest_31 ?_
              refine x_iload_n hE 3 rfl dX5_weakest_32 ?_
              refine x_iload_n hE 2 rfl dX5_weakest_33 ?_
              refine x_callV (n := 2) (st := []) hE (kX5_isWeaker l D cI cZ h0 d1 d2 d3 d4 d5 d6 d7 d8 d9 d10 d11 d12 d13 R C dio bk lt sl V ru sus sos T pos ph bg fs gs st kk ve si ca mk lg sk rf tk fr fc op ob i b (by omega) (by omega)) gX5_weakest_X5_isWeaker rfl (by decide +kernel) ⟨by decide, by decide⟩ ⟨Nat.zero_le _, Nat.zero_le _⟩ rfl [0, 1, 2, 3, 4, 5, 6, 7, 8, 9, 10, 11, 12, 13] [] rfl (wr := []) rfl (by decide) (by decide) (by decide) 0 rfl rfl rfl rfl (Nat.le_of_ble_eq_true rfl) dX5_weakest_34 (fun v9 w9 hT9 => ?_)
              obtain ⟨rfl, rfl⟩ := hT9
              refine x_at (ws' := [(h0, .inr (5, [.int (nI R), .int (nI C), .int (bI dio), .int (bI bk), .int (bI lt), .int sl, .int (nI V), .int ru, .int (bI sus), .int (bI sos), .int (nI T), .ref d1, .ref d2, .ref d3, .ref d4, .ref d5, .ref d6, .ref d7, .ref d8, .ref d9, .ref d10, .int (nI mk), .ref d11, .int sk, .int rf, .int tk, .int (nI fr), .int (nI fc), .ref d12, .ref d13])), (d1, .inl (cI, 64, .inl (xN pos))), (d2, .inl (cI, 64, .inl ph)), (d3, .inl (cI, 64, .inl bg)), (d4, .inl (cZ, 64, .inl (xB fs))), (d5, .inl (cZ, 64, .inl (xB gs))), (d6, .inl (cI, 8, .inl st)), (d7, .inl (cI, 8, .inl kk)), (d8, .inl (cI, 8, .inl ve)), (d9, .inl (cI, 8, .inl si)), (d10, .inl (cZ, 8, .inl (xB ca))), (d11, .inl (cI, 48, .inl lg)), (d12, .inl (cI, 64, .inl op)), (d13, .inl (cI, 64, .inl ob))]) (st' := [.int (bI (wkB ve si ru i b))]) rfl rfl ?_
              refine xb_if_eq hE 44 (by decide) dX5_weakest_37 (fun c37 => ?_) (fun c37 => ?_)
              · skip
                refine x_iload_n hE 2 rfl dX5_weakest_44 ?_
                refine x_eq (rV b V) (by rw [rV_some (by omega)]) ?_
                refine x_istore_n hE [(2, .int (rV b V)), (0, .ref h0), (1, .int (bI kp)), (3, .int (nI i))] (by decide) rfl dX5_weakest_45 ?_
                refine x_iinc hE (nI (i + 1)) [(3, .int (nI (i + 1))), (2, .int (rV b V)), (0, .ref h0), (1, .int (bI kp))] 3 rfl (nI_add _ _) (by decide) rfl dX5_weakest_46 ?_
                refine x_goto hE 5 (by decide) dX5_weakest_49 ?_
                refine x_lv [(0, .ref h0), (1, .int (bI kp)), (2, .int (rV b V)), (3, .int (nI (i + 1)))] [2, 3, 1, 0] rfl ?_
                exact ih (i + 1) b (by omega) (by simpa only [lfor, lany, lfind, wkS, if_pos c10, if_pos c14, if_pos c24, if_neg c28, if_pos hb28, if_neg (bnt c37), reduceIte, Bool.false_eq_true, Bool.true_eq_false] using hT)
              · skip
                refine x_iload_n hE 3 rfl dX5_weakest_40 ?_
                refine x_goto hE 45 (by decide) dX5_weakest_41 ?_
                refine x_eq (rV i V) (by rw [rV_some (by omega)]) ?_
                refine x_istore_n hE [(2, .int (rV i V)), (0, .ref h0), (1, .int (bI kp)), (3, .int (nI i))] (by decide) rfl dX5_weakest_45 ?_
                refine x_iinc hE (nI (i + 1)) [(3, .int (nI (i + 1))), (2, .int (rV i V)), (0, .ref h0), (1, .int (bI kp))] 3 rfl (nI_add _ _) (by decide) rfl dX5_weakest_46 ?_
                refine x_goto hE 5 (by decide) dX5_weakest_49 ?_
                refine x_lv [(0, .ref h0), (1, .int (bI kp)), (2, .int (rV i V)), (3, .int (nI (i + 1)))] [2, 3, 1, 0] rfl ?_
                exact ih (i + 1) i (by omega) (by simpa only [lfor, lany, lfind, wkS, if_pos c10, if_pos c14, if_pos c24, if_neg c28, if_pos hb28, if_pos c37, reduceIte, Bool.false_eq_true, Bool.true_eq_false] using hT)
  refine x_bipush hE (-3) (by decide) dX5_weakest_0 ?_
  refine x_istore_n hE [(2, .int (-3)), (0, .ref h0), (1, .int (bI kp))] (by decide) rfl dX5_weakest_2 ?_
  refine x_iconst hE (nI 0) (by decide) dX5_weakest_3 ?_
  refine x_istore_n hE [(3, .int (nI 0)), (2, .int (-3)), (0, .ref h0), (1, .int (bI kp))] (by decide) rfl dX5_weakest_4 ?_
  refine x_lv [(0, .ref h0), (1, .int (bI kp)), (2, .int (-3)), (3, .int (nI 0))] [2, 3, 1, 0] rfl ?_
  rw [show ((-3) : Int32) = rV V V from (if_neg (Nat.lt_irrefl V)).symm]
  exact lp5 V 0 V (Nat.zero_add _) (rfl)
set_option maxHeartbeats 4000000 in
set_option maxRecDepth 100000 in
theorem kX5_taken (l : Launch) (D : va_G) (cI cZ : ClassId) (h0 : Nat) (d1 : Nat) (d2 : Nat) (d3 : Nat) (d4 : Nat) (d5 : Nat) (d6 : Nat) (d7 : Nat) (d8 : Nat) (d9 : Nat) (d10 : Nat) (d11 : Nat) (d12 : Nat) (d13 : Nat) (R : Nat) (C : Nat) (dio : Bool) (bk : Bool) (lt : Bool) (sl : Int32) (V : Nat) (ru : Int32) (sus : Bool) (sos : Bool) (T : Nat) (pos : Nat → Nat) (ph : Nat → Int32) (bg : Nat → Int32) (fs : Nat → Bool) (gs : Nat → Bool) (st : Nat → Int32) (kk : Nat → Int32) (ve : Nat → Int32) (si : Nat → Int32) (ca : Nat → Bool) (mk : Nat) (lg : Nat → Int32) (sk : Int32) (rf : Int32) (tk : Int32) (fr : Nat) (fc : Nat) (op : Nat → Int32) (ob : Nat → Int32) (hV : 1 ≤ V ∧ V ≤ 8) : xC l yX5_taken wsX5_taken 2 0 0 45 D cI cZ [.ref h0] [(h0, .inr (5, [.int (nI R), .int (nI C), .int (bI dio), .int (bI bk), .int (bI lt), .int sl, .int (nI V), .int ru, .int (bI sus), .int (bI sos), .int (nI T), .ref d1, .ref d2, .ref d3, .ref d4, .ref d5, .ref d6, .ref d7, .ref d8, .ref d9, .ref d10, .int (nI mk), .ref d11, .int sk, .int rf, .int tk, .int (nI fr), .int (nI fc), .ref d12, .ref d13])), (d1, .inl (cI, 64, .inl (xN pos))), (d2, .inl (cI, 64, .inl ph)), (d3, .inl (cI, 64, .inl bg)), (d4, .inl (cZ, 64, .inl (xB fs))), (d5, .inl (cZ, 64, .inl (xB gs))), (d6, .inl (cI, 8, .inl st)), (d7, .inl (cI, 8, .inl kk)), (d8, .inl (cI, 8, .inl ve)), (d9, .inl (cI, 8, .inl si)), (d10, .inl (cZ, 8, .inl (xB ca))), (d11, .inl (cI, 48, .inl lg)), (d12, .inl (cI, 64, .inl op)), (d13, .inl (cI, 64, .inl ob))] (fun v8 w8 => v8 = some (.int (rV (tkN st ve si ru V) V)) ∧ w8 = [(h0, .inr (5, [.int (nI R), .int (nI C), .int (bI dio), .int (bI bk), .int (bI lt), .int sl, .int (nI V), .int ru, .int (bI sus), .int (bI sos), .int (nI T), .ref d1, .ref d2, .ref d3, .ref d4, .ref d5, .ref d6, .ref d7, .ref d8, .ref d9, .ref d10, .int (nI mk), .ref d11, .int sk, .int rf, .int tk, .int (nI fr), .int (nI fc), .ref d12, .ref d13])), (d1, .inl (cI, 64, .inl (xN pos))), (d2, .inl (cI, 64, .inl ph)), (d3, .inl (cI, 64, .inl bg)), (d4, .inl (cZ, 64, .inl (xB fs))), (d5, .inl (cZ, 64, .inl (xB gs))), (d6, .inl (cI, 8, .inl st)), (d7, .inl (cI, 8, .inl kk)), (d8, .inl (cI, 8, .inl ve)), (d9, .inl (cI, 8, .inl si)), (d10, .inl (cZ, 8, .inl (xB ca))), (d11, .inl (cI, 48, .inl lg)), (d12, .inl (cI, 64, .inl op)), (d13, .inl (cI, 64, .inl ob))]) := by
  refine xC.of (bytes := cX5_taken) (maxL := 2) (ret := (some .int)) (own := RX5) (by decide +kernel) rfl (Nat.le_of_ble_eq_true rfl) rfl ?_
  intro p9 e9 s9 m9 args9 below9 meth9 cd9 A hE hr hin2 hA9
  have inX5 : ∀ w ∈ wsX50, w ∈ wsX5_taken := fun w h => List.mem_cons_of_mem _ (List.mem_append_right _ h)
  have g129 : xF RX5 wsX5_taken 129 5 7 := ⟨"KeyScannerModel", RX5, TX5, 30, inX5, rfl, by decide, List.mem_of_getElem? (i := 1) rfl, rfl⟩
  refine x_at (ws' := [(h0, .inr (5, [.int (nI R), .int (nI C), .int (bI dio), .int (bI bk), .int (bI lt), .int sl, .int (nI V), .int ru, .int (bI sus), .int (bI sos), .int (nI T), .ref d1, .ref d2, .ref d3, .ref d4, .ref d5, .ref d6, .ref d7, .ref d8, .ref d9, .ref d10, .int (nI mk), .ref d11, .int sk, .int rf, .int tk, .int (nI fr), .int (nI fc), .ref d12, .ref d13])), (d1, .inl (cI, 64, .inl (xN pos))), (d2, .inl (cI, 64, .inl ph)), (d3, .inl (cI, 64, .inl bg)), (d4, .inl (cZ, 64, .inl (xB fs))), (d5, .inl (cZ, 64, .inl (xB gs))), (d6, .inl (cI, 8, .inl st)), (d7, .inl (cI, 8, .inl kk)), (d8, .inl (cI, 8, .inl ve)), (d9, .inl (cI, 8, .inl si)), (d10, .inl (cZ, 8, .inl (xB ca))), (d11, .inl (cI, 48, .inl lg)), (d12, .inl (cI, 64, .inl op)), (d13, .inl (cI, 64, .inl ob))]) (st' := []) rfl rfl ?_
  refine x_lv [(0, .ref h0)] [0] rfl ?_
  refine x_aload_n hE 0 rfl dX5_taken_0 ?_
  refine x_get hE g129 0 rfl rfl dX5_taken_1 ?_
  refine x_iconst hE (nI 2) (by decide) dX5_taken_4 ?_
  refine x_icmp_ne hE 16 (by decide) dX5_taken_5 (fun c5 => ?_) (fun c5 => ?_)
  · skip
    refine x_bipush hE (-3) (by decide) dX5_taken_16 ?_
    refine x_istore_n hE [(1, .int (-3)), (0, .ref h0)] (by decide) rfl dX5_taken_18 ?_
    refine x_iload_n hE 0 rfl dX5_taken_19 ?_
    refine x_if_lt hE 27 (by decide) dX5_taken_20 (fun c20 => ?_) (fun c20 => ?_)
    · skip
      refine x_aload_n hE 1 rfl dX5_taken_27 ?_
      refine x_iconst hE (nI 0) (by decide) dX5_taken_28 ?_
      refine x_callV (n := 1) (st := []) hE (kX5_weakest l D cI cZ h0 d1 d2 d3 d4 d5 d6 d7 d8 d9 d10 d11 d12 d13 R C dio bk lt sl V ru sus sos T pos ph bg fs gs st kk ve si ca mk lg sk rf tk fr fc op ob false (by omega)) gX5_taken_X5_weakest rfl (by decide +kernel) ⟨by decide, by decide⟩ ⟨Nat.zero_le _, Nat.zero_le _⟩ rfl [0, 1, 2, 3, 4, 5, 6, 7, 8, 9, 10, 11, 12, 13] [] rfl (wr := []) rfl (by decide) (by decide) (by decide) 0 rfl rfl rfl rfl (Nat.le_of_ble_eq_true rfl) dX5_taken_29 (fun v9 w9 hT9 => ?_)
      obtain ⟨rfl, rfl⟩ := hT9
      refine x_at (ws' := [(h0, .inr (5, [.int (nI R), .int (nI C), .int (bI dio), .int (bI bk), .int (bI lt), .int sl, .int (nI V), .int ru, .int (bI sus), .int (bI sos), .int (nI T), .ref d1, .ref d2, .ref d3, .ref d4, .ref d5, .ref d6, .ref d7, .ref d8, .ref d9, .ref d10, .int (nI mk), .ref d11, .int sk, .int rf, .int tk, .int (nI fr), .int (nI fc), .ref d12, .ref d13])), (d1, .inl (cI, 64, .inl (xN pos))), (d2, .inl (cI, 64, .inl ph)), (d3, .inl (cI, 64, .inl bg)), (d4, .inl (cZ, 64, .inl (xB fs))), (d5, .inl (cZ, 64, .inl (xB gs))), (d6, .inl (cI, 8, .inl st)), (d7, .inl (cI, 8, .inl kk)), (d8, .inl (cI, 8, .inl ve)), (d9, .inl (cI, 8, .inl si)), (d10, .inl (cZ, 8, .inl (xB ca))), (d11, .inl (cI, 48, .inl lg)), (d12, .inl (cI, 64, .inl op)), (d13, .inl (cI, 64, .inl ob))]) (st' := [.int (rV (wkN false st ve si ru V) V)]) rfl rfl ?_
      exact x_iret hE hr (⟨by simp only [tkN, if_neg c5], rfl⟩) dX5_taken_32
    · skip
      exact absurd (by decide) c20
  · skip
    refine x_aload_n hE 0 rfl dX5_taken_8 ?_
    refine x_iconst hE (nI 1) (by decide) dX5_taken_9 ?_
    refine x_callV (n := 1) (st := []) hE (kX5_weakest l D cI cZ h0 d1 d2 d3 d4 d5 d6 d7 d8 d9 d10 d11 d12 d13 R C dio bk lt sl V ru sus sos T pos ph bg fs gs st kk ve si ca mk lg sk rf tk fr fc op ob true (by omega)) gX5_taken_X5_weakest rfl (by decide +kernel) ⟨by decide, by decide⟩ ⟨Nat.zero_le _, Nat.zero_le _⟩ rfl [0, 1, 2, 3, 4, 5, 6, 7, 8, 9, 10, 11, 12, 13] [] rfl (wr := []) rfl (by decide) (by decide) (by decide) 0 rfl rfl rfl rfl (Nat.le_of_ble_eq_true rfl) dX5_taken_10 (fun v9 w9 hT9 => ?_)
    obtain ⟨rfl, rfl⟩ := hT9
    refine x_at (ws' := [(h0, .inr (5, [.int (nI R), .int (nI C), .int (bI dio), .int (bI bk), .int (bI lt), .int sl, .int (nI V), .int ru, .int (bI sus), .int (bI sos), .int (nI T), .ref d1, .ref d2, .ref d3, .ref d4, .ref d5, .ref d6, .ref d7, .ref d8, .ref d9, .ref d10, .int (nI mk), .ref d11, .int sk, .int rf, .int tk, .int (nI fr), .int (nI fc), .ref d12, .ref d13])), (d1, .inl (cI, 64, .inl (xN pos))), (d2, .inl (cI, 64, .inl ph)), (d3, .inl (cI, 64, .inl bg)), (d4, .inl (cZ, 64, .inl (xB fs))), (d5, .inl (cZ, 64, .inl (xB gs))), (d6, .inl (cI, 8, .inl st)), (d7, .inl (cI, 8, .inl kk)), (d8, .inl (cI, 8, .inl ve)), (d9, .inl (cI, 8, .inl si)), (d10, .inl (cZ, 8, .inl (xB ca))), (d11, .inl (cI, 48, .inl lg)), (d12, .inl (cI, 64, .inl op)), (d13, .inl (cI, 64, .inl ob))]) (st' := [.int (rV (wkN true st ve si ru V) V)]) rfl rfl ?_
    refine x_goto hE 18 (by decide) dX5_taken_13 ?_
    refine x_istore_n hE [(1, .int (rV (wkN true st ve si ru V) V)), (0, .ref h0)] (by decide) rfl dX5_taken_18 ?_
    refine x_iload_n hE 0 rfl dX5_taken_19 ?_
    refine x_if_lt hE 27 (by decide) dX5_taken_20 (fun c20 => ?_) (fun c20 => ?_)
    · skip
      have hb20 : ¬ wkN true st ve si ru V < V := (rV_neg (by omega)).mp c20
      refine x_aload_n hE 1 rfl dX5_taken_27 ?_
      refine x_iconst hE (nI 0) (by decide) dX5_taken_28 ?_
      refine x_callV (n := 1) (st := []) hE (kX5_weakest l D cI cZ h0 d1 d2 d3 d4 d5 d6 d7 d8 d9 d10 d11 d12 d13 R C dio bk lt sl V ru sus sos T pos ph bg fs gs st kk ve si ca mk lg sk rf tk fr fc op ob false (by omega)) gX5_taken_X5_weakest rfl (by decide +kernel) ⟨by decide, by decide⟩ ⟨Nat.zero_le _, Nat.zero_le _⟩ rfl [0, 1, 2, 3, 4, 5, 6, 7, 8, 9, 10, 11, 12, 13] [] rfl (wr := []) rfl (by decide) (by decide) (by decide) 0 rfl rfl rfl rfl (Nat.le_of_ble_eq_true rfl) dX5_taken_29 (fun v9 w9 hT9 => ?_)
      obtain ⟨rfl, rfl⟩ := hT9
      refine x_at (ws' := [(h0, .inr (5, [.int (nI R), .int (nI C), .int (bI dio), .int (bI bk), .int (bI lt), .int sl, .int (nI V), .int ru, .int (bI sus), .int (bI sos), .int (nI T), .ref d1, .ref d2, .ref d3, .ref d4, .ref d5, .ref d6, .ref d7, .ref d8, .ref d9, .ref d10, .int (nI mk), .ref d11, .int sk, .int rf, .int tk, .int (nI fr), .int (nI fc), .ref d12, .ref d13])), (d1, .inl (cI, 64, .inl (xN pos))), (d2, .inl (cI, 64, .inl ph)), (d3, .inl (cI, 64, .inl bg)), (d4, .inl (cZ, 64, .inl (xB fs))), (d5, .inl (cZ, 64, .inl (xB gs))), (d6, .inl (cI, 8, .inl st)), (d7, .inl (cI, 8, .inl kk)), (d8, .inl (cI, 8, .inl ve)), (d9, .inl (cI, 8, .inl si)), (d10, .inl (cZ, 8, .inl (xB ca))), (d11, .inl (cI, 48, .inl lg)), (d12, .inl (cI, 64, .inl op)), (d13, .inl (cI, 64, .inl ob))]) (st' := [.int (rV (wkN false st ve si ru V) V)]) rfl rfl ?_
      exact x_iret hE hr (⟨by simp only [tkN, if_pos c5, if_neg hb20], rfl⟩) dX5_taken_32
    · skip
      have hb20 : wkN true st ve si ru V < V := Decidable.of_not_not (fun q9 => c20 ((rV_neg (by omega)).mpr q9))
      refine x_iload_n hE 0 rfl dX5_taken_23 ?_
      refine x_goto hE 32 (by decide) dX5_taken_24 ?_
      exact x_iret hE hr (⟨by simp only [tkN, if_pos c5, if_pos hb20], rfl⟩) dX5_taken_32
set_option maxHeartbeats 4000000 in
set_option maxRecDepth 100000 in
theorem kX5_velocityAfter (l : Launch) (D : va_G) (cI cZ : ClassId) (h0 : Nat) (d1 : Nat) (d2 : Nat) (d3 : Nat) (d4 : Nat) (d5 : Nat) (d6 : Nat) (d7 : Nat) (d8 : Nat) (d9 : Nat) (d10 : Nat) (d11 : Nat) (d12 : Nat) (d13 : Nat) (R : Nat) (C : Nat) (dio : Bool) (bk : Bool) (lt : Bool) (sl : Int32) (V : Nat) (ru : Int32) (sus : Bool) (sos : Bool) (T : Nat) (pos : Nat → Nat) (ph : Nat → Int32) (bg : Nat → Int32) (fs : Nat → Bool) (gs : Nat → Bool) (st : Nat → Int32) (kk : Nat → Int32) (ve : Nat → Int32) (si : Nat → Int32) (ca : Nat → Bool) (mk : Nat) (lg : Nat → Int32) (sk : Int32) (rf : Int32) (tk : Int32) (fr : Nat) (fc : Nat) (op : Nat → Int32) (ob : Nat → Int32) (n : Int32)  : xC l yX5_velocityAfter wsX5_velocityAfter 0 0 0 0 D cI cZ [.ref h0, .int n] [(h0, .inr (5, [.int (nI R), .int (nI C), .int (bI dio), .int (bI bk), .int (bI lt), .int sl, .int (nI V), .int ru, .int (bI sus), .int (bI sos), .int (nI T), .ref d1, .ref d2, .ref d3, .ref d4, .ref d5, .ref d6, .ref d7, .ref d8, .ref d9, .ref d10, .int (nI mk), .ref d11, .int sk, .int rf, .int tk, .int (nI fr), .int (nI fc), .ref d12, .ref d13])), (d1, .inl (cI, 64, .inl (xN pos))), (d2, .inl (cI, 64, .inl ph)), (d3, .inl (cI, 64, .inl bg)), (d4, .inl (cZ, 64, .inl (xB fs))), (d5, .inl (cZ, 64, .inl (xB gs))), (d6, .inl (cI, 8, .inl st)), (d7, .inl (cI, 8, .inl kk)), (d8, .inl (cI, 8, .inl ve)), (d9, .inl (cI, 8, .inl si)), (d10, .inl (cZ, 8, .inl (xB ca))), (d11, .inl (cI, 48, .inl lg)), (d12, .inl (cI, 64, .inl op)), (d13, .inl (cI, 64, .inl ob))] (fun v8 w8 => v8 = some (.int (vaM sl n)) ∧ w8 = [(h0, .inr (5, [.int (nI R), .int (nI C), .int (bI dio), .int (bI bk), .int (bI lt), .int sl, .int (nI V), .int ru, .int (bI sus), .int (bI sos), .int (nI T), .ref d1, .ref d2, .ref d3, .ref d4, .ref d5, .ref d6, .ref d7, .ref d8, .ref d9, .ref d10, .int (nI mk), .ref d11, .int sk, .int rf, .int tk, .int (nI fr), .int (nI fc), .ref d12, .ref d13])), (d1, .inl (cI, 64, .inl (xN pos))), (d2, .inl (cI, 64, .inl ph)), (d3, .inl (cI, 64, .inl bg)), (d4, .inl (cZ, 64, .inl (xB fs))), (d5, .inl (cZ, 64, .inl (xB gs))), (d6, .inl (cI, 8, .inl st)), (d7, .inl (cI, 8, .inl kk)), (d8, .inl (cI, 8, .inl ve)), (d9, .inl (cI, 8, .inl si)), (d10, .inl (cZ, 8, .inl (xB ca))), (d11, .inl (cI, 48, .inl lg)), (d12, .inl (cI, 64, .inl op)), (d13, .inl (cI, 64, .inl ob))]) := by
  refine xC.of (bytes := cX5_velocityAfter) (maxL := 3) (ret := (some .int)) (own := RX5) (by decide +kernel) rfl (Nat.le_of_ble_eq_true rfl) rfl ?_
  intro p9 e9 s9 m9 args9 below9 meth9 cd9 A hE hr hin2 hA9
  have inX5 : ∀ w ∈ wsX50, w ∈ wsX5_velocityAfter := fun w h => List.mem_cons_of_mem _ (List.mem_append_right _ h)
  have g7 : xF RX5 wsX5_velocityAfter 7 5 5 := ⟨"KeyScannerModel", RX5, TX5, 30, inX5, rfl, by decide, List.mem_of_getElem? (i := 1) rfl, rfl⟩
  refine x_at (ws' := [(h0, .inr (5, [.int (nI R), .int (nI C), .int (bI dio), .int (bI bk), .int (bI lt), .int sl, .int (nI V), .int ru, .int (bI sus), .int (bI sos), .int (nI T), .ref d1, .ref d2, .ref d3, .ref d4, .ref d5, .ref d6, .ref d7, .ref d8, .ref d9, .ref d10, .int (nI mk), .ref d11, .int sk, .int rf, .int tk, .int (nI fr), .int (nI fc), .ref d12, .ref d13])), (d1, .inl (cI, 64, .inl (xN pos))), (d2, .inl (cI, 64, .inl ph)), (d3, .inl (cI, 64, .inl bg)), (d4, .inl (cZ, 64, .inl (xB fs))), (d5, .inl (cZ, 64, .inl (xB gs))), (d6, .inl (cI, 8, .inl st)), (d7, .inl (cI, 8, .inl kk)), (d8, .inl (cI, 8, .inl ve)), (d9, .inl (cI, 8, .inl si)), (d10, .inl (cZ, 8, .inl (xB ca))), (d11, .inl (cI, 48, .inl lg)), (d12, .inl (cI, 64, .inl op)), (d13, .inl (cI, 64, .inl ob))]) (st' := []) rfl rfl ?_
  refine x_lv [(0, .ref h0), (1, .int n)] [0, 1] rfl ?_
  refine x_sipush hE (nI 128) (by decide) dX5_velocityAfter_0 ?_
  refine x_aload_n hE 0 rfl dX5_velocityAfter_3 ?_
  refine x_get hE g7 0 rfl rfl dX5_velocityAfter_4 ?_
  refine x_iload_n hE 1 rfl dX5_velocityAfter_7 ?_
  refine x_imul hE (sl * n) rfl dX5_velocityAfter_8 ?_
  refine x_isub hE ((nI 128) - (sl * n)) rfl dX5_velocityAfter_9 ?_
  refine x_istore_n hE [(2, .int ((nI 128) - (sl * n))), (0, .ref h0), (1, .int n)] (by decide) rfl dX5_velocityAfter_10 ?_
  refine x_iload_n hE 0 rfl dX5_velocityAfter_11 ?_
  refine x_bipush hE (nI 127) (by decide) dX5_velocityAfter_12 ?_
  refine x_icmp_le hE 22 (by decide) dX5_velocityAfter_14 (fun c14 => ?_) (fun c14 => ?_)
  · skip
    refine x_iload_n hE 0 rfl dX5_velocityAfter_22 ?_
    refine x_iconst hE (nI 1) (by decide) dX5_velocityAfter_23 ?_
    refine x_icmp_ge hE 31 (by decide) dX5_velocityAfter_24 (fun c24 => ?_) (fun c24 => ?_)
    · skip
      refine x_iload_n hE 0 rfl dX5_velocityAfter_31 ?_
      exact x_iret hE hr (⟨by simp only [vaM, if_neg c14, if_neg c24, reduceIte, Bool.false_eq_true, Bool.true_eq_false], rfl⟩) dX5_velocityAfter_32
    · skip
      refine x_iconst hE (nI 1) (by decide) dX5_velocityAfter_27 ?_
      refine x_goto hE 32 (by decide) dX5_velocityAfter_28 ?_
      exact x_iret hE hr (⟨by simp only [vaM, if_neg c14, if_pos c24, reduceIte, Bool.false_eq_true, Bool.true_eq_false], rfl⟩) dX5_velocityAfter_32
  · skip
    refine x_bipush hE (nI 127) (by decide) dX5_velocityAfter_17 ?_
    refine x_goto hE 32 (by decide) dX5_velocityAfter_19 ?_
    exact x_iret hE hr (⟨by simp only [vaM, if_pos c14, reduceIte, Bool.false_eq_true, Bool.true_eq_false], rfl⟩) dX5_velocityAfter_32
