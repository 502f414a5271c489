set_option maxHeartbeats 4000000 in
set_option maxRecDepth 100000 in
theorem kX5_connect (l : Launch) (D : va_G) (cI cZ : ClassId) (h0 : Nat) (d1 : Nat) (d2 : Nat) (d3 : Nat) (d4 : Nat) (d5 : Nat) (d6 : Nat) (d7 : Nat) (d8 : Nat) (d9 : Nat) (d10 : Nat) (d11 : Nat) (d12 : Nat) (d13 : Nat) (R : Nat) (C : Nat) (dio : Bool) (bk : Bool) (lt : Bool) (sl : Int32) (V : Nat) (ru : Int32) (sus : Bool) (sos : Bool) (T : Nat) (pos : Nat → Nat) (ph : Nat → Int32) (bg : Nat → Int32) (fs : Nat → Bool) (gs : Nat → Bool) (st : Nat → Int32) (kk : Nat → Int32) (ve : Nat → Int32) (si : Nat → Int32) (ca : Nat → Bool) (mk : Nat) (lg : Nat → Int32) (sk : Int32) (rf : Int32) (tk : Int32) (fr : Nat) (fc : Nat) (op : Nat → Int32) (ob : Nat → Int32) (r : Nat) (x : Nat) (hR : 1 ≤ R ∧ R ≤ 8) (hC : 1 ≤ C ∧ C ≤ 8) (hrR : r < R) (hx3 : x < 3) (hpos : ∀ k, pos k ≤ 2) : xC l yX5_connect wsX5_connect 1 0 0 20 D cI cZ [.ref h0, .int (nI r), .int (nI x)] [(h0, .inr (5, [.int (nI R), .int (nI C), .int (bI dio), .int (bI bk), .int (bI lt), .int sl, .int (nI V), .int ru, .int (bI sus), .int (bI sos), .int (nI T), .ref d1, .ref d2, .ref d3, .ref d4, .ref d5, .ref d6, .ref d7, .ref d8, .ref d9, .ref d10, .int (nI mk), .ref d11, .int sk, .int rf, .int tk, .int (nI fr), .int (nI fc), .ref d12, .ref d13])), (d1, .inl (cI, 64, .inl (xN pos))), (d2, .inl (cI, 64, .inl ph)), (d3, .inl (cI, 64, .inl bg)), (d4, .inl (cZ, 64, .inl (xB fs))), (d5, .inl (cZ, 64, .inl (xB gs))), (d6, .inl (cI, 8, .inl st)), (d7, .inl (cI, 8, .inl kk)), (d8, .inl (cI, 8, .inl ve)), (d9, .inl (cI, 8, .inl si)), (d10, .inl (cZ, 8, .inl (xB ca))), (d11, .inl (cI, 48, .inl lg)), (d12, .inl (cI, 64, .inl op)), (d13, .inl (cI, 64, .inl ob))] (fun v8 w8 => v8 = none ∧ w8 = [(h0, .inr (5, [.int (nI R), .int (nI C), .int (bI dio), .int (bI bk), .int (bI lt), .int sl, .int (nI V), .int ru, .int (bI sus), .int (bI sos), .int (nI T), .ref d1, .ref d2, .ref d3, .ref d4, .ref d5, .ref d6, .ref d7, .ref d8, .ref d9, .ref d10, .int (nI mk), .ref d11, .int sk, .int rf, .int tk, .int (nI ((cnF pos R C x r).1)), .int (nI ((cnF pos R C x r).2)), .ref d12, .ref d13])), (d1, .inl (cI, 64, .inl (xN pos))), (d2, .inl (cI, 64, .inl ph)), (d3, .inl (cI, 64, .inl bg)), (d4, .inl (cZ, 64, .inl (xB fs))), (d5, .inl (cZ, 64, .inl (xB gs))), (d6, .inl (cI, 8, .inl st)), (d7, .inl (cI, 8, .inl kk)), (d8, .inl (cI, 8, .inl ve)), (d9, .inl (cI, 8, .inl si)), (d10, .inl (cZ, 8, .inl (xB ca))), (d11, .inl (cI, 48, .inl lg)), (d12, .inl (cI, 64, .inl op)), (d13, .inl (cI, 64, .inl ob))]) := by
  refine xC.of (bytes := cX5_connect) (maxL := 7) (ret := none) (own := RX5) (by decide +kernel) rfl (Nat.le_of_ble_eq_true rfl) rfl ?_
  intro p9 e9 s9 m9 args9 below9 meth9 cd9 A hE hr hin2 hA9
  have inX5 : ∀ w ∈ wsX50, w ∈ wsX5_connect := fun w h => List.mem_cons_of_mem _ (List.mem_append_right _ h)
  have g100 : xF RX5 wsX5_connect 100 5 26 := ⟨"KeyScannerModel", RX5, TX5, 30, inX5, rfl, by decide, List.mem_of_getElem? (i := 1) rfl, rfl⟩
  have g64 : xF RX5 wsX5_connect 64 5 1 := ⟨"KeyScannerModel", RX5, TX5, 30, inX5, rfl, by decide, List.mem_of_getElem? (i := 3) rfl, rfl⟩
  have g103 : xF RX5 wsX5_connect 103 5 27 := ⟨"KeyScannerModel", RX5, TX5, 30, inX5, rfl, by decide, List.mem_of_getElem? (i := 2) rfl, rfl⟩
  have g16 : xF RX5 wsX5_connect 16 5 11 := ⟨"KeyScannerModel", RX5, TX5, 30, inX5, rfl, by decide, List.mem_of_getElem? (i := 4) rfl, rfl⟩
  have p100 : xP RX5 wsX5_connect 100 5 26 false .int := ⟨"KeyScannerModel", RX5, TX5, 30, tyX5, inX5, rfl, by decide, List.mem_of_getElem? (i := 1) rfl, rfl, tyX5_ok, nmX5, rfl, by decide +kernel, fun h => by cases h⟩
  have p103 : xP RX5 wsX5_connect 103 5 27 false .int := ⟨"KeyScannerModel", RX5, TX5, 30, tyX5, inX5, rfl, by decide, List.mem_of_getElem? (i := 2) rfl, rfl, tyX5_ok, nmX5, rfl, by decide +kernel, fun h => by cases h⟩
  have hRC : R * C ≤ 64 := Nat.mul_le_mul hR.2 hC.2
  refine x_at (ws' := [(h0, .inr (5, [.int (nI R), .int (nI C), .int (bI dio), .int (bI bk), .int (bI lt), .int sl, .int (nI V), .int ru, .int (bI sus), .int (bI sos), .int (nI T), .ref d1, .ref d2, .ref d3, .ref d4, .ref d5, .ref d6, .ref d7, .ref d8, .ref d9, .ref d10, .int (nI mk), .ref d11, .int sk, .int rf, .int tk, .int (nI fr), .int (nI fc), .ref d12, .ref d13])), (d1, .inl (cI, 64, .inl (xN pos))), (d2, .inl (cI, 64, .inl ph)), (d3, .inl (cI, 64, .inl bg)), (d4, .inl (cZ, 64, .inl (xB fs))), (d5, .inl (cZ, 64, .inl (xB gs))), (d6, .inl (cI, 8, .inl st)), (d7, .inl (cI, 8, .inl kk)), (d8, .inl (cI, 8, .inl ve)), (d9, .inl (cI, 8, .inl si)), (d10, .inl (cZ, 8, .inl (xB ca))), (d11, .inl (cI, 48, .inl lg)), (d12, .inl (cI, 64, .inl op)), (d13, .inl (cI, 64, .inl ob))]) (st' := []) rfl rfl ?_
  refine x_lv [(0, .ref h0), (1, .int (nI r)), (2, .int (nI x))] [0, 1, 2] rfl ?_
  have lp23 : ∀ (n : Nat) (no : Nat) (i : Nat) (mo : Bool) (frx : Nat) (fcx : Nat) (hk : ∀ (mo : Bool) (frx : Nat) (fcx : Nat) (hfr : frx < 256) (hfc : fcx < 256) (hmu : mo = true → 17 ≤ pop8 frx + pop8 fcx + no) (hT : (if mo = true then cnO pos R C x no (frx, fcx) else (frx, fcx)) = cnF pos R C x r), X p9 l e9 { frames := 1, cells := 0, slots := 0, locals := 20 } s9 m9 args9 below9 meth9 cd9 0 0 (MQ below9 (xQ D (fun v8 w8 => v8 = none ∧ w8 = [(h0, .inr (5, [.int (nI R), .int (nI C), .int (bI dio), .int (bI bk), .int (bI lt), .int sl, .int (nI V), .int ru, .int (bI sus), .int (bI sos), .int (nI T), .ref d1, .ref d2, .ref d3, .ref d4, .ref d5, .ref d6, .ref d7, .ref d8, .ref d9, .ref d10, .int (nI mk), .ref d11, .int sk, .int rf, .int tk, .int (nI ((cnF pos R C x r).1)), .int (nI ((cnF pos R C x r).2)), .ref d12, .ref d13])), (d1, .inl (cI, 64, .inl (xN pos))), (d2, .inl (cI, 64, .inl ph)), (d3, .inl (cI, 64, .inl bg)), (d4, .inl (cZ, 64, .inl (xB fs))), (d5, .inl (cZ, 64, .inl (xB gs))), (d6, .inl (cI, 8, .inl st)), (d7, .inl (cI, 8, .inl kk)), (d8, .inl (cI, 8, .inl ve)), (d9, .inl (cI, 8, .inl si)), (d10, .inl (cZ, 8, .inl (xB ca))), (d11, .inl (cI, 48, .inl lg)), (d12, .inl (cI, 64, .inl op)), (d13, .inl (cI, 64, .inl ob))]) A) args9 s9 0 0 A) 7 D A [(h0, .inr (5, [.int (nI R), .int (nI C), .int (bI dio), .int (bI bk), .int (bI lt), .int sl, .int (nI V), .int ru, .int (bI sus), .int (bI sos), .int (nI T), .ref d1, .ref d2, .ref d3, .ref d4, .ref d5, .ref d6, .ref d7, .ref d8, .ref d9, .ref d10, .int (nI mk), .ref d11, .int sk, .int rf, .int tk, .int (nI frx), .int (nI fcx), .ref d12, .ref d13])), (d1, .inl (cI, 64, .inl (xN pos))), (d2, .inl (cI, 64, .inl ph)), (d3, .inl (cI, 64, .inl bg)), (d4, .inl (cZ, 64, .inl (xB fs))), (d5, .inl (cZ, 64, .inl (xB gs))), (d6, .inl (cI, 8, .inl st)), (d7, .inl (cI, 8, .inl kk)), (d8, .inl (cI, 8, .inl ve)), (d9, .inl (cI, 8, .inl si)), (d10, .inl (cZ, 8, .inl (xB ca))), (d11, .inl (cI, 48, .inl lg)), (d12, .inl (cI, 64, .inl op)), (d13, .inl (cI, 64, .inl ob))] [(0, .ref h0), (1, .int (nI r)), (2, .int (nI x)), (3, .int (bI mo))] 14 []) (hi : i + n = R * C) (hfr : frx < 256) (hfc : fcx < 256) (hmu : 16 ≤ pop8 frx + pop8 fcx + no ∧ (mo = true → 17 ≤ pop8 frx + pop8 fcx + no)) (hT : (if (lfor (cnS pos C x) i n (frx, fcx, mo)).2.2 = true then cnO pos R C x no ((lfor (cnS pos C x) i n (frx, fcx, mo)).1, (lfor (cnS pos C x) i n (frx, fcx, mo)).2.1) else ((lfor (cnS pos C x) i n (frx, fcx, mo)).1, (lfor (cnS pos C x) i n (frx, fcx, mo)).2.1)) = cnF pos R C x r), X p9 l e9 { frames := 1, cells := 0, slots := 0, locals := 20 } s9 m9 args9 below9 meth9 cd9 0 0 (MQ below9 (xQ D (fun v8 w8 => v8 = none ∧ w8 = [(h0, .inr (5, [.int (nI R), .int (nI C), .int (bI dio), .int (bI bk), .int (bI lt), .int sl, .int (nI V), .int ru, .int (bI sus), .int (bI sos), .int (nI T), .ref d1, .ref d2, .ref d3, .ref d4, .ref d5, .ref d6, .ref d7, .ref d8, .ref d9, .ref d10, .int (nI mk), .ref d11, .int sk, .int rf, .int tk, .int (nI ((cnF pos R C x r).1)), .int (nI ((cnF pos R C x r).2)), .ref d12, .ref d13])), (d1, .inl (cI, 64, .inl (xN pos))), (d2, .inl (cI, 64, .inl ph)), (d3, .inl (cI, 64, .inl bg)), (d4, .inl (cZ, 64, .inl (xB fs))), (d5, .inl (cZ, 64, .inl (xB gs))), (d6, .inl (cI, 8, .inl st)), (d7, .inl (cI, 8, .inl kk)), (d8, .inl (cI, 8, .inl ve)), (d9, .inl (cI, 8, .inl si)), (d10, .inl (cZ, 8, .inl (xB ca))), (d11, .inl (cI, 48, .inl lg)), (d12, .inl (cI, 64, .inl op)), (d13, .inl (cI, 64, .inl ob))]) A) args9 s9 0 0 A) 7 D A [(h0, .inr (5, [.int (nI R), .int (nI C), .int (bI dio), .int (bI bk), .int (bI lt), .int sl, .int (nI V), .int ru, .int (bI sus), .int (bI sos), .int (nI T), .ref d1, .ref d2, .ref d3, .ref d4, .ref d5, .ref d6, .ref d7, .ref d8, .ref d9, .ref d10, .int (nI mk), .ref d11, .int sk, .int rf, .int tk, .int (nI frx), .int (nI fcx), .ref d12, .ref d13])), (d1, .inl (cI, 64, .inl (xN pos))), (d2, .inl (cI, 64, .inl ph)), (d3, .inl (cI, 64, .inl bg)), (d4, .inl (cZ, 64, .inl (xB fs))), (d5, .inl (cZ, 64, .inl (xB gs))), (d6, .inl (cI, 8, .inl st)), (d7, .inl (cI, 8, .inl kk)), (d8, .inl (cI, 8, .inl ve)), (d9, .inl (cI, 8, .inl si)), (d10, .inl (cZ, 8, .inl (xB ca))), (d11, .inl (cI, 48, .inl lg)), (d12, .inl (cI, 64, .inl op)), (d13, .inl (cI, 64, .inl ob))] [(0, .ref h0), (1, .int (nI r)), (2, .int (nI x)), (3, .int (bI mo)), (4, .int (nI i))] 23 [] := by
    intro n
    induction n with
    | zero =>
      intro no i mo frx fcx hk hi hfr hfc hmu hT
      refine x_iload hE 4 rfl dX5_connect_23 ?_
      refine x_aload_n hE 0 rfl dX5_connect_25 ?_
      refine x_callV (n := 0) (st := [.int (nI i)]) hE (kX5_keys l D cI cZ h0 d1 d2 d3 d4 d5 d6 d7 d8 d9 d10 d11 d12 d13 R C dio bk lt sl V ru sus sos T pos ph bg fs gs st kk ve si ca mk lg sk rf tk frx fcx op ob ) gX5_connect_X5_keys rfl (by decide +kernel) ⟨by decide, by decide⟩ ⟨Nat.zero_le _, Nat.zero_le _⟩ rfl [0, 1, 2, 3, 4, 5, 6, 7, 8, 9, 10, 11, 12, 13] [] rfl (wr := []) rfl (by decide) (by decide) (by decide) 0 rfl rfl rfl rfl (Nat.le_of_ble_eq_true rfl) dX5_connect_26 (fun v9 w9 hT9 => ?_)
      obtain ⟨rfl, rfl⟩ := hT9
      refine x_at (ws' := [(h0, .inr (5, [.int (nI R), .int (nI C), .int (bI dio), .int (bI bk), .int (bI lt), .int sl, .int (nI V), .int ru, .int (bI sus), .int (bI sos), .int (nI T), .ref d1, .ref d2, .ref d3, .ref d4, .ref d5, .ref d6, .ref d7, .ref d8, .ref d9, .ref d10, .int (nI mk), .ref d11, .int sk, .int rf, .int tk, .int (nI frx), .int (nI fcx), .ref d12, .ref d13])), (d1, .inl (cI, 64, .inl (xN pos))), (d2, .inl (cI, 64, .inl ph)), (d3, .inl (cI, 64, .inl bg)), (d4, .inl (cZ, 64, .inl (xB fs))), (d5, .inl (cZ, 64, .inl (xB gs))), (d6, .inl (cI, 8, .inl st)), (d7, .inl (cI, 8, .inl kk)), (d8, .inl (cI, 8, .inl ve)), (d9, .inl (cI, 8, .inl si)), (d10, .inl (cZ, 8, .inl (xB ca))), (d11, .inl (cI, 48, .inl lg)), (d12, .inl (cI, 64, .inl op)), (d13, .inl (cI, 64, .inl ob))]) (st' := [.int (nI (R * C)), .int (nI i)]) rfl rfl ?_
      refine xn_icmp_ge hE (by omega) (by omega) 144 (by decide) dX5_connect_29 (fun c29 => ?_) (fun c29 => ?_)
      · skip
        refine x_goto hE 14 (by decide) dX5_connect_144 ?_
        refine x_lv [(0, .ref h0), (1, .int (nI r)), (2, .int (nI x)), (3, .int (bI mo))] [0, 1, 2, 3] rfl ?_
        exact hk mo frx fcx (hfr) (hfc) (hmu.2) (hT)
      · skip
        exfalso; omega
    | succ n ih =>
      intro no i mo frx fcx hk hi hfr hfc hmu hT
      refine x_iload hE 4 rfl dX5_connect_23 ?_
      refine x_aload_n hE 0 rfl dX5_connect_25 ?_
      refine x_callV (n := 0) (st := [.int (nI i)]) hE (kX5_keys l D cI cZ h0 d1 d2 d3 d4 d5 d6 d7 d8 d9 d10 d11 d12 d13 R C dio bk lt sl V ru sus sos T pos ph bg fs gs st kk ve si ca mk lg sk rf tk frx fcx op ob ) gX5_connect_X5_keys rfl (by decide +kernel) ⟨by decide, by decide⟩ ⟨Nat.zero_le _, Nat.zero_le _⟩ rfl [0, 1, 2, 3, 4, 5, 6, 7, 8, 9, 10, 11, 12, 13] [] rfl (wr := []) rfl (by decide) (by decide) (by decide) 0 rfl rfl rfl rfl (Nat.le_of_ble_eq_true rfl) dX5_connect_26 (fun v9 w9 hT9 => ?_)
      obtain ⟨rfl, rfl⟩ := hT9
      refine x_at (ws' := [(h0, .inr (5, [.int (nI R), .int (nI C), .int (bI dio), .int (bI bk), .int (bI lt), .int sl, .int (nI V), .int ru, .int (bI sus), .int (bI sos), .int (nI T), .ref d1, .ref d2, .ref d3, .ref d4, .ref d5, .ref d6, .ref d7, .ref d8, .ref d9, .ref d10, .int (nI mk), .ref d11, .int sk, .int rf, .int tk, .int (nI frx), .int (nI fcx), .ref d12, .ref d13])), (d1, .inl (cI, 64, .inl (xN pos))), (d2, .inl (cI, 64, .inl ph)), (d3, .inl (cI, 64, .inl bg)), (d4, .inl (cZ, 64, .inl (xB fs))), (d5, .inl (cZ, 64, .inl (xB gs))), (d6, .inl (cI, 8, .inl st)), (d7, .inl (cI, 8, .inl kk)), (d8, .inl (cI, 8, .inl ve)), (d9, .inl (cI, 8, .inl si)), (d10, .inl (cZ, 8, .inl (xB ca))), (d11, .inl (cI, 48, .inl lg)), (d12, .inl (cI, 64, .inl op)), (d13, .inl (cI, 64, .inl ob))]) (st' := [.int (nI (R * C)), .int (nI i)]) rfl rfl ?_
      refine xn_icmp_ge hE (by omega) (by omega) 144 (by decide) dX5_connect_29 (fun c29 => ?_) (fun c29 => ?_)
      · skip
        exfalso; omega
      · skip
        have hq9 : i / C < R := Nat.div_lt_of_lt_mul (by rw [Nat.mul_comm]; exact c29)
        have hm9 : i % C < C := Nat.mod_lt _ (by omega)
        refine x_aload_n hE 0 rfl dX5_connect_32 ?_
        refine x_get hE g100 0 rfl rfl dX5_connect_33 ?_
        refine x_iload hE 4 rfl dX5_connect_36 ?_
        refine x_aload_n hE 0 rfl dX5_connect_38 ?_
        refine x_get hE g64 0 rfl rfl dX5_connect_39 ?_
        refine x_idiv hE (nI (i / C)) (nI_ne0 (by omega) (by omega)) (xI_div (by omega) (by omega) (by omega)) dX5_connect_42 ?_
        refine x_ishr hE (nI (frx >>> (i / C))) (xI_shr (by omega) (by omega)) dX5_connect_43 ?_
        refine x_iconst hE (nI 1) (by decide) dX5_connect_44 ?_
        refine x_iand hE (nI ((frx >>> (i / C)) &&& 1)) (fa_and _ _) dX5_connect_45 ?_
        refine x_iconst hE (nI 1) (by decide) dX5_connect_46 ?_
        have hb47 : frx >>> (i / C) &&& 1 ≤ 1 := Nat.and_le_right
        refine xn_icmp_ne hE (by omega) (by omega) 54 (by decide) dX5_connect_47 (fun c47 => ?_) (fun c47 => ?_)
        · skip
          refine x_iconst hE (nI 0) (by decide) dX5_connect_54 ?_
          refine x_eq (bI (frx.testBit (i / C))) (by rw [show frx.testBit (i / C) = false from tb_f c47]; rfl) ?_
          refine x_istore hE [(5, .int (bI (frx.testBit (i / C)))), (0, .ref h0), (1, .int (nI r)), (2, .int (nI x)), (3, .int (bI mo)), (4, .int (nI i))] (by decide) rfl dX5_connect_55 ?_
          refine x_aload_n hE 1 rfl dX5_connect_57 ?_
          refine x_get hE g103 0 rfl rfl dX5_connect_58 ?_
          refine x_iload hE 5 rfl dX5_connect_61 ?_
          refine x_aload_n hE 1 rfl dX5_connect_63 ?_
          refine x_get hE g64 0 rfl rfl dX5_connect_64 ?_
          refine x_irem hE (nI (i % C)) (nI_ne0 (by omega) (by omega)) (xI_rem (by omega) (by omega) (by omega)) dX5_connect_67 ?_
          refine x_ishr hE (nI (fcx >>> (i % C))) (xI_shr (by omega) (by omega)) dX5_connect_68 ?_
          refine x_iconst hE (nI 1) (by decide) dX5_connect_69 ?_
          refine x_iand hE (nI ((fcx >>> (i % C)) &&& 1)) (fa_and _ _) dX5_connect_70 ?_
          refine x_iconst hE (nI 1) (by decide) dX5_connect_71 ?_
          have hb72 : fcx >>> (i % C) &&& 1 ≤ 1 := Nat.and_le_right
          refine xn_icmp_ne hE (by omega) (by omega) 79 (by decide) dX5_connect_72 (fun c72 => ?_) (fun c72 => ?_)
          · skip
            refine x_iconst hE (nI 0) (by decide) dX5_connect_79 ?_
            refine x_eq (bI (fcx.testBit (i % C))) (by rw [show fcx.testBit (i % C) = false from tb_f c72]; rfl) ?_
            refine x_istore hE [(6, .int (bI (fcx.testBit (i % C)))), (5, .int (bI (frx.testBit (i / C)))), (0, .ref h0), (1, .int (nI r)), (2, .int (nI x)), (3, .int (bI mo)), (4, .int (nI i))] (by decide) rfl dX5_connect_80 ?_
            refine x_aload_n hE 2 rfl dX5_connect_82 ?_
            refine x_get hE g16 0 rfl rfl dX5_connect_83 ?_
            refine x_iload hE 6 rfl dX5_connect_86 ?_
            refine x_iald hE i (nI (pos i)) (by omega) (by decide) rfl 1 rfl dX5_connect_88 ?_
            refine x_iload_n hE 4 rfl dX5_connect_89 ?_
            have hp90 := hpos i
            refine xn_icmp_lt hE (by omega) (by omega) 138 (by decide) dX5_connect_90 (fun c90 => ?_) (fun c90 => ?_)
            · skip
              refine x_iinc hE (nI (i + 1)) [(4, .int (nI (i + 1))), (6, .int (bI (fcx.testBit (i % C)))), (5, .int (bI (frx.testBit (i / C)))), (0, .ref h0), (1, .int (nI r)), (2, .int (nI x)), (3, .int (bI mo))] 6 rfl (nI_add _ _) (by decide) rfl dX5_connect_138 ?_
              refine x_goto hE 23 (by decide) dX5_connect_141 ?_
              refine x_lv [(0, .ref h0), (1, .int (nI r)), (2, .int (nI x)), (3, .int (bI mo)), (4, .int (nI (i + 1)))] [3, 4, 5, 6, 0] rfl ?_
              exact ih no (i + 1) mo frx fcx (hk) (by omega) (hfr) (hfc) (hmu) (by have h9 := hT; simp only [lfor, lany, cnS, if_pos c29, if_neg c47, if_neg c72, if_pos c90, reduceIte, Bool.false_eq_true, Bool.true_eq_false] at h9; exact h9)
            · skip
              refine x_iload hE 1 rfl dX5_connect_93 ?_
              refine x_iload hE 0 rfl dX5_connect_95 ?_
              refine xb_icmp_eq hE 138 (by decide) dX5_connect_97 (fun c97 => ?_) (fun c97 => ?_)
              · skip
                refine x_iinc hE (nI (i + 1)) [(4, .int (nI (i + 1))), (6, .int (bI (fcx.testBit (i % C)))), (5, .int (bI (frx.testBit (i / C)))), (0, .ref h0), (1, .int (nI r)), (2, .int (nI x)), (3, .int (bI mo))] 6 rfl (nI_add _ _) (by decide) rfl dX5_connect_138 ?_
                refine x_goto hE 23 (by decide) dX5_connect_141 ?_
                refine x_lv [(0, .ref h0), (1, .int (nI r)), (2, .int (nI x)), (3, .int (bI mo)), (4, .int (nI (i + 1)))] [3, 4, 5, 6, 0] rfl ?_
                exact ih no (i + 1) mo frx fcx (hk) (by omega) (hfr) (hfc) (hmu) (by have h9 := hT; simp only [lfor, lany, cnS, if_pos c29, if_neg c47, if_neg c72, if_neg c90, if_pos c97, reduceIte, Bool.false_eq_true, Bool.true_eq_false] at h9; exact h9)
              · skip
                refine x_aload_n hE 2 rfl dX5_connect_100 ?_
                refine x_dup hE rfl dX5_connect_101 ?_
                refine x_get hE g100 0 rfl rfl dX5_connect_102 ?_
                refine x_iconst hE (nI 1) (by decide) dX5_connect_105 ?_
                refine x_iload hE 6 rfl dX5_connect_106 ?_
                refine x_aload_n hE 2 rfl dX5_connect_108 ?_
                refine x_get hE g64 0 rfl rfl dX5_connect_109 ?_
                refine x_idiv hE (nI (i / C)) (nI_ne0 (by omega) (by omega)) (xI_div (by omega) (by omega) (by omega)) dX5_connect_112 ?_
                refine x_ishl hE (nI (1 <<< (i / C))) (xI_shl (by omega)) dX5_connect_113 ?_
                refine x_ior hE (nI (frx ||| (1 <<< (i / C)))) (fa_or _ _) dX5_connect_114 ?_
                refine x_put hE p100 [(h0, .inr (5, [.int (nI R), .int (nI C), .int (bI dio), .int (bI bk), .int (bI lt), .int sl, .int (nI V), .int ru, .int (bI sus), .int (bI sos), .int (nI T), .ref d1, .ref d2, .ref d3, .ref d4, .ref d5, .ref d6, .ref d7, .ref d8, .ref d9, .ref d10, .int (nI mk), .ref d11, .int sk, .int rf, .int tk, .int (nI (frx ||| (1 <<< (i / C)))), .int (nI fcx), .ref d12, .ref d13])), (d1, .inl (cI, 64, .inl (xN pos))), (d2, .inl (cI, 64, .inl ph)), (d3, .inl (cI, 64, .inl bg)), (d4, .inl (cZ, 64, .inl (xB fs))), (d5, .inl (cZ, 64, .inl (xB gs))), (d6, .inl (cI, 8, .inl st)), (d7, .inl (cI, 8, .inl kk)), (d8, .inl (cI, 8, .inl ve)), (d9, .inl (cI, 8, .inl si)), (d10, .inl (cZ, 8, .inl (xB ca))), (d11, .inl (cI, 48, .inl lg)), (d12, .inl (cI, 64, .inl op)), (d13, .inl (cI, 64, .inl ob))] 0 rfl rfl rfl rfl (Nat.le_of_ble_eq_true rfl) dX5_connect_115 ?_
                refine x_aload_n hE 2 rfl dX5_connect_118 ?_
                refine x_dup hE rfl dX5_connect_119 ?_
                refine x_get hE g103 0 rfl rfl dX5_connect_120 ?_
                refine x_iconst hE (nI 1) (by decide) dX5_connect_123 ?_
                refine x_iload hE 6 rfl dX5_connect_124 ?_
                refine x_aload_n hE 2 rfl dX5_connect_126 ?_
                refine x_get hE g64 0 rfl rfl dX5_connect_127 ?_
                refine x_irem hE (nI (i % C)) (nI_ne0 (by omega) (by omega)) (xI_rem (by omega) (by omega) (by omega)) dX5_connect_130 ?_
                refine x_ishl hE (nI (1 <<< (i % C))) (xI_shl (by omega)) dX5_connect_131 ?_
                refine x_ior hE (nI (fcx ||| (1 <<< (i % C)))) (fa_or _ _) dX5_connect_132 ?_
                refine x_put hE p103 [(h0, .inr (5, [.int (nI R), .int (nI C), .int (bI dio), .int (bI bk), .int (bI lt), .int sl, .int (nI V), .int ru, .int (bI sus), .int (bI sos), .int (nI T), .ref d1, .ref d2, .ref d3, .ref d4, .ref d5, .ref d6, .ref d7, .ref d8, .ref d9, .ref d10, .int (nI mk), .ref d11, .int sk, .int rf, .int tk, .int (nI (frx ||| (1 <<< (i / C)))), .int (nI (fcx ||| (1 <<< (i % C)))), .ref d12, .ref d13])), (d1, .inl (cI, 64, .inl (xN pos))), (d2, .inl (cI, 64, .inl ph)), (d3, .inl (cI, 64, .inl bg)), (d4, .inl (cZ, 64, .inl (xB fs))), (d5, .inl (cZ, 64, .inl (xB gs))), (d6, .inl (cI, 8, .inl st)), (d7, .inl (cI, 8, .inl kk)), (d8, .inl (cI, 8, .inl ve)), (d9, .inl (cI, 8, .inl si)), (d10, .inl (cZ, 8, .inl (xB ca))), (d11, .inl (cI, 48, .inl lg)), (d12, .inl (cI, 64, .inl op)), (d13, .inl (cI, 64, .inl ob))] 0 rfl rfl rfl rfl (Nat.le_of_ble_eq_true rfl) dX5_connect_133 ?_
                refine x_iconst hE (nI 1) (by decide) dX5_connect_136 ?_
                refine x_istore_n hE [(3, .int (nI 1)), (6, .int (bI (fcx.testBit (i % C)))), (5, .int (bI (frx.testBit (i / C)))), (0, .ref h0), (1, .int (nI r)), (2, .int (nI x)), (4, .int (nI i))] (by decide) rfl dX5_connect_137 ?_
                refine x_iinc hE (nI (i + 1)) [(4, .int (nI (i + 1))), (3, .int (nI 1)), (6, .int (bI (fcx.testBit (i % C)))), (5, .int (bI (frx.testBit (i / C)))), (0, .ref h0), (1, .int (nI r)), (2, .int (nI x))] 6 rfl (nI_add _ _) (by decide) rfl dX5_connect_138 ?_
                refine x_goto hE 23 (by decide) dX5_connect_141 ?_
                refine x_lv [(0, .ref h0), (1, .int (nI r)), (2, .int (nI x)), (3, .int (nI 1)), (4, .int (nI (i + 1)))] [4, 5, 6, 1, 0] rfl ?_
                exact ih no (i + 1) true (frx ||| (1 <<< (i / C))) (fcx ||| (1 <<< (i % C))) (hk) (by omega) (or256 hfr (shl256 (by omega))) (or256 hfc (shl256 (by omega))) (⟨by have h8 := pop8_two (r := i / C) (c := i % C) (by omega) (by omega) c97; omega, fun _ => by have h8 := pop8_two (r := i / C) (c := i % C) (by omega) (by omega) c97; omega⟩) (by have h9 := hT; simp only [lfor, lany, cnS, if_pos c29, if_neg c47, if_neg c72, if_neg c90, if_neg c97, reduceIte, Bool.false_eq_true, Bool.true_eq_false] at h9; exact h9)
          · skip
            refine x_iconst hE (nI 1) (by decide) dX5_connect_75 ?_
            refine x_goto hE 80 (by decide) dX5_connect_76 ?_
            refine x_eq (bI (fcx.testBit (i % C))) (by rw [show fcx.testBit (i % C) = true from tb_t c72]; rfl) ?_
            refine x_istore hE [(6, .int (bI (fcx.testBit (i % C)))), (5, .int (bI (frx.testBit (i / C)))), (0, .ref h0), (1, .int (nI r)), (2, .int (nI x)), (3, .int (bI mo)), (4, .int (nI i))] (by decide) rfl dX5_connect_80 ?_
            refine x_aload_n hE 2 rfl dX5_connect_82 ?_
            refine x_get hE g16 0 rfl rfl dX5_connect_83 ?_
            refine x_iload hE 6 rfl dX5_connect_86 ?_
            refine x_iald hE i (nI (pos i)) (by omega) (by decide) rfl 1 rfl dX5_connect_88 ?_
            refine x_iload_n hE 4 rfl dX5_connect_89 ?_
            have hp90 := hpos i
            refine xn_icmp_lt hE (by omega) (by omega) 138 (by decide) dX5_connect_90 (fun c90 => ?_) (fun c90 => ?_)
            · skip
              refine x_iinc hE (nI (i + 1)) [(4, .int (nI (i + 1))), (6, .int (bI (fcx.testBit (i % C)))), (5, .int (bI (frx.testBit (i / C)))), (0, .ref h0), (1, .int (nI r)), (2, .int (nI x)), (3, .int (bI mo))] 6 rfl (nI_add _ _) (by decide) rfl dX5_connect_138 ?_
              refine x_goto hE 23 (by decide) dX5_connect_141 ?_
              refine x_lv [(0, .ref h0), (1, .int (nI r)), (2, .int (nI x)), (3, .int (bI mo)), (4, .int (nI (i + 1)))] [3, 4, 5, 6, 0] rfl ?_
              exact ih no (i + 1) mo frx fcx (hk) (by omega) (hfr) (hfc) (hmu) (by have h9 := hT; simp only [lfor, lany, cnS, if_pos c29, if_neg c47, if_pos c72, if_pos c90, reduceIte, Bool.false_eq_true, Bool.true_eq_false] at h9; exact h9)
            · skip
              refine x_iload hE 1 rfl dX5_connect_93 ?_
              refine x_iload hE 0 rfl dX5_connect_95 ?_
              refine xb_icmp_eq hE 138 (by decide) dX5_connect_97 (fun c97 => ?_) (fun c97 => ?_)
              · skip
                refine x_iinc hE (nI (i + 1)) [(4, .int (nI (i + 1))), (6, .int (bI (fcx.testBit (i % C)))), (5, .int (bI (frx.testBit (i / C)))), (0, .ref h0), (1, .int (nI r)), (2, .int (nI x)), (3, .int (bI mo))] 6 rfl (nI_add _ _) (by decide) rfl dX5_connect_138 ?_
                refine x_goto hE 23 (by decide) dX5_connect_141 ?_
                refine x_lv [(0, .ref h0), (1, .int (nI r)), (2, .int (nI x)), (3, .int (bI mo)), (4, .int (nI (i + 1)))] [3, 4, 5, 6, 0] rfl ?_
                exact ih no (i + 1) mo frx fcx (hk) (by omega) (hfr) (hfc) (hmu) (by have h9 := hT; simp only [lfor, lany, cnS, if_pos c29, if_neg c47, if_pos c72, if_neg c90, if_pos c97, reduceIte, Bool.false_eq_true, Bool.true_eq_false] at h9; exact h9)
              · skip
                refine x_aload_n hE 2 rfl dX5_connect_100 ?_
                refine x_dup hE rfl dX5_connect_101 ?_
                refine x_get hE g100 0 rfl rfl dX5_connect_102 ?_
                refine x_iconst hE (nI 1) (by decide) dX5_connect_105 ?_
                refine x_iload hE 6 rfl dX5_connect_106 ?_
                refine x_aload_n hE 2 rfl dX5_connect_108 ?_
                refine x_get hE g64 0 rfl rfl dX5_connect_109 ?_
                refine x_idiv hE (nI (i / C)) (nI_ne0 (by omega) (by omega)) (xI_div (by omega) (by omega) (by omega)) dX5_connect_112 ?_
                refine x_ishl hE (nI (1 <<< (i / C))) (xI_shl (by omega)) dX5_connect_113 ?_
                refine x_ior hE (nI (frx ||| (1 <<< (i / C)))) (fa_or _ _) dX5_connect_114 ?_
                refine x_put hE p100 [(h0, .inr (5, [.int (nI R), .int (nI C), .int (bI dio), .int (bI bk), .int (bI lt), .int sl, .int (nI V), .int ru, .int (bI sus), .int (bI sos), .int (nI T), .ref d1, .ref d2, .ref d3, .ref d4, .ref d5, .ref d6, .ref d7, .ref d8, .ref d9, .ref d10, .int (nI mk), .ref d11, .int sk, .int rf, .int tk, .int (nI (frx ||| (1 <<< (i / C)))), .int (nI fcx), .ref d12, .ref d13])), (d1, .inl (cI, 64, .inl (xN pos))), (d2, .inl (cI, 64, .inl ph)), (d3, .inl (cI, 64, .inl bg)), (d4, .inl (cZ, 64, .inl (xB fs))), (d5, .inl (cZ, 64, .inl (xB gs))), (d6, .inl (cI, 8, .inl st)), (d7, .inl (cI, 8, .inl kk)), (d8, .inl (cI, 8, .inl ve)), (d9, .inl (cI, 8, .inl si)), (d10, .inl (cZ, 8, .inl (xB ca))), (d11, .inl (cI, 48, .inl lg)), (d12, .inl (cI, 64, .inl op)), (d13, .inl (cI, 64, .inl ob))] 0 rfl rfl rfl rfl (Nat.le_of_ble_eq_true rfl) dX5_connect_115 ?_
                refine x_aload_n hE 2 rfl dX5_connect_118 ?_
                refine x_dup hE rfl dX5_connect_119 ?_
                refine x_get hE g103 0 rfl rfl dX5_connect_120 ?_
                refine x_iconst hE (nI 1) (by decide) dX5_connect_123 ?_
                refine x_iload hE 6 rfl dX5_connect_124 ?_
                refine x_aload_n hE 2 rfl dX5_connect_126 ?_
                refine x_get hE g64 0 rfl rfl dX5_connect_127 ?_
                refine x_irem hE (nI (i % C)) (nI_ne0 (by omega) (by omega)) (xI_rem (by omega) (by omega) (by omega)) dX5_connect_130 ?_
                refine x_ishl hE (nI (1 <<< (i % C))) (xI_shl (by omega)) dX5_connect_131 ?_
                refine x_ior hE (nI (fcx ||| (1 <<< (i % C)))) (fa_or _ _) dX5_connect_132 ?_
                refine x_put hE p103 [(h0, .inr (5, [.int (nI R), .int (nI C), .int (bI dio), .int (bI bk), .int (bI lt), .int sl, .int (nI V), .int ru, .int (bI sus), .int (bI sos), .int (nI T), .ref d1, .ref d2, .ref d3, .ref d4, .ref d5, .ref d6, .ref d7, .ref d8, .ref d9, .ref d10, .int (nI mk), .ref d11, .int sk, .int rf, .int tk, .int (nI (frx ||| (1 <<< (i / C)))), .int (nI (fcx ||| (1 <<< (i % C)))), .ref d12, .ref d13])), (d1, .inl (cI, 64, .inl (xN pos))), (d2, .inl (cI, 64, .inl ph)), (d3, .inl (cI, 64, .inl bg)), (d4, .inl (cZ, 64, .inl (xB fs))), (d5, .inl (cZ, 64, .inl (xB gs))), (d6, .inl (cI, 8, .inl st)), (d7, .inl (cI, 8, .inl kk)), (d8, .inl (cI, 8, .inl ve)), (d9, .inl (cI, 8, .inl si)), (d10, .inl (cZ, 8, .inl (xB ca))), (d11, .inl (cI, 48, .inl lg)), (d12, .inl (cI, 64, .inl op)), (d13, .inl (cI, 64, .inl ob))] 0 rfl rfl rfl rfl (Nat.le_of_ble_eq_true rfl) dX5_connect_133 ?_
                refine x_iconst hE (nI 1) (by decide) dX5_connect_136 ?_
                refine x_istore_n hE [(3, .int (nI 1)), (6, .int (bI (fcx.testBit (i % C)))), (5, .int (bI (frx.testBit (i / C)))), (0, .ref h0), (1, .int (nI r)), (2, .int (nI x)), (4, .int (nI i))] (by decide) rfl dX5_connect_137 ?_
                refine x_iinc hE (nI (i + 1)) [(4, .int (nI (i + 1))), (3, .int (nI 1)), (6, .int (bI (fcx.testBit (i % C)))), (5, .int (bI (frx.testBit (i / C)))), (0, .ref h0), (1, .int (nI r)), (2, .int (nI x))] 6 rfl (nI_add _ _) (by decide) rfl dX5_connect_138 ?_
                refine x_goto hE 23 (by decide) dX5_connect_141 ?_
                refine x_lv [(0, .ref h0), (1, .int (nI r)), (2, .int (nI x)), (3, .int (nI 1)), (4, .int (nI (i + 1)))] [4, 5, 6, 1, 0] rfl ?_
                exact ih no (i + 1) true (frx ||| (1 <<< (i / C))) (fcx ||| (1 <<< (i % C))) (hk) (by omega) (or256 hfr (shl256 (by omega))) (or256 hfc (shl256 (by omega))) (⟨by have h8 := pop8_two (r := i / C) (c := i % C) (by omega) (by omega) c97; omega, fun _ => by have h8 := pop8_two (r := i / C) (c := i % C) (by omega) (by omega) c97; omega⟩) (by have h9 := hT; simp only [lfor, lany, cnS, if_pos c29, if_neg c47, if_pos c72, if_neg c90, if_neg c97, reduceIte, Bool.false_eq_true, Bool.true_eq_false] at h9; exact h9)
        · skip
          refine x_iconst hE (nI 1) (by decide) dX5_connect_50 ?_
          refine x_goto hE 55 (by decide) dX5_connect_51 ?_
          refine x_eq (bI (frx.testBit (i / C))) (by rw [show frx.testBit (i / C) = true from tb_t c47]; rfl) ?_
          refine x_istore hE [(5, .int (bI (frx.testBit (i / C)))), (0, .ref h0), (1, .int (nI r)), (2, .int (nI x)), (3, .int (bI mo)), (4, .int (nI i))] (by decide) rfl dX5_connect_55 ?_
          refine x_aload_n hE 1 rfl dX5_connect_57 ?_
          refine x_get hE g103 0 rfl rfl dX5_connect_58 ?_
          refine x_iload hE 5 rfl dX5_connect_61 ?_
          refine x_aload_n hE 1 rfl dX5_connect_63 ?_
          refine x_get hE g64 0 rfl rfl dX5_connect_64 ?_
          refine x_irem hE (nI (i % C)) (nI_ne0 (by omega) (by omega)) (xI_rem (by omega) (by omega) (by omega)) dX5_connect_67 ?_
          refine x_ishr hE (nI (fcx >>> (i % C))) (xI_shr (by omega) (by omega)) dX5_connect_68 ?_
          refine x_iconst hE (nI 1) (by decide) dX5_connect_69 ?_
          refine x_iand hE (nI ((fcx >>> (i % C)) &&& 1)) (fa_and _ _) dX5_connect_70 ?_
          refine x_iconst hE (nI 1) (by decide) dX5_connect_71 ?_
          have hb72 : fcx >>> (i % C) &&& 1 ≤ 1 := Nat.and_le_right
          refine xn_icmp_ne hE (by omega) (by omega) 79 (by decide) dX5_connect_72 (fun c72 => ?_) (fun c72 => ?_)
          · skip
            refine x_iconst hE (nI 0) (by decide) dX5_connect_79 ?_
            refine x_eq (bI (fcx.testBit (i % C))) (by rw [show fcx.testBit (i % C) = false from tb_f c72]; rfl) ?_
            refine x_istore hE [(6, .int (bI (fcx.testBit (i % C)))), (5, .int (bI (frx.testBit (i / C)))), (0, .ref h0), (1, .int (nI r)), (2, .int (nI x)), (3, .int (bI mo)), (4, .int (nI i))] (by decide) rfl dX5_connect_80 ?_
            refine x_aload_n hE 2 rfl dX5_connect_82 ?_
            refine x_get hE g16 0 rfl rfl dX5_connect_83 ?_
            refine x_iload hE 6 rfl dX5_connect_86 ?_
            refine x_iald hE i (nI (pos i)) (by omega) (by decide) rfl 1 rfl dX5_connect_88 ?_
            refine x_iload_n hE 4 rfl dX5_connect_89 ?_
            have hp90 := hpos i
            refine xn_icmp_lt hE (by omega) (by omega) 138 (by decide) dX5_connect_90 (fun c90 => ?_) (fun c90 => ?_)
            · skip
              refine x_iinc hE (nI (i + 1)) [(4, .int (nI (i + 1))), (6, .int (bI (fcx.testBit (i % C)))), (5, .int (bI (frx.testBit (i / C)))), (0, .ref h0), (1, .int (nI r)), (2, .int (nI x)), (3, .int (bI mo))] 6 rfl (nI_add _ _) (by decide) rfl dX5_connect_138 ?_
              refine x_goto hE 23 (by decide) dX5_connect_141 ?_
              refine x_lv [(0, .ref h0), (1, .int (nI r)), (2, .int (nI x)), (3, .int (bI mo)), (4, .int (nI (i + 1)))] [3, 4, 5, 6, 0] rfl ?_
              exact ih no (i + 1) mo frx fcx (hk) (by omega) (hfr) (hfc) (hmu) (by have h9 := hT; simp only [lfor, lany, cnS, if_pos c29, if_pos c47, if_neg c72, if_pos c90, reduceIte, Bool.false_eq_true, Bool.true_eq_false] at h9; exact h9)
            · skip
              refine x_iload hE 1 rfl dX5_connect_93 ?_
              refine x_iload hE 0 rfl dX5_connect_95 ?_
              refine xb_icmp_eq hE 138 (by decide) dX5_connect_97 (fun c97 => ?_) (fun c97 => ?_)
              · skip
                refine x_iinc hE (nI (i + 1)) [(4, .int (nI (i + 1))), (6, .int (bI (fcx.testBit (i % C)))), (5, .int (bI (frx.testBit (i / C)))), (0, .ref h0), (1, .int (nI r)), (2, .int (nI x)), (3, .int (bI mo))] 6 rfl (nI_add _ _) (by decide) rfl dX5_connect_138 ?_
                refine x_goto hE 23 (by decide) dX5_connect_141 ?_
                refine x_lv [(0, .ref h0), (1, .int (nI r)), (2, .int (nI x)), (3, .int (bI mo)), (4, .int (nI (i + 1)))] [3, 4, 5, 6, 0] rfl ?_
                exact ih no (i + 1) mo frx fcx (hk) (by omega) (hfr) (hfc) (hmu) (by have h9 := hT; simp only [lfor, lany, cnS, if_pos c29, if_pos c47, if_neg c72, if_neg c90, if_pos c97, reduceIte, Bool.false_eq_true, Bool.true_eq_false] at h9; exact h9)
              · skip
                refine x_aload_n hE 2 rfl dX5_connect_100 ?_
                refine x_dup hE rfl dX5_connect_101 ?_
                refine x_get hE g100 0 rfl rfl dX5_connect_102 ?_
                refine x_iconst hE (nI 1) (by decide) dX5_connect_105 ?_
                refine x_iload hE 6 rfl dX5_connect_106 ?_
                refine x_aload_n hE 2 rfl dX5_connect_108 ?_
                refine x_get hE g64 0 rfl rfl dX5_connect_109 ?_
                refine x_idiv hE (nI (i / C)) (nI_ne0 (by omega) (by omega)) (xI_div (by omega) (by omega) (by omega)) dX5_connect_112 ?_
                refine x_ishl hE (nI (1 <<< (i / C))) (xI_shl (by omega)) dX5_connect_113 ?_
                refine x_ior hE (nI (frx ||| (1 <<< (i / C)))) (fa_or _ _) dX5_connect_114 ?_
                refine x_put hE p100 [(h0, .inr (5, [.int (nI R), .int (nI C), .int (bI dio), .int (bI bk), .int (bI lt), .int sl, .int (nI V), .int ru, .int (bI sus), .int (bI sos), .int (nI T), .ref d1, .ref d2, .ref d3, .ref d4, .ref d5, .ref d6, .ref d7, .ref d8, .ref d9, .ref d10, .int (nI mk), .ref d11, .int sk, .int rf, .int tk, .int (nI (frx ||| (1 <<< (i / C)))), .int (nI fcx), .ref d12, .ref d13])), (d1, .inl (cI, 64, .inl (xN pos))), (d2, .inl (cI, 64, .inl ph)), (d3, .inl (cI, 64, .inl bg)), (d4, .inl (cZ, 64, .inl (xB fs))), (d5, .inl (cZ, 64, .inl (xB gs))), (d6, .inl (cI, 8, .inl st)), (d7, .inl (cI, 8, .inl kk)), (d8, .inl (cI, 8, .inl ve)), (d9, .inl (cI, 8, .inl si)), (d10, .inl (cZ, 8, .inl (xB ca))), (d11, .inl (cI, 48, .inl lg)), (d12, .inl (cI, 64, .inl op)), (d13, .inl (cI, 64, .inl ob))] 0 rfl rfl rfl rfl (Nat.le_of_ble_eq_true rfl) dX5_connect_115 ?_
                refine x_aload_n hE 2 rfl dX5_connect_118 ?_
                refine x_dup hE rfl dX5_connect_119 ?_
                refine x_get hE g103 0 rfl rfl dX5_connect_120 ?_
                refine x_iconst hE (nI 1) (by decide) dX5_connect_123 ?_
                refine x_iload hE 6 rfl dX5_connect_124 ?_
                refine x_aload_n hE 2 rfl dX5_connect_126 ?_
                refine x_get hE g64 0 rfl rfl dX5_connect_127 ?_
                refine x_irem hE (nI (i % C)) (nI_ne0 (by omega) (by omega)) (xI_rem (by omega) (by omega) (by omega)) dX5_connect_130 ?_
                refine x_ishl hE (nI (1 <<< (i % C))) (xI_shl (by omega)) dX5_connect_131 ?_
                refine x_ior hE (nI (fcx ||| (1 <<< (i % C)))) (fa_or _ _) dX5_connect_132 ?_
                refine x_put hE p103 [(h0, .inr (5, [.int (nI R), .int (nI C), .int (bI dio), .int (bI bk), .int (bI lt), .int sl, .int (nI V), .int ru, .int (bI sus), .int (bI sos), .int (nI T), .ref d1, .ref d2, .ref d3, .ref d4, .ref d5, .ref d6, .ref d7, .ref d8, .ref d9, .ref d10, .int (nI mk), .ref d11, .int sk, .int rf, .int tk, .int (nI (frx ||| (1 <<< (i / C)))), .int (nI (fcx ||| (1 <<< (i % C)))), .ref d12, .ref d13])), (d1, .inl (cI, 64, .inl (xN pos))), (d2, .inl (cI, 64, .inl ph)), (d3, .inl (cI, 64, .inl bg)), (d4, .inl (cZ, 64, .inl (xB fs))), (d5, .inl (cZ, 64, .inl (xB gs))), (d6, .inl (cI, 8, .inl st)), (d7, .inl (cI, 8, .inl kk)), (d8, .inl (cI, 8, .inl ve)), (d9, .inl (cI, 8, .inl si)), (d10, .inl (cZ, 8, .inl (xB ca))), (d11, .inl (cI, 48, .inl lg)), (d12, .inl (cI, 64, .inl op)), (d13, .inl (cI, 64, .inl ob))] 0 rfl rfl rfl rfl (Nat.le_of_ble_eq_true rfl) dX5_connect_133 ?_
                refine x_iconst hE (nI 1) (by decide) dX5_connect_136 ?_
                refine x_istore_n hE [(3, .int (nI 1)), (6, .int (bI (fcx.testBit (i % C)))), (5, .int (bI (frx.testBit (i / C)))), (0, .ref h0), (1, .int (nI r)), (2, .int (nI x)), (4, .int (nI i))] (by decide) rfl dX5_connect_137 ?_
                refine x_iinc hE (nI (i + 1)) [(4, .int (nI (i + 1))), (3, .int (nI 1)), (6, .int (bI (fcx.testBit (i % C)))), (5, .int (bI (frx.testBit (i / C)))), (0, .ref h0), (1, .int (nI r)), (2, .int (nI x))] 6 rfl (nI_add _ _) (by decide) rfl dX5_connect_138 ?_
                refine x_goto hE 23 (by decide) dX5_connect_141 ?_
                refine x_lv [(0, .ref h0), (1, .int (nI r)), (2, .int (nI x)), (3, .int (nI 1)), (4, .int (nI (i + 1)))] [4, 5, 6, 1, 0] rfl ?_
                exact ih no (i + 1) true (frx ||| (1 <<< (i / C))) (fcx ||| (1 <<< (i % C))) (hk) (by omega) (or256 hfr (shl256 (by omega))) (or256 hfc (shl256 (by omega))) (⟨by have h8 := pop8_two (r := i / C) (c := i % C) (by omega) (by omega) c97; omega, fun _ => by have h8 := pop8_two (r := i / C) (c := i % C) (by omega) (by omega) c97; omega⟩) (by have h9 := hT; simp only [lfor, lany, cnS, if_pos c29, if_pos c47, if_neg c72, if_neg c90, if_neg c97, reduceIte, Bool.false_eq_true, Bool.true_eq_false] at h9; exact h9)
          · skip
            refine x_iconst hE (nI 1) (by decide) dX5_connect_75 ?_
            refine x_goto hE 80 (by decide) dX5_connect_76 ?_
            refine x_eq (bI (fcx.testBit (i % C))) (by rw [show fcx.testBit (i % C) = true from tb_t c72]; rfl) ?_
            refine x_istore hE [(6, .int (bI (fcx.testBit (i % C)))), (5, .int (bI (frx.testBit (i / C)))), (0, .ref h0), (1, .int (nI r)), (2, .int (nI x)), (3, .int (bI mo)), (4, .int (nI i))] (by decide) rfl dX5_connect_80 ?_
            refine x_aload_n hE 2 rfl dX5_connect_82 ?_
            refine x_get hE g16 0 rfl rfl dX5_connect_83 ?_
            refine x_iload hE 6 rfl dX5_connect_86 ?_
            refine x_iald hE i (nI (pos i)) (by omega) (by decide) rfl 1 rfl dX5_connect_88 ?_
            refine x_iload_n hE 4 rfl dX5_connect_89 ?_
            have hp90 := hpos i
            refine xn_icmp_lt hE (by omega) (by omega) 138 (by decide) dX5_connect_90 (fun c90 => ?_) (fun c90 => ?_)
            · skip
              refine x_iinc hE (nI (i + 1)) [(4, .int (nI (i + 1))), (6, .int (bI (fcx.testBit (i % C)))), (5, .int (bI (frx.testBit (i / C)))), (0, .ref h0), (1, .int (nI r)), (2, .int (nI x)), (3, .int (bI mo))] 6 rfl (nI_add _ _) (by decide) rfl dX5_connect_138 ?_
              refine x_goto hE 23 (by decide) dX5_connect_141 ?_
              refine x_lv [(0, .ref h0), (1, .int (nI r)), (2, .int (nI x)), (3, .int (bI mo)), (4, .int (nI (i + 1)))] [3, 4, 5, 6, 0] rfl ?_
              exact ih no (i + 1) mo frx fcx (hk) (by omega) (hfr) (hfc) (hmu) (by have h9 := hT; simp only [lfor, lany, cnS, if_pos c29, if_pos c47, if_pos c72, if_pos c90, reduceIte, Bool.false_eq_true, Bool.true_eq_false] at h9; exact h9)
            · skip
              refine x_iload hE 1 rfl dX5_connect_93 ?_
              refine x_iload hE 0 rfl dX5_connect_95 ?_
              refine xb_icmp_eq hE 138 (by decide) dX5_connect_97 (fun c97 => ?_) (fun c97 => ?_)
              · skip
                refine x_iinc hE (nI (i + 1)) [(4, .int (nI (i + 1))), (6, .int (bI (fcx.testBit (i % C)))), (5, .int (bI (frx.testBit (i / C)))), (0, .ref h0), (1, .int (nI r)), (2, .int (nI x)), (3, .int (bI mo))] 6 rfl (nI_add _ _) (by decide) rfl dX5_connect_138 ?_
                refine x_goto hE 23 (by decide) dX5_connect_141 ?_
                refine x_lv [(0, .ref h0), (1, .int (nI r)), (2, .int (nI x)), (3, .int (bI mo)), (4, .int (nI (i + 1)))] [3, 4, 5, 6, 0] rfl ?_
                exact ih no (i + 1) mo frx fcx (hk) (by omega) (hfr) (hfc) (hmu) (by have h9 := hT; simp only [lfor, lany, cnS, if_pos c29, if_pos c47, if_pos c72, if_neg c90, if_pos c97, reduceIte, Bool.false_eq_true, Bool.true_eq_false] at h9; exact h9)
              · skip
                refine x_aload_n hE 2 rfl dX5_connect_100 ?_
                refine x_dup hE rfl dX5_connect_101 ?_
                refine x_get hE g100 0 rfl rfl dX5_connect_102 ?_
                refine x_iconst hE (nI 1) (by decide) dX5_connect_105 ?_
                refine x_iload hE 6 rfl dX5_connect_106 ?_
                refine x_aload_n hE 2 rfl dX5_connect_108 ?_
                refine x_get hE g64 0 rfl rfl dX5_connect_109 ?_
                refine x_idiv hE (nI (i / C)) (nI_ne0 (by omega) (by omega)) (xI_div (by omega) (by omega) (by omega)) dX5_connect_112 ?_
                refine x_ishl hE (nI (1 <<< (i / C))) (xI_shl (by omega)) dX5_connect_113 ?_
                refine x_ior hE (nI (frx ||| (1 <<< (i / C)))) (fa_or _ _) dX5_connect_114 ?_
                refine x_put hE p100 [(h0, .inr (5, [.int (nI R), .int (nI C), .int (bI dio), .int (bI bk), .int (bI lt), .int sl, .int (nI V), .int ru, .int (bI sus), .int (bI sos), .int (nI T), .ref d1, .ref d2, .ref d3, .ref d4, .ref d5, .ref d6, .ref d7, .ref d8, .ref d9, .ref d10, .int (nI mk), .ref d11, .int sk, .int rf, .int tk, .int (nI (frx ||| (1 <<< (i / C)))), .int (nI fcx), .ref d12, .ref d13])), (d1, .inl (cI, 64, .inl (xN pos))), (d2, .inl (cI, 64, .inl ph)), (d3, .inl (cI, 64, .inl bg)), (d4, .inl (cZ, 64, .inl (xB fs))), (d5, .inl (cZ, 64, .inl (xB gs))), (d6, .inl (cI, 8, .inl st)), (d7, .inl (cI, 8, .inl kk)), (d8, .inl (cI, 8, .inl ve)), (d9, .inl (cI, 8, .inl si)), (d10, .inl (cZ, 8, .inl (xB ca))), (d11, .inl (cI, 48, .inl lg)), (d12, .inl (cI, 64, .inl op)), (d13, .inl (cI, 64, .inl ob))] 0 rfl rfl rfl rfl (Nat.le_of_ble_eq_true rfl) dX5_connect_115 ?_
                refine x_aload_n hE 2 rfl dX5_connect_118 ?_
                refine x_dup hE rfl dX5_connect_119 ?_
                refine x_get hE g103 0 rfl rfl dX5_connect_120 ?_
                refine x_iconst hE (nI 1) (by decide) dX5_connect_123 ?_
                refine x_iload hE 6 rfl dX5_connect_124 ?_
                refine x_aload_n hE 2 rfl dX5_connect_126 ?_
                refine x_get hE g64 0 rfl rfl dX5_connect_127 ?_
                refine x_irem hE (nI (i % C)) (nI_ne0 (by omega) (by omega)) (xI_rem (by omega) (by omega) (by omega)) dX5_connect_130 ?_
                refine x_ishl hE (nI (1 <<< (i % C))) (xI_shl (by omega)) dX5_connect_131 ?_
                refine x_ior hE (nI (fcx ||| (1 <<< (i % C)))) (fa_or _ _) dX5_connect_132 ?_
                refine x_put hE p103 [(h0, .inr (5, [.int (nI R), .int (nI C), .int (bI dio), .int (bI bk), .int (bI lt), .int sl, .int (nI V), .int ru, .int (bI sus), .int (bI sos), .int (nI T), .ref d1, .ref d2, .ref d3, .ref d4, .ref d5, .ref d6, .ref d7, .ref d8, .ref d9, .ref d10, .int (nI mk), .ref d11, .int sk, .int rf, .int tk, .int (nI (frx ||| (1 <<< (i / C)))), .int (nI (fcx ||| (1 <<< (i % C)))), .ref d12, .ref d13])), (d1, .inl (cI, 64, .inl (xN pos))), (d2, .inl (cI, 64, .inl ph)), (d3, .inl (cI, 64, .inl bg)), (d4, .inl (cZ, 64, .inl (xB fs))), (d5, .inl (cZ, 64, .inl (xB gs))), (d6, .inl (cI, 8, .inl st)), (d7, .inl (cI, 8, .inl kk)), (d8, .inl (cI, 8, .inl ve)), (d9, .inl (cI, 8, .inl si)), (d10, .inl (cZ, 8, .inl (xB ca))), (d11, .inl (cI, 48, .inl lg)), (d12, .inl (cI, 64, .inl op)), (d13, .inl (cI, 64, .inl ob))] 0 rfl rfl rfl rfl (Nat.le_of_ble_eq_true rfl) dX5_connect_133 ?_
                refine x_iconst hE (nI 1) (by decide) dX5_connect_136 ?_
                refine x_istore_n hE [(3, .int (nI 1)), (6, .int (bI (fcx.testBit (i % C)))), (5, .int (bI (frx.testBit (i / C)))), (0, .ref h0), (1, .int (nI r)), (2, .int (nI x)), (4, .int (nI i))] (by decide) rfl dX5_connect_137 ?_
                refine x_iinc hE (nI (i + 1)) [(4, .int (nI (i + 1))), (3, .int (nI 1)), (6, .int (bI (fcx.testBit (i % C)))), (5, .int (bI (frx.testBit (i / C)))), (0, .ref h0), (1, .int (nI r)), (2, .int (nI x))] 6 rfl (nI_add _ _) (by decide) rfl dX5_connect_138 ?_
                refine x_goto hE 23 (by decide) dX5_connect_141 ?_
                refine x_lv [(0, .ref h0), (1, .int (nI r)), (2, .int (nI x)), (3, .int (nI 1)), (4, .int (nI (i + 1)))] [4, 5, 6, 1, 0] rfl ?_
                exact ih no (i + 1) true (frx ||| (1 <<< (i / C))) (fcx ||| (1 <<< (i % C))) (hk) (by omega) (or256 hfr (shl256 (by omega))) (or256 hfc (shl256 (by omega))) (⟨by have h8 := pop8_two (r := i / C) (c := i % C) (by omega) (by omega) c97; omega, fun _ => by have h8 := pop8_two (r := i / C) (c := i % C) (by omega) (by omega) c97; omega⟩) (by have h9 := hT; simp only [lfor, lany, cnS, if_pos c29, if_pos c47, if_pos c72, if_neg c90, if_neg c97, reduceIte, Bool.false_eq_true, Bool.true_eq_false] at h9; exact h9)
  have lp14 : ∀ (n : Nat) (mo : Bool) (frx : Nat) (fcx : Nat) (hfr : frx < 256) (hfc : fcx < 256) (hmu : mo = true → 17 ≤ pop8 frx + pop8 fcx + n) (hT : (if mo = true then cnO pos R C x n (frx, fcx) else (frx, fcx)) = cnF pos R C x r), X p9 l e9 { frames := 1, cells := 0, slots := 0, locals := 20 } s9 m9 args9 below9 meth9 cd9 0 0 (MQ below9 (xQ D (fun v8 w8 => v8 = none ∧ w8 = [(h0, .inr (5, [.int (nI R), .int (nI C), .int (bI dio), .int (bI bk), .int (bI lt), .int sl, .int (nI V), .int ru, .int (bI sus), .int (bI sos), .int (nI T), .ref d1, .ref d2, .ref d3, .ref d4, .ref d5, .ref d6, .ref d7, .ref d8, .ref d9, .ref d10, .int (nI mk), .ref d11, .int sk, .int rf, .int tk, .int (nI ((cnF pos R C x r).1)), .int (nI ((cnF pos R C x r).2)), .ref d12, .ref d13])), (d1, .inl (cI, 64, .inl (xN pos))), (d2, .inl (cI, 64, .inl ph)), (d3, .inl (cI, 64, .inl bg)), (d4, .inl (cZ, 64, .inl (xB fs))), (d5, .inl (cZ, 64, .inl (xB gs))), (d6, .inl (cI, 8, .inl st)), (d7, .inl (cI, 8, .inl kk)), (d8, .inl (cI, 8, .inl ve)), (d9, .inl (cI, 8, .inl si)), (d10, .inl (cZ, 8, .inl (xB ca))), (d11, .inl (cI, 48, .inl lg)), (d12, .inl (cI, 64, .inl op)), (d13, .inl (cI, 64, .inl ob))]) A) args9 s9 0 0 A) 7 D A [(h0, .inr (5, [.int (nI R), .int (nI C), .int (bI dio), .int (bI bk), .int (bI lt), .int sl, .int (nI V), .int ru, .int (bI sus), .int (bI sos), .int (nI T), .ref d1, .ref d2, .ref d3, .ref d4, .ref d5, .ref d6, .ref d7, .ref d8, .ref d9, .ref d10, .int (nI mk), .ref d11, .int sk, .int rf, .int tk, .int (nI frx), .int (nI fcx), .ref d12, .ref d13])), (d1, .inl (cI, 64, .inl (xN pos))), (d2, .inl (cI, 64, .inl ph)), (d3, .inl (cI, 64, .inl bg)), (d4, .inl (cZ, 64, .inl (xB fs))), (d5, .inl (cZ, 64, .inl (xB gs))), (d6, .inl (cI, 8, .inl st)), (d7, .inl (cI, 8, .inl kk)), (d8, .inl (cI, 8, .inl ve)), (d9, .inl (cI, 8, .inl si)), (d10, .inl (cZ, 8, .inl (xB ca))), (d11, .inl (cI, 48, .inl lg)), (d12, .inl (cI, 64, .inl op)), (d13, .inl (cI, 64, .inl ob))] [(0, .ref h0), (1, .int (nI r)), (2, .int (nI x)), (3, .int (bI mo))] 14 [] := by
    intro n
    induction n with
    | zero =>
      intro mo frx fcx hfr hfc hmu hT
      refine x_iload_n hE 3 rfl dX5_connect_14 ?_
      refine xb_if_eq hE 147 (by decide) dX5_connect_15 (fun c15 => ?_) (fun c15 => ?_)
      · skip
        exact x_vret hE hr (⟨rfl, by rw [← hT, if_neg (bnt c15)]⟩) dX5_connect_147
      · skip
        exact absurd (hmu c15) (by have h8 := pop8_le frx; have h7 := pop8_le fcx; omega)
    | succ n ih =>
      intro mo frx fcx hfr hfc hmu hT
      refine x_iload_n hE 3 rfl dX5_connect_14 ?_
      refine xb_if_eq hE 147 (by decide) dX5_connect_15 (fun c15 => ?_) (fun c15 => ?_)
      · skip
        exact x_vret hE hr (⟨rfl, by rw [← hT, if_neg (bnt c15)]⟩) dX5_connect_147
      · skip
        refine x_iconst hE (nI 0) (by decide) dX5_connect_18 ?_
        refine x_istore_n hE [(3, .int (nI 0)), (0, .ref h0), (1, .int (nI r)), (2, .int (nI x))] (by decide) rfl dX5_connect_19 ?_
        refine x_iconst hE (nI 0) (by decide) dX5_connect_20 ?_
        refine x_istore hE [(4, .int (nI 0)), (3, .int (nI 0)), (0, .ref h0), (1, .int (nI r)), (2, .int (nI x))] (by decide) rfl dX5_connect_21 ?_
        refine x_lv [(0, .ref h0), (1, .int (nI r)), (2, .int (nI x)), (3, .int (nI 0)), (4, .int (nI 0))] [2, 3, 4, 1, 0] rfl ?_
        exact lp23 (R * C) n 0 false frx fcx (ih) (Nat.zero_add _) (hfr) (hfc) (⟨by have h8 := hmu c15; omega, fun q9 => absurd q9 (by decide)⟩) (by have h9 := hT; rw [if_pos c15] at h9; exact h9)
  refine x_aload_n hE 0 rfl dX5_connect_0 ?_
  refine x_iconst hE (nI 1) (by decide) dX5_connect_1 ?_
  refine x_iload_n hE 1 rfl dX5_connect_2 ?_
  refine x_ishl hE (nI (1 <<< r)) (xI_shl (by omega)) dX5_connect_3 ?_
  refine x_put hE p100 [(h0, .inr (5, [.int (nI R), .int (nI C), .int (bI dio), .int (bI bk), .int (bI lt), .int sl, .int (nI V), .int ru, .int (bI sus), .int (bI sos), .int (nI T), .ref d1, .ref d2, .ref d3, .ref d4, .ref d5, .ref d6, .ref d7, .ref d8, .ref d9, .ref d10, .int (nI mk), .ref d11, .int sk, .int rf, .int tk, .int (nI (1 <<< r)), .int (nI fc), .ref d12, .ref d13])), (d1, .inl (cI, 64, .inl (xN pos))), (d2, .inl (cI, 64, .inl ph)), (d3, .inl (cI, 64, .inl bg)), (d4, .inl (cZ, 64, .inl (xB fs))), (d5, .inl (cZ, 64, .inl (xB gs))), (d6, .inl (cI, 8, .inl st)), (d7, .inl (cI, 8, .inl kk)), (d8, .inl (cI, 8, .inl ve)), (d9, .inl (cI, 8, .inl si)), (d10, .inl (cZ, 8, .inl (xB ca))), (d11, .inl (cI, 48, .inl lg)), (d12, .inl (cI, 64, .inl op)), (d13, .inl (cI, 64, .inl ob))] 0 rfl rfl rfl rfl (Nat.le_of_ble_eq_true rfl) dX5_connect_4 ?_
  refine x_aload_n hE 0 rfl dX5_connect_7 ?_
  refine x_iconst hE (nI 0) (by decide) dX5_connect_8 ?_
  refine x_put hE p103 [(h0, .inr (5, [.int (nI R), .int (nI C), .int (bI dio), .int (bI bk), .int (bI lt), .int sl, .int (nI V), .int ru, .int (bI sus), .int (bI sos), .int (nI T), .ref d1, .ref d2, .ref d3, .ref d4, .ref d5, .ref d6, .ref d7, .ref d8, .ref d9, .ref d10, .int (nI mk), .ref d11, .int sk, .int rf, .int tk, .int (nI (1 <<< r)), .int (nI 0), .ref d12, .ref d13])), (d1, .inl (cI, 64, .inl (xN pos))), (d2, .inl (cI, 64, .inl ph)), (d3, .inl (cI, 64, .inl bg)), (d4, .inl (cZ, 64, .inl (xB fs))), (d5, .inl (cZ, 64, .inl (xB gs))), (d6, .inl (cI, 8, .inl st)), (d7, .inl (cI, 8, .inl kk)), (d8, .inl (cI, 8, .inl ve)), (d9, .inl (cI, 8, .inl si)), (d10, .inl (cZ, 8, .inl (xB ca))), (d11, .inl (cI, 48, .inl lg)), (d12, .inl (cI, 64, .inl op)), (d13, .inl (cI, 64, .inl ob))] 0 rfl rfl rfl rfl (Nat.le_of_ble_eq_true rfl) dX5_connect_9 ?_
  refine x_iconst hE (nI 1) (by decide) dX5_connect_12 ?_
  refine x_istore_n hE [(3, .int (nI 1)), (0, .ref h0), (1, .int (nI r)), (2, .int (nI x))] (by decide) rfl dX5_connect_13 ?_
  refine x_lv [(0, .ref h0), (1, .int (nI r)), (2, .int (nI x)), (3, .int (nI 1))] [1, 2, 3, 0] rfl ?_
  exact lp14 17 true (1 <<< r) 0 (shl256 (by omega)) (by decide) (fun _ => by omega) (rfl)
set_option maxHeartbeats 4000000 in
set_option maxRecDepth 100000 in
theorem kX5_appear (l : Launch) (D : va_G) (cI cZ : ClassId) (h0 : Nat) (d1 : Nat) (d2 : Nat) (d3 : Nat) (d4 : Nat) (d5 : Nat) (d6 : Nat) (d7 : Nat) (d8 : Nat) (d9 : Nat) (d10 : Nat) (d11 : Nat) (d12 : Nat) (d13 : Nat) (R : Nat) (C : Nat) (dio : Bool) (bk : Bool) (lt : Bool) (sl : Int32) (V : Nat) (ru : Int32) (sus : Bool) (sos : Bool) (T : Nat) (pos : Nat → Nat) (ph : Nat → Int32) (bg : Nat → Int32) (fs : Nat → Bool) (gs : Nat → Bool) (st : Nat → Int32) (kk : Nat → Int32) (ve : Nat → Int32) (si : Nat → Int32) (ca : Nat → Bool) (mk : Nat) (lg : Nat → Int32) (sk : Int32) (rf : Int32) (tk : Int32) (fr : Nat) (fc : Nat) (op : Nat → Int32) (ob : Nat → Int32) (hR : 1 ≤ R ∧ R ≤ 8) (hC : 1 ≤ C ∧ C ≤ 8) (hpos : ∀ k, pos k ≤ 2) : xC l yX5_appear wsX5_appear 2 0 0 46 D cI cZ [.ref h0] [(h0, .inr (5, [.int (nI R), .int (nI C), .int (bI dio), .int (bI bk), .int (bI lt), .int sl, .int (nI V), .int ru, .int (bI sus), .int (bI sos), .int (nI T), .ref d1, .ref d2, .ref d3, .ref d4, .ref d5, .ref d6, .ref d7, .ref d8, .ref d9, .ref d10, .int (nI mk), .ref d11, .int sk, .int rf, .int tk, .int (nI fr), .int (nI fc), .ref d12, .ref d13])), (d1, .inl (cI, 64, .inl (xN pos))), (d2, .inl (cI, 64, .inl ph)), (d3, .inl (cI, 64, .inl bg)), (d4, .inl (cZ, 64, .inl (xB fs))), (d5, .inl (cZ, 64, .inl (xB gs))), (d6, .inl (cI, 8, .inl st)), (d7, .inl (cI, 8, .inl kk)), (d8, .inl (cI, 8, .inl ve)), (d9, .inl (cI, 8, .inl si)), (d10, .inl (cZ, 8, .inl (xB ca))), (d11, .inl (cI, 48, .inl lg)), (d12, .inl (cI, 64, .inl op)), (d13, .inl (cI, 64, .inl ob))] (fun v8 w8 => v8 = none ∧ w8 = [(h0, .inr (5, [.int (nI R), .int (nI C), .int (bI dio), .int (bI bk), .int (bI lt), .int sl, .int (nI V), .int ru, .int (bI sus), .int (bI sos), .int (nI T), .ref d1, .ref d2, .ref d3, .ref d4, .ref d5, .ref d6, .ref d7, .ref d8, .ref d9, .ref d10, .int (nI mk), .ref d11, .int sk, .int rf, .int tk, .int (nI ((cnF pos R C 2 (R - 1)).1)), .int (nI ((cnF pos R C 2 (R - 1)).2)), .ref d12, .ref d13])), (d1, .inl (cI, 64, .inl (xN pos))), (d2, .inl (cI, 64, .inl ph)), (d3, .inl (cI, 64, .inl bg)), (d4, .inl (cZ, 64, .inl (xB ((apA dio pos R C (fs, gs)).1)))), (d5, .inl (cZ, 64, .inl (xB ((apA dio pos R C (fs, gs)).2)))), (d6, .inl (cI, 8, .inl st)), (d7, .inl (cI, 8, .inl kk)), (d8, .inl (cI, 8, .inl ve)), (d9, .inl (cI, 8, .inl si)), (d10, .inl (cZ, 8, .inl (xB ca))), (d11, .inl (cI, 48, .inl lg)), (d12, .inl (cI, 64, .inl op)), (d13, .inl (cI, 64, .inl ob))]) := by
  refine xC.of (bytes := cX5_appear) (maxL := 5) (ret := none) (own := RX5) (by decide +kernel) rfl (Nat.le_of_ble_eq_true rfl) rfl ?_
  intro p9 e9 s9 m9 args9 below9 meth9 cd9 A hE hr hin2 hA9
  have inX5 : ∀ w ∈ wsX50, w ∈ wsX5_appear := fun w h => List.mem_cons_of_mem _ (List.mem_append_right _ h)
  have g64 : xF RX5 wsX5_appear 64 5 1 := ⟨"KeyScannerModel", RX5, TX5, 30, inX5, rfl, by decide, List.mem_of_getElem? (i := 3) rfl, rfl⟩
  have g30 : xF RX5 wsX5_appear 30 5 15 := ⟨"KeyScannerModel", RX5, TX5, 30, inX5, rfl, by decide, List.mem_of_getElem? (i := 4) rfl, rfl⟩
  have g109 : xF RX5 wsX5_appear 109 5 2 := ⟨"KeyScannerModel", RX5, TX5, 30, inX5, rfl, by decide, List.mem_of_getElem? (i := 5) rfl, rfl⟩
  have g103 : xF RX5 wsX5_appear 103 5 27 := ⟨"KeyScannerModel", RX5, TX5, 30, inX5, rfl, by decide, List.mem_of_getElem? (i := 2) rfl, rfl⟩
  have g26 : xF RX5 wsX5_appear 26 5 14 := ⟨"KeyScannerModel", RX5, TX5, 30, inX5, rfl, by decide, List.mem_of_getElem? (i := 7) rfl, rfl⟩
  have g16 : xF RX5 wsX5_appear 16 5 11 := ⟨"KeyScannerModel", RX5, TX5, 30, inX5, rfl, by decide, List.mem_of_getElem? (i := 6) rfl, rfl⟩
  have g61 : xF RX5 wsX5_appear 61 5 0 := ⟨"KeyScannerModel", RX5, TX5, 30, inX5, rfl, by decide, List.mem_of_getElem? (i := 1) rfl, rfl⟩
  have hRC : R * C ≤ 64 := Nat.mul_le_mul hR.2 hC.2
  refine x_at (ws' := [(h0, .inr (5, [.int (nI R), .int (nI C), .int (bI dio), .int (bI bk), .int (bI lt), .int sl, .int (nI V), .int ru, .int (bI sus), .int (bI sos), .int (nI T), .ref d1, .ref d2, .ref d3, .ref d4, .ref d5, .ref d6, .ref d7, .ref d8, .ref d9, .ref d10, .int (nI mk), .ref d11, .int sk, .int rf, .int tk, .int (nI fr), .int (nI fc), .ref d12, .ref d13])), (d1, .inl (cI, 64, .inl (xN pos))), (d2, .inl (cI, 64, .inl ph)), (d3, .inl (cI, 64, .inl bg)), (d4, .inl (cZ, 64, .inl (xB fs))), (d5, .inl (cZ, 64, .inl (xB gs))), (d6, .inl (cI, 8, .inl st)), (d7, .inl (cI, 8, .inl kk)), (d8, .inl (cI, 8, .inl ve)), (d9, .inl (cI, 8, .inl si)), (d10, .inl (cZ, 8, .inl (xB ca))), (d11, .inl (cI, 48, .inl lg)), (d12, .inl (cI, 64, .inl op)), (d13, .inl (cI, 64, .inl ob))]) (st' := []) rfl rfl ?_
  refine x_lv [(0, .ref h0)] [0] rfl ?_
  have lp29 : ∀ (n : Nat) (no : Nat) (i : Nat) (j : Nat) (fsx : Nat → Bool) (gsx : Nat → Bool) (hk : ∀ (i : Nat) (fsx : Nat → Bool) (gsx : Nat → Bool) (frx : Nat) (fcx : Nat) (hi : i + no = R) (hT : lfor (apR dio pos R C) i no (fsx, gsx) = apA dio pos R C (fs, gs)) (hF : i = 0 ∨ (frx = (cnF pos R C 2 (i - 1)).1 ∧ fcx = (cnF pos R C 2 (i - 1)).2)), X p9 l e9 { frames := 2, cells := 0, slots := 0, locals := 46 } s9 m9 args9 below9 meth9 cd9 0 0 (MQ below9 (xQ D (fun v8 w8 => v8 = none ∧ w8 = [(h0, .inr (5, [.int (nI R), .int (nI C), .int (bI dio), .int (bI bk), .int (bI lt), .int sl, .int (nI V), .int ru, .int (bI sus), .int (bI sos), .int (nI T), .ref d1, .ref d2, .ref d3, .ref d4, .ref d5, .ref d6, .ref d7, .ref d8, .ref d9, .ref d10, .int (nI mk), .ref d11, .int sk, .int rf, .int tk, .int (nI ((cnF pos R C 2 (R - 1)).1)), .int (nI ((cnF pos R C 2 (R - 1)).2)), .ref d12, .ref d13])), (d1, .inl (cI, 64, .inl (xN pos))), (d2, .inl (cI, 64, .inl ph)), (d3, .inl (cI, 64, .inl bg)), (d4, .inl (cZ, 64, .inl (xB ((apA dio pos R C (fs, gs)).1)))), (d5, .inl (cZ, 64, .inl (xB ((apA dio pos R C (fs, gs)).2)))), (d6, .inl (cI, 8, .inl st)), (d7, .inl (cI, 8, .inl kk)), (d8, .inl (cI, 8, .inl ve)), (d9, .inl (cI, 8, .inl si)), (d10, .inl (cZ, 8, .inl (xB ca))), (d11, .inl (cI, 48, .inl lg)), (d12, .inl (cI, 64, .inl op)), (d13, .inl (cI, 64, .inl ob))]) A) args9 s9 0 0 A) 5 D A [(h0, .inr (5, [.int (nI R), .int (nI C), .int (bI dio), .int (bI bk), .int (bI lt), .int sl, .int (nI V), .int ru, .int (bI sus), .int (bI sos), .int (nI T), .ref d1, .ref d2, .ref d3, .ref d4, .ref d5, .ref d6, .ref d7, .ref d8, .ref d9, .ref d10, .int (nI mk), .ref d11, .int sk, .int rf, .int tk, .int (nI frx), .int (nI fcx), .ref d12, .ref d13])), (d1, .inl (cI, 64, .inl (xN pos))), (d2, .inl (cI, 64, .inl ph)), (d3, .inl (cI, 64, .inl bg)), (d4, .inl (cZ, 64, .inl (xB fsx))), (d5, .inl (cZ, 64, .inl (xB gsx))), (d6, .inl (cI, 8, .inl st)), (d7, .inl (cI, 8, .inl kk)), (d8, .inl (cI, 8, .inl ve)), (d9, .inl (cI, 8, .inl si)), (d10, .inl (cZ, 8, .inl (xB ca))), (d11, .inl (cI, 48, .inl lg)), (d12, .inl (cI, 64, .inl op)), (d13, .inl (cI, 64, .inl ob))] [(0, .ref h0), (1, .int (nI i))] 2 []) (hi : i + (no + 1) = R) (hj : j + n = C) (hT : lfor (apR dio pos R C) (i + 1) no (lfor (apC dio pos R C i) j n (fsx, gsx)) = apA dio pos R C (fs, gs)), X p9 l e9 { frames := 2, cells := 0, slots := 0, locals := 46 } s9 m9 args9 below9 meth9 cd9 0 0 (MQ below9 (xQ D (fun v8 w8 => v8 = none ∧ w8 = [(h0, .inr (5, [.int (nI R), .int (nI C), .int (bI dio), .int (bI bk), .int (bI lt), .int sl, .int (nI V), .int ru, .int (bI sus), .int (bI sos), .int (nI T), .ref d1, .ref d2, .ref d3, .ref d4, .ref d5, .ref d6, .ref d7, .ref d8, .ref d9, .ref d10, .int (nI mk), .ref d11, .int sk, .int rf, .int tk, .int (nI ((cnF pos R C 2 (R - 1)).1)), .int (nI ((cnF pos R C 2 (R - 1)).2)), .ref d12, .ref d13])), (d1, .inl (cI, 64, .inl (xN pos))), (d2, .inl (cI, 64, .inl ph)), (d3, .inl (cI, 64, .inl bg)), (d4, .inl (cZ, 64, .inl (xB ((apA dio pos R C (fs, gs)).1)))), (d5, .inl (cZ, 64, .inl (xB ((apA dio pos R C (fs, gs)).2)))), (d6, .inl (cI, 8, .inl st)), (d7, .inl (cI, 8, .inl kk)), (d8, .inl (cI, 8, .inl ve)), (d9, .inl (cI, 8, .inl si)), (d10, .inl (cZ, 8, .inl (xB ca))), (d11, .inl (cI, 48, .inl lg)), (d12, .inl (cI, 64, .inl op)), (d13, .inl (cI, 64, .inl ob))]) A) args9 s9 0 0 A) 5 D A [(h0, .inr (5, [.int (nI R), .int (nI C), .int (bI dio), .int (bI bk), .int (bI lt), .int sl, .int (nI V), .int ru, .int (bI sus), .int (bI sos), .int (nI T), .ref d1, .ref d2, .ref d3, .ref d4, .ref d5, .ref d6, .ref d7, .ref d8, .ref d9, .ref d10, .int (nI mk), .ref d11, .int sk, .int rf, .int tk, .int (nI ((cnF pos R C 2 i).1)), .int (nI ((cnF pos R C 2 i).2)), .ref d12, .ref d13])), (d1, .inl (cI, 64, .inl (xN pos))), (d2, .inl (cI, 64, .inl ph)), (d3, .inl (cI, 64, .inl bg)), (d4, .inl (cZ, 64, .inl (xB fsx))), (d5, .inl (cZ, 64, .inl (xB gsx))), (d6, .inl (cI, 8, .inl st)), (d7, .inl (cI, 8, .inl kk)), (d8, .inl (cI, 8, .inl ve)), (d9, .inl (cI, 8, .inl si)), (d10, .inl (cZ, 8, .inl (xB ca))), (d11, .inl (cI, 48, .inl lg)), (d12, .inl (cI, 64, .inl op)), (d13, .inl (cI, 64, .inl ob))] [(0, .ref h0), (1, .int (nI i)), (2, .int (nI ((cnF pos R C 1 i).2))), (3, .int (nI j))] 29 [] := by
    intro n
    induction n with
    | zero =>
      intro no i j fsx gsx hk hi hj hT
      refine x_iload_n hE 3 rfl dX5_appear_29 ?_
      refine x_aload_n hE 0 rfl dX5_appear_30 ?_
      refine x_get hE g64 0 rfl rfl dX5_appear_31 ?_
      refine xn_icmp_ge hE (by omega) (by omega) 154 (by decide) dX5_appear_34 (fun c34 => ?_) (fun c34 => ?_)
      · skip
        refine x_iinc hE (nI (i + 1)) [(1, .int (nI (i + 1))), (0, .ref h0), (2, .int (nI ((cnF pos R C 1 i).2))), (3, .int (nI j))] 1 rfl (nI_add _ _) (by decide) rfl dX5_appear_154 ?_
        refine x_goto hE 2 (by decide) dX5_appear_157 ?_
        refine x_lv [(0, .ref h0), (1, .int (nI (i + 1)))] [1, 0] rfl ?_
        exact hk (i + 1) fsx gsx ((cnF pos R C 2 i).1) ((cnF pos R C 2 i).2) (by omega) (hT) (Or.inr ⟨rfl, rfl⟩)
      · skip
        exfalso; omega
    | succ n ih =>
      intro no i j fsx gsx hk hi hj hT
      refine x_iload_n hE 3 rfl dX5_appear_29 ?_
      refine x_aload_n hE 0 rfl dX5_appear_30 ?_
      refine x_get hE g64 0 rfl rfl dX5_appear_31 ?_
      refine xn_icmp_ge hE (by omega) (by omega) 154 (by decide) dX5_appear_34 (fun c34 => ?_) (fun c34 => ?_)
      · skip
        exfalso; omega
      · skip
        have hk9 : i * C + j < R * C := rc_lt (by omega) c34
        have hd9 : (i * C + j) / C = i := rc_div c34
        have hm9 : (i * C + j) % C = j := rc_mod c34
        have hp9 := hpos (i * C + j)
        refine x_iload_n hE 1 rfl dX5_appear_37 ?_
        refine x_aload_n hE 0 rfl dX5_appear_38 ?_
        refine x_get hE g64 0 rfl rfl dX5_appear_39 ?_
        refine x_imul hE (nI (i * C)) (xI_mul _ _) dX5_appear_42 ?_
        refine x_iload_n hE 3 rfl dX5_appear_43 ?_
        refine x_iadd hE (nI ((i * C) + j)) (nI_add _ _) dX5_appear_44 ?_
        refine x_istore hE [(4, .int (nI ((i * C) + j))), (0, .ref h0), (1, .int (nI i)), (2, .int (nI ((cnF pos R C 1 i).2))), (3, .int (nI j))] (by decide) rfl dX5_appear_45 ?_
        refine x_aload_n hE 1 rfl dX5_appear_47 ?_
        refine x_get hE g30 0 rfl rfl dX5_appear_48 ?_
        refine x_iload hE 0 rfl dX5_appear_51 ?_
        refine x_aload_n hE 1 rfl dX5_appear_53 ?_
        refine x_get hE g109 0 rfl rfl dX5_appear_54 ?_
        refine xb_if_eq hE 79 (by decide) dX5_appear_57 (fun c57 => ?_) (fun c57 => ?_)
        · skip
          have hcn2 := cnF_lt (pos := pos) (x := 2) hR.2 hC.2 (show i < R by omega)
          refine x_aload_n hE 1 rfl dX5_appear_79 ?_
          refine x_get hE g103 0 rfl rfl dX5_appear_80 ?_
          refine x_iload_n hE 4 rfl dX5_appear_83 ?_
          refine x_ishr hE (nI (((cnF pos R C 2 i).2) >>> j)) (xI_shr (by omega) (by omega)) dX5_appear_84 ?_
          refine x_iconst hE (nI 1) (by decide) dX5_appear_85 ?_
          refine x_iand hE (nI ((((cnF pos R C 2 i).2) >>> j) &&& 1)) (fa_and _ _) dX5_appear_86 ?_
          refine x_iconst hE (nI 1) (by decide) dX5_appear_87 ?_
          have hb88 : (cnF pos R C 2 i).2 >>> j &&& 1 ≤ 1 := Nat.and_le_right
          refine xn_icmp_ne hE (by omega) (by omega) 95 (by decide) dX5_appear_88 (fun c88 => ?_) (fun c88 => ?_)
          · skip
            refine x_iconst hE (nI 0) (by decide) dX5_appear_95 ?_
            refine x_eq (bI (ap2 dio pos R C (i * C + j))) (by rw [show ap2 dio pos R C (i * C + j) = false from by first | (simp only [ap2, hd9, hm9, if_pos c34, if_neg (bnt c57), if_neg c88, reduceIte, Bool.false_eq_true, Bool.true_eq_false]; done) | (simp only [ap2, hd9, hm9, if_pos c34, if_neg (bnt c57), if_neg c88, reduceIte, Bool.false_eq_true, Bool.true_eq_false]; exact tb_f c88)]; rfl) ?_
            refine x_zast hE ((i * C) + j) (updB gsx ((i * C) + j) (ap2 dio pos R C (i * C + j))) (by omega) (by decide) rfl [(h0, .inr (5, [.int (nI R), .int (nI C), .int (bI dio), .int (bI bk), .int (bI lt), .int sl, .int (nI V), .int ru, .int (bI sus), .int (bI sos), .int (nI T), .ref d1, .ref d2, .ref d3, .ref d4, .ref d5, .ref d6, .ref d7, .ref d8, .ref d9, .ref d10, .int (nI mk), .ref d11, .int sk, .int rf, .int tk, .int (nI ((cnF pos R C 2 i).1)), .int (nI ((cnF pos R C 2 i).2)), .ref d12, .ref d13])), (d1, .inl (cI, 64, .inl (xN pos))), (d2, .inl (cI, 64, .inl ph)), (d3, .inl (cI, 64, .inl bg)), (d4, .inl (cZ, 64, .inl (xB fsx))), (d5, .inl (cZ, 64, .inl (xB (updB gsx ((i * C) + j) (ap2 dio pos R C (i * C + j)))))), (d6, .inl (cI, 8, .inl st)), (d7, .inl (cI, 8, .inl kk)), (d8, .inl (cI, 8, .inl ve)), (d9, .inl (cI, 8, .inl si)), (d10, .inl (cZ, 8, .inl (xB ca))), (d11, .inl (cI, 48, .inl lg)), (d12, .inl (cI, 64, .inl op)), (d13, .inl (cI, 64, .inl ob))] 5 rfl rfl dX5_appear_96 ?_
            refine x_aload_n hE 1 rfl dX5_appear_97 ?_
            refine x_get hE g26 0 rfl rfl dX5_appear_98 ?_
            refine x_iload hE 0 rfl dX5_appear_101 ?_
            refine x_aload_n hE 1 rfl dX5_appear_103 ?_
            refine x_get hE g30 0 rfl rfl dX5_appear_104 ?_
            refine x_iload hE 0 rfl dX5_appear_107 ?_
            refine x_zald hE ((i * C) + j) (ap2 dio pos R C (i * C + j)) (by omega) (by decide) (updB_same _ _ _) 5 rfl dX5_appear_109 ?_
            refine xb_if_ne hE 142 (by decide) dX5_appear_110 (fun c110 => ?_) (fun c110 => ?_)
            · skip
              refine x_iconst hE (nI 1) (by decide) dX5_appear_142 ?_
              refine x_goto hE 147 (by decide) dX5_appear_143 ?_
              refine x_eq (bI (ap1 dio pos R C (i * C + j))) (by rw [show ap1 dio pos R C (i * C + j) = true from by first | (simp only [ap1, hd9, hm9, if_pos c34, if_neg (bnt c57), if_neg c88, if_pos c110, reduceIte, Bool.false_eq_true, Bool.true_eq_false]; done) | (simp only [ap1, hd9, hm9, if_pos c34, if_neg (bnt c57), if_neg c88, if_pos c110, reduceIte, Bool.false_eq_true, Bool.true_eq_false]; exact tb_t c139)]; rfl) ?_
              refine x_zast hE ((i * C) + j) (updB fsx ((i * C) + j) (ap1 dio pos R C (i * C + j))) (by omega) (by decide) rfl [(h0, .inr (5, [.int (nI R), .int (nI C), .int (bI dio), .int (bI bk), .int (bI lt), .int sl, .int (nI V), .int ru, .int (bI sus), .int (bI sos), .int (nI T), .ref d1, .ref d2, .ref d3, .ref d4, .ref d5, .ref d6, .ref d7, .ref d8, .ref d9, .ref d10, .int (nI mk), .ref d11, .int sk, .int rf, .int tk, .int (nI ((cnF pos R C 2 i).1)), .int (nI ((cnF pos R C 2 i).2)), .ref d12, .ref d13])), (d1, .inl (cI, 64, .inl (xN pos))), (d2, .inl (cI, 64, .inl ph)), (d3, .inl (cI, 64, .inl bg)), (d4, .inl (cZ, 64, .inl (xB (updB fsx ((i * C) + j) (ap1 dio pos R C (i * C + j)))))), (d5, .inl (cZ, 64, .inl (xB (updB gsx ((i * C) + j) (ap2 dio pos R C (i * C + j)))))), (d6, .inl (cI, 8, .inl st)), (d7, .inl (cI, 8, .inl kk)), (d8, .inl (cI, 8, .inl ve)), (d9, .inl (cI, 8, .inl si)), (d10, .inl (cZ, 8, .inl (xB ca))), (d11, .inl (cI, 48, .inl lg)), (d12, .inl (cI, 64, .inl op)), (d13, .inl (cI, 64, .inl ob))] 4 rfl rfl dX5_appear_147 ?_
              refine x_iinc hE (nI (j + 1)) [(3, .int (nI (j + 1))), (4, .int (nI ((i * C) + j))), (0, .ref h0), (1, .int (nI i)), (2, .int (nI ((cnF pos R C 1 i).2)))] 4 rfl (nI_add _ _) (by decide) rfl dX5_appear_148 ?_
              refine x_goto hE 29 (by decide) dX5_appear_151 ?_
              refine x_lv [(0, .ref h0), (1, .int (nI i)), (2, .int (nI ((cnF pos R C 1 i).2))), (3, .int (nI (j + 1)))] [2, 3, 4, 0] rfl ?_
              exact ih no i (j + 1) (updB fsx ((i * C) + j) (ap1 dio pos R C (i * C + j))) (updB gsx ((i * C) + j) (ap2 dio pos R C (i * C + j))) (hk) (hi) (by omega) (by have h9 := hT; simp only [lfor, lany, apC, if_pos c34, if_neg (bnt c57), if_neg c88, if_pos c110, reduceIte, Bool.false_eq_true, Bool.true_eq_false] at h9; exact h9)
            · skip
              refine x_aload_n hE 1 rfl dX5_appear_113 ?_
              refine x_get hE g109 0 rfl rfl dX5_appear_114 ?_
              refine xb_if_eq hE 133 (by decide) dX5_appear_117 (fun c117 => ?_) (fun c117 => ?_)
              · skip
                have hcn1 := cnF_lt (pos := pos) (x := 1) hR.2 hC.2 (show i < R by omega)
                refine x_iload_n hE 3 rfl dX5_appear_133 ?_
                refine x_iload_n hE 4 rfl dX5_appear_134 ?_
                refine x_ishr hE (nI (((cnF pos R C 1 i).2) >>> j)) (xI_shr (by omega) (by omega)) dX5_appear_135 ?_
                refine x_iconst hE (nI 1) (by decide) dX5_appear_136 ?_
                refine x_iand hE (nI ((((cnF pos R C 1 i).2) >>> j) &&& 1)) (fa_and _ _) dX5_appear_137 ?_
                refine x_iconst hE (nI 1) (by decide) dX5_appear_138 ?_
                have hb139 : (cnF pos R C 1 i).2 >>> j &&& 1 ≤ 1 := Nat.and_le_right
                refine xn_icmp_ne hE (by omega) (by omega) 146 (by decide) dX5_appear_139 (fun c139 => ?_) (fun c139 => ?_)
                · skip
                  refine x_iconst hE (nI 0) (by decide) dX5_appear_146 ?_
                  refine x_eq (bI (ap1 dio pos R C (i * C + j))) (by rw [show ap1 dio pos R C (i * C + j) = false from by first | (simp only [ap1, hd9, hm9, if_pos c34, if_neg (bnt c57), if_neg c88, if_neg (bnt c110), if_neg (bnt c117), if_neg c139, reduceIte, Bool.false_eq_true, Bool.true_eq_false]; done) | (simp only [ap1, hd9, hm9, if_pos c34, if_neg (bnt c57), if_neg c88, if_neg (bnt c110), if_neg (bnt c117), if_neg c139, reduceIte, Bool.false_eq_true, Bool.true_eq_false]; exact tb_f c139)]; rfl) ?_
                  refine x_zast hE ((i * C) + j) (updB fsx ((i * C) + j) (ap1 dio pos R C (i * C + j))) (by omega) (by decide) rfl [(h0, .inr (5, [.int (nI R), .int (nI C), .int (bI dio), .int (bI bk), .int (bI lt), .int sl, .int (nI V), .int ru, .int (bI sus), .int (bI sos), .int (nI T), .ref d1, .ref d2, .ref d3, .ref d4, .ref d5, .ref d6, .ref d7, .ref d8, .ref d9, .ref d10, .int (nI mk), .ref d11, .int sk, .int rf, .int tk, .int (nI ((cnF pos R C 2 i).1)), .int (nI ((cnF pos R C 2 i).2)), .ref d12, .ref d13])), (d1, .inl (cI, 64, .inl (xN pos))), (d2, .inl (cI, 64, .inl ph)), (d3, .inl (cI, 64, .inl bg)), (d4, .inl (cZ, 64, .inl (xB (updB fsx ((i * C) + j) (ap1 dio pos R C (i * C + j)))))), (d5, .inl (cZ, 64, .inl (xB (updB gsx ((i * C) + j) (ap2 dio pos R C (i * C + j)))))), (d6, .inl (cI, 8, .inl st)), (d7, .inl (cI, 8, .inl kk)), (d8, .inl (cI, 8, .inl ve)), (d9, .inl (cI, 8, .inl si)), (d10, .inl (cZ, 8, .inl (xB ca))), (d11, .inl (cI, 48, .inl lg)), (d12, .inl (cI, 64, .inl op)), (d13, .inl (cI, 64, .inl ob))] 4 rfl rfl dX5_appear_147 ?_
                  refine x_iinc hE (nI (j + 1)) [(3, .int (nI (j + 1))), (4, .int (nI ((i * C) + j))), (0, .ref h0), (1, .int (nI i)), (2, .int (nI ((cnF pos R C 1 i).2)))] 4 rfl (nI_add _ _) (by decide) rfl dX5_appear_148 ?_
                  refine x_goto hE 29 (by decide) dX5_appear_151 ?_
                  refine x_lv [(0, .ref h0), (1, .int (nI i)), (2, .int (nI ((cnF pos R C 1 i).2))), (3, .int (nI (j + 1)))] [2, 3, 4, 0] rfl ?_
                  exact ih no i (j + 1) (updB fsx ((i * C) + j) (ap1 dio pos R C (i * C + j))) (updB gsx ((i * C) + j) (ap2 dio pos R C (i * C + j))) (hk) (hi) (by omega) (by have h9 := hT; simp only [lfor, lany, apC, if_pos c34, if_neg (bnt c57), if_neg c88, if_neg (bnt c110), if_neg (bnt c117), if_neg c139, reduceIte, Bool.false_eq_true, Bool.true_eq_false] at h9; exact h9)
                · skip
                  refine x_iconst hE (nI 1) (by decide) dX5_appear_142 ?_
                  refine x_goto hE 147 (by decide) dX5_appear_143 ?_
                  refine x_eq (bI (ap1 dio pos R C (i * C + j))) (by rw [show ap1 dio pos R C (i * C + j) = true from by first | (simp only [ap1, hd9, hm9, if_pos c34, if_neg (bnt c57), if_neg c88, if_neg (bnt c110), if_neg (bnt c117), if_pos c139, reduceIte, Bool.false_eq_true, Bool.true_eq_false]; done) | (simp only [ap1, hd9, hm9, if_pos c34, if_neg (bnt c57), if_neg c88, if_neg (bnt c110), if_neg (bnt c117), if_pos c139, reduceIte, Bool.false_eq_true, Bool.true_eq_false]; exact tb_t c139)]; rfl) ?_
                  refine x_zast hE ((i * C) + j) (updB fsx ((i * C) + j) (ap1 dio pos R C (i * C + j))) (by omega) (by decide) rfl [(h0, .inr (5, [.int (nI R), .int (nI C), .int (bI dio), .int (bI bk), .int (bI lt), .int sl, .int (nI V), .int ru, .int (bI sus), .int (bI sos), .int (nI T), .ref d1, .ref d2, .ref d3, .ref d4, .ref d5, .ref d6, .ref d7, .ref d8, .ref d9, .ref d10, .int (nI mk), .ref d11, .int sk, .int rf, .int tk, .int (nI ((cnF pos R C 2 i).1)), .int (nI ((cnF pos R C 2 i).2)), .ref d12, .ref d13])), (d1, .inl (cI, 64, .inl (xN pos))), (d2, .inl (cI, 64, .inl ph)), (d3, .inl (cI, 64, .inl bg)), (d4, .inl (cZ, 64, .inl (xB (updB fsx ((i * C) + j) (ap1 dio pos R C (i * C + j)))))), (d5, .inl (cZ, 64, .inl (xB (updB gsx ((i * C) + j) (ap2 dio pos R C (i * C + j)))))), (d6, .inl (cI, 8, .inl st)), (d7, .inl (cI, 8, .inl kk)), (d8, .inl (cI, 8, .inl ve)), (d9, .inl (cI, 8, .inl si)), (d10, .inl (cZ, 8, .inl (xB ca))), (d11, .inl (cI, 48, .inl lg)), (d12, .inl (cI, 64, .inl op)), (d13, .inl (cI, 64, .inl ob))] 4 rfl rfl dX5_appear_147 ?_
                  refine x_iinc hE (nI (j + 1)) [(3, .int (nI (j + 1))), (4, .int (nI ((i * C) + j))), (0, .ref h0), (1, .int (nI i)), (2, .int (nI ((cnF pos R C 1 i).2)))] 4 rfl (nI_add _ _) (by decide) rfl dX5_appear_148 ?_
                  refine x_goto hE 29 (by decide) dX5_appear_151 ?_
                  refine x_lv [(0, .ref h0), (1, .int (nI i)), (2, .int (nI ((cnF pos R C 1 i).2))), (3, .int (nI (j + 1)))] [2, 3, 4, 0] rfl ?_
                  exact ih no i (j + 1) (updB fsx ((i * C) + j) (ap1 dio pos R C (i * C + j))) (updB gsx ((i * C) + j) (ap2 dio pos R C (i * C + j))) (hk) (hi) (by omega) (by have h9 := hT; simp only [lfor, lany, apC, if_pos c34, if_neg (bnt c57), if_neg c88, if_neg (bnt c110), if_neg (bnt c117), if_pos c139, reduceIte, Bool.false_eq_true, Bool.true_eq_false] at h9; exact h9)
              · skip
                exact absurd (c57.symm.trans c117) (by decide)
          · skip
            refine x_iconst hE (nI 1) (by decide) dX5_appear_91 ?_
            refine x_goto hE 96 (by decide) dX5_appear_92 ?_
            refine x_eq (bI (ap2 dio pos R C (i * C + j))) (by rw [show ap2 dio pos R C (i * C + j) = true from by first | (simp only [ap2, hd9, hm9, if_pos c34, if_neg (bnt c57), if_pos c88, reduceIte, Bool.false_eq_true, Bool.true_eq_false]; done) | (simp only [ap2, hd9, hm9, if_pos c34, if_neg (bnt c57), if_pos c88, reduceIte, Bool.false_eq_true, Bool.true_eq_false]; exact tb_t c88)]; rfl) ?_
            refine x_zast hE ((i * C) + j) (updB gsx ((i * C) + j) (ap2 dio pos R C (i * C + j))) (by omega) (by decide) rfl [(h0, .inr (5, [.int (nI R), .int (nI C), .int (bI dio), .int (bI bk), .int (bI lt), .int sl, .int (nI V), .int ru, .int (bI sus), .int (bI sos), .int (nI T), .ref d1, .ref d2, .ref d3, .ref d4, .ref d5, .ref d6, .ref d7, .ref d8, .ref d9, .ref d10, .int (nI mk), .ref d11, .int sk, .int rf, .int tk, .int (nI ((cnF pos R C 2 i).1)), .int (nI ((cnF pos R C 2 i).2)), .ref d12, .ref d13])), (d1, .inl (cI, 64, .inl (xN pos))), (d2, .inl (cI, 64, .inl ph)), (d3, .inl (cI, 64, .inl bg)), (d4, .inl (cZ, 64, .inl (xB fsx))), (d5, .inl (cZ, 64, .inl (xB (updB gsx ((i * C) + j) (ap2 dio pos R C (i * C + j)))))), (d6, .inl (cI, 8, .inl st)), (d7, .inl (cI, 8, .inl kk)), (d8, .inl (cI, 8, .inl ve)), (d9, .inl (cI, 8, .inl si)), (d10, .inl (cZ, 8, .inl (xB ca))), (d11, .inl (cI, 48, .inl lg)), (d12, .inl (cI, 64, .inl op)), (d13, .inl (cI, 64, .inl ob))] 5 rfl rfl dX5_appear_96 ?_
            refine x_aload_n hE 1 rfl dX5_appear_97 ?_
            refine x_get hE g26 0 rfl rfl dX5_appear_98 ?_
            refine x_iload hE 0 rfl dX5_appear_101 ?_
            refine x_aload_n hE 1 rfl dX5_appear_103 ?_
            refine x_get hE g30 0 rfl rfl dX5_appear_104 ?_
            refine x_iload hE 0 rfl dX5_appear_107 ?_
            refine x_zald hE ((i * C) + j) (ap2 dio pos R C (i * C + j)) (by omega) (by decide) (updB_same _ _ _) 5 rfl dX5_appear_109 ?_
            refine xb_if_ne hE 142 (by decide) dX5_appear_110 (fun c110 => ?_) (fun c110 => ?_)
            · skip
              refine x_iconst hE (nI 1) (by decide) dX5_appear_142 ?_
              refine x_goto hE 147 (by decide) dX5_appear_143 ?_
              refine x_eq (bI (ap1 dio pos R C (i * C + j))) (by rw [show ap1 dio pos R C (i * C + j) = true from by first | (simp only [ap1, hd9, hm9, if_pos c34, if_neg (bnt c57), if_pos c88, if_pos c110, reduceIte, Bool.false_eq_true, Bool.true_eq_false]; done) | (simp only [ap1, hd9, hm9, if_pos c34, if_neg (bnt c57), if_pos c88, if_pos c110, reduceIte, Bool.false_eq_true, Bool.true_eq_false]; exact tb_t c139)]; rfl) ?_
              refine x_zast hE ((i * C) + j) (updB fsx ((i * C) + j) (ap1 dio pos R C (i * C + j))) (by omega) (by decide) rfl [(h0, .inr (5, [.int (nI R), .int (nI C), .int (bI dio), .int (bI bk), .int (bI lt), .int sl, .int (nI V), .int ru, .int (bI sus), .int (bI sos), .int (nI T), .ref d1, .ref d2, .ref d3, .ref d4, .ref d5, .ref d6, .ref d7, .ref d8, .ref d9, .ref d10, .int (nI mk), .ref d11, .int sk, .int rf, .int tk, .int (nI ((cnF pos R C 2 i).1)), .int (nI ((cnF pos R C 2 i).2)), .ref d12, .ref d13])), (d1, .inl (cI, 64, .inl (xN pos))), (d2, .inl (cI, 64, .inl ph)), (d3, .inl (cI, 64, .inl bg)), (d4, .inl (cZ, 64, .inl (xB (updB fsx ((i * C) + j) (ap1 dio pos R C (i * C + j)))))), (d5, .inl (cZ, 64, .inl (xB (updB gsx ((i * C) + j) (ap2 dio pos R C (i * C + j)))))), (d6, .inl (cI, 8, .inl st)), (d7, .inl (cI, 8, .inl kk)), (d8, .inl (cI, 8, .inl ve)), (d9, .inl (cI, 8, .inl si)), (d10, .inl (cZ, 8, .inl (xB ca))), (d11, .inl (cI, 48, .inl lg)), (d12, .inl (cI, 64, .inl op)), (d13, .inl (cI, 64, .inl ob))] 4 rfl rfl dX5_appear_147 ?_
              refine x_iinc hE (nI (j + 1)) [(3, .int (nI (j + 1))), (4, .int (nI ((i * C) + j))), (0, .ref h0), (1, .int (nI i)), (2, .int (nI ((cnF pos R C 1 i).2)))] 4 rfl (nI_add _ _) (by decide) rfl dX5_appear_148 ?_
              refine x_goto hE 29 (by decide) dX5_appear_151 ?_
              refine x_lv [(0, .ref h0), (1, .int (nI i)), (2, .int (nI ((cnF pos R C 1 i).2))), (3, .int (nI (j + 1)))] [2, 3, 4, 0] rfl ?_
              exact ih no i (j + 1) (updB fsx ((i * C) + j) (ap1 dio pos R C (i * C + j))) (updB gsx ((i * C) + j) (ap2 dio pos R C (i * C + j))) (hk) (hi) (by omega) (by have h9 := hT; simp only [lfor, lany, apC, if_pos c34, if_neg (bnt c57), if_pos c88, if_pos c110, reduceIte, Bool.false_eq_true, Bool.true_eq_false] at h9; exact h9)
            · skip
              refine x_aload_n hE 1 rfl dX5_appear_113 ?_
              refine x_get hE g109 0 rfl rfl dX5_appear_114 ?_
              refine xb_if_eq hE 133 (by decide) dX5_appear_117 (fun c117 => ?_) (fun c117 => ?_)
              · skip
                have hcn1 := cnF_lt (pos := pos) (x := 1) hR.2 hC.2 (show i < R by omega)
                refine x_iload_n hE 3 rfl dX5_appear_133 ?_
                refine x_iload_n hE 4 rfl dX5_appear_134 ?_
                refine x_ishr hE (nI (((cnF pos R C 1 i).2) >>> j)) (xI_shr (by omega) (by omega)) dX5_appear_135 ?_
                refine x_iconst hE (nI 1) (by decide) dX5_appear_136 ?_
                refine x_iand hE (nI ((((cnF pos R C 1 i).2) >>> j) &&& 1)) (fa_and _ _) dX5_appear_137 ?_
                refine x_iconst hE (nI 1) (by decide) dX5_appear_138 ?_
                have hb139 : (cnF pos R C 1 i).2 >>> j &&& 1 ≤ 1 := Nat.and_le_right
                refine xn_icmp_ne hE (by omega) (by omega) 146 (by decide) dX5_appear_139 (fun c139 => ?_) (fun c139 => ?_)
                · skip
                  refine x_iconst hE (nI 0) (by decide) dX5_appear_146 ?_
                  refine x_eq (bI (ap1 dio pos R C (i * C + j))) (by rw [show ap1 dio pos R C (i * C + j) = false from by first | (simp only [ap1, hd9, hm9, if_pos c34, if_neg (bnt c57), if_pos c88, if_neg (bnt c110), if_neg (bnt c117), if_neg c139, reduceIte, Bool.false_eq_true, Bool.true_eq_false]; done) | (simp only [ap1, hd9, hm9, if_pos c34, if_neg (bnt c57), if_pos c88, if_neg (bnt c110), if_neg (bnt c117), if_neg c139, reduceIte, Bool.false_eq_true, Bool.true_eq_false]; exact tb_f c139)]; rfl) ?_
                  refine x_zast hE ((i * C) + j) (updB fsx ((i * C) + j) (ap1 dio pos R C (i * C + j))) (by omega) (by decide) rfl [(h0, .inr (5, [.int (nI R), .int (nI C), .int (bI dio), .int (bI bk), .int (bI lt), .int sl, .int (nI V), .int ru, .int (bI sus), .int (bI sos), .int (nI T), .ref d1, .ref d2, .ref d3, .ref d4, .ref d5, .ref d6, .ref d7, .ref d8, .ref d9, .ref d10, .int (nI mk), .ref d11, .int sk, .int rf, .int tk, .int (nI ((cnF pos R C 2 i).1)), .int (nI ((cnF pos R C 2 i).2)), .ref d12, .ref d13])), (d1, .inl (cI, 64, .inl (xN pos))), (d2, .inl (cI, 64, .inl ph)), (d3, .inl (cI, 64, .inl bg)), (d4, .inl (cZ, 64, .inl (xB (updB fsx ((i * C) + j) (ap1 dio pos R C (i * C + j)))))), (d5, .inl (cZ, 64, .inl (xB (updB gsx ((i * C) + j) (ap2 dio pos R C (i * C + j)))))), (d6, .inl (cI, 8, .inl st)), (d7, .inl (cI, 8, .inl kk)), (d8, .inl (cI, 8, .inl ve)), (d9, .inl (cI, 8, .inl si)), (d10, .inl (cZ, 8, .inl (xB ca))), (d11, .inl (cI, 48, .inl lg)), (d12, .inl (cI, 64, .inl op)), (d13, .inl (cI, 64, .inl ob))] 4 rfl rfl dX5_appear_147 ?_
                  refine x_iinc hE (nI (j + 1)) [(3, .int (nI (j + 1))), (4, .int (nI ((i * C) + j))), (0, .ref h0), (1, .int (nI i)), (2, .int (nI ((cnF pos R C 1 i).2)))] 4 rfl (nI_add _ _) (by decide) rfl dX5_appear_148 ?_
                  refine x_goto hE 29 (by decide) dX5_appear_151 ?_
                  refine x_lv [(0, .ref h0), (1, .int (nI i)), (2, .int (nI ((cnF pos R C 1 i).2))), (3, .int (nI (j + 1)))] [2, 3, 4, 0] rfl ?_
                  exact ih no i (j + 1) (updB fsx ((i * C) + j) (ap1 dio pos R C (i * C + j))) (updB gsx ((i * C) + j) (ap2 dio pos R C (i * C + j))) (hk) (hi) (by omega) (by have h9 := hT; simp only [lfor, lany, apC, if_pos c34, if_neg (bnt c57), if_pos c88, if_neg (bnt c110), if_neg (bnt c117), if_neg c139, reduceIte, Bool.false_eq_true, Bool.true_eq_false] at h9; exact h9)
                · skip
                  refine x_iconst hE (nI 1) (by decide) dX5_appear_142 ?_
                  refine x_goto hE 147 (by decide) dX5_appear_143 ?_
                  refine x_eq (bI (ap1 dio pos R C (i * C + j))) (by rw [show ap1 dio pos R C (i * C + j) = true from by first | (simp only [ap1, hd9, hm9, if_pos c34, if_neg (bnt c57), if_pos c88, if_neg (bnt c110), if_neg (bnt c117), if_pos c139, reduceIte, Bool.false_eq_true, Bool.true_eq_false]; done) | (simp only [ap1, hd9, hm9, if_pos c34, if_neg (bnt c57), if_pos c88, if_neg (bnt c110), if_neg (bnt c117), if_pos c139, reduceIte, Bool.false_eq_true, Bool.true_eq_false]; exact tb_t c139)]; rfl) ?_
                  refine x_zast hE ((i * C) + j) (updB fsx ((i * C) + j) (ap1 dio pos R C (i * C + j))) (by omega) (by decide) rfl [(h0, .inr (5, [.int (nI R), .int (nI C), .int (bI dio), .int (bI bk), .int (bI lt), .int sl, .int (nI V), .int ru, .int (bI sus), .int (bI sos), .int (nI T), .ref d1, .ref d2, .ref d3, .ref d4, .ref d5, .ref d6, .ref d7, .ref d8, .ref d9, .ref d10, .int (nI mk), .ref d11, .int sk, .int rf, .int tk, .int (nI ((cnF pos R C 2 i).1)), .int (nI ((cnF pos R C 2 i).2)), .ref d12, .ref d13])), (d1, .inl (cI, 64, .inl (xN pos))), (d2, .inl (cI, 64, .inl ph)), (d3, .inl (cI, 64, .inl bg)), (d4, .inl (cZ, 64, .inl (xB (updB fsx ((i * C) + j) (ap1 dio pos R C (i * C + j)))))), (d5, .inl (cZ, 64, .inl (xB (updB gsx ((i * C) + j) (ap2 dio pos R C (i * C + j)))))), (d6, .inl (cI, 8, .inl st)), (d7, .inl (cI, 8, .inl kk)), (d8, .inl (cI, 8, .inl ve)), (d9, .inl (cI, 8, .inl si)), (d10, .inl (cZ, 8, .inl (xB ca))), (d11, .inl (cI, 48, .inl lg)), (d12, .inl (cI, 64, .inl op)), (d13, .inl (cI, 64, .inl ob))] 4 rfl rfl dX5_appear_147 ?_
                  refine x_iinc hE (nI (j + 1)) [(3, .int (nI (j + 1))), (4, .int (nI ((i * C) + j))), (0, .ref h0), (1, .int (nI i)), (2, .int (nI ((cnF pos R C 1 i).2)))] 4 rfl (nI_add _ _) (by decide) rfl dX5_appear_148 ?_
                  refine x_goto hE 29 (by decide) dX5_appear_151 ?_
                  refine x_lv [(0, .ref h0), (1, .int (nI i)), (2, .int (nI ((cnF pos R C 1 i).2))), (3, .int (nI (j + 1)))] [2, 3, 4, 0] rfl ?_
                  exact ih no i (j + 1) (updB fsx ((i * C) + j) (ap1 dio pos R C (i * C + j))) (updB gsx ((i * C) + j) (ap2 dio pos R C (i * C + j))) (hk) (hi) (by omega) (by have h9 := hT; simp only [lfor, lany, apC, if_pos c34, if_neg (bnt c57), if_pos c88, if_neg (bnt c110), if_neg (bnt c117), if_pos c139, reduceIte, Bool.false_eq_true, Bool.true_eq_false] at h9; exact h9)
              · skip
                exact absurd (c57.symm.trans c117) (by decide)
        · skip
          refine x_aload_n hE 1 rfl dX5_appear_60 ?_
          refine x_get hE g16 0 rfl rfl dX5_appear_61 ?_
          refine x_iload hE 0 rfl dX5_appear_64 ?_
          refine x_iald hE ((i * C) + j) (nI (pos ((i * C) + j))) (by omega) (by decide) rfl 1 rfl dX5_appear_66 ?_
          refine x_iconst hE (nI 2) (by decide) dX5_appear_67 ?_
          refine xn_icmp_ne hE (by omega) (by omega) 75 (by decide) dX5_appear_68 (fun c68 => ?_) (fun c68 => ?_)
          · skip
            refine x_iconst hE (nI 0) (by decide) dX5_appear_75 ?_
            refine x_goto hE 96 (by decide) dX5_appear_76 ?_
            refine x_eq (bI (ap2 dio pos R C (i * C + j))) (by rw [show ap2 dio pos R C (i * C + j) = false from by first | (simp only [ap2, hd9, hm9, if_pos c34, if_pos c57, if_neg c68, reduceIte, Bool.false_eq_true, Bool.true_eq_false]; done) | (simp only [ap2, hd9, hm9, if_pos c34, if_pos c57, if_neg c68, reduceIte, Bool.false_eq_true, Bool.true_eq_false]; exact tb_f c88)]; rfl) ?_
            refine x_zast hE ((i * C) + j) (updB gsx ((i * C) + j) (ap2 dio pos R C (i * C + j))) (by omega) (by decide) rfl [(h0, .inr (5, [.int (nI R), .int (nI C), .int (bI dio), .int (bI bk), .int (bI lt), .int sl, .int (nI V), .int ru, .int (bI sus), .int (bI sos), .int (nI T), .ref d1, .ref d2, .ref d3, .ref d4, .ref d5, .ref d6, .ref d7, .ref d8, .ref d9, .ref d10, .int (nI mk), .ref d11, .int sk, .int rf, .int tk, .int (nI ((cnF pos R C 2 i).1)), .int (nI ((cnF pos R C 2 i).2)), .ref d12, .ref d13])), (d1, .inl (cI, 64, .inl (xN pos))), (d2, .inl (cI, 64, .inl ph)), (d3, .inl (cI, 64, .inl bg)), (d4, .inl (cZ, 64, .inl (xB fsx))), (d5, .inl (cZ, 64, .inl (xB (updB gsx ((i * C) + j) (ap2 dio pos R C (i * C + j)))))), (d6, .inl (cI, 8, .inl st)), (d7, .inl (cI, 8, .inl kk)), (d8, .inl (cI, 8, .inl ve)), (d9, .inl (cI, 8, .inl si)), (d10, .inl (cZ, 8, .inl (xB ca))), (d11, .inl (cI, 48, .inl lg)), (d12, .inl (cI, 64, .inl op)), (d13, .inl (cI, 64, .inl ob))] 5 rfl rfl dX5_appear_96 ?_
            refine x_aload_n hE 1 rfl dX5_appear_97 ?_
            refine x_get hE g26 0 rfl rfl dX5_appear_98 ?_
            refine x_iload hE 0 rfl dX5_appear_101 ?_
            refine x_aload_n hE 1 rfl dX5_appear_103 ?_
            refine x_get hE g30 0 rfl rfl dX5_appear_104 ?_
            refine x_iload hE 0 rfl dX5_appear_107 ?_
            refine x_zald hE ((i * C) + j) (ap2 dio pos R C (i * C + j)) (by omega) (by decide) (updB_same _ _ _) 5 rfl dX5_appear_109 ?_
            refine xb_if_ne hE 142 (by decide) dX5_appear_110 (fun c110 => ?_) (fun c110 => ?_)
            · skip
              refine x_iconst hE (nI 1) (by decide) dX5_appear_142 ?_
              refine x_goto hE 147 (by decide) dX5_appear_143 ?_
              refine x_eq (bI (ap1 dio pos R C (i * C + j))) (by rw [show ap1 dio pos R C (i * C + j) = true from by first | (simp only [ap1, hd9, hm9, if_pos c34, if_pos c57, if_neg c68, if_pos c110, reduceIte, Bool.false_eq_true, Bool.true_eq_false]; done) | (simp only [ap1, hd9, hm9, if_pos c34, if_pos c57, if_neg c68, if_pos c110, reduceIte, Bool.false_eq_true, Bool.true_eq_false]; exact tb_t c139)]; rfl) ?_
              refine x_zast hE ((i * C) + j) (updB fsx ((i * C) + j) (ap1 dio pos R C (i * C + j))) (by omega) (by decide) rfl [(h0, .inr (5, [.int (nI R), .int (nI C), .int (bI dio), .int (bI bk), .int (bI lt), .int sl, .int (nI V), .int ru, .int (bI sus), .int (bI sos), .int (nI T), .ref d1, .ref d2, .ref d3, .ref d4, .ref d5, .ref d6, .ref d7, .ref d8, .ref d9, .ref d10, .int (nI mk), .ref d11, .int sk, .int rf, .int tk, .int (nI ((cnF pos R C 2 i).1)), .int (nI ((cnF pos R C 2 i).2)), .ref d12, .ref d13])), (d1, .inl (cI, 64, .inl (xN pos))), (d2, .inl (cI, 64, .inl ph)), (d3, .inl (cI, 64, .inl bg)), (d4, .inl (cZ, 64, .inl (xB (updB fsx ((i * C) + j) (ap1 dio pos R C (i * C + j)))))), (d5, .inl (cZ, 64, .inl (xB (updB gsx ((i * C) + j) (ap2 dio pos R C (i * C + j)))))), (d6, .inl (cI, 8, .inl st)), (d7, .inl (cI, 8, .inl kk)), (d8, .inl (cI, 8, .inl ve)), (d9, .inl (cI, 8, .inl si)), (d10, .inl (cZ, 8, .inl (xB ca))), (d11, .inl (cI, 48, .inl lg)), (d12, .inl (cI, 64, .inl op)), (d13, .inl (cI, 64, .inl ob))] 4 rfl rfl dX5_appear_147 ?_
              refine x_iinc hE (nI (j + 1)) [(3, .int (nI (j + 1))), (4, .int (nI ((i * C) + j))), (0, .ref h0), (1, .int (nI i)), (2, .int (nI ((cnF pos R C 1 i).2)))] 4 rfl (nI_add _ _) (by decide) rfl dX5_appear_148 ?_
              refine x_goto hE 29 (by decide) dX5_appear_151 ?_
              refine x_lv [(0, .ref h0), (1, .int (nI i)), (2, .int (nI ((cnF pos R C 1 i).2))), (3, .int (nI (j + 1)))] [2, 3, 4, 0] rfl ?_
              exact ih no i (j + 1) (updB fsx ((i * C) + j) (ap1 dio pos R C (i * C + j))) (updB gsx ((i * C) + j) (ap2 dio pos R C (i * C + j))) (hk) (hi) (by omega) (by have h9 := hT; simp only [lfor, lany, apC, if_pos c34, if_pos c57, if_neg c68, if_pos c110, reduceIte, Bool.false_eq_true, Bool.true_eq_false] at h9; exact h9)
            · skip
              refine x_aload_n hE 1 rfl dX5_appear_113 ?_
              refine x_get hE g109 0 rfl rfl dX5_appear_114 ?_
              refine xb_if_eq hE 133 (by decide) dX5_appear_117 (fun c117 => ?_) (fun c117 => ?_)
              · skip
                exact absurd (c57.symm.trans c117) (by decide)
              · skip
                refine x_aload_n hE 1 rfl dX5_appear_120 ?_
                refine x_get hE g16 0 rfl rfl dX5_appear_121 ?_
                refine x_iload hE 0 rfl dX5_appear_124 ?_
                refine x_iald hE ((i * C) + j) (nI (pos ((i * C) + j))) (by omega) (by decide) rfl 1 rfl dX5_appear_126 ?_
                refine xn_if_le hE (by omega) 146 (by decide) dX5_appear_127 (fun c127 => ?_) (fun c127 => ?_)
                · skip
                  refine x_iconst hE (nI 0) (by decide) dX5_appear_146 ?_
                  refine x_eq (bI (ap1 dio pos R C (i * C + j))) (by rw [show ap1 dio pos R C (i * C + j) = false from by first | (simp only [ap1, hd9, hm9, if_pos c34, if_pos c57, if_neg c68, if_neg (bnt c110), if_pos c117, if_neg c127, reduceIte, Bool.false_eq_true, Bool.true_eq_false]; done) | (simp only [ap1, hd9, hm9, if_pos c34, if_pos c57, if_neg c68, if_neg (bnt c110), if_pos c117, if_neg c127, reduceIte, Bool.false_eq_true, Bool.true_eq_false]; exact tb_f c139)]; rfl) ?_
                  refine x_zast hE ((i * C) + j) (updB fsx ((i * C) + j) (ap1 dio pos R C (i * C + j))) (by omega) (by decide) rfl [(h0, .inr (5, [.int (nI R), .int (nI C), .int (bI dio), .int (bI bk), .int (bI lt), .int sl, .int (nI V), .int ru, .int (bI sus), .int (bI sos), .int (nI T), .ref d1, .ref d2, .ref d3, .ref d4, .ref d5, .ref d6, .ref d7, .ref d8, .ref d9, .ref d10, .int (nI mk), .ref d11, .int sk, .int rf, .int tk, .int (nI ((cnF pos R C 2 i).1)), .int (nI ((cnF pos R C 2 i).2)), .ref d12, .ref d13])), (d1, .inl (cI, 64, .inl (xN pos))), (d2, .inl (cI, 64, .inl ph)), (d3, .inl (cI, 64, .inl bg)), (d4, .inl (cZ, 64, .inl (xB (updB fsx ((i * C) + j) (ap1 dio pos R C (i * C + j)))))), (d5, .inl (cZ, 64, .inl (xB (updB gsx ((i * C) + j) (ap2 dio pos R C (i * C + j)))))), (d6, .inl (cI, 8, .inl st)), (d7, .inl (cI, 8, .inl kk)), (d8, .inl (cI, 8, .inl ve)), (d9, .inl (cI, 8, .inl si)), (d10, .inl (cZ, 8, .inl (xB ca))), (d11, .inl (cI, 48, .inl lg)), (d12, .inl (cI, 64, .inl op)), (d13, .inl (cI, 64, .inl ob))] 4 rfl rfl dX5_appear_147 ?_
                  refine x_iinc hE (nI (j + 1)) [(3, .int (nI (j + 1))), (4, .int (nI ((i * C) + j))), (0, .ref h0), (1, .int (nI i)), (2, .int (nI ((cnF pos R C 1 i).2)))] 4 rfl (nI_add _ _) (by decide) rfl dX5_appear_148 ?_
                  refine x_goto hE 29 (by decide) dX5_appear_151 ?_
                  refine x_lv [(0, .ref h0), (1, .int (nI i)), (2, .int (nI ((cnF pos R C 1 i).2))), (3, .int (nI (j + 1)))] [2, 3, 4, 0] rfl ?_
                  exact ih no i (j + 1) (updB fsx ((i * C) + j) (ap1 dio pos R C (i * C + j))) (updB gsx ((i * C) + j) (ap2 dio pos R C (i * C + j))) (hk) (hi) (by omega) (by have h9 := hT; simp only [lfor, lany, apC, if_pos c34, if_pos c57, if_neg c68, if_neg (bnt c110), if_pos c117, if_neg c127, reduceIte, Bool.false_eq_true, Bool.true_eq_false] at h9; exact h9)
                · skip
                  refine x_goto hE 142 (by decide) dX5_appear_130 ?_
                  refine x_iconst hE (nI 1) (by decide) dX5_appear_142 ?_
                  refine x_goto hE 147 (by decide) dX5_appear_143 ?_
                  refine x_eq (bI (ap1 dio pos R C (i * C + j))) (by rw [show ap1 dio pos R C (i * C + j) = true from by first | (simp only [ap1, hd9, hm9, if_pos c34, if_pos c57, if_neg c68, if_neg (bnt c110), if_pos c117, if_pos c127, reduceIte, Bool.false_eq_true, Bool.true_eq_false]; done) | (simp only [ap1, hd9, hm9, if_pos c34, if_pos c57, if_neg c68, if_neg (bnt c110), if_pos c117, if_pos c127, reduceIte, Bool.false_eq_true, Bool.true_eq_false]; exact tb_t c139)]; rfl) ?_
                  refine x_zast hE ((i * C) + j) (updB fsx ((i * C) + j) (ap1 dio pos R C (i * C + j))) (by omega) (by decide) rfl [(h0, .inr (5, [.int (nI R), .int (nI C), .int (bI dio), .int (bI bk), .int (bI lt), .int sl, .int (nI V), .int ru, .int (bI sus), .int (bI sos), .int (nI T), .ref d1, .ref d2, .ref d3, .ref d4, .ref d5, .ref d6, .ref d7, .ref d8, .ref d9, .ref d10, .int (nI mk), .ref d11, .int sk, .int rf, .int tk, .int (nI ((cnF pos R C 2 i).1)), .int (nI ((cnF pos R C 2 i).2)), .ref d12, .ref d13])), (d1, .inl (cI, 64, .inl (xN pos))), (d2, .inl (cI, 64, .inl ph)), (d3, .inl (cI, 64, .inl bg)), (d4, .inl (cZ, 64, .inl (xB (updB fsx ((i * C) + j) (ap1 dio pos R C (i * C + j)))))), (d5, .inl (cZ, 64, .inl (xB (updB gsx ((i * C) + j) (ap2 dio pos R C (i * C + j)))))), (d6, .inl (cI, 8, .inl st)), (d7, .inl (cI, 8, .inl kk)), (d8, .inl (cI, 8, .inl ve)), (d9, .inl (cI, 8, .inl si)), (d10, .inl (cZ, 8, .inl (xB ca))), (d11, .inl (cI, 48, .inl lg)), (d12, .inl (cI, 64, .inl op)), (d13, .inl (cI, 64, .inl ob))] 4 rfl rfl dX5_appear_147 ?_
                  refine x_iinc hE (nI (j + 1)) [(3, .int (nI (j + 1))), (4, .int (nI ((i * C) + j))), (0, .ref h0), (1, .int (nI i)), (2, .int (nI ((cnF pos R C 1 i).2)))] 4 rfl (nI_add _ _) (by decide) rfl dX5_appear_148 ?_
                  refine x_goto hE 29 (by decide) dX5_appear_151 ?_
                  refine x_lv [(0, .ref h0), (1, .int (nI i)), (2, .int (nI ((cnF pos R C 1 i).2))), (3, .int (nI (j + 1)))] [2, 3, 4, 0] rfl ?_
                  exact ih no i (j + 1) (updB fsx ((i * C) + j) (ap1 dio pos R C (i * C + j))) (updB gsx ((i * C) + j) (ap2 dio pos R C (i * C + j))) (hk) (hi) (by omega) (by have h9 := hT; simp only [lfor, lany, apC, if_pos c34, if_pos c57, if_neg c68, if_neg (bnt c110), if_pos c117, if_pos c127, reduceIte, Bool.false_eq_true, Bool.true_eq_false] at h9; exact h9)
          · skip
            refine x_iconst hE (nI 1) (by decide) dX5_appear_71 ?_
            refine x_goto hE 96 (by decide) dX5_appear_72 ?_
            refine x_eq (bI (ap2 dio pos R C (i * C + j))) (by rw [show ap2 dio pos R C (i * C + j) = true from by first | (simp only [ap2, hd9, hm9, if_pos c34, if_pos c57, if_pos c68, reduceIte, Bool.false_eq_true, Bool.true_eq_false]; done) | (simp only [ap2, hd9, hm9, if_pos c34, if_pos c57, if_pos c68, reduceIte, Bool.false_eq_true, Bool.true_eq_false]; exact tb_t c88)]; rfl) ?_
            refine x_zast hE ((i * C) + j) (updB gsx ((i * C) + j) (ap2 dio pos R C (i * C + j))) (by omega) (by decide) rfl [(h0, .inr (5, [.int (nI R), .int (nI C), .int (bI dio), .int (bI bk), .int (bI lt), .int sl, .int (nI V), .int ru, .int (bI sus), .int (bI sos), .int (nI T), .ref d1, .ref d2, .ref d3, .ref d4, .ref d5, .ref d6, .ref d7, .ref d8, .ref d9, .ref d10, .int (nI mk), .ref d11, .int sk, .int rf, .int tk, .int (nI ((cnF pos R C 2 i).1)), .int (nI ((cnF pos R C 2 i).2)), .ref d12, .ref d13])), (d1, .inl (cI, 64, .inl (xN pos))), (d2, .inl (cI, 64, .inl ph)), (d3, .inl (cI, 64, .inl bg)), (d4, .inl (cZ, 64, .inl (xB fsx))), (d5, .inl (cZ, 64, .inl (xB (updB gsx ((i * C) + j) (ap2 dio pos R C (i * C + j)))))), (d6, .inl (cI, 8, .inl st)), (d7, .inl (cI, 8, .inl kk)), (d8, .inl (cI, 8, .inl ve)), (d9, .inl (cI, 8, .inl si)), (d10, .inl (cZ, 8, .inl (xB ca))), (d11, .inl (cI, 48, .inl lg)), (d12, .inl (cI, 64, .inl op)), (d13, .inl (cI, 64, .inl ob))] 5 rfl rfl dX5_appear_96 ?_
            refine x_aload_n hE 1 rfl dX5_appear_97 ?_
            refine x_get hE g26 0 rfl rfl dX5_appear_98 ?_
            refine x_iload hE 0 rfl dX5_appear_101 ?_
            refine x_aload_n hE 1 rfl dX5_appear_103 ?_
            refine x_get hE g30 0 rfl rfl dX5_appear_104 ?_
            refine x_iload hE 0 rfl dX5_appear_107 ?_
            refine x_zald hE ((i * C) + j) (ap2 dio pos R C (i * C + j)) (by omega) (by decide) (updB_same _ _ _) 5 rfl dX5_appear_109 ?_
            refine xb_if_ne hE 142 (by decide) dX5_appear_110 (fun c110 => ?_) (fun c110 => ?_)
            · skip
              refine x_iconst hE (nI 1) (by decide) dX5_appear_142 ?_
              refine x_goto hE 147 (by decide) dX5_appear_143 ?_
              refine x_eq (bI (ap1 dio pos R C (i * C + j))) (by rw [show ap1 dio pos R C (i * C + j) = true from by first | (simp only [ap1, hd9, hm9, if_pos c34, if_pos c57, if_pos c68, if_pos c110, reduceIte, Bool.false_eq_true, Bool.true_eq_false]; done) | (simp only [ap1, hd9, hm9, if_pos c34, if_pos c57, if_pos c68, if_pos c110, reduceIte, Bool.false_eq_true, Bool.true_eq_false]; exact tb_t c139)]; rfl) ?_
              refine x_zast hE ((i * C) + j) (updB fsx ((i * C) + j) (ap1 dio pos R C (i * C + j))) (by omega) (by decide) rfl [(h0, .inr (5, [.int (nI R), .int (nI C), .int (bI dio), .int (bI bk), .int (bI lt), .int sl, .int (nI V), .int ru, .int (bI sus), .int (bI sos), .int (nI T), .ref d1, .ref d2, .ref d3, .ref d4, .ref d5, .ref d6, .ref d7, .ref d8, .ref d9, .ref d10, .int (nI mk), .ref d11, .int sk, .int rf, .int tk, .int (nI ((cnF pos R C 2 i).1)), .int (nI ((cnF pos R C 2 i).2)), .ref d12, .ref d13])), (d1, .inl (cI, 64, .inl (xN pos))), (d2, .inl (cI, 64, .inl ph)), (d3, .inl (cI, 64, .inl bg)), (d4, .inl (cZ, 64, .inl (xB (updB fsx ((i * C) + j) (ap1 dio pos R C (i * C + j)))))), (d5, .inl (cZ, 64, .inl (xB (updB gsx ((i * C) + j) (ap2 dio pos R C (i * C + j)))))), (d6, .inl (cI, 8, .inl st)), (d7, .inl (cI, 8, .inl kk)), (d8, .inl (cI, 8, .inl ve)), (d9, .inl (cI, 8, .inl si)), (d10, .inl (cZ, 8, .inl (xB ca))), (d11, .inl (cI, 48, .inl lg)), (d12, .inl (cI, 64, .inl op)), (d13, .inl (cI, 64, .inl ob))] 4 rfl rfl dX5_appear_147 ?_
              refine x_iinc hE (nI (j + 1)) [(3, .int (nI (j + 1))), (4, .int (nI ((i * C) + j))), (0, .ref h0), (1, .int (nI i)), (2, .int (nI ((cnF pos R C 1 i).2)))] 4 rfl (nI_add _ _) (by decide) rfl dX5_appear_148 ?_
              refine x_goto hE 29 (by decide) dX5_appear_151 ?_
              refine x_lv [(0, .ref h0), (1, .int (nI i)), (2, .int (nI ((cnF pos R C 1 i).2))), (3, .int (nI (j + 1)))] [2, 3, 4, 0] rfl ?_
              exact ih no i (j + 1) (updB fsx ((i * C) + j) (ap1 dio pos R C (i * C + j))) (updB gsx ((i * C) + j) (ap2 dio pos R C (i * C + j))) (hk) (hi) (by omega) (by have h9 := hT; simp only [lfor, lany, apC, if_pos c34, if_pos c57, if_pos c68, if_pos c110, reduceIte, Bool.false_eq_true, Bool.true_eq_false] at h9; exact h9)
            · skip
              refine x_aload_n hE 1 rfl dX5_appear_113 ?_
              refine x_get hE g109 0 rfl rfl dX5_appear_114 ?_
              refine xb_if_eq hE 133 (by decide) dX5_appear_117 (fun c117 => ?_) (fun c117 => ?_)
              · skip
                exact absurd (c57.symm.trans c117) (by decide)
              · skip
                refine x_aload_n hE 1 rfl dX5_appear_120 ?_
                refine x_get hE g16 0 rfl rfl dX5_appear_121 ?_
                refine x_iload hE 0 rfl dX5_appear_124 ?_
                refine x_iald hE ((i * C) + j) (nI (pos ((i * C) + j))) (by omega) (by decide) rfl 1 rfl dX5_appear_126 ?_
                refine xn_if_le hE (by omega) 146 (by decide) dX5_appear_127 (fun c127 => ?_) (fun c127 => ?_)
                · skip
                  refine x_iconst hE (nI 0) (by decide) dX5_appear_146 ?_
                  refine x_eq (bI (ap1 dio pos R C (i * C + j))) (by rw [show ap1 dio pos R C (i * C + j) = false from by first | (simp only [ap1, hd9, hm9, if_pos c34, if_pos c57, if_pos c68, if_neg (bnt c110), if_pos c117, if_neg c127, reduceIte, Bool.false_eq_true, Bool.true_eq_false]; done) | (simp only [ap1, hd9, hm9, if_pos c34, if_pos c57, if_pos c68, if_neg (bnt c110), if_pos c117, if_neg c127, reduceIte, Bool.false_eq_true, Bool.true_eq_false]; exact tb_f c139)]; rfl) ?_
                  refine x_zast hE ((i * C) + j) (updB fsx ((i * C) + j) (ap1 dio pos R C (i * C + j))) (by omega) (by decide) rfl [(h0, .inr (5, [.int (nI R), .int (nI C), .int (bI dio), .int (bI bk), .int (bI lt), .int sl, .int (nI V), .int ru, .int (bI sus), .int (bI sos), .int (nI T), .ref d1, .ref d2, .ref d3, .ref d4, .ref d5, .ref d6, .ref d7, .ref d8, .ref d9, .ref d10, .int (nI mk), .ref d11, .int sk, .int rf, .int tk, .int (nI ((cnF pos R C 2 i).1)), .int (nI ((cnF pos R C 2 i).2)), .ref d12, .ref d13])), (d1, .inl (cI, 64, .inl (xN pos))), (d2, .inl (cI, 64, .inl ph)), (d3, .inl (cI, 64, .inl bg)), (d4, .inl (cZ, 64, .inl (xB (updB fsx ((i * C) + j) (ap1 dio pos R C (i * C + j)))))), (d5, .inl (cZ, 64, .inl (xB (updB gsx ((i * C) + j) (ap2 dio pos R C (i * C + j)))))), (d6, .inl (cI, 8, .inl st)), (d7, .inl (cI, 8, .inl kk)), (d8, .inl (cI, 8, .inl ve)), (d9, .inl (cI, 8, .inl si)), (d10, .inl (cZ, 8, .inl (xB ca))), (d11, .inl (cI, 48, .inl lg)), (d12, .inl (cI, 64, .inl op)), (d13, .inl (cI, 64, .inl ob))] 4 rfl rfl dX5_appear_147 ?_
                  refine x_iinc hE (nI (j + 1)) [(3, .int (nI (j + 1))), (4, .int (nI ((i * C) + j))), (0, .ref h0), (1, .int (nI i)), (2, .int (nI ((cnF pos R C 1 i).2)))] 4 rfl (nI_add _ _) (by decide) rfl dX5_appear_148 ?_
                  refine x_goto hE 29 (by decide) dX5_appear_151 ?_
                  refine x_lv [(0, .ref h0), (1, .int (nI i)), (2, .int (nI ((cnF pos R C 1 i).2))), (3, .int (nI (j + 1)))] [2, 3, 4, 0] rfl ?_
                  exact ih no i (j + 1) (updB fsx ((i * C) + j) (ap1 dio pos R C (i * C + j))) (updB gsx ((i * C) + j) (ap2 dio pos R C (i * C + j))) (hk) (hi) (by omega) (by have h9 := hT; simp only [lfor, lany, apC, if_pos c34, if_pos c57, if_pos c68, if_neg (bnt c110), if_pos c117, if_neg c127, reduceIte, Bool.false_eq_true, Bool.true_eq_false] at h9; exact h9)
                · skip
                  refine x_goto hE 142 (by decide) dX5_appear_130 ?_
                  refine x_iconst hE (nI 1) (by decide) dX5_appear_142 ?_
                  refine x_goto hE 147 (by decide) dX5_appear_143 ?_
                  refine x_eq (bI (ap1 dio pos R C (i * C + j))) (by rw [show ap1 dio pos R C (i * C + j) = true from by first | (simp only [ap1, hd9, hm9, if_pos c34, if_pos c57, if_pos c68, if_neg (bnt c110), if_pos c117, if_pos c127, reduceIte, Bool.false_eq_true, Bool.true_eq_false]; done) | (simp only [ap1, hd9, hm9, if_pos c34, if_pos c57, if_pos c68, if_neg (bnt c110), if_pos c117, if_pos c127, reduceIte, Bool.false_eq_true, Bool.true_eq_false]; exact tb_t c139)]; rfl) ?_
                  refine x_zast hE ((i * C) + j) (updB fsx ((i * C) + j) (ap1 dio pos R C (i * C + j))) (by omega) (by decide) rfl [(h0, .inr (5, [.int (nI R), .int (nI C), .int (bI dio), .int (bI bk), .int (bI lt), .int sl, .int (nI V), .int ru, .int (bI sus), .int (bI sos), .int (nI T), .ref d1, .ref d2, .ref d3, .ref d4, .ref d5, .ref d6, .ref d7, .ref d8, .ref d9, .ref d10, .int (nI mk), .ref d11, .int sk, .int rf, .int tk, .int (nI ((cnF pos R C 2 i).1)), .int (nI ((cnF pos R C 2 i).2)), .ref d12, .ref d13])), (d1, .inl (cI, 64, .inl (xN pos))), (d2, .inl (cI, 64, .inl ph)), (d3, .inl (cI, 64, .inl bg)), (d4, .inl (cZ, 64, .inl (xB (updB fsx ((i * C) + j) (ap1 dio pos R C (i * C + j)))))), (d5, .inl (cZ, 64, .inl (xB (updB gsx ((i * C) + j) (ap2 dio pos R C (i * C + j)))))), (d6, .inl (cI, 8, .inl st)), (d7, .inl (cI, 8, .inl kk)), (d8, .inl (cI, 8, .inl ve)), (d9, .inl (cI, 8, .inl si)), (d10, .inl (cZ, 8, .inl (xB ca))), (d11, .inl (cI, 48, .inl lg)), (d12, .inl (cI, 64, .inl op)), (d13, .inl (cI, 64, .inl ob))] 4 rfl rfl dX5_appear_147 ?_
                  refine x_iinc hE (nI (j + 1)) [(3, .int (nI (j + 1))), (4, .int (nI ((i * C) + j))), (0, .ref h0), (1, .int (nI i)), (2, .int (nI ((cnF pos R C 1 i).2)))] 4 rfl (nI_add _ _) (by decide) rfl dX5_appear_148 ?_
                  refine x_goto hE 29 (by decide) dX5_appear_151 ?_
                  refine x_lv [(0, .ref h0), (1, .int (nI i)), (2, .int (nI ((cnF pos R C 1 i).2))), (3, .int (nI (j + 1)))] [2, 3, 4, 0] rfl ?_
                  exact ih no i (j + 1) (updB fsx ((i * C) + j) (ap1 dio pos R C (i * C + j))) (updB gsx ((i * C) + j) (ap2 dio pos R C (i * C + j))) (hk) (hi) (by omega) (by have h9 := hT; simp only [lfor, lany, apC, if_pos c34, if_pos c57, if_pos c68, if_neg (bnt c110), if_pos c117, if_pos c127, reduceIte, Bool.false_eq_true, Bool.true_eq_false] at h9; exact h9)
  have lp2 : ∀ (n : Nat) (i : Nat) (fsx : Nat → Bool) (gsx : Nat → Bool) (frx : Nat) (fcx : Nat) (hi : i + n = R) (hT : lfor (apR dio pos R C) i n (fsx, gsx) = apA dio pos R C (fs, gs)) (hF : i = 0 ∨ (frx = (cnF pos R C 2 (i - 1)).1 ∧ fcx = (cnF pos R C 2 (i - 1)).2)), X p9 l e9 { frames := 2, cells := 0, slots := 0, locals := 46 } s9 m9 args9 below9 meth9 cd9 0 0 (MQ below9 (xQ D (fun v8 w8 => v8 = none ∧ w8 = [(h0, .inr (5, [.int (nI R), .int (nI C), .int (bI dio), .int (bI bk), .int (bI lt), .int sl, .int (nI V), .int ru, .int (bI sus), .int (bI sos), .int (nI T), .ref d1, .ref d2, .ref d3, .ref d4, .ref d5, .ref d6, .ref d7, .ref d8, .ref d9, .ref d10, .int (nI mk), .ref d11, .int sk, .int rf, .int tk, .int (nI ((cnF pos R C 2 (R - 1)).1)), .int (nI ((cnF pos R C 2 (R - 1)).2)), .ref d12, .ref d13])), (d1, .inl (cI, 64, .inl (xN pos))), (d2, .inl (cI, 64, .inl ph)), (d3, .inl (cI, 64, .inl bg)), (d4, .inl (cZ, 64, .inl (xB ((apA dio pos R C (fs, gs)).1)))), (d5, .inl (cZ, 64, .inl (xB ((apA dio pos R C (fs, gs)).2)))), (d6, .inl (cI, 8, .inl st)), (d7, .inl (cI, 8, .inl kk)), (d8, .inl (cI, 8, .inl ve)), (d9, .inl (cI, 8, .inl si)), (d10, .inl (cZ, 8, .inl (xB ca))), (d11, .inl (cI, 48, .inl lg)), (d12, .inl (cI, 64, .inl op)), (d13, .inl (cI, 64, .inl ob))]) A) args9 s9 0 0 A) 5 D A [(h0, .inr (5, [.int (nI R), .int (nI C), .int (bI dio), .int (bI bk), .int (bI lt), .int sl, .int (nI V), .int ru, .int (bI sus), .int (bI sos), .int (nI T), .ref d1, .ref d2, .ref d3, .ref d4, .ref d5, .ref d6, .ref d7, .ref d8, .ref d9, .ref d10, .int (nI mk), .ref d11, .int sk, .int rf, .int tk, .int (nI frx), .int (nI fcx), .ref d12, .ref d13])), (d1, .inl (cI, 64, .inl (xN pos))), (d2, .inl (cI, 64, .inl ph)), (d3, .inl (cI, 64, .inl bg)), (d4, .inl (cZ, 64, .inl (xB fsx))), (d5, .inl (cZ, 64, .inl (xB gsx))), (d6, .inl (cI, 8, .inl st)), (d7, .inl (cI, 8, .inl kk)), (d8, .inl (cI, 8, .inl ve)), (d9, .inl (cI, 8, .inl si)), (d10, .inl (cZ, 8, .inl (xB ca))), (d11, .inl (cI, 48, .inl lg)), (d12, .inl (cI, 64, .inl op)), (d13, .inl (cI, 64, .inl ob))] [(0, .ref h0), (1, .int (nI i))] 2 [] := by
    intro n
    induction n with
    | zero =>
      intro i fsx gsx frx fcx hi hT hF
      refine x_iload_n hE 1 rfl dX5_appear_2 ?_
      refine x_aload_n hE 0 rfl dX5_appear_3 ?_
      refine x_get hE g61 0 rfl rfl dX5_appear_4 ?_
      refine xn_icmp_ge hE (by omega) (by omega) 160 (by decide) dX5_appear_7 (fun c7 => ?_) (fun c7 => ?_)
      · skip
        exact x_vret hE hr (⟨rfl, by rw [← show (fsx, gsx) = apA dio pos R C (fs, gs) from hT]; rcases hF with h9 | ⟨h8, h9⟩; exact absurd h9 (by omega); rw [h8, h9, show i = R by omega]⟩) dX5_appear_160
      · skip
        exfalso; omega
    | succ n ih =>
      intro i fsx gsx frx fcx hi hT hF
      refine x_iload_n hE 1 rfl dX5_appear_2 ?_
      refine x_aload_n hE 0 rfl dX5_appear_3 ?_
      refine x_get hE g61 0 rfl rfl dX5_appear_4 ?_
      refine xn_icmp_ge hE (by omega) (by omega) 160 (by decide) dX5_appear_7 (fun c7 => ?_) (fun c7 => ?_)
      · skip
        exfalso; omega
      · skip
        refine x_aload_n hE 0 rfl dX5_appear_10 ?_
        refine x_iload_n hE 1 rfl dX5_appear_11 ?_
        refine x_iconst hE (nI 1) (by decide) dX5_appear_12 ?_
        refine x_callV (n := 2) (st := []) hE (kX5_connect l D cI cZ h0 d1 d2 d3 d4 d5 d6 d7 d8 d9 d10 d11 d12 d13 R C dio bk lt sl V ru sus sos T pos ph bg fsx gsx st kk ve si ca mk lg sk rf tk frx fcx op ob i 1 (by omega) (by omega) (by omega) (by omega) (by assumption)) gX5_appear_X5_connect rfl (by decide +kernel) ⟨by decide, by decide⟩ ⟨Nat.zero_le _, Nat.zero_le _⟩ rfl [0, 1, 2, 3, 4, 5, 6, 7, 8, 9, 10, 11, 12, 13] [] rfl (wr := []) rfl (by decide) (by decide) (by decide) 0 rfl rfl rfl rfl (Nat.le_of_ble_eq_true rfl) dX5_appear_13 (fun v9 w9 hT9 => ?_)
        obtain ⟨rfl, rfl⟩ := hT9
        refine x_at (ws' := [(h0, .inr (5, [.int (nI R), .int (nI C), .int (bI dio), .int (bI bk), .int (bI lt), .int sl, .int (nI V), .int ru, .int (bI sus), .int (bI sos), .int (nI T), .ref d1, .ref d2, .ref d3, .ref d4, .ref d5, .ref d6, .ref d7, .ref d8, .ref d9, .ref d10, .int (nI mk), .ref d11, .int sk, .int rf, .int tk, .int (nI ((cnF pos R C 1 i).1)), .int (nI ((cnF pos R C 1 i).2)), .ref d12, .ref d13])), (d1, .inl (cI, 64, .inl (xN pos))), (d2, .inl (cI, 64, .inl ph)), (d3, .inl (cI, 64, .inl bg)), (d4, .inl (cZ, 64, .inl (xB fsx))), (d5, .inl (cZ, 64, .inl (xB gsx))), (d6, .inl (cI, 8, .inl st)), (d7, .inl (cI, 8, .inl kk)), (d8, .inl (cI, 8, .inl ve)), (d9, .inl (cI, 8, .inl si)), (d10, .inl (cZ, 8, .inl (xB ca))), (d11, .inl (cI, 48, .inl lg)), (d12, .inl (cI, 64, .inl op)), (d13, .inl (cI, 64, .inl ob))]) (st' := []) rfl rfl ?_
        refine x_aload_n hE 0 rfl dX5_appear_16 ?_
        refine x_get hE g103 0 rfl rfl dX5_appear_17 ?_
        refine x_istore_n hE [(2, .int (nI ((cnF pos R C 1 i).2))), (0, .ref h0), (1, .int (nI i))] (by decide) rfl dX5_appear_20 ?_
        refine x_aload_n hE 1 rfl dX5_appear_21 ?_
        refine x_iload_n hE 2 rfl dX5_appear_22 ?_
        refine x_iconst hE (nI 2) (by decide) dX5_appear_23 ?_
        refine x_callV (n := 2) (st := []) hE (kX5_connect l D cI cZ h0 d1 d2 d3 d4 d5 d6 d7 d8 d9 d10 d11 d12 d13 R C dio bk lt sl V ru sus sos T pos ph bg fsx gsx st kk ve si ca mk lg sk rf tk ((cnF pos R C 1 i).1) ((cnF pos R C 1 i).2) op ob i 2 (by omega) (by omega) (by omega) (by omega) (by assumption)) gX5_appear_X5_connect rfl (by decide +kernel) ⟨by decide, by decide⟩ ⟨Nat.zero_le _, Nat.zero_le _⟩ rfl [0, 1, 2, 3, 4, 5, 6, 7, 8, 9, 10, 11, 12, 13] [] rfl (wr := []) rfl (by decide) (by decide) (by decide) 0 rfl rfl rfl rfl (Nat.le_of_ble_eq_true rfl) dX5_appear_24 (fun v9 w9 hT9 => ?_)
        obtain ⟨rfl, rfl⟩ := hT9
        refine x_at (ws' := [(h0, .inr (5, [.int (nI R), .int (nI C), .int (bI dio), .int (bI bk), .int (bI lt), .int sl, .int (nI V), .int ru, .int (bI sus), .int (bI sos), .int (nI T), .ref d1, .ref d2, .ref d3, .ref d4, .ref d5, .ref d6, .ref d7, .ref d8, .ref d9, .ref d10, .int (nI mk), .ref d11, .int sk, .int rf, .int tk, .int (nI ((cnF pos R C 2 i).1)), .int (nI ((cnF pos R C 2 i).2)), .ref d12, .ref d13])), (d1, .inl (cI, 64, .inl (xN pos))), (d2, .inl (cI, 64, .inl ph)), (d3, .inl (cI, 64, .inl bg)), (d4, .inl (cZ, 64, .inl (xB fsx))), (d5, .inl (cZ, 64, .inl (xB gsx))), (d6, .inl (cI, 8, .inl st)), (d7, .inl (cI, 8, .inl kk)), (d8, .inl (cI, 8, .inl ve)), (d9, .inl (cI, 8, .inl si)), (d10, .inl (cZ, 8, .inl (xB ca))), (d11, .inl (cI, 48, .inl lg)), (d12, .inl (cI, 64, .inl op)), (d13, .inl (cI, 64, .inl ob))]) (st' := []) rfl rfl ?_
        refine x_iconst hE (nI 0) (by decide) dX5_appear_27 ?_
        refine x_istore_n hE [(3, .int (nI 0)), (2, .int (nI ((cnF pos R C 1 i).2))), (0, .ref h0), (1, .int (nI i))] (by decide) rfl dX5_appear_28 ?_
        refine x_lv [(0, .ref h0), (1, .int (nI i)), (2, .int (nI ((cnF pos R C 1 i).2))), (3, .int (nI 0))] [2, 3, 1, 0] rfl ?_
        exact lp29 C n i 0 fsx gsx (ih) (hi) (Nat.zero_add _) (hT)
  refine x_iconst hE (nI 0) (by decide) dX5_appear_0 ?_
  refine x_istore_n hE [(1, .int (nI 0)), (0, .ref h0)] (by decide) rfl dX5_appear_1 ?_
  refine x_lv [(0, .ref h0), (1, .int (nI 0))] [1, 0] rfl ?_
  exact lp2 R 0 fs gs fr fc (Nat.zero_add _) (rfl) (Or.inl rfl)
set_option maxHeartbeats 4000000 in
set_option maxRecDepth 100000 in
theorem kX5_isGhost (l : Launch) (D : va_G) (cI cZ : ClassId) (h0 : Nat) (d1 : Nat) (d2 : Nat) (d3 : Nat) (d4 : Nat) (d5 : Nat) (d6 : Nat) (d7 : Nat) (d8 : Nat) (d9 : Nat) (d10 : Nat) (d11 : Nat) (d12 : Nat) (d13 : Nat) (R : Nat) (C : Nat) (dio : Bool) (bk : Bool) (lt : Bool) (sl : Int32) (V : Nat) (ru : Int32) (sus : Bool) (sos : Bool) (T : Nat) (pos : Nat → Nat) (ph : Nat → Int32) (bg : Nat → Int32) (fs : Nat → Bool) (gs : Nat → Bool) (st : Nat → Int32) (kk : Nat → Int32) (ve : Nat → Int32) (si : Nat → Int32) (ca : Nat → Bool) (mk : Nat) (lg : Nat → Int32) (sk : Int32) (rf : Int32) (tk : Int32) (fr : Nat) (fc : Nat) (op : Nat → Int32) (ob : Nat → Int32) (k : Nat) (hR : 1 ≤ R ∧ R ≤ 8) (hC : 1 ≤ C ∧ C ≤ 8) (hk : k < R * C) (hpos : ∀ k, pos k ≤ 2) : xC l yX5_isGhost wsX5_isGhost 0 0 0 0 D cI cZ [.ref h0, .int (nI k)] [(h0, .inr (5, [.int (nI R), .int (nI C), .int (bI dio), .int (bI bk), .int (bI lt), .int sl, .int (nI V), .int ru, .int (bI sus), .int (bI sos), .int (nI T), .ref d1, .ref d2, .ref d3, .ref d4, .ref d5, .ref d6, .ref d7, .ref d8, .ref d9, .ref d10, .int (nI mk), .ref d11, .int sk, .int rf, .int tk, .int (nI fr), .int (nI fc), .ref d12, .ref d13])), (d1, .inl (cI, 64, .inl (xN pos))), (d2, .inl (cI, 64, .inl ph)), (d3, .inl (cI, 64, .inl bg)), (d4, .inl (cZ, 64, .inl (xB fs))), (d5, .inl (cZ, 64, .inl (xB gs))), (d6, .inl (cI, 8, .inl st)), (d7, .inl (cI, 8, .inl kk)), (d8, .inl (cI, 8, .inl ve)), (d9, .inl (cI, 8, .inl si)), (d10, .inl (cZ, 8, .inl (xB ca))), (d11, .inl (cI, 48, .inl lg)), (d12, .inl (cI, 64, .inl op)), (d13, .inl (cI, 64, .inl ob))] (fun v8 w8 => v8 = some (.int (bI (ghM fs gs pos k))) ∧ w8 = [(h0, .inr (5, [.int (nI R), .int (nI C), .int (bI dio), .int (bI bk), .int (bI lt), .int sl, .int (nI V), .int ru, .int (bI sus), .int (bI sos), .int (nI T), .ref d1, .ref d2, .ref d3, .ref d4, .ref d5, .ref d6, .ref d7, .ref d8, .ref d9, .ref d10, .int (nI mk), .ref d11, .int sk, .int rf, .int tk, .int (nI fr), .int (nI fc), .ref d12, .ref d13])), (d1, .inl (cI, 64, .inl (xN pos))), (d2, .inl (cI, 64, .inl ph)), (d3, .inl (cI, 64, .inl bg)), (d4, .inl (cZ, 64, .inl (xB fs))), (d5, .inl (cZ, 64, .inl (xB gs))), (d6, .inl (cI, 8, .inl st)), (d7, .inl (cI, 8, .inl kk)), (d8, .inl (cI, 8, .inl ve)), (d9, .inl (cI, 8, .inl si)), (d10, .inl (cZ, 8, .inl (xB ca))), (d11, .inl (cI, 48, .inl lg)), (d12, .inl (cI, 64, .inl op)), (d13, .inl (cI, 64, .inl ob))]) := by
  refine xC.of (bytes := cX5_isGhost) (maxL := 2) (ret := (some .boolean)) (own := RX5) (by decide +kernel) rfl (Nat.le_of_ble_eq_true rfl) rfl ?_
  intro p9 e9 s9 m9 args9 below9 meth9 cd9 A hE hr hin2 hA9
  have inX5 : ∀ w ∈ wsX50, w ∈ wsX5_isGhost := fun w h => List.mem_cons_of_mem _ (List.mem_append_right _ h)
  have g26 : xF RX5 wsX5_isGhost 26 5 14 := ⟨"KeyScannerModel", RX5, TX5, 30, inX5, rfl, by decide, List.mem_of_getElem? (i := 1) rfl, rfl⟩
  have g30 : xF RX5 wsX5_isGhost 30 5 15 := ⟨"KeyScannerModel", RX5, TX5, 30, inX5, rfl, by decide, List.mem_of_getElem? (i := 3) rfl, rfl⟩
  have g16 : xF RX5 wsX5_isGhost 16 5 11 := ⟨"KeyScannerModel", RX5, TX5, 30, inX5, rfl, by decide, List.mem_of_getElem? (i := 2) rfl, rfl⟩
  have hRC : R * C ≤ 64 := Nat.mul_le_mul hR.2 hC.2
  have hpk := hpos k
  refine x_at (ws' := [(h0, .inr (5, [.int (nI R), .int (nI C), .int (bI dio), .int (bI bk), .int (bI lt), .int sl, .int (nI V), .int ru, .int (bI sus), .int (bI sos), .int (nI T), .ref d1, .ref d2, .ref d3, .ref d4, .ref d5, .ref d6, .ref d7, .ref d8, .ref d9, .ref d10, .int (nI mk), .ref d11, .int sk, .int rf, .int tk, .int (nI fr), .int (nI fc), .ref d12, .ref d13])), (d1, .inl (cI, 64, .inl (xN pos))), (d2, .inl (cI, 64, .inl ph)), (d3, .inl (cI, 64, .inl bg)), (d4, .inl (cZ, 64, .inl (xB fs))), (d5, .inl (cZ, 64, .inl (xB gs))), (d6, .inl (cI, 8, .inl st)), (d7, .inl (cI, 8, .inl kk)), (d8, .inl (cI, 8, .inl ve)), (d9, .inl (cI, 8, .inl si)), (d10, .inl (cZ, 8, .inl (xB ca))), (d11, .inl (cI, 48, .inl lg)), (d12, .inl (cI, 64, .inl op)), (d13, .inl (cI, 64, .inl ob))]) (st' := []) rfl rfl ?_
  refine x_lv [(0, .ref h0), (1, .int (nI k))] [0, 1] rfl ?_
  refine x_aload_n hE 0 rfl dX5_isGhost_0 ?_
  refine x_get hE g26 0 rfl rfl dX5_isGhost_1 ?_
  refine x_iload_n hE 1 rfl dX5_isGhost_4 ?_
  refine x_zald hE k (fs k) (by omega) (by decide) rfl 4 rfl dX5_isGhost_5 ?_
  refine xb_if_eq hE 18 (by decide) dX5_isGhost_6 (fun c6 => ?_) (fun c6 => ?_)
  · skip
    refine x_aload_n hE 0 rfl dX5_isGhost_18 ?_
    refine x_get hE g30 0 rfl rfl dX5_isGhost_19 ?_
    refine x_iload_n hE 1 rfl dX5_isGhost_22 ?_
    refine x_zald hE k (gs k) (by omega) (by decide) rfl 5 rfl dX5_isGhost_23 ?_
    refine xb_if_eq hE 41 (by decide) dX5_isGhost_24 (fun c24 => ?_) (fun c24 => ?_)
    · skip
      refine x_iconst hE (nI 0) (by decide) dX5_isGhost_41 ?_
      refine x_eq (bI false) rfl ?_
      exact x_zret hE hr (⟨by simp only [ghM, if_neg (bnt c6), if_neg (bnt c24), reduceIte, Bool.false_eq_true, Bool.true_eq_false], rfl⟩) dX5_isGhost_42
    · skip
      refine x_aload_n hE 0 rfl dX5_isGhost_27 ?_
      refine x_get hE g16 0 rfl rfl dX5_isGhost_28 ?_
      refine x_iload_n hE 1 rfl dX5_isGhost_31 ?_
      refine x_iald hE k (nI (pos k)) (by omega) (by decide) rfl 1 rfl dX5_isGhost_32 ?_
      refine x_iconst hE (nI 2) (by decide) dX5_isGhost_33 ?_
      refine xn_icmp_ge hE (by omega) (by omega) 41 (by decide) dX5_isGhost_34 (fun c34 => ?_) (fun c34 => ?_)
      · skip
        refine x_iconst hE (nI 0) (by decide) dX5_isGhost_41 ?_
        refine x_eq (bI false) rfl ?_
        exact x_zret hE hr (⟨by simp only [ghM, if_neg (bnt c6), if_pos c24, if_neg c34, reduceIte, Bool.false_eq_true, Bool.true_eq_false], rfl⟩) dX5_isGhost_42
      · skip
        refine x_iconst hE (nI 1) (by decide) dX5_isGhost_37 ?_
        refine x_goto hE 42 (by decide) dX5_isGhost_38 ?_
        refine x_eq (bI true) rfl ?_
        exact x_zret hE hr (⟨by simp only [ghM, if_neg (bnt c6), if_pos c24, if_pos c34, reduceIte, Bool.false_eq_true, Bool.true_eq_false], rfl⟩) dX5_isGhost_42
  · skip
    refine x_aload_n hE 0 rfl dX5_isGhost_9 ?_
    refine x_get hE g16 0 rfl rfl dX5_isGhost_10 ?_
    refine x_iload_n hE 1 rfl dX5_isGhost_13 ?_
    refine x_iald hE k (nI (pos k)) (by omega) (by decide) rfl 1 rfl dX5_isGhost_14 ?_
    refine xn_if_eq hE (by omega) 37 (by decide) dX5_isGhost_15 (fun c15 => ?_) (fun c15 => ?_)
    · skip
      refine x_iconst hE (nI 1) (by decide) dX5_isGhost_37 ?_
      refine x_goto hE 42 (by decide) dX5_isGhost_38 ?_
      refine x_eq (bI true) rfl ?_
      exact x_zret hE hr (⟨by simp only [ghM, if_pos c6, if_pos c15, reduceIte, Bool.false_eq_true, Bool.true_eq_false], rfl⟩) dX5_isGhost_42
    · skip
      refine x_aload_n hE 0 rfl dX5_isGhost_18 ?_
      refine x_get hE g30 0 rfl rfl dX5_isGhost_19 ?_
      refine x_iload_n hE 1 rfl dX5_isGhost_22 ?_
      refine x_zald hE k (gs k) (by omega) (by decide) rfl 5 rfl dX5_isGhost_23 ?_
      refine xb_if_eq hE 41 (by decide) dX5_isGhost_24 (fun c24 => ?_) (fun c24 => ?_)
      · skip
        refine x_iconst hE (nI 0) (by decide) dX5_isGhost_41 ?_
        refine x_eq (bI false) rfl ?_
        exact x_zret hE hr (⟨by simp only [ghM, if_pos c6, if_neg c15, if_neg (bnt c24), reduceIte, Bool.false_eq_true, Bool.true_eq_false], rfl⟩) dX5_isGhost_42
      · skip
        refine x_aload_n hE 0 rfl dX5_isGhost_27 ?_
        refine x_get hE g16 0 rfl rfl dX5_isGhost_28 ?_
        refine x_iload_n hE 1 rfl dX5_isGhost_31 ?_
        refine x_iald hE k (nI (pos k)) (by omega) (by decide) rfl 1 rfl dX5_isGhost_32 ?_
        refine x_iconst hE (nI 2) (by decide) dX5_isGhost_33 ?_
        refine xn_icmp_ge hE (by omega) (by omega) 41 (by decide) dX5_isGhost_34 (fun c34 => ?_) (fun c34 => ?_)
        · skip
          refine x_iconst hE (nI 0) (by decide) dX5_isGhost_41 ?_
          refine x_eq (bI false) rfl ?_
          exact x_zret hE hr (⟨by simp only [ghM, if_pos c6, if_neg c15, if_pos c24, if_neg c34, reduceIte, Bool.false_eq_true, Bool.true_eq_false], rfl⟩) dX5_isGhost_42
        · skip
          refine x_iconst hE (nI 1) (by decide) dX5_isGhost_37 ?_
          refine x_goto hE 42 (by decide) dX5_isGhost_38 ?_
          refine x_eq (bI true) rfl ?_
          exact x_zret hE hr (⟨by simp only [ghM, if_pos c6, if_neg c15, if_pos c24, if_pos c34, reduceIte, Bool.false_eq_true, Bool.true_eq_false], rfl⟩) dX5_isGhost_42
set_option maxHeartbeats 4000000 in
set_option maxRecDepth 100000 in
theorem kX5_isDoubtful (l : Launch) (D : va_G) (cI cZ : ClassId) (h0 : Nat) (d1 : Nat) (d2 : Nat) (d3 : Nat) (d4 : Nat) (d5 : Nat) (d6 : Nat) (d7 : Nat) (d8 : Nat) (d9 : Nat) (d10 : Nat) (d11 : Nat) (d12 : Nat) (d13 : Nat) (R : Nat) (C : Nat) (dio : Bool) (bk : Bool) (lt : Bool) (sl : Int32) (V : Nat) (ru : Int32) (sus : Bool) (sos : Bool) (T : Nat) (pos : Nat → Nat) (ph : Nat → Int32) (bg : Nat → Int32) (fs : Nat → Bool) (gs : Nat → Bool) (st : Nat → Int32) (kk : Nat → Int32) (ve : Nat → Int32) (si : Nat → Int32) (ca : Nat → Bool) (mk : Nat) (lg : Nat → Int32) (sk : Int32) (rf : Int32) (tk : Int32) (fr : Nat) (fc : Nat) (op : Nat → Int32) (ob : Nat → Int32) (k : Nat) (hR : 1 ≤ R ∧ R ≤ 8) (hC : 1 ≤ C ∧ C ≤ 8) (hk : k < R * C) : xC l yX5_isDoubtful wsX5_isDoubtful 1 0 0 20 D cI cZ [.ref h0, .int (nI k)] [(h0, .inr (5, [.int (nI R), .int (nI C), .int (bI dio), .int (bI bk), .int (bI lt), .int sl, .int (nI V), .int ru, .int (bI sus), .int (bI sos), .int (nI T), .ref d1, .ref d2, .ref d3, .ref d4, .ref d5, .ref d6, .ref d7, .ref d8, .ref d9, .ref d10, .int (nI mk), .ref d11, .int sk, .int rf, .int tk, .int (nI fr), .int (nI fc), .ref d12, .ref d13])), (d1, .inl (cI, 64, .inl (xN pos))), (d2, .inl (cI, 64, .inl ph)), (d3, .inl (cI, 64, .inl bg)), (d4, .inl (cZ, 64, .inl (xB fs))), (d5, .inl (cZ, 64, .inl (xB gs))), (d6, .inl (cI, 8, .inl st)), (d7, .inl (cI, 8, .inl kk)), (d8, .inl (cI, 8, .inl ve)), (d9, .inl (cI, 8, .inl si)), (d10, .inl (cZ, 8, .inl (xB ca))), (d11, .inl (cI, 48, .inl lg)), (d12, .inl (cI, 64, .inl op)), (d13, .inl (cI, 64, .inl ob))] (fun v8 w8 => v8 = some (.int (bI (dmM fs R C k))) ∧ w8 = [(h0, .inr (5, [.int (nI R), .int (nI C), .int (bI dio), .int (bI bk), .int (bI lt), .int sl, .int (nI V), .int ru, .int (bI sus), .int (bI sos), .int (nI T), .ref d1, .ref d2, .ref d3, .ref d4, .ref d5, .ref d6, .ref d7, .ref d8, .ref d9, .ref d10, .int (nI mk), .ref d11, .int sk, .int rf, .int tk, .int (nI fr), .int (nI fc), .ref d12, .ref d13])), (d1, .inl (cI, 64, .inl (xN pos))), (d2, .inl (cI, 64, .inl ph)), (d3, .inl (cI, 64, .inl bg)), (d4, .inl (cZ, 64, .inl (xB fs))), (d5, .inl (cZ, 64, .inl (xB gs))), (d6, .inl (cI, 8, .inl st)), (d7, .inl (cI, 8, .inl kk)), (d8, .inl (cI, 8, .inl ve)), (d9, .inl (cI, 8, .inl si)), (d10, .inl (cZ, 8, .inl (xB ca))), (d11, .inl (cI, 48, .inl lg)), (d12, .inl (cI, 64, .inl op)), (d13, .inl (cI, 64, .inl ob))]) := by
  refine xC.of (bytes := cX5_isDoubtful) (maxL := 6) (ret := (some .boolean)) (own := RX5) (by decide +kernel) rfl (Nat.le_of_ble_eq_true rfl) rfl ?_
  intro p9 e9 s9 m9 args9 below9 meth9 cd9 A hE hr hin2 hA9
  have inX5 : ∀ w ∈ wsX50, w ∈ wsX5_isDoubtful := fun w h => List.mem_cons_of_mem _ (List.mem_append_right _ h)
  have g64 : xF RX5 wsX5_isDoubtful 64 5 1 := ⟨"KeyScannerModel", RX5, TX5, 30, inX5, rfl, by decide, List.mem_of_getElem? (i := 2) rfl, rfl⟩
  have g26 : xF RX5 wsX5_isDoubtful 26 5 14 := ⟨"KeyScannerModel", RX5, TX5, 30, inX5, rfl, by decide, List.mem_of_getElem? (i := 1) rfl, rfl⟩
  have hRC : R * C ≤ 64 := Nat.mul_le_mul hR.2 hC.2
  have hkq : k / C < R := Nat.div_lt_of_lt_mul (by rw [Nat.mul_comm]; exact hk)
  have hkm : k % C < C := Nat.mod_lt _ (by omega)
  refine x_at (ws' := [(h0, .inr (5, [.int (nI R), .int (nI C), .int (bI dio), .int (bI bk), .int (bI lt), .int sl, .int (nI V), .int ru, .int (bI sus), .int (bI sos), .int (nI T), .ref d1, .ref d2, .ref d3, .ref d4, .ref d5, .ref d6, .ref d7, .ref d8, .ref d9, .ref d10, .int (nI mk), .ref d11, .int sk, .int rf, .int tk, .int (nI fr), .int (nI fc), .ref d12, .ref d13])), (d1, .inl (cI, 64, .inl (xN pos))), (d2, .inl (cI, 64, .inl ph)), (d3, .inl (cI, 64, .inl bg)), (d4, .inl (cZ, 64, .inl (xB fs))), (d5, .inl (cZ, 64, .inl (xB gs))), (d6, .inl (cI, 8, .inl st)), (d7, .inl (cI, 8, .inl kk)), (d8, .inl (cI, 8, .inl ve)), (d9, .inl (cI, 8, .inl si)), (d10, .inl (cZ, 8, .inl (xB ca))), (d11, .inl (cI, 48, .inl lg)), (d12, .inl (cI, 64, .inl op)), (d13, .inl (cI, 64, .inl ob))]) (st' := []) rfl rfl ?_
  refine x_lv [(0, .ref h0), (1, .int (nI k))] [0, 1] rfl ?_
  have lp13 : ∀ (n : Nat) (i : Nat) (hi : i + n = R * C) (hT : lany (dmS fs C k) i n = dmM fs R C k), X p9 l e9 { frames := 1, cells := 0, slots := 0, locals := 20 } s9 m9 args9 below9 meth9 cd9 0 0 (MQ below9 (xQ D (fun v8 w8 => v8 = some (.int (bI (dmM fs R C k))) ∧ w8 = [(h0, .inr (5, [.int (nI R), .int (nI C), .int (bI dio), .int (bI bk), .int (bI lt), .int sl, .int (nI V), .int ru, .int (bI sus), .int (bI sos), .int (nI T), .ref d1, .ref d2, .ref d3, .ref d4, .ref d5, .ref d6, .ref d7, .ref d8, .ref d9, .ref d10, .int (nI mk), .ref d11, .int sk, .int rf, .int tk, .int (nI fr), .int (nI fc), .ref d12, .ref d13])), (d1, .inl (cI, 64, .inl (xN pos))), (d2, .inl (cI, 64, .inl ph)), (d3, .inl (cI, 64, .inl bg)), (d4, .inl (cZ, 64, .inl (xB fs))), (d5, .inl (cZ, 64, .inl (xB gs))), (d6, .inl (cI, 8, .inl st)), (d7, .inl (cI, 8, .inl kk)), (d8, .inl (cI, 8, .inl ve)), (d9, .inl (cI, 8, .inl si)), (d10, .inl (cZ, 8, .inl (xB ca))), (d11, .inl (cI, 48, .inl lg)), (d12, .inl (cI, 64, .inl op)), (d13, .inl (cI, 64, .inl ob))]) A) args9 s9 0 0 A) 6 D A [(h0, .inr (5, [.int (nI R), .int (nI C), .int (bI dio), .int (bI bk), .int (bI lt), .int sl, .int (nI V), .int ru, .int (bI sus), .int (bI sos), .int (nI T), .ref d1, .ref d2, .ref d3, .ref d4, .ref d5, .ref d6, .ref d7, .ref d8, .ref d9, .ref d10, .int (nI mk), .ref d11, .int sk, .int rf, .int tk, .int (nI fr), .int (nI fc), .ref d12, .ref d13])), (d1, .inl (cI, 64, .inl (xN pos))), (d2, .inl (cI, 64, .inl ph)), (d3, .inl (cI, 64, .inl bg)), (d4, .inl (cZ, 64, .inl (xB fs))), (d5, .inl (cZ, 64, .inl (xB gs))), (d6, .inl (cI, 8, .inl st)), (d7, .inl (cI, 8, .inl kk)), (d8, .inl (cI, 8, .inl ve)), (d9, .inl (cI, 8, .inl si)), (d10, .inl (cZ, 8, .inl (xB ca))), (d11, .inl (cI, 48, .inl lg)), (d12, .inl (cI, 64, .inl op)), (d13, .inl (cI, 64, .inl ob))] [(0, .ref h0), (1, .int (nI k)), (2, .int (nI i))] 13 [] := by
    intro n
    induction n with
    | zero =>
      intro i hi hT
      refine x_iload_n hE 2 rfl dX5_isDoubtful_13 ?_
      refine x_aload_n hE 0 rfl dX5_isDoubtful_14 ?_
      refine x_callV (n := 0) (st := [.int (nI i)]) hE (kX5_keys l D cI cZ h0 d1 d2 d3 d4 d5 d6 d7 d8 d9 d10 d11 d12 d13 R C dio bk lt sl V ru sus sos T pos ph bg fs gs st kk ve si ca mk lg sk rf tk fr fc op ob ) gX5_isDoubtful_X5_keys rfl (by decide +kernel) ⟨by decide, by decide⟩ ⟨Nat.zero_le _, Nat.zero_le _⟩ rfl [0, 1, 2, 3, 4, 5, 6, 7, 8, 9, 10, 11, 12, 13] [] rfl (wr := []) rfl (by decide) (by decide) (by decide) 0 rfl rfl rfl rfl (Nat.le_of_ble_eq_true rfl) dX5_isDoubtful_15 (fun v9 w9 hT9 => ?_)
      obtain ⟨rfl, rfl⟩ := hT9
      refine x_at (ws' := [(h0, .inr (5, [.int (nI R), .int (nI C), .int (bI dio), .int (bI bk), .int (bI lt), .int sl, .int (nI V), .int ru, .int (bI sus), .int (bI sos), .int (nI T), .ref d1, .ref d2, .ref d3, .ref d4, .ref d5, .ref d6, .ref d7, .ref d8, .ref d9, .ref d10, .int (nI mk), .ref d11, .int sk, .int rf, .int tk, .int (nI fr), .int (nI fc), .ref d12, .ref d13])), (d1, .inl (cI, 64, .inl (xN pos))), (d2, .inl (cI, 64, .inl ph)), (d3, .inl (cI, 64, .inl bg)), (d4, .inl (cZ, 64, .inl (xB fs))), (d5, .inl (cZ, 64, .inl (xB gs))), (d6, .inl (cI, 8, .inl st)), (d7, .inl (cI, 8, .inl kk)), (d8, .inl (cI, 8, .inl ve)), (d9, .inl (cI, 8, .inl si)), (d10, .inl (cZ, 8, .inl (xB ca))), (d11, .inl (cI, 48, .inl lg)), (d12, .inl (cI, 64, .inl op)), (d13, .inl (cI, 64, .inl ob))]) (st' := [.int (nI (R * C)), .int (nI i)]) rfl rfl ?_
      refine xn_icmp_ge hE (by omega) (by omega) 129 (by decide) dX5_isDoubtful_18 (fun c18 => ?_) (fun c18 => ?_)
      · skip
        refine x_iconst hE (nI 0) (by decide) dX5_isDoubtful_129 ?_
        refine x_eq (bI false) rfl ?_
        exact x_zret hE hr (⟨by rw [← show false = dmM fs R C k from hT], rfl⟩) dX5_isDoubtful_130
      · skip
        exfalso; omega
    | succ n ih =>
      intro i hi hT
      refine x_iload_n hE 2 rfl dX5_isDoubtful_13 ?_
      refine x_aload_n hE 0 rfl dX5_isDoubtful_14 ?_
      refine x_callV (n := 0) (st := [.int (nI i)]) hE (kX5_keys l D cI cZ h0 d1 d2 d3 d4 d5 d6 d7 d8 d9 d10 d11 d12 d13 R C dio bk lt sl V ru sus sos T pos ph bg fs gs st kk ve si ca mk lg sk rf tk fr fc op ob ) gX5_isDoubtful_X5_keys rfl (by decide +kernel) ⟨by decide, by decide⟩ ⟨Nat.zero_le _, Nat.zero_le _⟩ rfl [0, 1, 2, 3, 4, 5, 6, 7, 8, 9, 10, 11, 12, 13] [] rfl (wr := []) rfl (by decide) (by decide) (by decide) 0 rfl rfl rfl rfl (Nat.le_of_ble_eq_true rfl) dX5_isDoubtful_15 (fun v9 w9 hT9 => ?_)
      obtain ⟨rfl, rfl⟩ := hT9
      refine x_at (ws' := [(h0, .inr (5, [.int (nI R), .int (nI C), .int (bI dio), .int (bI bk), .int (bI lt), .int sl, .int (nI V), .int ru, .int (bI sus), .int (bI sos), .int (nI T), .ref d1, .ref d2, .ref d3, .ref d4, .ref d5, .ref d6, .ref d7, .ref d8, .ref d9, .ref d10, .int (nI mk), .ref d11, .int sk, .int rf, .int tk, .int (nI fr), .int (nI fc), .ref d12, .ref d13])), (d1, .inl (cI, 64, .inl (xN pos))), (d2, .inl (cI, 64, .inl ph)), (d3, .inl (cI, 64, .inl bg)), (d4, .inl (cZ, 64, .inl (xB fs))), (d5, .inl (cZ, 64, .inl (xB gs))), (d6, .inl (cI, 8, .inl st)), (d7, .inl (cI, 8, .inl kk)), (d8, .inl (cI, 8, .inl ve)), (d9, .inl (cI, 8, .inl si)), (d10, .inl (cZ, 8, .inl (xB ca))), (d11, .inl (cI, 48, .inl lg)), (d12, .inl (cI, 64, .inl op)), (d13, .inl (cI, 64, .inl ob))]) (st' := [.int (nI (R * C)), .int (nI i)]) rfl rfl ?_
      refine xn_icmp_ge hE (by omega) (by omega) 129 (by decide) dX5_isDoubtful_18 (fun c18 => ?_) (fun c18 => ?_)
      · skip
        exfalso; omega
      · skip
        have hq9 : i / C < R := Nat.div_lt_of_lt_mul (by rw [Nat.mul_comm]; exact c18)
        have hm9 : i % C < C := Nat.mod_lt _ (by omega)
        refine x_iload_n hE 2 rfl dX5_isDoubtful_21 ?_
        refine x_aload_n hE 0 rfl dX5_isDoubtful_22 ?_
        refine x_get hE g64 0 rfl rfl dX5_isDoubtful_23 ?_
        refine x_idiv hE (nI (i / C)) (nI_ne0 (by omega) (by omega)) (xI_div (by omega) (by omega) (by omega)) dX5_isDoubtful_26 ?_
        refine x_istore_n hE [(3, .int (nI (i / C))), (0, .ref h0), (1, .int (nI k)), (2, .int (nI i))] (by decide) rfl dX5_isDoubtful_27 ?_
        refine x_iload_n hE 3 rfl dX5_isDoubtful_28 ?_
        refine x_aload_n hE 1 rfl dX5_isDoubtful_29 ?_
        refine x_get hE g64 0 rfl rfl dX5_isDoubtful_30 ?_
        refine x_irem hE (nI (i % C)) (nI_ne0 (by omega) (by omega)) (xI_rem (by omega) (by omega) (by omega)) dX5_isDoubtful_33 ?_
        refine x_istore hE [(4, .int (nI (i % C))), (3, .int (nI (i / C))), (0, .ref h0), (1, .int (nI k)), (2, .int (nI i))] (by decide) rfl dX5_isDoubtful_34 ?_
        refine x_iload_n hE 1 rfl dX5_isDoubtful_36 ?_
        refine x_iload_n hE 3 rfl dX5_isDoubtful_37 ?_
        refine x_aload_n hE 2 rfl dX5_isDoubtful_38 ?_
        refine x_get hE g64 0 rfl rfl dX5_isDoubtful_39 ?_
        refine x_idiv hE (nI (k / C)) (nI_ne0 (by omega) (by omega)) (xI_div (by omega) (by omega) (by omega)) dX5_isDoubtful_42 ?_
        refine xn_icmp_eq hE (by omega) (by omega) 61 (by decide) dX5_isDoubtful_43 (fun c43 => ?_) (fun c43 => ?_)
        · skip
          refine x_iconst hE (nI 0) (by decide) dX5_isDoubtful_61 ?_
          refine x_istore hE [(5, .int (nI 0)), (4, .int (nI (i % C))), (3, .int (nI (i / C))), (0, .ref h0), (1, .int (nI k)), (2, .int (nI i))] (by decide) rfl dX5_isDoubtful_62 ?_
          refine x_iload hE 0 rfl dX5_isDoubtful_64 ?_
          refine xn_if_eq hE (by omega) 123 (by decide) dX5_isDoubtful_66 (fun c66 => ?_) (fun c66 => ?_)
          · skip
            refine x_iinc hE (nI (i + 1)) [(2, .int (nI (i + 1))), (5, .int (nI 0)), (4, .int (nI (i % C))), (3, .int (nI (i / C))), (0, .ref h0), (1, .int (nI k))] 5 rfl (nI_add _ _) (by decide) rfl dX5_isDoubtful_123 ?_
            refine x_goto hE 13 (by decide) dX5_isDoubtful_126 ?_
            refine x_lv [(0, .ref h0), (1, .int (nI k)), (2, .int (nI (i + 1)))] [4, 5, 0] rfl ?_
            exact ih (i + 1) (by omega) (by simpa only [lfor, lany, lfind, dmS, if_pos c18, if_pos c43, if_pos c66, reduceIte, Bool.false_eq_true, Bool.true_eq_false] using hT)
          · skip
            exact absurd (by decide) c66
        · skip
          refine x_iload hE 0 rfl dX5_isDoubtful_46 ?_
          refine x_iload_n hE 3 rfl dX5_isDoubtful_48 ?_
          refine x_aload_n hE 2 rfl dX5_isDoubtful_49 ?_
          refine x_get hE g64 0 rfl rfl dX5_isDoubtful_50 ?_
          refine x_irem hE (nI (k % C)) (nI_ne0 (by omega) (by omega)) (xI_rem (by omega) (by omega) (by omega)) dX5_isDoubtful_53 ?_
          refine xn_icmp_eq hE (by omega) (by omega) 61 (by decide) dX5_isDoubtful_54 (fun c54 => ?_) (fun c54 => ?_)
          · skip
            refine x_iconst hE (nI 0) (by decide) dX5_isDoubtful_61 ?_
            refine x_istore hE [(5, .int (nI 0)), (4, .int (nI (i % C))), (3, .int (nI (i / C))), (0, .ref h0), (1, .int (nI k)), (2, .int (nI i))] (by decide) rfl dX5_isDoubtful_62 ?_
            refine x_iload hE 0 rfl dX5_isDoubtful_64 ?_
            refine xn_if_eq hE (by omega) 123 (by decide) dX5_isDoubtful_66 (fun c66 => ?_) (fun c66 => ?_)
            · skip
              refine x_iinc hE (nI (i + 1)) [(2, .int (nI (i + 1))), (5, .int (nI 0)), (4, .int (nI (i % C))), (3, .int (nI (i / C))), (0, .ref h0), (1, .int (nI k))] 5 rfl (nI_add _ _) (by decide) rfl dX5_isDoubtful_123 ?_
              refine x_goto hE 13 (by decide) dX5_isDoubtful_126 ?_
              refine x_lv [(0, .ref h0), (1, .int (nI k)), (2, .int (nI (i + 1)))] [4, 5, 0] rfl ?_
              exact ih (i + 1) (by omega) (by simpa only [lfor, lany, lfind, dmS, if_pos c18, if_neg c43, if_pos c54, if_pos c66, reduceIte, Bool.false_eq_true, Bool.true_eq_false] using hT)
            · skip
              exact absurd (by decide) c66
          · skip
            refine x_iconst hE (nI 1) (by decide) dX5_isDoubtful_57 ?_
            refine x_goto hE 62 (by decide) dX5_isDoubtful_58 ?_
            refine x_istore hE [(5, .int (nI 1)), (4, .int (nI (i % C))), (3, .int (nI (i / C))), (0, .ref h0), (1, .int (nI k)), (2, .int (nI i))] (by decide) rfl dX5_isDoubtful_62 ?_
            refine x_iload hE 0 rfl dX5_isDoubtful_64 ?_
            refine xn_if_eq hE (by omega) 123 (by decide) dX5_isDoubtful_66 (fun c66 => ?_) (fun c66 => ?_)
            · skip
              exact absurd c66 (by decide)
            · skip
              have hx9 : i / C * C + k % C < R * C := rc_lt hq9 hkm
              have hy9 : k / C * C + i % C < R * C := rc_lt hkq hm9
              refine x_aload_n hE 3 rfl dX5_isDoubtful_69 ?_
              refine x_get hE g26 0 rfl rfl dX5_isDoubtful_70 ?_
              refine x_iload_n hE 5 rfl dX5_isDoubtful_73 ?_
              refine x_zald hE i (fs i) (by omega) (by decide) rfl 4 rfl dX5_isDoubtful_74 ?_
              refine xb_if_eq hE 123 (by decide) dX5_isDoubtful_75 (fun c75 => ?_) (fun c75 => ?_)
              · skip
                refine x_iinc hE (nI (i + 1)) [(2, .int (nI (i + 1))), (5, .int (nI 1)), (4, .int (nI (i % C))), (3, .int (nI (i / C))), (0, .ref h0), (1, .int (nI k))] 5 rfl (nI_add _ _) (by decide) rfl dX5_isDoubtful_123 ?_
                refine x_goto hE 13 (by decide) dX5_isDoubtful_126 ?_
                refine x_lv [(0, .ref h0), (1, .int (nI k)), (2, .int (nI (i + 1)))] [4, 5, 0] rfl ?_
                exact ih (i + 1) (by omega) (by simpa only [lfor, lany, lfind, dmS, if_pos c18, if_neg c43, if_neg c54, if_neg c66, if_neg (bnt c75), reduceIte, Bool.false_eq_true, Bool.true_eq_false] using hT)
              · skip
                refine x_aload_n hE 3 rfl dX5_isDoubtful_78 ?_
                refine x_get hE g26 0 rfl rfl dX5_isDoubtful_79 ?_
                refine x_iload_n hE 2 rfl dX5_isDoubtful_82 ?_
                refine x_aload_n hE 3 rfl dX5_isDoubtful_83 ?_
                refine x_get hE g64 0 rfl rfl dX5_isDoubtful_84 ?_
                refine x_imul hE (nI ((i / C) * C)) (xI_mul _ _) dX5_isDoubtful_87 ?_
                refine x_iload_n hE 4 rfl dX5_isDoubtful_88 ?_
                refine x_aload_n hE 3 rfl dX5_isDoubtful_89 ?_
                refine x_get hE g64 0 rfl rfl dX5_isDoubtful_90 ?_
                refine x_irem hE (nI (k % C)) (nI_ne0 (by omega) (by omega)) (xI_rem (by omega) (by omega) (by omega)) dX5_isDoubtful_93 ?_
                refine x_iadd hE (nI (((i / C) * C) + (k % C))) (nI_add _ _) dX5_isDoubtful_94 ?_
                refine x_zald hE (((i / C) * C) + (k % C)) (fs (((i / C) * C) + (k % C))) (by omega) (by decide) rfl 4 rfl dX5_isDoubtful_95 ?_
                refine xb_if_eq hE 123 (by decide) dX5_isDoubtful_96 (fun c96 => ?_) (fun c96 => ?_)
                · skip
                  refine x_iinc hE (nI (i + 1)) [(2, .int (nI (i + 1))), (5, .int (nI 1)), (4, .int (nI (i % C))), (3, .int (nI (i / C))), (0, .ref h0), (1, .int (nI k))] 5 rfl (nI_add _ _) (by decide) rfl dX5_isDoubtful_123 ?_
                  refine x_goto hE 13 (by decide) dX5_isDoubtful_126 ?_
                  refine x_lv [(0, .ref h0), (1, .int (nI k)), (2, .int (nI (i + 1)))] [4, 5, 0] rfl ?_
                  exact ih (i + 1) (by omega) (by simpa only [lfor, lany, lfind, dmS, if_pos c18, if_neg c43, if_neg c54, if_neg c66, if_pos c75, if_neg (bnt c96), reduceIte, Bool.false_eq_true, Bool.true_eq_false] using hT)
                · skip
                  refine x_aload_n hE 3 rfl dX5_isDoubtful_99 ?_
                  refine x_get hE g26 0 rfl rfl dX5_isDoubtful_100 ?_
                  refine x_iload_n hE 4 rfl dX5_isDoubtful_103 ?_
                  refine x_aload_n hE 3 rfl dX5_isDoubtful_104 ?_
                  refine x_get hE g64 0 rfl rfl dX5_isDoubtful_105 ?_
                  refine x_idiv hE (nI (k / C)) (nI_ne0 (by omega) (by omega)) (xI_div (by omega) (by omega) (by omega)) dX5_isDoubtful_108 ?_
                  refine x_aload_n hE 3 rfl dX5_isDoubtful_109 ?_
                  refine x_get hE g64 0 rfl rfl dX5_isDoubtful_110 ?_
                  refine x_imul hE (nI ((k / C) * C)) (xI_mul _ _) dX5_isDoubtful_113 ?_
                  refine x_iload hE 1 rfl dX5_isDoubtful_114 ?_
                  refine x_iadd hE (nI (((k / C) * C) + (i % C))) (nI_add _ _) dX5_isDoubtful_116 ?_
                  refine x_zald hE (((k / C) * C) + (i % C)) (fs (((k / C) * C) + (i % C))) (by omega) (by decide) rfl 4 rfl dX5_isDoubtful_117 ?_
                  refine xb_if_eq hE 123 (by decide) dX5_isDoubtful_118 (fun c118 => ?_) (fun c118 => ?_)
                  · skip
                    refine x_iinc hE (nI (i + 1)) [(2, .int (nI (i + 1))), (5, .int (nI 1)), (4, .int (nI (i % C))), (3, .int (nI (i / C))), (0, .ref h0), (1, .int (nI k))] 5 rfl (nI_add _ _) (by decide) rfl dX5_isDoubtful_123 ?_
                    refine x_goto hE 13 (by decide) dX5_isDoubtful_126 ?_
                    refine x_lv [(0, .ref h0), (1, .int (nI k)), (2, .int (nI (i + 1)))] [4, 5, 0] rfl ?_
                    exact ih (i + 1) (by omega) (by simpa only [lfor, lany, lfind, dmS, if_pos c18, if_neg c43, if_neg c54, if_neg c66, if_pos c75, if_pos c96, if_neg (bnt c118), reduceIte, Bool.false_eq_true, Bool.true_eq_false] using hT)
                  · skip
                    refine x_iconst hE (nI 1) (by decide) dX5_isDoubtful_121 ?_
                    refine x_eq (bI true) rfl ?_
                    exact x_zret hE hr (⟨by rw [← show true = dmM fs R C k from by simpa only [lany, dmS, if_pos c18, if_neg c43, if_neg c54, if_neg c66, if_pos c75, if_pos c96, if_pos c118, reduceIte, Bool.false_eq_true, Bool.true_eq_false] using hT], rfl⟩) dX5_isDoubtful_122
  refine x_aload_n hE 0 rfl dX5_isDoubtful_0 ?_
  refine x_get hE g26 0 rfl rfl dX5_isDoubtful_1 ?_
  refine x_iload_n hE 1 rfl dX5_isDoubtful_4 ?_
  refine x_zald hE k (fs k) (by omega) (by decide) rfl 4 rfl dX5_isDoubtful_5 ?_
  refine xb_if_ne hE 11 (by decide) dX5_isDoubtful_6 (fun c6 => ?_) (fun c6 => ?_)
  · skip
    refine x_iconst hE (nI 0) (by decide) dX5_isDoubtful_11 ?_
    refine x_istore_n hE [(2, .int (nI 0)), (0, .ref h0), (1, .int (nI k))] (by decide) rfl dX5_isDoubtful_12 ?_
    refine x_lv [(0, .ref h0), (1, .int (nI k)), (2, .int (nI 0))] [1, 2, 0] rfl ?_
    exact lp13 (R * C) 0 (Nat.zero_add _) (by rw [dmM, if_pos c6])
  · skip
    refine x_iconst hE (nI 0) (by decide) dX5_isDoubtful_9 ?_
    refine x_eq (bI false) rfl ?_
    exact x_zret hE hr (⟨by simp only [dmM, if_neg (bnt c6), reduceIte, Bool.false_eq_true, Bool.true_eq_false], rfl⟩) dX5_isDoubtful_10
set_option maxHeartbeats 4000000 in
set_option maxRecDepth 100000 in
theorem kX5_ghosts (l : Launch) (D : va_G) (cI cZ : ClassId) (h0 : Nat) (d1 : Nat) (d2 : Nat) (d3 : Nat) (d4 : Nat) (d5 : Nat) (d6 : Nat) (d7 : Nat) (d8 : Nat) (d9 : Nat) (d10 : Nat) (d11 : Nat) (d12 : Nat) (d13 : Nat) (R : Nat) (C : Nat) (dio : Bool) (bk : Bool) (lt : Bool) (sl : Int32) (V : Nat) (ru : Int32) (sus : Bool) (sos : Bool) (T : Nat) (pos : Nat → Nat) (ph : Nat → Int32) (bg : Nat → Int32) (fs : Nat → Bool) (gs : Nat → Bool) (st : Nat → Int32) (kk : Nat → Int32) (ve : Nat → Int32) (si : Nat → Int32) (ca : Nat → Bool) (mk : Nat) (lg : Nat → Int32) (sk : Int32) (rf : Int32) (tk : Int32) (fr : Nat) (fc : Nat) (op : Nat → Int32) (ob : Nat → Int32) (hR : 1 ≤ R ∧ R ≤ 8) (hC : 1 ≤ C ∧ C ≤ 8) (hpos : ∀ k, pos k ≤ 2) : xC l yX5_ghosts wsX5_ghosts 1 0 0 21 D cI cZ [.ref h0] [(h0, .inr (5, [.int (nI R), .int (nI C), .int (bI dio), .int (bI bk), .int (bI lt), .int sl, .int (nI V), .int ru, .int (bI sus), .int (bI sos), .int (nI T), .ref d1, .ref d2, .ref d3, .ref d4, .ref d5, .ref d6, .ref d7, .ref d8, .ref d9, .ref d10, .int (nI mk), .ref d11, .int sk, .int rf, .int tk, .int (nI fr), .int (nI fc), .ref d12, .ref d13])), (d1, .inl (cI, 64, .inl (xN pos))), (d2, .inl (cI, 64, .inl ph)), (d3, .inl (cI, 64, .inl bg)), (d4, .inl (cZ, 64, .inl (xB fs))), (d5, .inl (cZ, 64, .inl (xB gs))), (d6, .inl (cI, 8, .inl st)), (d7, .inl (cI, 8, .inl kk)), (d8, .inl (cI, 8, .inl ve)), (d9, .inl (cI, 8, .inl si)), (d10, .inl (cZ, 8, .inl (xB ca))), (d11, .inl (cI, 48, .inl lg)), (d12, .inl (cI, 64, .inl op)), (d13, .inl (cI, 64, .inl ob))] (fun v8 w8 => v8 = some (.int (nI (gcM fs gs pos (R * C)))) ∧ w8 = [(h0, .inr (5, [.int (nI R), .int (nI C), .int (bI dio), .int (bI bk), .int (bI lt), .int sl, .int (nI V), .int ru, .int (bI sus), .int (bI sos), .int (nI T), .ref d1, .ref d2, .ref d3, .ref d4, .ref d5, .ref d6, .ref d7, .ref d8, .ref d9, .ref d10, .int (nI mk), .ref d11, .int sk, .int rf, .int tk, .int (nI fr), .int (nI fc), .ref d12, .ref d13])), (d1, .inl (cI, 64, .inl (xN pos))), (d2, .inl (cI, 64, .inl ph)), (d3, .inl (cI, 64, .inl bg)), (d4, .inl (cZ, 64, .inl (xB fs))), (d5, .inl (cZ, 64, .inl (xB gs))), (d6, .inl (cI, 8, .inl st)), (d7, .inl (cI, 8, .inl kk)), (d8, .inl (cI, 8, .inl ve)), (d9, .inl (cI, 8, .inl si)), (d10, .inl (cZ, 8, .inl (xB ca))), (d11, .inl (cI, 48, .inl lg)), (d12, .inl (cI, 64, .inl op)), (d13, .inl (cI, 64, .inl ob))]) := by
  refine xC.of (bytes := cX5_ghosts) (maxL := 3) (ret := (some .int)) (own := RX5) (by decide +kernel) rfl (Nat.le_of_ble_eq_true rfl) rfl ?_
  intro p9 e9 s9 m9 args9 below9 meth9 cd9 A hE hr hin2 hA9
  have hRC : R * C ≤ 64 := Nat.mul_le_mul hR.2 hC.2
  refine x_at (ws' := [(h0, .inr (5, [.int (nI R), .int (nI C), .int (bI dio), .int (bI bk), .int (bI lt), .int sl, .int (nI V), .int ru, .int (bI sus), .int (bI sos), .int (nI T), .ref d1, .ref d2, .ref d3, .ref d4, .ref d5, .ref d6, .ref d7, .ref d8, .ref d9, .ref d10, .int (nI mk), .ref d11, .int sk, .int rf, .int tk, .int (nI fr), .int (nI fc), .ref d12, .ref d13])), (d1, .inl (cI, 64, .inl (xN pos))), (d2, .inl (cI, 64, .inl ph)), (d3, .inl (cI, 64, .inl bg)), (d4, .inl (cZ, 64, .inl (xB fs))), (d5, .inl (cZ, 64, .inl (xB gs))), (d6, .inl (cI, 8, .inl st)), (d7, .inl (cI, 8, .inl kk)), (d8, .inl (cI, 8, .inl ve)), (d9, .inl (cI, 8, .inl si)), (d10, .inl (cZ, 8, .inl (xB ca))), (d11, .inl (cI, 48, .inl lg)), (d12, .inl (cI, 64, .inl op)), (d13, .inl (cI, 64, .inl ob))]) (st' := []) rfl rfl ?_
  refine x_lv [(0, .ref h0)] [0] rfl ?_
  have lp4 : ∀ (n : Nat) (i : Nat) (u : Nat) (hi : i + n = R * C) (hT : lfor (fun k a => a + (if ghM fs gs pos k = true then 1 else 0)) i n u = gcM fs gs pos (R * C)), X p9 l e9 { frames := 1, cells := 0, slots := 0, locals := 21 } s9 m9 args9 below9 meth9 cd9 0 0 (MQ below9 (xQ D (fun v8 w8 => v8 = some (.int (nI (gcM fs gs pos (R * C)))) ∧ w8 = [(h0, .inr (5, [.int (nI R), .int (nI C), .int (bI dio), .int (bI bk), .int (bI lt), .int sl, .int (nI V), .int ru, .int (bI sus), .int (bI sos), .int (nI T), .ref d1, .ref d2, .ref d3, .ref d4, .ref d5, .ref d6, .ref d7, .ref d8, .ref d9, .ref d10, .int (nI mk), .ref d11, .int sk, .int rf, .int tk, .int (nI fr), .int (nI fc), .ref d12, .ref d13])), (d1, .inl (cI, 64, .inl (xN pos))), (d2, .inl (cI, 64, .inl ph)), (d3, .inl (cI, 64, .inl bg)), (d4, .inl (cZ, 64, .inl (xB fs))), (d5, .inl (cZ, 64, .inl (xB gs))), (d6, .inl (cI, 8, .inl st)), (d7, .inl (cI, 8, .inl kk)), (d8, .inl (cI, 8, .inl ve)), (d9, .inl (cI, 8, .inl si)), (d10, .inl (cZ, 8, .inl (xB ca))), (d11, .inl (cI, 48, .inl lg)), (d12, .inl (cI, 64, .inl op)), (d13, .inl (cI, 64, .inl ob))]) A) args9 s9 0 0 A) 3 D A [(h0, .inr (5, [.int (nI R), .int (nI C), .int (bI dio), .int (bI bk), .int (bI lt), .int sl, .int (nI V), .int ru, .int (bI sus), .int (bI sos), .int (nI T), .ref d1, .ref d2, .ref d3, .ref d4, .ref d5, .ref d6, .ref d7, .ref d8, .ref d9, .ref d10, .int (nI mk), .ref d11, .int sk, .int rf, .int tk, .int (nI fr), .int (nI fc), .ref d12, .ref d13])), (d1, .inl (cI, 64, .inl (xN pos))), (d2, .inl (cI, 64, .inl ph)), (d3, .inl (cI, 64, .inl bg)), (d4, .inl (cZ, 64, .inl (xB fs))), (d5, .inl (cZ, 64, .inl (xB gs))), (d6, .inl (cI, 8, .inl st)), (d7, .inl (cI, 8, .inl kk)), (d8, .inl (cI, 8, .inl ve)), (d9, .inl (cI, 8, .inl si)), (d10, .inl (cZ, 8, .inl (xB ca))), (d11, .inl (cI, 48, .inl lg)), (d12, .inl (cI, 64, .inl op)), (d13, .inl (cI, 64, .inl ob))] [(0, .ref h0), (1, .int (nI u)), (2, .int (nI i))] 4 [] := by
    intro n
    induction n with
    | zero =>
      intro i u hi hT
      refine x_iload_n hE 2 rfl dX5_ghosts_4 ?_
      refine x_aload_n hE 0 rfl dX5_ghosts_5 ?_
      refine x_callV (n := 0) (st := [.int (nI i)]) hE (kX5_keys l D cI cZ h0 d1 d2 d3 d4 d5 d6 d7 d8 d9 d10 d11 d12 d13 R C dio bk lt sl V ru sus sos T pos ph bg fs gs st kk ve si ca mk lg sk rf tk fr fc op ob ) gX5_ghosts_X5_keys rfl (by decide +kernel) ⟨by decide, by decide⟩ ⟨Nat.zero_le _, Nat.zero_le _⟩ rfl [0, 1, 2, 3, 4, 5, 6, 7, 8, 9, 10, 11, 12, 13] [] rfl (wr := []) rfl (by decide) (by decide) (by decide) 0 rfl rfl rfl rfl (Nat.le_of_ble_eq_true rfl) dX5_ghosts_6 (fun v9 w9 hT9 => ?_)
      obtain ⟨rfl, rfl⟩ := hT9
      refine x_at (ws' := [(h0, .inr (5, [.int (nI R), .int (nI C), .int (bI dio), .int (bI bk), .int (bI lt), .int sl, .int (nI V), .int ru, .int (bI sus), .int (bI sos), .int (nI T), .ref d1, .ref d2, .ref d3, .ref d4, .ref d5, .ref d6, .ref d7, .ref d8, .ref d9, .ref d10, .int (nI mk), .ref d11, .int sk, .int rf, .int tk, .int (nI fr), .int (nI fc), .ref d12, .ref d13])), (d1, .inl (cI, 64, .inl (xN pos))), (d2, .inl (cI, 64, .inl ph)), (d3, .inl (cI, 64, .inl bg)), (d4, .inl (cZ, 64, .inl (xB fs))), (d5, .inl (cZ, 64, .inl (xB gs))), (d6, .inl (cI, 8, .inl st)), (d7, .inl (cI, 8, .inl kk)), (d8, .inl (cI, 8, .inl ve)), (d9, .inl (cI, 8, .inl si)), (d10, .inl (cZ, 8, .inl (xB ca))), (d11, .inl (cI, 48, .inl lg)), (d12, .inl (cI, 64, .inl op)), (d13, .inl (cI, 64, .inl ob))]) (st' := [.int (nI (R * C)), .int (nI i)]) rfl rfl ?_
      refine xn_icmp_ge hE (by omega) (by omega) 34 (by decide) dX5_ghosts_9 (fun c9 => ?_) (fun c9 => ?_)
      · skip
        refine x_iload_n hE 1 rfl dX5_ghosts_34 ?_
        exact x_iret hE hr (⟨by rw [← show u = gcM fs gs pos (R * C) from hT], rfl⟩) dX5_ghosts_35
      · skip
        exfalso; omega
    | succ n ih =>
      intro i u hi hT
      refine x_iload_n hE 2 rfl dX5_ghosts_4 ?_
      refine x_aload_n hE 0 rfl dX5_ghosts_5 ?_
      refine x_callV (n := 0) (st := [.int (nI i)]) hE (kX5_keys l D cI cZ h0 d1 d2 d3 d4 d5 d6 d7 d8 d9 d10 d11 d12 d13 R C dio bk lt sl V ru sus sos T pos ph bg fs gs st kk ve si ca mk lg sk rf tk fr fc op ob ) gX5_ghosts_X5_keys rfl (by decide +kernel) ⟨by decide, by decide⟩ ⟨Nat.zero_le _, Nat.zero_le _⟩ rfl [0, 1, 2, 3, 4, 5, 6, 7, 8, 9, 10, 11, 12, 13] [] rfl (wr := []) rfl (by decide) (by decide) (by decide) 0 rfl rfl rfl rfl (Nat.le_of_ble_eq_true rfl) dX5_ghosts_6 (fun v9 w9 hT9 => ?_)
      obtain ⟨rfl, rfl⟩ := hT9
      refine x_at (ws' := [(h0, .inr (5, [.int (nI R), .int (nI C), .int (bI dio), .int (bI bk), .int (bI lt), .int sl, .int (nI V), .int ru, .int (bI sus), .int (bI sos), .int (nI T), .ref d1, .ref d2, .ref d3, .ref d4, .ref d5, .ref d6, .ref d7, .ref d8, .ref d9, .ref d10, .int (nI mk), .ref d11, .int sk, .int rf, .int tk, .int (nI fr), .int (nI fc), .ref d12, .ref d13])), (d1, .inl (cI, 64, .inl (xN pos))), (d2, .inl (cI, 64, .inl ph)), (d3, .inl (cI, 64, .inl bg)), (d4, .inl (cZ, 64, .inl (xB fs))), (d5, .inl (cZ, 64, .inl (xB gs))), (d6, .inl (cI, 8, .inl st)), (d7, .inl (cI, 8, .inl kk)), (d8, .inl (cI, 8, .inl ve)), (d9, .inl (cI, 8, .inl si)), (d10, .inl (cZ, 8, .inl (xB ca))), (d11, .inl (cI, 48, .inl lg)), (d12, .inl (cI, 64, .inl op)), (d13, .inl (cI, 64, .inl ob))]) (st' := [.int (nI (R * C)), .int (nI i)]) rfl rfl ?_
      refine xn_icmp_ge hE (by omega) (by omega) 34 (by decide) dX5_ghosts_9 (fun c9 => ?_) (fun c9 => ?_)
      · skip
        exfalso; omega
      · skip
        refine x_iload_n hE 1 rfl dX5_ghosts_12 ?_
        refine x_aload_n hE 0 rfl dX5_ghosts_13 ?_
        refine x_iload_n hE 2 rfl dX5_ghosts_14 ?_
        refine x_callV (n := 1) (st := [.int (nI u)]) hE (kX5_isGhost l D cI cZ h0 d1 d2 d3 d4 d5 d6 d7 d8 d9 d10 d11 d12 d13 R C dio bk lt sl V ru sus sos T pos ph bg fs gs st kk ve si ca mk lg sk rf tk fr fc op ob i (by omega) (by omega) (by omega) (by assumption)) gX5_ghosts_X5_isGhost rfl (by decide +kernel) ⟨by decide, by decide⟩ ⟨Nat.zero_le _, Nat.zero_le _⟩ rfl [0, 1, 2, 3, 4, 5, 6, 7, 8, 9, 10, 11, 12, 13] [] rfl (wr := []) rfl (by decide) (by decide) (by decide) 0 rfl rfl rfl rfl (Nat.le_of_ble_eq_true rfl) dX5_ghosts_15 (fun v9 w9 hT9 => ?_)
        obtain ⟨rfl, rfl⟩ := hT9
        refine x_at (ws' := [(h0, .inr (5, [.int (nI R), .int (nI C), .int (bI dio), .int (bI bk), .int (bI lt), .int sl, .int (nI V), .int ru, .int (bI sus), .int (bI sos), .int (nI T), .ref d1, .ref d2, .ref d3, .ref d4, .ref d5, .ref d6, .ref d7, .ref d8, .ref d9, .ref d10, .int (nI mk), .ref d11, .int sk, .int rf, .int tk, .int (nI fr), .int (nI fc), .ref d12, .ref d13])), (d1, .inl (cI, 64, .inl (xN pos))), (d2, .inl (cI, 64, .inl ph)), (d3, .inl (cI, 64, .inl bg)), (d4, .inl (cZ, 64, .inl (xB fs))), (d5, .inl (cZ, 64, .inl (xB gs))), (d6, .inl (cI, 8, .inl st)), (d7, .inl (cI, 8, .inl kk)), (d8, .inl (cI, 8, .inl ve)), (d9, .inl (cI, 8, .inl si)), (d10, .inl (cZ, 8, .inl (xB ca))), (d11, .inl (cI, 48, .inl lg)), (d12, .inl (cI, 64, .inl op)), (d13, .inl (cI, 64, .inl ob))]) (st' := [.int (bI (ghM fs gs pos i)), .int (nI u)]) rfl rfl ?_
        refine xb_if_eq hE 25 (by decide) dX5_ghosts_18 (fun c18 => ?_) (fun c18 => ?_)
        · skip
          refine x_iconst hE (nI 0) (by decide) dX5_ghosts_25 ?_
          refine x_iadd hE (nI (u + 0)) (nI_add _ _) dX5_ghosts_26 ?_
          refine x_istore_n hE [(1, .int (nI (u + 0))), (0, .ref h0), (2, .int (nI i))] (by decide) rfl dX5_ghosts_27 ?_
          refine x_iinc hE (nI (i + 1)) [(2, .int (nI (i + 1))), (1, .int (nI (u + 0))), (0, .ref h0)] 2 rfl (nI_add _ _) (by decide) rfl dX5_ghosts_28 ?_
          refine x_goto hE 4 (by decide) dX5_ghosts_31 ?_
          refine x_lv [(0, .ref h0), (1, .int (nI (u + 0))), (2, .int (nI (i + 1)))] [2, 1, 0] rfl ?_
          exact ih (i + 1) (u + 0) (by omega) (by simpa only [lfor, lany, lfind, if_pos c9, if_neg (bnt c18), reduceIte, Bool.false_eq_true, Bool.true_eq_false] using hT)
        · skip
          refine x_iconst hE (nI 1) (by decide) dX5_ghosts_21 ?_
          refine x_goto hE 26 (by decide) dX5_ghosts_22 ?_
          refine x_iadd hE (nI (u + 1)) (nI_add _ _) dX5_ghosts_26 ?_
          refine x_istore_n hE [(1, .int (nI (u + 1))), (0, .ref h0), (2, .int (nI i))] (by decide) rfl dX5_ghosts_27 ?_
          refine x_iinc hE (nI (i + 1)) [(2, .int (nI (i + 1))), (1, .int (nI (u + 1))), (0, .ref h0)] 2 rfl (nI_add _ _) (by decide) rfl dX5_ghosts_28 ?_
          refine x_goto hE 4 (by decide) dX5_ghosts_31 ?_
          refine x_lv [(0, .ref h0), (1, .int (nI (u + 1))), (2, .int (nI (i + 1)))] [2, 1, 0] rfl ?_
          exact ih (i + 1) (u + 1) (by omega) (by simpa only [lfor, lany, lfind, if_pos c9, if_pos c18, reduceIte, Bool.false_eq_true, Bool.true_eq_false] using hT)
  refine x_iconst hE (nI 0) (by decide) dX5_ghosts_0 ?_
  refine x_istore_n hE [(1, .int (nI 0)), (0, .ref h0)] (by decide) rfl dX5_ghosts_1 ?_
  refine x_iconst hE (nI 0) (by decide) dX5_ghosts_2 ?_
  refine x_istore_n hE [(2, .int (nI 0)), (1, .int (nI 0)), (0, .ref h0)] (by decide) rfl dX5_ghosts_3 ?_
  refine x_lv [(0, .ref h0), (1, .int (nI 0)), (2, .int (nI 0))] [2, 1, 0] rfl ?_
  exact lp4 (R * C) 0 0 (Nat.zero_add _) (rfl)
set_option maxHeartbeats 4000000 in
set_option maxRecDepth 100000 in
theorem kX5_pressed (l : Launch) (D : va_G) (cI cZ : ClassId) (h0 : Nat) (d1 : Nat) (d2 : Nat) (d3 : Nat) (d4 : Nat) (d5 : Nat) (d6 : Nat) (d7 : Nat) (d8 : Nat) (d9 : Nat) (d10 : Nat) (d11 : Nat) (d12 : Nat) (d13 : Nat) (R : Nat) (C : Nat) (dio : Bool) (bk : Bool) (lt : Bool) (sl : Int32) (V : Nat) (ru : Int32) (sus : Bool) (sos : Bool) (T : Nat) (pos : Nat → Nat) (ph : Nat → Int32) (bg : Nat → Int32) (fs : Nat → Bool) (gs : Nat → Bool) (st : Nat → Int32) (kk : Nat → Int32) (ve : Nat → Int32) (si : Nat → Int32) (ca : Nat → Bool) (mk : Nat) (lg : Nat → Int32) (sk : Int32) (rf : Int32) (tk : Int32) (fr : Nat) (fc : Nat) (op : Nat → Int32) (ob : Nat → Int32) (hR : 1 ≤ R ∧ R ≤ 8) (hC : 1 ≤ C ∧ C ≤ 8) (hpos : ∀ k, pos k ≤ 2) : xC l yX5_pressed wsX5_pressed 1 0 0 20 D cI cZ [.ref h0] [(h0, .inr (5, [.int (nI R), .int (nI C), .int (bI dio), .int (bI bk), .int (bI lt), .int sl, .int (nI V), .int ru, .int (bI sus), .int (bI sos), .int (nI T), .ref d1, .ref d2, .ref d3, .ref d4, .ref d5, .ref d6, .ref d7, .ref d8, .ref d9, .ref d10, .int (nI mk), .ref d11, .int sk, .int rf, .int tk, .int (nI fr), .int (nI fc), .ref d12, .ref d13])), (d1, .inl (cI, 64, .inl (xN pos))), (d2, .inl (cI, 64, .inl ph)), (d3, .inl (cI, 64, .inl bg)), (d4, .inl (cZ, 64, .inl (xB fs))), (d5, .inl (cZ, 64, .inl (xB gs))), (d6, .inl (cI, 8, .inl st)), (d7, .inl (cI, 8, .inl kk)), (d8, .inl (cI, 8, .inl ve)), (d9, .inl (cI, 8, .inl si)), (d10, .inl (cZ, 8, .inl (xB ca))), (d11, .inl (cI, 48, .inl lg)), (d12, .inl (cI, 64, .inl op)), (d13, .inl (cI, 64, .inl ob))] (fun v8 w8 => v8 = some (.int (nI (prM pos (R * C)))) ∧ w8 = [(h0, .inr (5, [.int (nI R), .int (nI C), .int (bI dio), .int (bI bk), .int (bI lt), .int sl, .int (nI V), .int ru, .int (bI sus), .int (bI sos), .int (nI T), .ref d1, .ref d2, .ref d3, .ref d4, .ref d5, .ref d6, .ref d7, .ref d8, .ref d9, .ref d10, .int (nI mk), .ref d11, .int sk, .int rf, .int tk, .int (nI fr), .int (nI fc), .ref d12, .ref d13])), (d1, .inl (cI, 64, .inl (xN pos))), (d2, .inl (cI, 64, .inl ph)), (d3, .inl (cI, 64, .inl bg)), (d4, .inl (cZ, 64, .inl (xB fs))), (d5, .inl (cZ, 64, .inl (xB gs))), (d6, .inl (cI, 8, .inl st)), (d7, .inl (cI, 8, .inl kk)), (d8, .inl (cI, 8, .inl ve)), (d9, .inl (cI, 8, .inl si)), (d10, .inl (cZ, 8, .inl (xB ca))), (d11, .inl (cI, 48, .inl lg)), (d12, .inl (cI, 64, .inl op)), (d13, .inl (cI, 64, .inl ob))]) := by
  refine xC.of (bytes := cX5_pressed) (maxL := 3) (ret := (some .int)) (own := RX5) (by decide +kernel) rfl (Nat.le_of_ble_eq_true rfl) rfl ?_
  intro p9 e9 s9 m9 args9 below9 meth9 cd9 A hE hr hin2 hA9
  have inX5 : ∀ w ∈ wsX50, w ∈ wsX5_pressed := fun w h => List.mem_cons_of_mem _ (List.mem_append_right _ h)
  have g16 : xF RX5 wsX5_pressed 16 5 11 := ⟨"KeyScannerModel", RX5, TX5, 30, inX5, rfl, by decide, List.mem_of_getElem? (i := 1) rfl, rfl⟩
  have hRC : R * C ≤ 64 := Nat.mul_le_mul hR.2 hC.2
  refine x_at (ws' := [(h0, .inr (5, [.int (nI R), .int (nI C), .int (bI dio), .int (bI bk), .int (bI lt), .int sl, .int (nI V), .int ru, .int (bI sus), .int (bI sos), .int (nI T), .ref d1, .ref d2, .ref d3, .ref d4, .ref d5, .ref d6, .ref d7, .ref d8, .ref d9, .ref d10, .int (nI mk), .ref d11, .int sk, .int rf, .int tk, .int (nI fr), .int (nI fc), .ref d12, .ref d13])), (d1, .inl (cI, 64, .inl (xN pos))), (d2, .inl (cI, 64, .inl ph)), (d3, .inl (cI, 64, .inl bg)), (d4, .inl (cZ, 64, .inl (xB fs))), (d5, .inl (cZ, 64, .inl (xB gs))), (d6, .inl (cI, 8, .inl st)), (d7, .inl (cI, 8, .inl kk)), (d8, .inl (cI, 8, .inl ve)), (d9, .inl (cI, 8, .inl si)), (d10, .inl (cZ, 8, .inl (xB ca))), (d11, .inl (cI, 48, .inl lg)), (d12, .inl (cI, 64, .inl op)), (d13, .inl (cI, 64, .inl ob))]) (st' := []) rfl rfl ?_
  refine x_lv [(0, .ref h0)] [0] rfl ?_
  have lp4 : ∀ (n : Nat) (i : Nat) (u : Nat) (hi : i + n = R * C) (hT : lfor (fun k a => a + (if 0 < pos k then 1 else 0)) i n u = prM pos (R * C)), X p9 l e9 { frames := 1, cells := 0, slots := 0, locals := 20 } s9 m9 args9 below9 meth9 cd9 0 0 (MQ below9 (xQ D (fun v8 w8 => v8 = some (.int (nI (prM pos (R * C)))) ∧ w8 = [(h0, .inr (5, [.int (nI R), .int (nI C), .int (bI dio), .int (bI bk), .int (bI lt), .int sl, .int (nI V), .int ru, .int (bI sus), .int (bI sos), .int (nI T), .ref d1, .ref d2, .ref d3, .ref d4, .ref d5, .ref d6, .ref d7, .ref d8, .ref d9, .ref d10, .int (nI mk), .ref d11, .int sk, .int rf, .int tk, .int (nI fr), .int (nI fc), .ref d12, .ref d13])), (d1, .inl (cI, 64, .inl (xN pos))), (d2, .inl (cI, 64, .inl ph)), (d3, .inl (cI, 64, .inl bg)), (d4, .inl (cZ, 64, .inl (xB fs))), (d5, .inl (cZ, 64, .inl (xB gs))), (d6, .inl (cI, 8, .inl st)), (d7, .inl (cI, 8, .inl kk)), (d8, .inl (cI, 8, .inl ve)), (d9, .inl (cI, 8, .inl si)), (d10, .inl (cZ, 8, .inl (xB ca))), (d11, .inl (cI, 48, .inl lg)), (d12, .inl (cI, 64, .inl op)), (d13, .inl (cI, 64, .inl ob))]) A) args9 s9 0 0 A) 3 D A [(h0, .inr (5, [.int (nI R), .int (nI C), .int (bI dio), .int (bI bk), .int (bI lt), .int sl, .int (nI V), .int ru, .int (bI sus), .int (bI sos), .int (nI T), .ref d1, .ref d2, .ref d3, .ref d4, .ref d5, .ref d6, .ref d7, .ref d8, .ref d9, .ref d10, .int (nI mk), .ref d11, .int sk, .int rf, .int tk, .int (nI fr), .int (nI fc), .ref d12, .ref d13])), (d1, .inl (cI, 64, .inl (xN pos))), (d2, .inl (cI, 64, .inl ph)), (d3, .inl (cI, 64, .inl bg)), (d4, .inl (cZ, 64, .inl (xB fs))), (d5, .inl (cZ, 64, .inl (xB gs))), (d6, .inl (cI, 8, .inl st)), (d7, .inl (cI, 8, .inl kk)), (d8, .inl (cI, 8, .inl ve)), (d9, .inl (cI, 8, .inl si)), (d10, .inl (cZ, 8, .inl (xB ca))), (d11, .inl (cI, 48, .inl lg)), (d12, .inl (cI, 64, .inl op)), (d13, .inl (cI, 64, .inl ob))] [(0, .ref h0), (1, .int (nI u)), (2, .int (nI i))] 4 [] := by
    intro n
    induction n with
    | zero =>
      intro i u hi hT
      refine x_iload_n hE 2 rfl dX5_pressed_4 ?_
      refine x_aload_n hE 0 rfl dX5_pressed_5 ?_
      refine x_callV (n := 0) (st := [.int (nI i)]) hE (kX5_keys l D cI cZ h0 d1 d2 d3 d4 d5 d6 d7 d8 d9 d10 d11 d12 d13 R C dio bk lt sl V ru sus sos T pos ph bg fs gs st kk ve si ca mk lg sk rf tk fr fc op ob ) gX5_pressed_X5_keys rfl (by decide +kernel) ⟨by decide, by decide⟩ ⟨Nat.zero_le _, Nat.zero_le _⟩ rfl [0, 1, 2, 3, 4, 5, 6, 7, 8, 9, 10, 11, 12, 13] [] rfl (wr := []) rfl (by decide) (by decide) (by decide) 0 rfl rfl rfl rfl (Nat.le_of_ble_eq_true rfl) dX5_pressed_6 (fun v9 w9 hT9 => ?_)
      obtain ⟨rfl, rfl⟩ := hT9
      refine x_at (ws' := [(h0, .inr (5, [.int (nI R), .int (nI C), .int (bI dio), .int (bI bk), .int (bI lt), .int sl, .int (nI V), .int ru, .int (bI sus), .int (bI sos), .int (nI T), .ref d1, .ref d2, .ref d3, .ref d4, .ref d5, .ref d6, .ref d7, .ref d8, .ref d9, .ref d10, .int (nI mk), .ref d11, .int sk, .int rf, .int tk, .int (nI fr), .int (nI fc), .ref d12, .ref d13])), (d1, .inl (cI, 64, .inl (xN pos))), (d2, .inl (cI, 64, .inl ph)), (d3, .inl (cI, 64, .inl bg)), (d4, .inl (cZ, 64, .inl (xB fs))), (d5, .inl (cZ, 64, .inl (xB gs))), (d6, .inl (cI, 8, .inl st)), (d7, .inl (cI, 8, .inl kk)), (d8, .inl (cI, 8, .inl ve)), (d9, .inl (cI, 8, .inl si)), (d10, .inl (cZ, 8, .inl (xB ca))), (d11, .inl (cI, 48, .inl lg)), (d12, .inl (cI, 64, .inl op)), (d13, .inl (cI, 64, .inl ob))]) (st' := [.int (nI (R * C)), .int (nI i)]) rfl rfl ?_
      refine xn_icmp_ge hE (by omega) (by omega) 35 (by decide) dX5_pressed_9 (fun c9 => ?_) (fun c9 => ?_)
      · skip
        refine x_iload_n hE 1 rfl dX5_pressed_35 ?_
        exact x_iret hE hr (⟨by rw [← show u = prM pos (R * C) from hT], rfl⟩) dX5_pressed_36
      · skip
        exfalso; omega
    | succ n ih =>
      intro i u hi hT
      refine x_iload_n hE 2 rfl dX5_pressed_4 ?_
      refine x_aload_n hE 0 rfl dX5_pressed_5 ?_
      refine x_callV (n := 0) (st := [.int (nI i)]) hE (kX5_keys l D cI cZ h0 d1 d2 d3 d4 d5 d6 d7 d8 d9 d10 d11 d12 d13 R C dio bk lt sl V ru sus sos T pos ph bg fs gs st kk ve si ca mk lg sk rf tk fr fc op ob ) gX5_pressed_X5_keys rfl (by decide +kernel) ⟨by decide, by decide⟩ ⟨Nat.zero_le _, Nat.zero_le _⟩ rfl [0, 1, 2, 3, 4, 5, 6, 7, 8, 9, 10, 11, 12, 13] [] rfl (wr := []) rfl (by decide) (by decide) (by decide) 0 rfl rfl rfl rfl (Nat.le_of_ble_eq_true rfl) dX5_pressed_6 (fun v9 w9 hT9 => ?_)
      obtain ⟨rfl, rfl⟩ := hT9
      refine x_at (ws' := [(h0, .inr (5, [.int (nI R), .int (nI C), .int (bI dio), .int (bI bk), .int (bI lt), .int sl, .int (nI V), .int ru, .int (bI sus), .int (bI sos), .int (nI T), .ref d1, .ref d2, .ref d3, .ref d4, .ref d5, .ref d6, .ref d7, .ref d8, .ref d9, .ref d10, .int (nI mk), .ref d11, .int sk, .int rf, .int tk, .int (nI fr), .int (nI fc), .ref d12, .ref d13])), (d1, .inl (cI, 64, .inl (xN pos))), (d2, .inl (cI, 64, .inl ph)), (d3, .inl (cI, 64, .inl bg)), (d4, .inl (cZ, 64, .inl (xB fs))), (d5, .inl (cZ, 64, .inl (xB gs))), (d6, .inl (cI, 8, .inl st)), (d7, .inl (cI, 8, .inl kk)), (d8, .inl (cI, 8, .inl ve)), (d9, .inl (cI, 8, .inl si)), (d10, .inl (cZ, 8, .inl (xB ca))), (d11, .inl (cI, 48, .inl lg)), (d12, .inl (cI, 64, .inl op)), (d13, .inl (cI, 64, .inl ob))]) (st' := [.int (nI (R * C)), .int (nI i)]) rfl rfl ?_
      refine xn_icmp_ge hE (by omega) (by omega) 35 (by decide) dX5_pressed_9 (fun c9 => ?_) (fun c9 => ?_)
      · skip
        exfalso; omega
      · skip
        refine x_iload_n hE 1 rfl dX5_pressed_12 ?_
        refine x_aload_n hE 0 rfl dX5_pressed_13 ?_
        refine x_get hE g16 0 rfl rfl dX5_pressed_14 ?_
        refine x_iload_n hE 2 rfl dX5_pressed_17 ?_
        refine x_iald hE i (nI (pos i)) (by omega) (by decide) rfl 1 rfl dX5_pressed_18 ?_
        have hp19 := hpos i
        refine xn_if_le hE (by omega) 26 (by decide) dX5_pressed_19 (fun c19 => ?_) (fun c19 => ?_)
        · skip
          refine x_iconst hE (nI 0) (by decide) dX5_pressed_26 ?_
          refine x_iadd hE (nI (u + 0)) (nI_add _ _) dX5_pressed_27 ?_
          refine x_istore_n hE [(1, .int (nI (u + 0))), (0, .ref h0), (2, .int (nI i))] (by decide) rfl dX5_pressed_28 ?_
          refine x_iinc hE (nI (i + 1)) [(2, .int (nI (i + 1))), (1, .int (nI (u + 0))), (0, .ref h0)] 2 rfl (nI_add _ _) (by decide) rfl dX5_pressed_29 ?_
          refine x_goto hE 4 (by decide) dX5_pressed_32 ?_
          refine x_lv [(0, .ref h0), (1, .int (nI (u + 0))), (2, .int (nI (i + 1)))] [2, 1, 0] rfl ?_
          exact ih (i + 1) (u + 0) (by omega) (by simpa only [lfor, lany, lfind, if_pos c9, if_neg c19, reduceIte, Bool.false_eq_true, Bool.true_eq_false] using hT)
        · skip
          refine x_iconst hE (nI 1) (by decide) dX5_pressed_22 ?_
          refine x_goto hE 27 (by decide) dX5_pressed_23 ?_
          refine x_iadd hE (nI (u + 1)) (nI_add _ _) dX5_pressed_27 ?_
          refine x_istore_n hE [(1, .int (nI (u + 1))), (0, .ref h0), (2, .int (nI i))] (by decide) rfl dX5_pressed_28 ?_
          refine x_iinc hE (nI (i + 1)) [(2, .int (nI (i + 1))), (1, .int (nI (u + 1))), (0, .ref h0)] 2 rfl (nI_add _ _) (by decide) rfl dX5_pressed_29 ?_
          refine x_goto hE 4 (by decide) dX5_pressed_32 ?_
          refine x_lv [(0, .ref h0), (1, .int (nI (u + 1))), (2, .int (nI (i + 1)))] [2, 1, 0] rfl ?_
          exact ih (i + 1) (u + 1) (by omega) (by simpa only [lfor, lany, lfind, if_pos c9, if_pos c19, reduceIte, Bool.false_eq_true, Bool.true_eq_false] using hT)
  refine x_iconst hE (nI 0) (by decide) dX5_pressed_0 ?_
  refine x_istore_n hE [(1, .int (nI 0)), (0, .ref h0)] (by decide) rfl dX5_pressed_1 ?_
  refine x_iconst hE (nI 0) (by decide) dX5_pressed_2 ?_
  refine x_istore_n hE [(2, .int (nI 0)), (1, .int (nI 0)), (0, .ref h0)] (by decide) rfl dX5_pressed_3 ?_
  refine x_lv [(0, .ref h0), (1, .int (nI 0)), (2, .int (nI 0))] [2, 1, 0] rfl ?_
  exact lp4 (R * C) 0 0 (Nat.zero_add _) (rfl)
set_option maxHeartbeats 4000000 in
set_option maxRecDepth 100000 in
theorem kX5_noKey (l : Launch) (D : va_G) (cI cZ : ClassId) (h0 : Nat) (d1 : Nat) (d2 : Nat) (d3 : Nat) (d4 : Nat) (d5 : Nat) (d6 : Nat) (d7 : Nat) (d8 : Nat) (d9 : Nat) (d10 : Nat) (d11 : Nat) (d12 : Nat) (d13 : Nat) (R : Nat) (C : Nat) (dio : Bool) (bk : Bool) (lt : Bool) (sl : Int32) (V : Nat) (ru : Int32) (sus : Bool) (sos : Bool) (T : Nat) (pos : Nat → Nat) (ph : Nat → Int32) (bg : Nat → Int32) (fs : Nat → Bool) (gs : Nat → Bool) (st : Nat → Int32) (kk : Nat → Int32) (ve : Nat → Int32) (si : Nat → Int32) (ca : Nat → Bool) (mk : Nat) (lg : Nat → Int32) (sk : Int32) (rf : Int32) (tk : Int32) (fr : Nat) (fc : Nat) (op : Nat → Int32) (ob : Nat → Int32) (k : Int32) (hR : 1 ≤ R ∧ R ≤ 8) (hC : 1 ≤ C ∧ C ≤ 8) : xC l yX5_noKey wsX5_noKey 1 0 0 22 D cI cZ [.ref h0, .int k] [(h0, .inr (5, [.int (nI R), .int (nI C), .int (bI dio), .int (bI bk), .int (bI lt), .int sl, .int (nI V), .int ru, .int (bI sus), .int (bI sos), .int (nI T), .ref d1, .ref d2, .ref d3, .ref d4, .ref d5, .ref d6, .ref d7, .ref d8, .ref d9, .ref d10, .int (nI mk), .ref d11, .int sk, .int rf, .int tk, .int (nI fr), .int (nI fc), .ref d12, .ref d13])), (d1, .inl (cI, 64, .inl (xN pos))), (d2, .inl (cI, 64, .inl ph)), (d3, .inl (cI, 64, .inl bg)), (d4, .inl (cZ, 64, .inl (xB fs))), (d5, .inl (cZ, 64, .inl (xB gs))), (d6, .inl (cI, 8, .inl st)), (d7, .inl (cI, 8, .inl kk)), (d8, .inl (cI, 8, .inl ve)), (d9, .inl (cI, 8, .inl si)), (d10, .inl (cZ, 8, .inl (xB ca))), (d11, .inl (cI, 48, .inl lg)), (d12, .inl (cI, 64, .inl op)), (d13, .inl (cI, 64, .inl ob))] (fun v8 w8 => v8 = some (.int (bI (nkB k (R * C)))) ∧ w8 = [(h0, .inr (5, [.int (nI R), .int (nI C), .int (bI dio), .int (bI bk), .int (bI lt), .int sl, .int (nI V), .int ru, .int (bI sus), .int (bI sos), .int (nI T), .ref d1, .ref d2, .ref d3, .ref d4, .ref d5, .ref d6, .ref d7, .ref d8, .ref d9, .ref d10, .int (nI mk), .ref d11, .int sk, .int rf, .int tk, .int (nI fr), .int (nI fc), .ref d12, .ref d13])), (d1, .inl (cI, 64, .inl (xN pos))), (d2, .inl (cI, 64, .inl ph)), (d3, .inl (cI, 64, .inl bg)), (d4, .inl (cZ, 64, .inl (xB fs))), (d5, .inl (cZ, 64, .inl (xB gs))), (d6, .inl (cI, 8, .inl st)), (d7, .inl (cI, 8, .inl kk)), (d8, .inl (cI, 8, .inl ve)), (d9, .inl (cI, 8, .inl si)), (d10, .inl (cZ, 8, .inl (xB ca))), (d11, .inl (cI, 48, .inl lg)), (d12, .inl (cI, 64, .inl op)), (d13, .inl (cI, 64, .inl ob))]) := by
  refine xC.of (bytes := cX5_noKey) (maxL := 2) (ret := (some .boolean)) (own := RX5) (by decide +kernel) rfl (Nat.le_of_ble_eq_true rfl) rfl ?_
  intro p9 e9 s9 m9 args9 below9 meth9 cd9 A hE hr hin2 hA9
  have hRC1 : 1 ≤ R * C := Nat.mul_le_mul hR.1 hC.1
  refine x_at (ws' := [(h0, .inr (5, [.int (nI R), .int (nI C), .int (bI dio), .int (bI bk), .int (bI lt), .int sl, .int (nI V), .int ru, .int (bI sus), .int (bI sos), .int (nI T), .ref d1, .ref d2, .ref d3, .ref d4, .ref d5, .ref d6, .ref d7, .ref d8, .ref d9, .ref d10, .int (nI mk), .ref d11, .int sk, .int rf, .int tk, .int (nI fr), .int (nI fc), .ref d12, .ref d13])), (d1, .inl (cI, 64, .inl (xN pos))), (d2, .inl (cI, 64, .inl ph)), (d3, .inl (cI, 64, .inl bg)), (d4, .inl (cZ, 64, .inl (xB fs))), (d5, .inl (cZ, 64, .inl (xB gs))), (d6, .inl (cI, 8, .inl st)), (d7, .inl (cI, 8, .inl kk)), (d8, .inl (cI, 8, .inl ve)), (d9, .inl (cI, 8, .inl si)), (d10, .inl (cZ, 8, .inl (xB ca))), (d11, .inl (cI, 48, .inl lg)), (d12, .inl (cI, 64, .inl op)), (d13, .inl (cI, 64, .inl ob))]) (st' := []) rfl rfl ?_
  refine x_lv [(0, .ref h0), (1, .int k)] [0, 1] rfl ?_
  refine x_iload_n hE 1 rfl dX5_noKey_0 ?_
  refine x_iconst hE (nI 0) (by decide) dX5_noKey_1 ?_
  refine x_aload_n hE 0 rfl dX5_noKey_2 ?_
  refine x_callV (n := 0) (st := [.int (nI 0), .int k]) hE (kX5_keys l D cI cZ h0 d1 d2 d3 d4 d5 d6 d7 d8 d9 d10 d11 d12 d13 R C dio bk lt sl V ru sus sos T pos ph bg fs gs st kk ve si ca mk lg sk rf tk fr fc op ob ) gX5_noKey_X5_keys rfl (by decide +kernel) ⟨by decide, by decide⟩ ⟨Nat.zero_le _, Nat.zero_le _⟩ rfl [0, 1, 2, 3, 4, 5, 6, 7, 8, 9, 10, 11, 12, 13] [] rfl (wr := []) rfl (by decide) (by decide) (by decide) 0 rfl rfl rfl rfl (Nat.le_of_ble_eq_true rfl) dX5_noKey_3 (fun v9 w9 hT9 => ?_)
  obtain ⟨rfl, rfl⟩ := hT9
  refine x_at (ws' := [(h0, .inr (5, [.int (nI R), .int (nI C), .int (bI dio), .int (bI bk), .int (bI lt), .int sl, .int (nI V), .int ru, .int (bI sus), .int (bI sos), .int (nI T), .ref d1, .ref d2, .ref d3, .ref d4, .ref d5, .ref d6, .ref d7, .ref d8, .ref d9, .ref d10, .int (nI mk), .ref d11, .int sk, .int rf, .int tk, .int (nI fr), .int (nI fc), .ref d12, .ref d13])), (d1, .inl (cI, 64, .inl (xN pos))), (d2, .inl (cI, 64, .inl ph)), (d3, .inl (cI, 64, .inl bg)), (d4, .inl (cZ, 64, .inl (xB fs))), (d5, .inl (cZ, 64, .inl (xB gs))), (d6, .inl (cI, 8, .inl st)), (d7, .inl (cI, 8, .inl kk)), (d8, .inl (cI, 8, .inl ve)), (d9, .inl (cI, 8, .inl si)), (d10, .inl (cZ, 8, .inl (xB ca))), (d11, .inl (cI, 48, .inl lg)), (d12, .inl (cI, 64, .inl op)), (d13, .inl (cI, 64, .inl ob))]) (st' := [.int (nI (R * C)), .int (nI 0), .int k]) rfl rfl ?_
  refine x_iconst hE (nI 1) (by decide) dX5_noKey_6 ?_
  refine x_isub hE (nI ((R * C) - 1)) (xI_sub (by omega)) dX5_noKey_7 ?_
  refine x_callS (n := 3) (st := []) hE (kX5_in l D cI cZ k (nI 0) (nI ((R * C) - 1)) ) gX5_noKey_X5_in rfl (by decide +kernel) ⟨by decide, by decide⟩ ⟨Nat.zero_le _, Nat.zero_le _⟩ rfl [] [0, 1, 2, 3, 4, 5, 6, 7, 8, 9, 10, 11, 12, 13] rfl (wr := [(h0, .inr (5, [.int (nI R), .int (nI C), .int (bI dio), .int (bI bk), .int (bI lt), .int sl, .int (nI V), .int ru, .int (bI sus), .int (bI sos), .int (nI T), .ref d1, .ref d2, .ref d3, .ref d4, .ref d5, .ref d6, .ref d7, .ref d8, .ref d9, .ref d10, .int (nI mk), .ref d11, .int sk, .int rf, .int tk, .int (nI fr), .int (nI fc), .ref d12, .ref d13])), (d1, .inl (cI, 64, .inl (xN pos))), (d2, .inl (cI, 64, .inl ph)), (d3, .inl (cI, 64, .inl bg)), (d4, .inl (cZ, 64, .inl (xB fs))), (d5, .inl (cZ, 64, .inl (xB gs))), (d6, .inl (cI, 8, .inl st)), (d7, .inl (cI, 8, .inl kk)), (d8, .inl (cI, 8, .inl ve)), (d9, .inl (cI, 8, .inl si)), (d10, .inl (cZ, 8, .inl (xB ca))), (d11, .inl (cI, 48, .inl lg)), (d12, .inl (cI, 64, .inl op)), (d13, .inl (cI, 64, .inl ob))]) rfl (by decide) (by decide) (by decide) rfl (Nat.le_of_ble_eq_true rfl) dX5_noKey_8 (fun v9 w9 hT9 => ?_)
  obtain ⟨rfl, rfl⟩ := hT9
  refine x_at (ws' := [(h0, .inr (5, [.int (nI R), .int (nI C), .int (bI dio), .int (bI bk), .int (bI lt), .int sl, .int (nI V), .int ru, .int (bI sus), .int (bI sos), .int (nI T), .ref d1, .ref d2, .ref d3, .ref d4, .ref d5, .ref d6, .ref d7, .ref d8, .ref d9, .ref d10, .int (nI mk), .ref d11, .int sk, .int rf, .int tk, .int (nI fr), .int (nI fc), .ref d12, .ref d13])), (d1, .inl (cI, 64, .inl (xN pos))), (d2, .inl (cI, 64, .inl ph)), (d3, .inl (cI, 64, .inl bg)), (d4, .inl (cZ, 64, .inl (xB fs))), (d5, .inl (cZ, 64, .inl (xB gs))), (d6, .inl (cI, 8, .inl st)), (d7, .inl (cI, 8, .inl kk)), (d8, .inl (cI, 8, .inl ve)), (d9, .inl (cI, 8, .inl si)), (d10, .inl (cZ, 8, .inl (xB ca))), (d11, .inl (cI, 48, .inl lg)), (d12, .inl (cI, 64, .inl op)), (d13, .inl (cI, 64, .inl ob))]) (st' := [.int (bI (wiB k (nI 0) (nI ((R * C) - 1))))]) rfl rfl ?_
  refine xb_if_ne hE 18 (by decide) dX5_noKey_11 (fun c11 => ?_) (fun c11 => ?_)
  · skip
    refine x_iconst hE (nI 0) (by decide) dX5_noKey_18 ?_
    refine x_eq (bI false) rfl ?_
    exact x_zret hE hr (⟨by simp only [nkB, if_pos c11, reduceIte, Bool.false_eq_true, Bool.true_eq_false], rfl⟩) dX5_noKey_19
  · skip
    refine x_iconst hE (nI 1) (by decide) dX5_noKey_14 ?_
    refine x_goto hE 19 (by decide) dX5_noKey_15 ?_
    refine x_eq (bI true) rfl ?_
    exact x_zret hE hr (⟨by simp only [nkB, if_neg (bnt c11), reduceIte, Bool.false_eq_true, Bool.true_eq_false], rfl⟩) dX5_noKey_19
