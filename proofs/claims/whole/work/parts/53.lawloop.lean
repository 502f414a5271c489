set_option maxHeartbeats 4000000 in
set_option maxRecDepth 100000 in
theorem law_sw {p9 : Program} {l : Launch} {e9 : Env} {s9 : State} {m9 : MethodId} {args9 : Array Value} {below9 : List Frame} {meth9 : Method} {cd9 : Code} {Q : State → Prop} {D : va_G} {cI cZ : ClassId} {A : Nat → Prop} {b L : Nat} {xs : Nat → Int32} {h0 b1 b2 m0 p1 f0 f1 f2 s0 s1 s2 w0 v1 v2 v3 v4 v5 j0 a1 a2 a3 g0 d1 d2 d3 d4 d5 d6 d7 d8 d9 d10 d11 d12 d13 : Nat} (hE : xE p9 s9 m9 args9 meth9 cd9 code RL wsL_law 4 D cI cZ A) (hS9 : va_X b L xs s9 s9.heap ∧ b < s9.heap.size ∧ ¬ A b ∧ L ≤ 1536) (i : Nat) (ph : Nat → Int32) (bg : Nat → Int32) (T : Nat) (sl : Int32) (bk : Bool) (lt : Bool) (sk : Int32) (rf : Int32) (pos : Nat → Nat) (cl : Nat → Nat) (jn : Nat → Nat) (dl : Nat → Nat) (dn : Nat → Nat) (R : Nat) (C : Nat) (dio : Bool) (st : Nat → Int32) (kk : Nat → Int32) (ve : Nat → Int32) (si : Nat → Int32) (ca : Nat → Bool) (V : Nat) (ru : Int32) (tk : Int32) (sus : Bool) (sos : Bool) (jt : Nat → Int32) (jk : Nat → Int32) (jy : Nat → Int32) (mk : Nat) (bg2 : Nat → Int32) (fs : Nat → Bool) (gs : Nat → Bool) (lg : Nat → Int32) (fr : Nat) (fc : Nat) (op : Nat → Int32) (ob : Nat → Int32) (hi : i + 3 ≤ L) (hI : LI i R C dio V sus sos T pos pos cl jn dl dn (ph, bg, st, kk, ve, si, ca, tk, jt, jk, jy, mk, sk, rf) (ph, bg2, st, kk, ve, si, ca, tk, lg, mk, sk, rf) fs gs) (hk9 : ∀ (i2 : Nat) (ph : Nat → Int32) (bg : Nat → Int32) (T : Nat) (sl : Int32) (bk : Bool) (lt : Bool) (sk : Int32) (rf : Int32) (pos : Nat → Nat) (cl : Nat → Nat) (jn : Nat → Nat) (dl : Nat → Nat) (dn : Nat → Nat) (R : Nat) (C : Nat) (dio : Bool) (st : Nat → Int32) (kk : Nat → Int32) (ve : Nat → Int32) (si : Nat → Int32) (ca : Nat → Bool) (V : Nat) (ru : Int32) (tk : Int32) (sus : Bool) (sos : Bool) (jt : Nat → Int32) (jk : Nat → Int32) (jy : Nat → Int32) (mk : Nat) (bg2 : Nat → Int32) (fs : Nat → Bool) (gs : Nat → Bool) (lg : Nat → Int32) (fr : Nat) (fc : Nat) (op : Nat → Int32) (ob : Nat → Int32) (pos2 : Nat → Nat) (ph2 : Nat → Int32) (st2 : Nat → Int32) (kk2 : Nat → Int32) (ve2 : Nat → Int32) (si2 : Nat → Int32) (ca2 : Nat → Bool) (mk2 : Nat) (sk2 : Int32) (rf2 : Int32) (tk2 : Int32), i2 = i + 3 → LI i2 R C dio V sus sos T pos pos2 cl jn dl dn (ph, bg, st, kk, ve, si, ca, tk, jt, jk, jy, mk, sk, rf) (ph2, bg2, st2, kk2, ve2, si2, ca2, tk2, lg, mk2, sk2, rf2) fs gs → X p9 l e9 room_1 s9 m9 args9 below9 meth9 cd9 35 914 Q 4 D A ((h0, .inr (4, [.ref m0, .ref j0, .ref w0, .ref b1, .ref b2, .int (nI T), .int sl, .int (bI bk), .int (bI lt), .int sk, .int rf])) :: (b1, .inl (cI, 64, .inl ph)) :: (b2, .inl (cI, 64, .inl bg)) :: (m0, .inr (1, [.ref p1, .ref f0, .ref s0, .int (nI R), .int (nI C), .int (bI dio)])) :: (p1, .inl (cI, 64, .inl (xN pos))) :: (f0, .inr (2, [.ref f1, .ref f2])) :: (f1, .inl (cI, 8, .inl (xN cl))) :: (f2, .inl (cI, 8, .inl (xN jn))) :: (s0, .inr (2, [.ref s1, .ref s2])) :: (s1, .inl (cI, 8, .inl (xN dl))) :: (s2, .inl (cI, 8, .inl (xN dn))) :: (w0, .inr (3, [.ref v1, .ref v2, .ref v3, .ref v4, .ref v5, .ref j0, .int (nI V), .int ru, .int tk, .int (bI sus), .int (bI sos)])) :: (v1, .inl (cI, 8, .inl st)) :: (v2, .inl (cI, 8, .inl kk)) :: (v3, .inl (cI, 8, .inl ve)) :: (v4, .inl (cI, 8, .inl si)) :: (v5, .inl (cZ, 8, .inl (xB ca))) :: (j0, .inr (0, [.ref a1, .ref a2, .ref a3, .int (nI mk)])) :: (a1, .inl (cI, 16, .inl jt)) :: (a2, .inl (cI, 16, .inl jk)) :: (a3, .inl (cI, 16, .inl jy)) :: (g0, .inr (5, [.int (nI R), .int (nI C), .int (bI dio), .int (bI bk), .int (bI lt), .int sl, .int (nI V), .int ru, .int (bI sus), .int (bI sos), .int (nI T), .ref d1, .ref d2, .ref d3, .ref d4, .ref d5, .ref d6, .ref d7, .ref d8, .ref d9, .ref d10, .int (nI mk2), .ref d11, .int sk2, .int rf2, .int tk2, .int (nI fr), .int (nI fc), .ref d12, .ref d13])) :: (d1, .inl (cI, 64, .inl (xN pos2))) :: (d2, .inl (cI, 64, .inl ph2)) :: (d3, .inl (cI, 64, .inl bg2)) :: (d4, .inl (cZ, 64, .inl (xB fs))) :: (d5, .inl (cZ, 64, .inl (xB gs))) :: (d6, .inl (cI, 8, .inl st2)) :: (d7, .inl (cI, 8, .inl kk2)) :: (d8, .inl (cI, 8, .inl ve2)) :: (d9, .inl (cI, 8, .inl si2)) :: (d10, .inl (cZ, 8, .inl (xB ca2))) :: (d11, .inl (cI, 48, .inl lg)) :: (d12, .inl (cI, 64, .inl op)) :: (d13, .inl (cI, 64, .inl ob)) :: []) [(0, .ref b), (1, .ref h0), (2, .ref g0), (3, .int (nI i2))] 18 []) : X p9 l e9 room_1 s9 m9 args9 below9 meth9 cd9 35 914 Q 4 D A ((h0, .inr (4, [.ref m0, .ref j0, .ref w0, .ref b1, .ref b2, .int (nI T), .int sl, .int (bI bk), .int (bI lt), .int sk, .int rf])) :: (b1, .inl (cI, 64, .inl ph)) :: (b2, .inl (cI, 64, .inl bg)) :: (m0, .inr (1, [.ref p1, .ref f0, .ref s0, .int (nI R), .int (nI C), .int (bI dio)])) :: (p1, .inl (cI, 64, .inl (xN pos))) :: (f0, .inr (2, [.ref f1, .ref f2])) :: (f1, .inl (cI, 8, .inl (xN cl))) :: (f2, .inl (cI, 8, .inl (xN jn))) :: (s0, .inr (2, [.ref s1, .ref s2])) :: (s1, .inl (cI, 8, .inl (xN dl))) :: (s2, .inl (cI, 8, .inl (xN dn))) :: (w0, .inr (3, [.ref v1, .ref v2, .ref v3, .ref v4, .ref v5, .ref j0, .int (nI V), .int ru, .int tk, .int (bI sus), .int (bI sos)])) :: (v1, .inl (cI, 8, .inl st)) :: (v2, .inl (cI, 8, .inl kk)) :: (v3, .inl (cI, 8, .inl ve)) :: (v4, .inl (cI, 8, .inl si)) :: (v5, .inl (cZ, 8, .inl (xB ca))) :: (j0, .inr (0, [.ref a1, .ref a2, .ref a3, .int (nI mk)])) :: (a1, .inl (cI, 16, .inl jt)) :: (a2, .inl (cI, 16, .inl jk)) :: (a3, .inl (cI, 16, .inl jy)) :: (g0, .inr (5, [.int (nI R), .int (nI C), .int (bI dio), .int (bI bk), .int (bI lt), .int sl, .int (nI V), .int ru, .int (bI sus), .int (bI sos), .int (nI T), .ref d1, .ref d2, .ref d3, .ref d4, .ref d5, .ref d6, .ref d7, .ref d8, .ref d9, .ref d10, .int (nI mk), .ref d11, .int sk, .int rf, .int tk, .int (nI fr), .int (nI fc), .ref d12, .ref d13])) :: (d1, .inl (cI, 64, .inl (xN pos))) :: (d2, .inl (cI, 64, .inl ph)) :: (d3, .inl (cI, 64, .inl bg2)) :: (d4, .inl (cZ, 64, .inl (xB fs))) :: (d5, .inl (cZ, 64, .inl (xB gs))) :: (d6, .inl (cI, 8, .inl st)) :: (d7, .inl (cI, 8, .inl kk)) :: (d8, .inl (cI, 8, .inl ve)) :: (d9, .inl (cI, 8, .inl si)) :: (d10, .inl (cZ, 8, .inl (xB ca))) :: (d11, .inl (cI, 48, .inl lg)) :: (d12, .inl (cI, 64, .inl op)) :: (d13, .inl (cI, 64, .inl ob)) :: []) [(0, .ref b), (1, .ref h0), (2, .ref g0), (3, .int (nI i))] 32 [.int (xs i &&& nI 31)] := by
  obtain ⟨hR, hC, hV, hpos, hpz, -, hN, -, -, -, hTi, hmi0⟩ := id hI
  have hmi : mk ≤ 320 * i := hmi0
  obtain ⟨hcl, hjn, hdl, hdn⟩ := hI.lts
  have hL9 := hS9.2.2.2
  have hRC : R * C ≤ 64 := Nat.mul_le_mul hR.2 hC.2
  have hRC1 : 1 ≤ R * C := Nat.mul_le_mul hR.1 hC.1
  rcases x_tsw (xs i &&& nI 31) 19 (by decide) with c32 | ⟨k, hk, e32⟩
  · refine x_tableOut hE 698 c32 (by decide) dL_law_32 ?_
    refine x_iinc hE (nI (i + 3)) [(3, .int (nI (i + 3))), (0, .ref b), (1, .ref h0), (2, .ref g0)] 3 rfl (nI_add _ _) (by decide) rfl dL_law_698 ?_
    refine x_goto hE 18 (by decide) dL_law_701 ?_
    refine x_lv [(0, .ref b), (1, .ref h0), (2, .ref g0), (3, .int (nI (i + 3)))] [1, 2, 3, 0] rfl ?_
    exact hk9 (i + 3) _ _ _ _ _ _ _ _ _ _ _ _ _ _ _ _ _ _ _ _ _ _ _ _ _ _ _ _ _ _ _ _ _ _ _ _ _ _ _ _ _ _ _ _ _ _ _ _ _ rfl hI.same
  · have hk32 : k = 0 ∨ k = 1 ∨ k = 2 ∨ k = 3 ∨ k = 4 ∨ k = 5 ∨ k = 6 ∨ k = 7 ∨ k = 8 ∨ k = 9 ∨ k = 10 ∨ k = 11 ∨ k = 12 ∨ k = 13 ∨ k = 14 ∨ k = 15 ∨ k = 16 ∨ k = 17 ∨ k = 18 ∨ k = 19 := by omega
    rcases hk32 with rfl | rfl | rfl | rfl | rfl | rfl | rfl | rfl | rfl | rfl | rfl | rfl | rfl | rfl | rfl | rfl | rfl | rfl | rfl | rfl
    · refine x_tableIn hE 128 (x_tsl e32 (by decide)) (x_tsh e32 (by decide) (by decide)) (by rw [x_tsn e32 (by decide)]; rfl) (by decide) dL_law_32 ?_
      rcases wi_or (xs (i + 1)) 1 8 (by decide) (by decide) with ⟨q, q1, q2, ha1⟩ | hw
      · rcases wi_or (xs (i + 2)) 1 8 (by decide) (by decide) with ⟨u, u1, u2, ha2⟩ | hw
        · exact lo_reset_ok hE hS9 i _ _ _ _ _ _ _ _ _ _ _ _ _ _ _ _ _ _ _ _ _ _ _ _ _ _ _ _ _ _ _ _ _ _ _ _ _ _ hi hI q u ha1 ha2 ⟨q1, q2⟩ ⟨u1, u2⟩ hk9
        · exact lo_reset_bad hE hS9 i _ _ _ _ _ _ _ _ _ _ _ _ _ _ _ _ _ _ _ _ _ _ _ _ _ _ _ _ _ _ _ _ _ _ _ _ _ _ hi hI (Or.inr hw) hk9
      · exact lo_reset_bad hE hS9 i _ _ _ _ _ _ _ _ _ _ _ _ _ _ _ _ _ _ _ _ _ _ _ _ _ _ _ _ _ _ _ _ _ _ _ _ _ _ hi hI (Or.inl hw) hk9
    · refine x_tableIn hE 161 (x_tsl e32 (by decide)) (x_tsh e32 (by decide) (by decide)) (by rw [x_tsn e32 (by decide)]; rfl) (by decide) dL_law_32 ?_
      by_cases ha : xs (i + 1) = nI 0
      · exact lo_setDiodes_false hE hS9 i _ _ _ _ _ _ _ _ _ _ _ _ _ _ _ _ _ _ _ _ _ _ _ _ _ _ _ _ _ _ _ _ _ _ _ _ _ _ hi hI ha hk9
      · exact lo_setDiodes_true hE hS9 i _ _ _ _ _ _ _ _ _ _ _ _ _ _ _ _ _ _ _ _ _ _ _ _ _ _ _ _ _ _ _ _ _ _ _ _ _ _ hi hI ha hk9
    · refine x_tableIn hE 200 (x_tsl e32 (by decide)) (x_tsh e32 (by decide) (by decide)) (by rw [x_tsn e32 (by decide)]; rfl) (by decide) dL_law_32 ?_
      by_cases ha : xs (i + 1) = nI 0
      · exact lo_setBlocking_false hE hS9 i _ _ _ _ _ _ _ _ _ _ _ _ _ _ _ _ _ _ _ _ _ _ _ _ _ _ _ _ _ _ _ _ _ _ _ _ _ _ hi hI ha hk9
      · exact lo_setBlocking_true hE hS9 i _ _ _ _ _ _ _ _ _ _ _ _ _ _ _ _ _ _ _ _ _ _ _ _ _ _ _ _ _ _ _ _ _ _ _ _ _ _ hi hI ha hk9
    · refine x_tableIn hE 239 (x_tsl e32 (by decide)) (x_tsh e32 (by decide) (by decide)) (by rw [x_tsn e32 (by decide)]; rfl) (by decide) dL_law_32 ?_
      by_cases ha : xs (i + 1) = nI 0
      · exact lo_setLateRelease_false hE hS9 i _ _ _ _ _ _ _ _ _ _ _ _ _ _ _ _ _ _ _ _ _ _ _ _ _ _ _ _ _ _ _ _ _ _ _ _ _ _ hi hI ha hk9
      · exact lo_setLateRelease_true hE hS9 i _ _ _ _ _ _ _ _ _ _ _ _ _ _ _ _ _ _ _ _ _ _ _ _ _ _ _ _ _ _ _ _ _ _ _ _ _ _ hi hI ha hk9
    · refine x_tableIn hE 278 (x_tsl e32 (by decide)) (x_tsh e32 (by decide) (by decide)) (by rw [x_tsn e32 (by decide)]; rfl) (by decide) dL_law_32 ?_
      cases hw : wiB (xs (i + 1)) (nI 1) (nI 64)
      · exact lo_setSlope_bad hE hS9 i _ _ _ _ _ _ _ _ _ _ _ _ _ _ _ _ _ _ _ _ _ _ _ _ _ _ _ _ _ _ _ _ _ _ _ _ _ _ hi hI hw hk9
      · exact lo_setSlope_ok hE hS9 i _ _ _ _ _ _ _ _ _ _ _ _ _ _ _ _ _ _ _ _ _ _ _ _ _ _ _ _ _ _ _ _ _ _ _ _ _ _ hi hI hw hk9
    · refine x_tableIn hE 301 (x_tsl e32 (by decide)) (x_tsh e32 (by decide) (by decide)) (by rw [x_tsn e32 (by decide)]; rfl) (by decide) dL_law_32 ?_
      rcases wi_or (xs (i + 1)) 1 8 (by decide) (by decide) with ⟨q, q1, q2, ha1⟩ | hw
      · cases hw : wiB (xs (i + 2)) (nI 0) (nI 2)
        · exact lo_setVoices_bad hE hS9 i _ _ _ _ _ _ _ _ _ _ _ _ _ _ _ _ _ _ _ _ _ _ _ _ _ _ _ _ _ _ _ _ _ _ _ _ _ _ hi hI (Or.inr hw) hk9
        · exact lo_setVoices_ok hE hS9 i _ _ _ _ _ _ _ _ _ _ _ _ _ _ _ _ _ _ _ _ _ _ _ _ _ _ _ _ _ _ _ _ _ _ _ _ _ _ hi hI q ha1 ⟨q1, q2⟩ hw hk9
      · exact lo_setVoices_bad hE hS9 i _ _ _ _ _ _ _ _ _ _ _ _ _ _ _ _ _ _ _ _ _ _ _ _ _ _ _ _ _ _ _ _ _ _ _ _ _ _ hi hI (Or.inl hw) hk9
    · refine x_tableIn hE 334 (x_tsl e32 (by decide)) (x_tsh e32 (by decide) (by decide)) (by rw [x_tsn e32 (by decide)]; rfl) (by decide) dL_law_32 ?_
      rcases has_or (xs (i + 1)) (R * C) (by omega) with ⟨k, k1, ha1⟩ | hh1
      · rcases wi_or (xs (i + 2)) 0 2 (by decide) (by decide) with ⟨q, q1, q2, ha2⟩ | hw
        · exact lo_setKey_ok hE hS9 i _ _ _ _ _ _ _ _ _ _ _ _ _ _ _ _ _ _ _ _ _ _ _ _ _ _ _ _ _ _ _ _ _ _ _ _ _ _ hi hI k q ha1 ha2 k1 q2 hk9
        · exact lo_setKey_bad hE hS9 i _ _ _ _ _ _ _ _ _ _ _ _ _ _ _ _ _ _ _ _ _ _ _ _ _ _ _ _ _ _ _ _ _ _ _ _ _ _ hi hI k ha1 k1 hw hk9
      · exact lo_setKey_nokey hE hS9 i _ _ _ _ _ _ _ _ _ _ _ _ _ _ _ _ _ _ _ _ _ _ _ _ _ _ _ _ _ _ _ _ _ _ _ _ _ _ hi hI hh1 hk9
    · refine x_tableIn hE 367 (x_tsl e32 (by decide)) (x_tsh e32 (by decide) (by decide)) (by rw [x_tsn e32 (by decide)]; rfl) (by decide) dL_law_32 ?_
      exact lo_liftAll hE hS9 i _ _ _ _ _ _ _ _ _ _ _ _ _ _ _ _ _ _ _ _ _ _ _ _ _ _ _ _ _ _ _ _ _ _ _ _ _ _ hi hI  hk9
    · refine x_tableIn hE 380 (x_tsl e32 (by decide)) (x_tsh e32 (by decide) (by decide)) (by rw [x_tsn e32 (by decide)]; rfl) (by decide) dL_law_32 ?_
      by_cases ha : xs (i + 1) = nI 0
      · exact lo_sustain_false hE hS9 i _ _ _ _ _ _ _ _ _ _ _ _ _ _ _ _ _ _ _ _ _ _ _ _ _ _ _ _ _ _ _ _ _ _ _ _ _ _ hi hI ha hk9
      · exact lo_sustain_true hE hS9 i _ _ _ _ _ _ _ _ _ _ _ _ _ _ _ _ _ _ _ _ _ _ _ _ _ _ _ _ _ _ _ _ _ _ _ _ _ _ hi hI ha hk9
    · refine x_tableIn hE 419 (x_tsl e32 (by decide)) (x_tsh e32 (by decide) (by decide)) (by rw [x_tsn e32 (by decide)]; rfl) (by decide) dL_law_32 ?_
      by_cases ha : xs (i + 1) = nI 0
      · exact lo_sostenuto_false hE hS9 i _ _ _ _ _ _ _ _ _ _ _ _ _ _ _ _ _ _ _ _ _ _ _ _ _ _ _ _ _ _ _ _ _ _ _ _ _ _ hi hI ha hk9
      · exact lo_sostenuto_true hE hS9 i _ _ _ _ _ _ _ _ _ _ _ _ _ _ _ _ _ _ _ _ _ _ _ _ _ _ _ _ _ _ _ _ _ _ _ _ _ _ hi hI ha hk9
    · refine x_tableIn hE 458 (x_tsl e32 (by decide)) (x_tsh e32 (by decide) (by decide)) (by rw [x_tsn e32 (by decide)]; rfl) (by decide) dL_law_32 ?_
      rcases wi_or (xs (i + 1)) 1 1000 (by decide) (by decide) with ⟨t, t1, t2, ha1⟩ | hw
      · exact lo_tick_ok hE hS9 i _ _ _ _ _ _ _ _ _ _ _ _ _ _ _ _ _ _ _ _ _ _ _ _ _ _ _ _ _ _ _ _ _ _ _ _ _ _ hi hI t ha1 ⟨t1, t2⟩ hk9
      · exact lo_tick_bad hE hS9 i _ _ _ _ _ _ _ _ _ _ _ _ _ _ _ _ _ _ _ _ _ _ _ _ _ _ _ _ _ _ _ _ _ _ _ _ _ _ hi hI hw hk9
    · refine x_tableIn hE 481 (x_tsl e32 (by decide)) (x_tsh e32 (by decide) (by decide)) (by rw [x_tsn e32 (by decide)]; rfl) (by decide) dL_law_32 ?_
      rcases has_or (xs (i + 1)) (R * C) (by omega) with ⟨k, k1, ha1⟩ | hh1
      · exact lo_key_ok hE hS9 i _ _ _ _ _ _ _ _ _ _ _ _ _ _ _ _ _ _ _ _ _ _ _ _ _ _ _ _ _ _ _ _ _ _ _ _ _ _ hi hI k ha1 k1 hk9
      · exact lo_key_bad hE hS9 i _ _ _ _ _ _ _ _ _ _ _ _ _ _ _ _ _ _ _ _ _ _ _ _ _ _ _ _ _ _ _ _ _ _ _ _ _ _ hi hI hh1 hk9
    · refine x_tableIn hE 514 (x_tsl e32 (by decide)) (x_tsh e32 (by decide) (by decide)) (by rw [x_tsn e32 (by decide)]; rfl) (by decide) dL_law_32 ?_
      rcases has_or (xs (i + 1)) (V) (by omega) with ⟨k, k1, ha1⟩ | hh1
      · exact lo_voice_ok hE hS9 i _ _ _ _ _ _ _ _ _ _ _ _ _ _ _ _ _ _ _ _ _ _ _ _ _ _ _ _ _ _ _ _ _ _ _ _ _ _ hi hI k ha1 k1 hk9
      · exact lo_voice_bad hE hS9 i _ _ _ _ _ _ _ _ _ _ _ _ _ _ _ _ _ _ _ _ _ _ _ _ _ _ _ _ _ _ _ _ _ _ _ _ _ _ hi hI hh1 hk9
    · refine x_tableIn hE 547 (x_tsl e32 (by decide)) (x_tsh e32 (by decide) (by decide)) (by rw [x_tsn e32 (by decide)]; rfl) (by decide) dL_law_32 ?_
      exact lo_count hE hS9 i _ _ _ _ _ _ _ _ _ _ _ _ _ _ _ _ _ _ _ _ _ _ _ _ _ _ _ _ _ _ _ _ _ _ _ _ _ _ hi hI  hk9
    · refine x_tableIn hE 570 (x_tsl e32 (by decide)) (x_tsh e32 (by decide) (by decide)) (by rw [x_tsn e32 (by decide)]; rfl) (by decide) dL_law_32 ?_
      by_cases he0 : xs (i + 1) < nI 0
      · exact lo_log_bad hE hS9 i _ _ _ _ _ _ _ _ _ _ _ _ _ _ _ _ _ _ _ _ _ _ _ _ _ _ _ _ _ _ _ _ _ _ _ _ _ _ hi hI (Or.inl he0) hk9
      · cases hw : wiB (xs (i + 2)) (nI 0) (nI 2)
        · exact lo_log_bad hE hS9 i _ _ _ _ _ _ _ _ _ _ _ _ _ _ _ _ _ _ _ _ _ _ _ _ _ _ _ _ _ _ _ _ _ _ _ _ _ _ hi hI (Or.inr hw) hk9
        · by_cases he : xs (i + 1) < nI (min mk 16)
          · obtain ⟨en, en1, ha1⟩ := has_nat (k := xs (i + 1)) (n := min mk 16) (by omega) (by unfold hasN; rw [if_neg he0, if_pos he])
            obtain ⟨j, -, j2, ha2⟩ := wi_nat (by decide) (by decide) hw
            exact lo_log_ok hE hS9 i _ _ _ _ _ _ _ _ _ _ _ _ _ _ _ _ _ _ _ _ _ _ _ _ _ _ _ _ _ _ _ _ _ _ _ _ _ _ hi hI en j ha1 ha2 en1 j2 hk9
          · exact lo_log_none hE hS9 i _ _ _ _ _ _ _ _ _ _ _ _ _ _ _ _ _ _ _ _ _ _ _ _ _ _ _ _ _ _ _ _ _ _ _ _ _ _ hi hI he0 he hw hk9
    · refine x_tableIn hE 603 (x_tsl e32 (by decide)) (x_tsh e32 (by decide) (by decide)) (by rw [x_tsn e32 (by decide)]; rfl) (by decide) dL_law_32 ?_
      cases hw : wiB (xs (i + 1)) (nI 0) (nI 1000)
      · exact lo_velocity_bad hE hS9 i _ _ _ _ _ _ _ _ _ _ _ _ _ _ _ _ _ _ _ _ _ _ _ _ _ _ _ _ _ _ _ _ _ _ _ _ _ _ hi hI hw hk9
      · exact lo_velocity_ok hE hS9 i _ _ _ _ _ _ _ _ _ _ _ _ _ _ _ _ _ _ _ _ _ _ _ _ _ _ _ _ _ _ _ _ _ _ _ _ _ _ hi hI hw hk9
    · refine x_tableIn hE 626 (x_tsl e32 (by decide)) (x_tsh e32 (by decide) (by decide)) (by rw [x_tsn e32 (by decide)]; rfl) (by decide) dL_law_32 ?_
      exact lo_nextTaken hE hS9 i _ _ _ _ _ _ _ _ _ _ _ _ _ _ _ _ _ _ _ _ _ _ _ _ _ _ _ _ _ _ _ _ _ _ _ _ _ _ hi hI  hk9
    · refine x_tableIn hE 639 (x_tsl e32 (by decide)) (x_tsh e32 (by decide) (by decide)) (by rw [x_tsn e32 (by decide)]; rfl) (by decide) dL_law_32 ?_
      rcases has_or (xs (i + 1)) (R) (by omega) with ⟨k, k1, ha1⟩ | hh1
      · exact lo_connected_ok hE hS9 i _ _ _ _ _ _ _ _ _ _ _ _ _ _ _ _ _ _ _ _ _ _ _ _ _ _ _ _ _ _ _ _ _ _ _ _ _ _ hi hI k ha1 k1 hk9
      · exact lo_connected_bad hE hS9 i _ _ _ _ _ _ _ _ _ _ _ _ _ _ _ _ _ _ _ _ _ _ _ _ _ _ _ _ _ _ _ _ _ _ _ _ _ _ hi hI hh1 hk9
    · refine x_tableIn hE 662 (x_tsl e32 (by decide)) (x_tsh e32 (by decide) (by decide)) (by rw [x_tsn e32 (by decide)]; rfl) (by decide) dL_law_32 ?_
      exact lo_worstKey hE hS9 i _ _ _ _ _ _ _ _ _ _ _ _ _ _ _ _ _ _ _ _ _ _ _ _ _ _ _ _ _ _ _ _ _ _ _ _ _ _ hi hI  hk9
    · refine x_tableIn hE 675 (x_tsl e32 (by decide)) (x_tsh e32 (by decide) (by decide)) (by rw [x_tsn e32 (by decide)]; rfl) (by decide) dL_law_32 ?_
      rcases wi_or (xs (i + 1)) 1 1000 (by decide) (by decide) with ⟨t, t1, t2, ha1⟩ | hw
      · exact lo_restAfter_ok hE hS9 i _ _ _ _ _ _ _ _ _ _ _ _ _ _ _ _ _ _ _ _ _ _ _ _ _ _ _ _ _ _ _ _ _ _ _ _ _ _ hi hI t ha1 ⟨t1, t2⟩ hk9
      · exact lo_restAfter_bad hE hS9 i _ _ _ _ _ _ _ _ _ _ _ _ _ _ _ _ _ _ _ _ _ _ _ _ _ _ _ _ _ _ _ _ _ _ _ _ _ _ hi hI hw hk9
theorem law_cmp {L i : Nat} (hL : L ≤ 1536) (hi : i < 2000) : nI L - nI 3 < nI i ∨ i + 3 ≤ L := by
  rcases Nat.lt_or_ge L 3 with h | h
  · refine Or.inl ?_
    rw [Int32.lt_iff_toInt_lt, nI_toInt (by omega)]
    have : L = 0 ∨ L = 1 ∨ L = 2 := by omega
    rcases this with rfl | rfl | rfl
    · rw [show (nI 0 - nI 3).toInt = -3 from by decide]; omega
    · rw [show (nI 1 - nI 3).toInt = -2 from by decide]; omega
    · rw [show (nI 2 - nI 3).toInt = -1 from by decide]; omega
  · rw [xI_sub h]
    rcases Nat.lt_or_ge (L - 3) i with q | q
    · exact Or.inl ((xI_lt (by omega) (by omega)).mpr q)
    · exact Or.inr (by omega)
set_option maxHeartbeats 4000000 in
set_option maxRecDepth 100000 in
theorem law_loop {p9 : Program} {l : Launch} {e9 : Env} {s9 : State} {m9 : MethodId} {below9 : List Frame} {meth9 : Method} {cd9 : Code} {D : va_G} {cI cZ : ClassId} {b L : Nat} {xs : Nat → Int32} {h0 b1 b2 m0 p1 f0 f1 f2 s0 s1 s2 w0 v1 v2 v3 v4 v5 j0 a1 a2 a3 g0 d1 d2 d3 d4 d5 d6 d7 d8 d9 d10 d11 d12 d13 : Nat} (hE : xE p9 s9 m9 #[Value.ref b] meth9 cd9 code RL wsL_law 4 D cI cZ (fun q : Nat => s9.heap.size ≤ q)) (hS9 : va_X b L xs s9 s9.heap ∧ b < s9.heap.size ∧ ¬ (fun q : Nat => s9.heap.size ≤ q) b ∧ L ≤ 1536) (hr : meth9.sig.returnType = ret) : ∀ (n i : Nat) (ph : Nat → Int32) (bg : Nat → Int32) (T : Nat) (sl : Int32) (bk : Bool) (lt : Bool) (sk : Int32) (rf : Int32) (pos : Nat → Nat) (cl : Nat → Nat) (jn : Nat → Nat) (dl : Nat → Nat) (dn : Nat → Nat) (R : Nat) (C : Nat) (dio : Bool) (st : Nat → Int32) (kk : Nat → Int32) (ve : Nat → Int32) (si : Nat → Int32) (ca : Nat → Bool) (V : Nat) (ru : Int32) (tk : Int32) (sus : Bool) (sos : Bool) (jt : Nat → Int32) (jk : Nat → Int32) (jy : Nat → Int32) (mk : Nat) (bg2 : Nat → Int32) (fs : Nat → Bool) (gs : Nat → Bool) (lg : Nat → Int32) (fr : Nat) (fc : Nat) (op : Nat → Int32) (ob : Nat → Int32) (pos2 : Nat → Nat) (ph2 : Nat → Int32) (st2 : Nat → Int32) (kk2 : Nat → Int32) (ve2 : Nat → Int32) (si2 : Nat → Int32) (ca2 : Nat → Bool) (mk2 : Nat) (sk2 : Int32) (rf2 : Int32) (tk2 : Int32), i ≤ L + 3 → L + 1 ≤ i + n → LI i R C dio V sus sos T pos pos2 cl jn dl dn (ph, bg, st, kk, ve, si, ca, tk, jt, jk, jy, mk, sk, rf) (ph2, bg2, st2, kk2, ve2, si2, ca2, tk2, lg, mk2, sk2, rf2) fs gs → X p9 l e9 room_1 s9 m9 #[Value.ref b] below9 meth9 cd9 35 914 (lw_Z below9 #[Value.ref b] s9) 4 D (fun q : Nat => s9.heap.size ≤ q) ((h0, .inr (4, [.ref m0, .ref j0, .ref w0, .ref b1, .ref b2, .int (nI T), .int sl, .int (bI bk), .int (bI lt), .int sk, .int rf])) :: (b1, .inl (cI, 64, .inl ph)) :: (b2, .inl (cI, 64, .inl bg)) :: (m0, .inr (1, [.ref p1, .ref f0, .ref s0, .int (nI R), .int (nI C), .int (bI dio)])) :: (p1, .inl (cI, 64, .inl (xN pos))) :: (f0, .inr (2, [.ref f1, .ref f2])) :: (f1, .inl (cI, 8, .inl (xN cl))) :: (f2, .inl (cI, 8, .inl (xN jn))) :: (s0, .inr (2, [.ref s1, .ref s2])) :: (s1, .inl (cI, 8, .inl (xN dl))) :: (s2, .inl (cI, 8, .inl (xN dn))) :: (w0, .inr (3, [.ref v1, .ref v2, .ref v3, .ref v4, .ref v5, .ref j0, .int (nI V), .int ru, .int tk, .int (bI sus), .int (bI sos)])) :: (v1, .inl (cI, 8, .inl st)) :: (v2, .inl (cI, 8, .inl kk)) :: (v3, .inl (cI, 8, .inl ve)) :: (v4, .inl (cI, 8, .inl si)) :: (v5, .inl (cZ, 8, .inl (xB ca))) :: (j0, .inr (0, [.ref a1, .ref a2, .ref a3, .int (nI mk)])) :: (a1, .inl (cI, 16, .inl jt)) :: (a2, .inl (cI, 16, .inl jk)) :: (a3, .inl (cI, 16, .inl jy)) :: (g0, .inr (5, [.int (nI R), .int (nI C), .int (bI dio), .int (bI bk), .int (bI lt), .int sl, .int (nI V), .int ru, .int (bI sus), .int (bI sos), .int (nI T), .ref d1, .ref d2, .ref d3, .ref d4, .ref d5, .ref d6, .ref d7, .ref d8, .ref d9, .ref d10, .int (nI mk2), .ref d11, .int sk2, .int rf2, .int tk2, .int (nI fr), .int (nI fc), .ref d12, .ref d13])) :: (d1, .inl (cI, 64, .inl (xN pos2))) :: (d2, .inl (cI, 64, .inl ph2)) :: (d3, .inl (cI, 64, .inl bg2)) :: (d4, .inl (cZ, 64, .inl (xB fs))) :: (d5, .inl (cZ, 64, .inl (xB gs))) :: (d6, .inl (cI, 8, .inl st2)) :: (d7, .inl (cI, 8, .inl kk2)) :: (d8, .inl (cI, 8, .inl ve2)) :: (d9, .inl (cI, 8, .inl si2)) :: (d10, .inl (cZ, 8, .inl (xB ca2))) :: (d11, .inl (cI, 48, .inl lg)) :: (d12, .inl (cI, 64, .inl op)) :: (d13, .inl (cI, 64, .inl ob)) :: []) [(0, .ref b), (1, .ref h0), (2, .ref g0), (3, .int (nI i))] 18 [] := by
  have hL9 := hS9.2.2.2
  have fin : ∀ (ws : va_W) (lv : List (Nat × Value)), X p9 l e9 room_1 s9 m9 #[Value.ref b] below9 meth9 cd9 35 914 (lw_Z below9 #[Value.ref b] s9) 4 D (fun q : Nat => s9.heap.size ≤ q) ws lv 704 [] := by
    intro ws lv
    refine x_iconst hE 1 (by decide) dL_law_704 ?_
    exact fun H locs ls hP hD hS hl => va_forget (fun q hq => hS.2.2 q hq) (lw_ret hE.1 hE.2.1 hr hE.2.2.2.2.2.2.2.2 dL_law_705)
  intro n
  induction n with
  | zero =>
    intro i ph bg T sl bk lt sk rf pos cl jn dl dn R C dio st kk ve si ca V ru tk sus sos jt jk jy mk bg2 fs gs lg fr fc op ob pos2 ph2 st2 kk2 ve2 si2 ca2 mk2 sk2 rf2 tk2 hil hin hI
    refine x_iload_n hE 3 rfl dL_law_18 ?_
    refine x_aload_n hE 0 rfl dL_law_19 ?_
    refine x_slen hE hS9 dL_law_20 ?_
    refine x_iconst hE (nI 3) (by decide) dL_law_21 ?_
    refine x_isub hE (nI L - nI 3) rfl dL_law_22 ?_
    refine x_icmp_gt hE 704 (by decide) dL_law_23 (fun c23 => ?_) (fun c23 => ?_)
    · exact fin _ _
    · have hi : i + 3 ≤ L := (law_cmp hL9 (by omega)).resolve_left c23
      exfalso; omega
  | succ n ih =>
    intro i ph bg T sl bk lt sk rf pos cl jn dl dn R C dio st kk ve si ca V ru tk sus sos jt jk jy mk bg2 fs gs lg fr fc op ob pos2 ph2 st2 kk2 ve2 si2 ca2 mk2 sk2 rf2 tk2 hil hin hI
    refine x_iload_n hE 3 rfl dL_law_18 ?_
    refine x_aload_n hE 0 rfl dL_law_19 ?_
    refine x_slen hE hS9 dL_law_20 ?_
    refine x_iconst hE (nI 3) (by decide) dL_law_21 ?_
    refine x_isub hE (nI L - nI 3) rfl dL_law_22 ?_
    refine x_icmp_gt hE 704 (by decide) dL_law_23 (fun c23 => ?_) (fun c23 => ?_)
    · exact fin _ _
    · have hi : i + 3 ≤ L := (law_cmp hL9 (by omega)).resolve_left c23
      refine x_aload_n hE 0 rfl dL_law_26 ?_
      refine x_iload_n hE 3 rfl dL_law_27 ?_
      refine x_sld hE hS9 i (xs i) (by omega) rfl dL_law_28 ?_
      refine x_bipush hE (nI 31) (by decide) dL_law_29 ?_
      refine x_iand hE (xs i &&& nI 31) rfl dL_law_31 ?_
      obtain ⟨-, -, -, -, -, hp2, -, hX, -⟩ := id hI
      obtain ⟨y1, y2, y3, y4, y5, y6, y7, y8, y9, y10, -⟩ := id hX
      clear hX
      subst hp2
      subst y1
      subst y2
      subst y3
      subst y4
      subst y5
      subst y6
      subst y7
      subst y8
      subst y9
      subst y10
      exact law_sw hE hS9 i _ _ _ _ _ _ _ _ _ _ _ _ _ _ _ _ _ _ _ _ _ _ _ _ _ _ _ _ _ _ _ _ _ _ _ _ _ _ hi hI (fun i2 ph bg T sl bk lt sk rf pos cl jn dl dn R C dio st kk ve si ca V ru tk sus sos jt jk jy mk bg2 fs gs lg fr fc op ob pos2 ph2 st2 kk2 ve2 si2 ca2 mk2 sk2 rf2 tk2 e2 hI2 => ih i2 ph bg T sl bk lt sk rf pos cl jn dl dn R C dio st kk ve si ca V ru tk sus sos jt jk jy mk bg2 fs gs lg fr fc op ob pos2 ph2 st2 kk2 ve2 si2 ca2 mk2 sk2 rf2 tk2 (by omega) (by omega) hI2)
