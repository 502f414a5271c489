set_option maxHeartbeats 4000000 in
set_option maxRecDepth 100000 in
theorem kX5_key_ok (l : Launch) (D : va_G) (cI cZ : ClassId) (h0 : Nat) (d1 : Nat) (d2 : Nat) (d3 : Nat) (d4 : Nat) (d5 : Nat) (d6 : Nat) (d7 : Nat) (d8 : Nat) (d9 : Nat) (d10 : Nat) (d11 : Nat) (d12 : Nat) (d13 : Nat) (R : Nat) (C : Nat) (dio : Bool) (bk : Bool) (lt : Bool) (sl : Int32) (V : Nat) (ru : Int32) (sus : Bool) (sos : Bool) (T : Nat) (pos : Nat → Nat) (ph : Nat → Int32) (bg : Nat → Int32) (fs : Nat → Bool) (gs : Nat → Bool) (st : Nat → Int32) (kk : Nat → Int32) (ve : Nat → Int32) (si : Nat → Int32) (ca : Nat → Bool) (mk : Nat) (lg : Nat → Int32) (sk : Int32) (rf : Int32) (tk : Int32) (fr : Nat) (fc : Nat) (op : Nat → Int32) (ob : Nat → Int32) (k : Nat) (w : Int32) (hR : 1 ≤ R ∧ R ≤ 8) (hC : 1 ≤ C ∧ C ≤ 8) (hV : 1 ≤ V ∧ V ≤ 8) (hpos : ∀ k, pos k ≤ 2) (hk : k < R * C) : xC l yX5_key wsX5_key 2 0 0 45 D cI cZ [.ref h0, .int (nI k), .int w] [(h0, .inr (5, [.int (nI R), .int (nI C), .int (bI dio), .int (bI bk), .int (bI lt), .int sl, .int (nI V), .int ru, .int (bI sus), .int (bI sos), .int (nI T), .ref d1, .ref d2, .ref d3, .ref d4, .ref d5, .ref d6, .ref d7, .ref d8, .ref d9, .ref d10, .int (nI mk), .ref d11, .int sk, .int rf, .int tk, .int (nI fr), .int (nI fc), .ref d12, .ref d13])), (d1, .inl (cI, 64, .inl (xN pos))), (d2, .inl (cI, 64, .inl ph)), (d3, .inl (cI, 64, .inl bg)), (d4, .inl (cZ, 64, .inl (xB fs))), (d5, .inl (cZ, 64, .inl (xB gs))), (d6, .inl (cI, 8, .inl st)), (d7, .inl (cI, 8, .inl kk)), (d8, .inl (cI, 8, .inl ve)), (d9, .inl (cI, 8, .inl si)), (d10, .inl (cZ, 8, .inl (xB ca))), (d11, .inl (cI, 48, .inl lg)), (d12, .inl (cI, 64, .inl op)), (d13, .inl (cI, 64, .inl ob))] (fun v8 w8 => v8 = some (.int (selN w 7 (sel8 (nI (pos k)) (ph k) (if ph k = nI 0 then nI 0 else bg k) (rV (findN (wkP st kk (nI k)) 0 V) V) (nI (b2n (fs k))) (nI (b2n (gs k))) (nI (b2n (ghM fs gs pos k))) (nI (b2n (dmM fs R C k)))))) ∧ w8 = [(h0, .inr (5, [.int (nI R), .int (nI C), .int (bI dio), .int (bI bk), .int (bI lt), .int sl, .int (nI V), .int ru, .int (bI sus), .int (bI sos), .int (nI T), .ref d1, .ref d2, .ref d3, .ref d4, .ref d5, .ref d6, .ref d7, .ref d8, .ref d9, .ref d10, .int (nI mk), .ref d11, .int sk, .int rf, .int tk, .int (nI fr), .int (nI fc), .ref d12, .ref d13])), (d1, .inl (cI, 64, .inl (xN pos))), (d2, .inl (cI, 64, .inl ph)), (d3, .inl (cI, 64, .inl bg)), (d4, .inl (cZ, 64, .inl (xB fs))), (d5, .inl (cZ, 64, .inl (xB gs))), (d6, .inl (cI, 8, .inl st)), (d7, .inl (cI, 8, .inl kk)), (d8, .inl (cI, 8, .inl ve)), (d9, .inl (cI, 8, .inl si)), (d10, .inl (cZ, 8, .inl (xB ca))), (d11, .inl (cI, 48, .inl lg)), (d12, .inl (cI, 64, .inl op)), (d13, .inl (cI, 64, .inl ob))]) := by
  refine xC.of (bytes := cX5_key) (maxL := 3) (ret := (some .int)) (own := RX5) (by decide +kernel) rfl (Nat.le_of_ble_eq_true rfl) rfl ?_
  intro p9 e9 s9 m9 args9 below9 meth9 cd9 A hE hr hin2 hA9
  have inX5 : ∀ w ∈ wsX50, w ∈ wsX5_key := fun w h => List.mem_cons_of_mem _ (List.mem_append_right _ h)
  have g16 : xF RX5 wsX5_key 16 5 11 := ⟨"KeyScannerModel", RX5, TX5, 30, inX5, rfl, by decide, List.mem_of_getElem? (i := 1) rfl, rfl⟩
  have g20 : xF RX5 wsX5_key 20 5 12 := ⟨"KeyScannerModel", RX5, TX5, 30, inX5, rfl, by decide, List.mem_of_getElem? (i := 2) rfl, rfl⟩
  have g23 : xF RX5 wsX5_key 23 5 13 := ⟨"KeyScannerModel", RX5, TX5, 30, inX5, rfl, by decide, List.mem_of_getElem? (i := 3) rfl, rfl⟩
  have g26 : xF RX5 wsX5_key 26 5 14 := ⟨"KeyScannerModel", RX5, TX5, 30, inX5, rfl, by decide, List.mem_of_getElem? (i := 4) rfl, rfl⟩
  have g30 : xF RX5 wsX5_key 30 5 15 := ⟨"KeyScannerModel", RX5, TX5, 30, inX5, rfl, by decide, List.mem_of_getElem? (i := 5) rfl, rfl⟩
  have hRC : R * C ≤ 64 := Nat.mul_le_mul hR.2 hC.2
  have hkq : k / C < R := Nat.div_lt_of_lt_mul (by rw [Nat.mul_comm]; exact hk)
  have hkm : k % C < C := Nat.mod_lt _ (by omega)
  have hnk : nkB (nI k) (R * C) = false := by rw [nkB, wi_ok (Nat.zero_le k) (by omega) (by omega)]; rfl
  refine x_at (ws' := [(h0, .inr (5, [.int (nI R), .int (nI C), .int (bI dio), .int (bI bk), .int (bI lt), .int sl, .int (nI V), .int ru, .int (bI sus), .int (bI sos), .int (nI T), .ref d1, .ref d2, .ref d3, .ref d4, .ref d5, .ref d6, .ref d7, .ref d8, .ref d9, .ref d10, .int (nI mk), .ref d11, .int sk, .int rf, .int tk, .int (nI fr), .int (nI fc), .ref d12, .ref d13])), (d1, .inl (cI, 64, .inl (xN pos))), (d2, .inl (cI, 64, .inl ph)), (d3, .inl (cI, 64, .inl bg)), (d4, .inl (cZ, 64, .inl (xB fs))), (d5, .inl (cZ, 64, .inl (xB gs))), (d6, .inl (cI, 8, .inl st)), (d7, .inl (cI, 8, .inl kk)), (d8, .inl (cI, 8, .inl ve)), (d9, .inl (cI, 8, .inl si)), (d10, .inl (cZ, 8, .inl (xB ca))), (d11, .inl (cI, 48, .inl lg)), (d12, .inl (cI, 64, .inl op)), (d13, .inl (cI, 64, .inl ob))]) (st' := []) rfl rfl ?_
  refine x_lv [(0, .ref h0), (1, .int (nI k)), (2, .int w)] [0, 1, 2] rfl ?_
  refine x_aload_n hE 0 rfl dX5_key_0 ?_
  refine x_iload_n hE 1 rfl dX5_key_1 ?_
  refine x_callV (n := 1) (st := []) hE (kX5_noKey l D cI cZ h0 d1 d2 d3 d4 d5 d6 d7 d8 d9 d10 d11 d12 d13 R C dio bk lt sl V ru sus sos T pos ph bg fs gs st kk ve si ca mk lg sk rf tk fr fc op ob (nI k) (by omega) (by omega)) gX5_key_X5_noKey rfl (by decide +kernel) ⟨by decide, by decide⟩ ⟨Nat.zero_le _, Nat.zero_le _⟩ rfl [0, 1, 2, 3, 4, 5, 6, 7, 8, 9, 10, 11, 12, 13] [] rfl (wr := []) rfl (by decide) (by decide) (by decide) 0 rfl rfl rfl rfl (Nat.le_of_ble_eq_true rfl) dX5_key_2 (fun v9 w9 hT9 => ?_)
  obtain ⟨rfl, rfl⟩ := hT9
  refine x_at (ws' := [(h0, .inr (5, [.int (nI R), .int (nI C), .int (bI dio), .int (bI bk), .int (bI lt), .int sl, .int (nI V), .int ru, .int (bI sus), .int (bI sos), .int (nI T), .ref d1, .ref d2, .ref d3, .ref d4, .ref d5, .ref d6, .ref d7, .ref d8, .ref d9, .ref d10, .int (nI mk), .ref d11, .int sk, .int rf, .int tk, .int (nI fr), .int (nI fc), .ref d12, .ref d13])), (d1, .inl (cI, 64, .inl (xN pos))), (d2, .inl (cI, 64, .inl ph)), (d3, .inl (cI, 64, .inl bg)), (d4, .inl (cZ, 64, .inl (xB fs))), (d5, .inl (cZ, 64, .inl (xB gs))), (d6, .inl (cI, 8, .inl st)), (d7, .inl (cI, 8, .inl kk)), (d8, .inl (cI, 8, .inl ve)), (d9, .inl (cI, 8, .inl si)), (d10, .inl (cZ, 8, .inl (xB ca))), (d11, .inl (cI, 48, .inl lg)), (d12, .inl (cI, 64, .inl op)), (d13, .inl (cI, 64, .inl ob))]) (st' := [.int (bI (nkB (nI k) (R * C)))]) rfl rfl ?_
  refine xb_if_eq hE 10 (by decide) dX5_key_5 (fun c5 => ?_) (fun c5 => ?_)
  · skip
    refine x_iload_n hE 2 rfl dX5_key_10 ?_
    rcases x_tsw w 7 (by decide) with c11 | c11
    · skip
      refine x_tableOut hE 154 c11 (by decide) dX5_key_11 ?_
      refine x_bipush hE (-2) (by decide) dX5_key_154 ?_
      exact x_iret hE hr (⟨by rw [selN_out c11], rfl⟩) dX5_key_156
    · skip
      obtain ⟨k11, hk11, e11⟩ := c11
      have hk11 : k11 = 0 ∨ k11 = 1 ∨ k11 = 2 ∨ k11 = 3 ∨ k11 = 4 ∨ k11 = 5 ∨ k11 = 6 ∨ k11 = 7 := by omega
      rcases hk11 with rfl | rfl | rfl | rfl | rfl | rfl | rfl | rfl
      · skip
        refine x_tableIn hE 56 (x_tsl e11 (by decide)) (x_tsh e11 (by decide) (by decide)) (by rw [x_tsn e11 (by decide)]; rfl) (by decide) dX5_key_11 ?_
        refine x_aload_n hE 0 rfl dX5_key_56 ?_
        refine x_get hE g16 0 rfl rfl dX5_key_57 ?_
        refine x_iload_n hE 1 rfl dX5_key_60 ?_
        refine x_iald hE k (nI (pos k)) (by omega) (by decide) rfl 1 rfl dX5_key_61 ?_
        exact x_iret hE hr (⟨by rw [selN_in e11 (by decide) (by decide)]; first | rfl | simp only [sel5, sel8, sel12, b2n, if_neg (bnt c5), reduceIte, Bool.false_eq_true, Bool.true_eq_false], rfl⟩) dX5_key_62
      · skip
        refine x_tableIn hE 63 (x_tsl e11 (by decide)) (x_tsh e11 (by decide) (by decide)) (by rw [x_tsn e11 (by decide)]; rfl) (by decide) dX5_key_11 ?_
        refine x_aload_n hE 0 rfl dX5_key_63 ?_
        refine x_get hE g20 0 rfl rfl dX5_key_64 ?_
        refine x_iload_n hE 1 rfl dX5_key_67 ?_
        refine x_iald hE k (ph k) (by omega) (by decide) rfl 2 rfl dX5_key_68 ?_
        exact x_iret hE hr (⟨by rw [selN_in e11 (by decide) (by decide)]; first | rfl | simp only [sel5, sel8, sel12, b2n, if_neg (bnt c5), reduceIte, Bool.false_eq_true, Bool.true_eq_false], rfl⟩) dX5_key_69
      · skip
        refine x_tableIn hE 70 (x_tsl e11 (by decide)) (x_tsh e11 (by decide) (by decide)) (by rw [x_tsn e11 (by decide)]; rfl) (by decide) dX5_key_11 ?_
        refine x_aload_n hE 0 rfl dX5_key_70 ?_
        refine x_get hE g20 0 rfl rfl dX5_key_71 ?_
        refine x_iload_n hE 1 rfl dX5_key_74 ?_
        refine x_iald hE k (ph k) (by omega) (by decide) rfl 2 rfl dX5_key_75 ?_
        refine x_if_ne hE 83 (by decide) dX5_key_76 (fun c76 => ?_) (fun c76 => ?_)
        · skip
          refine x_aload_n hE 0 rfl dX5_key_83 ?_
          refine x_get hE g23 0 rfl rfl dX5_key_84 ?_
          refine x_iload_n hE 1 rfl dX5_key_87 ?_
          refine x_iald hE k (bg k) (by omega) (by decide) rfl 3 rfl dX5_key_88 ?_
          exact x_iret hE hr (⟨by rw [selN_in e11 (by decide) (by decide)]; first | rfl | simp only [sel5, sel8, sel12, b2n, if_neg (bnt c5), if_neg c76, reduceIte, Bool.false_eq_true, Bool.true_eq_false], rfl⟩) dX5_key_89
        · skip
          refine x_iconst hE (nI 0) (by decide) dX5_key_79 ?_
          refine x_goto hE 89 (by decide) dX5_key_80 ?_
          exact x_iret hE hr (⟨by rw [selN_in e11 (by decide) (by decide)]; first | rfl | simp only [sel5, sel8, sel12, b2n, if_neg (bnt c5), if_pos c76, reduceIte, Bool.false_eq_true, Bool.true_eq_false], rfl⟩) dX5_key_89
      · skip
        refine x_tableIn hE 90 (x_tsl e11 (by decide)) (x_tsh e11 (by decide) (by decide)) (by rw [x_tsn e11 (by decide)]; rfl) (by decide) dX5_key_11 ?_
        refine x_aload_n hE 0 rfl dX5_key_90 ?_
        refine x_iload_n hE 1 rfl dX5_key_91 ?_
        refine x_callV (n := 1) (st := []) hE (kX5_voiceOf l D cI cZ h0 d1 d2 d3 d4 d5 d6 d7 d8 d9 d10 d11 d12 d13 R C dio bk lt sl V ru sus sos T pos ph bg fs gs st kk ve si ca mk lg sk rf tk fr fc op ob (nI k) (by omega)) gX5_key_X5_voiceOf rfl (by decide +kernel) ⟨by decide, by decide⟩ ⟨Nat.zero_le _, Nat.zero_le _⟩ rfl [0, 1, 2, 3, 4, 5, 6, 7, 8, 9, 10, 11, 12, 13] [] rfl (wr := []) rfl (by decide) (by decide) (by decide) 0 rfl rfl rfl rfl (Nat.le_of_ble_eq_true rfl) dX5_key_92 (fun v9 w9 hT9 => ?_)
        obtain ⟨rfl, rfl⟩ := hT9
        refine x_at (ws' := [(h0, .inr (5, [.int (nI R), .int (nI C), .int (bI dio), .int (bI bk), .int (bI lt), .int sl, .int (nI V), .int ru, .int (bI sus), .int (bI sos), .int (nI T), .ref d1, .ref d2, .ref d3, .ref d4, .ref d5, .ref d6, .ref d7, .ref d8, .ref d9, .ref d10, .int (nI mk), .ref d11, .int sk, .int rf, .int tk, .int (nI fr), .int (nI fc), .ref d12, .ref d13])), (d1, .inl (cI, 64, .inl (xN pos))), (d2, .inl (cI, 64, .inl ph)), (d3, .inl (cI, 64, .inl bg)), (d4, .inl (cZ, 64, .inl (xB fs))), (d5, .inl (cZ, 64, .inl (xB gs))), (d6, .inl (cI, 8, .inl st)), (d7, .inl (cI, 8, .inl kk)), (d8, .inl (cI, 8, .inl ve)), (d9, .inl (cI, 8, .inl si)), (d10, .inl (cZ, 8, .inl (xB ca))), (d11, .inl (cI, 48, .inl lg)), (d12, .inl (cI, 64, .inl op)), (d13, .inl (cI, 64, .inl ob))]) (st' := [.int (rV (findN (wkP st kk (nI k)) 0 V) V)]) rfl rfl ?_
        exact x_iret hE hr (⟨by rw [selN_in e11 (by decide) (by decide)]; first | rfl | simp only [sel5, sel8, sel12, b2n, if_neg (bnt c5), reduceIte, Bool.false_eq_true, Bool.true_eq_false], rfl⟩) dX5_key_95
      · skip
        refine x_tableIn hE 96 (x_tsl e11 (by decide)) (x_tsh e11 (by decide) (by decide)) (by rw [x_tsn e11 (by decide)]; rfl) (by decide) dX5_key_11 ?_
        refine x_aload_n hE 0 rfl dX5_key_96 ?_
        refine x_get hE g26 0 rfl rfl dX5_key_97 ?_
        refine x_iload_n hE 1 rfl dX5_key_100 ?_
        refine x_zald hE k (fs k) (by omega) (by decide) rfl 4 rfl dX5_key_101 ?_
        refine xb_if_eq hE 109 (by decide) dX5_key_102 (fun c102 => ?_) (fun c102 => ?_)
        · skip
          refine x_iconst hE (nI 0) (by decide) dX5_key_109 ?_
          exact x_iret hE hr (⟨by rw [selN_in e11 (by decide) (by decide)]; first | rfl | simp only [sel5, sel8, sel12, b2n, if_neg (bnt c5), if_neg (bnt c102), reduceIte, Bool.false_eq_true, Bool.true_eq_false], rfl⟩) dX5_key_110
        · skip
          refine x_iconst hE (nI 1) (by decide) dX5_key_105 ?_
          refine x_goto hE 110 (by decide) dX5_key_106 ?_
          exact x_iret hE hr (⟨by rw [selN_in e11 (by decide) (by decide)]; first | rfl | simp only [sel5, sel8, sel12, b2n, if_neg (bnt c5), if_pos c102, reduceIte, Bool.false_eq_true, Bool.true_eq_false], rfl⟩) dX5_key_110
      · skip
        refine x_tableIn hE 111 (x_tsl e11 (by decide)) (x_tsh e11 (by decide) (by decide)) (by rw [x_tsn e11 (by decide)]; rfl) (by decide) dX5_key_11 ?_
        refine x_aload_n hE 0 rfl dX5_key_111 ?_
        refine x_get hE g30 0 rfl rfl dX5_key_112 ?_
        refine x_iload_n hE 1 rfl dX5_key_115 ?_
        refine x_zald hE k (gs k) (by omega) (by decide) rfl 5 rfl dX5_key_116 ?_
        refine xb_if_eq hE 124 (by decide) dX5_key_117 (fun c117 => ?_) (fun c117 => ?_)
        · skip
          refine x_iconst hE (nI 0) (by decide) dX5_key_124 ?_
          exact x_iret hE hr (⟨by rw [selN_in e11 (by decide) (by decide)]; first | rfl | simp only [sel5, sel8, sel12, b2n, if_neg (bnt c5), if_neg (bnt c117), reduceIte, Bool.false_eq_true, Bool.true_eq_false], rfl⟩) dX5_key_125
        · skip
          refine x_iconst hE (nI 1) (by decide) dX5_key_120 ?_
          refine x_goto hE 125 (by decide) dX5_key_121 ?_
          exact x_iret hE hr (⟨by rw [selN_in e11 (by decide) (by decide)]; first | rfl | simp only [sel5, sel8, sel12, b2n, if_neg (bnt c5), if_pos c117, reduceIte, Bool.false_eq_true, Bool.true_eq_false], rfl⟩) dX5_key_125
      · skip
        refine x_tableIn hE 126 (x_tsl e11 (by decide)) (x_tsh e11 (by decide) (by decide)) (by rw [x_tsn e11 (by decide)]; rfl) (by decide) dX5_key_11 ?_
        refine x_aload_n hE 0 rfl dX5_key_126 ?_
        refine x_iload_n hE 1 rfl dX5_key_127 ?_
        refine x_callV (n := 1) (st := []) hE (kX5_isGhost l D cI cZ h0 d1 d2 d3 d4 d5 d6 d7 d8 d9 d10 d11 d12 d13 R C dio bk lt sl V ru sus sos T pos ph bg fs gs st kk ve si ca mk lg sk rf tk fr fc op ob k (by omega) (by omega) (by omega) (by assumption)) gX5_key_X5_isGhost rfl (by decide +kernel) ⟨by decide, by decide⟩ ⟨Nat.zero_le _, Nat.zero_le _⟩ rfl [0, 1, 2, 3, 4, 5, 6, 7, 8, 9, 10, 11, 12, 13] [] rfl (wr := []) rfl (by decide) (by decide) (by decide) 0 rfl rfl rfl rfl (Nat.le_of_ble_eq_true rfl) dX5_key_128 (fun v9 w9 hT9 => ?_)
        obtain ⟨rfl, rfl⟩ := hT9
        refine x_at (ws' := [(h0, .inr (5, [.int (nI R), .int (nI C), .int (bI dio), .int (bI bk), .int (bI lt), .int sl, .int (nI V), .int ru, .int (bI sus), .int (bI sos), .int (nI T), .ref d1, .ref d2, .ref d3, .ref d4, .ref d5, .ref d6, .ref d7, .ref d8, .ref d9, .ref d10, .int (nI mk), .ref d11, .int sk, .int rf, .int tk, .int (nI fr), .int (nI fc), .ref d12, .ref d13])), (d1, .inl (cI, 64, .inl (xN pos))), (d2, .inl (cI, 64, .inl ph)), (d3, .inl (cI, 64, .inl bg)), (d4, .inl (cZ, 64, .inl (xB fs))), (d5, .inl (cZ, 64, .inl (xB gs))), (d6, .inl (cI, 8, .inl st)), (d7, .inl (cI, 8, .inl kk)), (d8, .inl (cI, 8, .inl ve)), (d9, .inl (cI, 8, .inl si)), (d10, .inl (cZ, 8, .inl (xB ca))), (d11, .inl (cI, 48, .inl lg)), (d12, .inl (cI, 64, .inl op)), (d13, .inl (cI, 64, .inl ob))]) (st' := [.int (bI (ghM fs gs pos k))]) rfl rfl ?_
        refine xb_if_eq hE 138 (by decide) dX5_key_131 (fun c131 => ?_) (fun c131 => ?_)
        · skip
          refine x_iconst hE (nI 0) (by decide) dX5_key_138 ?_
          exact x_iret hE hr (⟨by rw [selN_in e11 (by decide) (by decide)]; first | rfl | simp only [sel5, sel8, sel12, b2n, if_neg (bnt c5), if_neg (bnt c131), reduceIte, Bool.false_eq_true, Bool.true_eq_false], rfl⟩) dX5_key_139
        · skip
          refine x_iconst hE (nI 1) (by decide) dX5_key_134 ?_
          refine x_goto hE 139 (by decide) dX5_key_135 ?_
          exact x_iret hE hr (⟨by rw [selN_in e11 (by decide) (by decide)]; first | rfl | simp only [sel5, sel8, sel12, b2n, if_neg (bnt c5), if_pos c131, reduceIte, Bool.false_eq_true, Bool.true_eq_false], rfl⟩) dX5_key_139
      · skip
        refine x_tableIn hE 140 (x_tsl e11 (by decide)) (x_tsh e11 (by decide) (by decide)) (by rw [x_tsn e11 (by decide)]; rfl) (by decide) dX5_key_11 ?_
        refine x_aload_n hE 0 rfl dX5_key_140 ?_
        refine x_iload_n hE 1 rfl dX5_key_141 ?_
        refine x_callV (n := 1) (st := []) hE (kX5_isDoubtful l D cI cZ h0 d1 d2 d3 d4 d5 d6 d7 d8 d9 d10 d11 d12 d13 R C dio bk lt sl V ru sus sos T pos ph bg fs gs st kk ve si ca mk lg sk rf tk fr fc op ob k (by omega) (by omega) (by omega)) gX5_key_X5_isDoubtful rfl (by decide +kernel) ⟨by decide, by decide⟩ ⟨Nat.zero_le _, Nat.zero_le _⟩ rfl [0, 1, 2, 3, 4, 5, 6, 7, 8, 9, 10, 11, 12, 13] [] rfl (wr := []) rfl (by decide) (by decide) (by decide) 0 rfl rfl rfl rfl (Nat.le_of_ble_eq_true rfl) dX5_key_142 (fun v9 w9 hT9 => ?_)
        obtain ⟨rfl, rfl⟩ := hT9
        refine x_at (ws' := [(h0, .inr (5, [.int (nI R), .int (nI C), .int (bI dio), .int (bI bk), .int (bI lt), .int sl, .int (nI V), .int ru, .int (bI sus), .int (bI sos), .int (nI T), .ref d1, .ref d2, .ref d3, .ref d4, .ref d5, .ref d6, .ref d7, .ref d8, .ref d9, .ref d10, .int (nI mk), .ref d11, .int sk, .int rf, .int tk, .int (nI fr), .int (nI fc), .ref d12, .ref d13])), (d1, .inl (cI, 64, .inl (xN pos))), (d2, .inl (cI, 64, .inl ph)), (d3, .inl (cI, 64, .inl bg)), (d4, .inl (cZ, 64, .inl (xB fs))), (d5, .inl (cZ, 64, .inl (xB gs))), (d6, .inl (cI, 8, .inl st)), (d7, .inl (cI, 8, .inl kk)), (d8, .inl (cI, 8, .inl ve)), (d9, .inl (cI, 8, .inl si)), (d10, .inl (cZ, 8, .inl (xB ca))), (d11, .inl (cI, 48, .inl lg)), (d12, .inl (cI, 64, .inl op)), (d13, .inl (cI, 64, .inl ob))]) (st' := [.int (bI (dmM fs R C k))]) rfl rfl ?_
        refine xb_if_eq hE 152 (by decide) dX5_key_145 (fun c145 => ?_) (fun c145 => ?_)
        · skip
          refine x_iconst hE (nI 0) (by decide) dX5_key_152 ?_
          exact x_iret hE hr (⟨by rw [selN_in e11 (by decide) (by decide)]; first | rfl | simp only [sel5, sel8, sel12, b2n, if_neg (bnt c5), if_neg (bnt c145), reduceIte, Bool.false_eq_true, Bool.true_eq_false], rfl⟩) dX5_key_153
        · skip
          refine x_iconst hE (nI 1) (by decide) dX5_key_148 ?_
          refine x_goto hE 153 (by decide) dX5_key_149 ?_
          exact x_iret hE hr (⟨by rw [selN_in e11 (by decide) (by decide)]; first | rfl | simp only [sel5, sel8, sel12, b2n, if_neg (bnt c5), if_pos c145, reduceIte, Bool.false_eq_true, Bool.true_eq_false], rfl⟩) dX5_key_153
  · skip
    exact absurd c5 (by rw [hnk]; decide)
set_option maxHeartbeats 4000000 in
set_option maxRecDepth 100000 in
theorem kX5_key_bad (l : Launch) (D : va_G) (cI cZ : ClassId) (h0 : Nat) (d1 : Nat) (d2 : Nat) (d3 : Nat) (d4 : Nat) (d5 : Nat) (d6 : Nat) (d7 : Nat) (d8 : Nat) (d9 : Nat) (d10 : Nat) (d11 : Nat) (d12 : Nat) (d13 : Nat) (R : Nat) (C : Nat) (dio : Bool) (bk : Bool) (lt : Bool) (sl : Int32) (V : Nat) (ru : Int32) (sus : Bool) (sos : Bool) (T : Nat) (pos : Nat → Nat) (ph : Nat → Int32) (bg : Nat → Int32) (fs : Nat → Bool) (gs : Nat → Bool) (st : Nat → Int32) (kk : Nat → Int32) (ve : Nat → Int32) (si : Nat → Int32) (ca : Nat → Bool) (mk : Nat) (lg : Nat → Int32) (sk : Int32) (rf : Int32) (tk : Int32) (fr : Nat) (fc : Nat) (op : Nat → Int32) (ob : Nat → Int32) (k : Int32) (w : Int32) (hR : 1 ≤ R ∧ R ≤ 8) (hC : 1 ≤ C ∧ C ≤ 8) (hh : nkB k (R * C) = true) : xC l yX5_key wsX5_key 2 0 0 43 D cI cZ [.ref h0, .int k, .int w] [(h0, .inr (5, [.int (nI R), .int (nI C), .int (bI dio), .int (bI bk), .int (bI lt), .int sl, .int (nI V), .int ru, .int (bI sus), .int (bI sos), .int (nI T), .ref d1, .ref d2, .ref d3, .ref d4, .ref d5, .ref d6, .ref d7, .ref d8, .ref d9, .ref d10, .int (nI mk), .ref d11, .int sk, .int rf, .int tk, .int (nI fr), .int (nI fc), .ref d12, .ref d13])), (d1, .inl (cI, 64, .inl (xN pos))), (d2, .inl (cI, 64, .inl ph)), (d3, .inl (cI, 64, .inl bg)), (d4, .inl (cZ, 64, .inl (xB fs))), (d5, .inl (cZ, 64, .inl (xB gs))), (d6, .inl (cI, 8, .inl st)), (d7, .inl (cI, 8, .inl kk)), (d8, .inl (cI, 8, .inl ve)), (d9, .inl (cI, 8, .inl si)), (d10, .inl (cZ, 8, .inl (xB ca))), (d11, .inl (cI, 48, .inl lg)), (d12, .inl (cI, 64, .inl op)), (d13, .inl (cI, 64, .inl ob))] (fun v8 w8 => v8 = some (.int (-1)) ∧ w8 = [(h0, .inr (5, [.int (nI R), .int (nI C), .int (bI dio), .int (bI bk), .int (bI lt), .int sl, .int (nI V), .int ru, .int (bI sus), .int (bI sos), .int (nI T), .ref d1, .ref d2, .ref d3, .ref d4, .ref d5, .ref d6, .ref d7, .ref d8, .ref d9, .ref d10, .int (nI mk), .ref d11, .int sk, .int rf, .int tk, .int (nI fr), .int (nI fc), .ref d12, .ref d13])), (d1, .inl (cI, 64, .inl (xN pos))), (d2, .inl (cI, 64, .inl ph)), (d3, .inl (cI, 64, .inl bg)), (d4, .inl (cZ, 64, .inl (xB fs))), (d5, .inl (cZ, 64, .inl (xB gs))), (d6, .inl (cI, 8, .inl st)), (d7, .inl (cI, 8, .inl kk)), (d8, .inl (cI, 8, .inl ve)), (d9, .inl (cI, 8, .inl si)), (d10, .inl (cZ, 8, .inl (xB ca))), (d11, .inl (cI, 48, .inl lg)), (d12, .inl (cI, 64, .inl op)), (d13, .inl (cI, 64, .inl ob))]) := by
  refine xC.of (bytes := cX5_key) (maxL := 3) (ret := (some .int)) (own := RX5) (by decide +kernel) rfl (Nat.le_of_ble_eq_true rfl) rfl ?_
  intro p9 e9 s9 m9 args9 below9 meth9 cd9 A hE hr hin2 hA9
  refine x_at (ws' := [(h0, .inr (5, [.int (nI R), .int (nI C), .int (bI dio), .int (bI bk), .int (bI lt), .int sl, .int (nI V), .int ru, .int (bI sus), .int (bI sos), .int (nI T), .ref d1, .ref d2, .ref d3, .ref d4, .ref d5, .ref d6, .ref d7, .ref d8, .ref d9, .ref d10, .int (nI mk), .ref d11, .int sk, .int rf, .int tk, .int (nI fr), .int (nI fc), .ref d12, .ref d13])), (d1, .inl (cI, 64, .inl (xN pos))), (d2, .inl (cI, 64, .inl ph)), (d3, .inl (cI, 64, .inl bg)), (d4, .inl (cZ, 64, .inl (xB fs))), (d5, .inl (cZ, 64, .inl (xB gs))), (d6, .inl (cI, 8, .inl st)), (d7, .inl (cI, 8, .inl kk)), (d8, .inl (cI, 8, .inl ve)), (d9, .inl (cI, 8, .inl si)), (d10, .inl (cZ, 8, .inl (xB ca))), (d11, .inl (cI, 48, .inl lg)), (d12, .inl (cI, 64, .inl op)), (d13, .inl (cI, 64, .inl ob))]) (st' := []) rfl rfl ?_
  refine x_lv [(0, .ref h0), (1, .int k), (2, .int w)] [0, 1, 2] rfl ?_
  refine x_aload_n hE 0 rfl dX5_key_0 ?_
  refine x_iload_n hE 1 rfl dX5_key_1 ?_
  refine x_callV (n := 1) (st := []) hE (kX5_noKey l D cI cZ h0 d1 d2 d3 d4 d5 d6 d7 d8 d9 d10 d11 d12 d13 R C dio bk lt sl V ru sus sos T pos ph bg fs gs st kk ve si ca mk lg sk rf tk fr fc op ob k (by omega) (by omega)) gX5_key_X5_noKey rfl (by decide +kernel) ⟨by decide, by decide⟩ ⟨Nat.zero_le _, Nat.zero_le _⟩ rfl [0, 1, 2, 3, 4, 5, 6, 7, 8, 9, 10, 11, 12, 13] [] rfl (wr := []) rfl (by decide) (by decide) (by decide) 0 rfl rfl rfl rfl (Nat.le_of_ble_eq_true rfl) dX5_key_2 (fun v9 w9 hT9 => ?_)
  obtain ⟨rfl, rfl⟩ := hT9
  refine x_at (ws' := [(h0, .inr (5, [.int (nI R), .int (nI C), .int (bI dio), .int (bI bk), .int (bI lt), .int sl, .int (nI V), .int ru, .int (bI sus), .int (bI sos), .int (nI T), .ref d1, .ref d2, .ref d3, .ref d4, .ref d5, .ref d6, .ref d7, .ref d8, .ref d9, .ref d10, .int (nI mk), .ref d11, .int sk, .int rf, .int tk, .int (nI fr), .int (nI fc), .ref d12, .ref d13])), (d1, .inl (cI, 64, .inl (xN pos))), (d2, .inl (cI, 64, .inl ph)), (d3, .inl (cI, 64, .inl bg)), (d4, .inl (cZ, 64, .inl (xB fs))), (d5, .inl (cZ, 64, .inl (xB gs))), (d6, .inl (cI, 8, .inl st)), (d7, .inl (cI, 8, .inl kk)), (d8, .inl (cI, 8, .inl ve)), (d9, .inl (cI, 8, .inl si)), (d10, .inl (cZ, 8, .inl (xB ca))), (d11, .inl (cI, 48, .inl lg)), (d12, .inl (cI, 64, .inl op)), (d13, .inl (cI, 64, .inl ob))]) (st' := [.int (bI (nkB k (R * C)))]) rfl rfl ?_
  refine xb_if_eq hE 10 (by decide) dX5_key_5 (fun c5 => ?_) (fun c5 => ?_)
  · skip
    exact absurd c5 (by rw [hh]; decide)
  · skip
    refine x_iconst hE (-1) (by decide) dX5_key_8 ?_
    exact x_iret hE hr (⟨rfl, rfl⟩) dX5_key_9
set_option maxHeartbeats 4000000 in
set_option maxRecDepth 100000 in
theorem kX5_voice_ok (l : Launch) (D : va_G) (cI cZ : ClassId) (h0 : Nat) (d1 : Nat) (d2 : Nat) (d3 : Nat) (d4 : Nat) (d5 : Nat) (d6 : Nat) (d7 : Nat) (d8 : Nat) (d9 : Nat) (d10 : Nat) (d11 : Nat) (d12 : Nat) (d13 : Nat) (R : Nat) (C : Nat) (dio : Bool) (bk : Bool) (lt : Bool) (sl : Int32) (V : Nat) (ru : Int32) (sus : Bool) (sos : Bool) (T : Nat) (pos : Nat → Nat) (ph : Nat → Int32) (bg : Nat → Int32) (fs : Nat → Bool) (gs : Nat → Bool) (st : Nat → Int32) (kk : Nat → Int32) (ve : Nat → Int32) (si : Nat → Int32) (ca : Nat → Bool) (mk : Nat) (lg : Nat → Int32) (sk : Int32) (rf : Int32) (tk : Int32) (fr : Nat) (fc : Nat) (op : Nat → Int32) (ob : Nat → Int32) (v : Nat) (w : Int32) (hV : 1 ≤ V ∧ V ≤ 8) (hv : v < V) : xC l yX5_voice wsX5_voice 1 0 0 22 D cI cZ [.ref h0, .int (nI v), .int w] [(h0, .inr (5, [.int (nI R), .int (nI C), .int (bI dio), .int (bI bk), .int (bI lt), .int sl, .int (nI V), .int ru, .int (bI sus), .int (bI sos), .int (nI T), .ref d1, .ref d2, .ref d3, .ref d4, .ref d5, .ref d6, .ref d7, .ref d8, .ref d9, .ref d10, .int (nI mk), .ref d11, .int sk, .int rf, .int tk, .int (nI fr), .int (nI fc), .ref d12, .ref d13])), (d1, .inl (cI, 64, .inl (xN pos))), (d2, .inl (cI, 64, .inl ph)), (d3, .inl (cI, 64, .inl bg)), (d4, .inl (cZ, 64, .inl (xB fs))), (d5, .inl (cZ, 64, .inl (xB gs))), (d6, .inl (cI, 8, .inl st)), (d7, .inl (cI, 8, .inl kk)), (d8, .inl (cI, 8, .inl ve)), (d9, .inl (cI, 8, .inl si)), (d10, .inl (cZ, 8, .inl (xB ca))), (d11, .inl (cI, 48, .inl lg)), (d12, .inl (cI, 64, .inl op)), (d13, .inl (cI, 64, .inl ob))] (fun v8 w8 => v8 = some (.int (selN w 4 (sel5 (st v) (if st v = nI 0 then (-3) else kk v) (if st v = nI 0 then (-3) else ve v) (if st v = nI 0 then (-3) else si v) (nI (b2n (ca v)))))) ∧ w8 = [(h0, .inr (5, [.int (nI R), .int (nI C), .int (bI dio), .int (bI bk), .int (bI lt), .int sl, .int (nI V), .int ru, .int (bI sus), .int (bI sos), .int (nI T), .ref d1, .ref d2, .ref d3, .ref d4, .ref d5, .ref d6, .ref d7, .ref d8, .ref d9, .ref d10, .int (nI mk), .ref d11, .int sk, .int rf, .int tk, .int (nI fr), .int (nI fc), .ref d12, .ref d13])), (d1, .inl (cI, 64, .inl (xN pos))), (d2, .inl (cI, 64, .inl ph)), (d3, .inl (cI, 64, .inl bg)), (d4, .inl (cZ, 64, .inl (xB fs))), (d5, .inl (cZ, 64, .inl (xB gs))), (d6, .inl (cI, 8, .inl st)), (d7, .inl (cI, 8, .inl kk)), (d8, .inl (cI, 8, .inl ve)), (d9, .inl (cI, 8, .inl si)), (d10, .inl (cZ, 8, .inl (xB ca))), (d11, .inl (cI, 48, .inl lg)), (d12, .inl (cI, 64, .inl op)), (d13, .inl (cI, 64, .inl ob))]) := by
  refine xC.of (bytes := cX5_voice) (maxL := 3) (ret := (some .int)) (own := RX5) (by decide +kernel) rfl (Nat.le_of_ble_eq_true rfl) rfl ?_
  intro p9 e9 s9 m9 args9 below9 meth9 cd9 A hE hr hin2 hA9
  have inX5 : ∀ w ∈ wsX50, w ∈ wsX5_voice := fun w h => List.mem_cons_of_mem _ (List.mem_append_right _ h)
  have g13 : xF RX5 wsX5_voice 13 5 6 := ⟨"KeyScannerModel", RX5, TX5, 30, inX5, rfl, by decide, List.mem_of_getElem? (i := 1) rfl, rfl⟩
  have g33 : xF RX5 wsX5_voice 33 5 16 := ⟨"KeyScannerModel", RX5, TX5, 30, inX5, rfl, by decide, List.mem_of_getElem? (i := 2) rfl, rfl⟩
  have g45 : xF RX5 wsX5_voice 45 5 20 := ⟨"KeyScannerModel", RX5, TX5, 30, inX5, rfl, by decide, List.mem_of_getElem? (i := 6) rfl, rfl⟩
  have g36 : xF RX5 wsX5_voice 36 5 17 := ⟨"KeyScannerModel", RX5, TX5, 30, inX5, rfl, by decide, List.mem_of_getElem? (i := 3) rfl, rfl⟩
  have g39 : xF RX5 wsX5_voice 39 5 18 := ⟨"KeyScannerModel", RX5, TX5, 30, inX5, rfl, by decide, List.mem_of_getElem? (i := 4) rfl, rfl⟩
  have g42 : xF RX5 wsX5_voice 42 5 19 := ⟨"KeyScannerModel", RX5, TX5, 30, inX5, rfl, by decide, List.mem_of_getElem? (i := 5) rfl, rfl⟩
  refine x_at (ws' := [(h0, .inr (5, [.int (nI R), .int (nI C), .int (bI dio), .int (bI bk), .int (bI lt), .int sl, .int (nI V), .int ru, .int (bI sus), .int (bI sos), .int (nI T), .ref d1, .ref d2, .ref d3, .ref d4, .ref d5, .ref d6, .ref d7, .ref d8, .ref d9, .ref d10, .int (nI mk), .ref d11, .int sk, .int rf, .int tk, .int (nI fr), .int (nI fc), .ref d12, .ref d13])), (d1, .inl (cI, 64, .inl (xN pos))), (d2, .inl (cI, 64, .inl ph)), (d3, .inl (cI, 64, .inl bg)), (d4, .inl (cZ, 64, .inl (xB fs))), (d5, .inl (cZ, 64, .inl (xB gs))), (d6, .inl (cI, 8, .inl st)), (d7, .inl (cI, 8, .inl kk)), (d8, .inl (cI, 8, .inl ve)), (d9, .inl (cI, 8, .inl si)), (d10, .inl (cZ, 8, .inl (xB ca))), (d11, .inl (cI, 48, .inl lg)), (d12, .inl (cI, 64, .inl op)), (d13, .inl (cI, 64, .inl ob))]) (st' := []) rfl rfl ?_
  refine x_lv [(0, .ref h0), (1, .int (nI v)), (2, .int w)] [0, 1, 2] rfl ?_
  refine x_iload_n hE 1 rfl dX5_voice_0 ?_
  refine x_iconst hE (nI 0) (by decide) dX5_voice_1 ?_
  refine x_aload_n hE 0 rfl dX5_voice_2 ?_
  refine x_get hE g13 0 rfl rfl dX5_voice_3 ?_
  refine x_iconst hE (nI 1) (by decide) dX5_voice_6 ?_
  refine x_isub hE (nI (V - 1)) (xI_sub (by omega)) dX5_voice_7 ?_
  refine x_callS (n := 3) (st := []) hE (kX5_in l D cI cZ (nI v) (nI 0) (nI (V - 1)) ) gX5_voice_X5_in rfl (by decide +kernel) ⟨by decide, by decide⟩ ⟨Nat.zero_le _, Nat.zero_le _⟩ rfl [] [0, 1, 2, 3, 4, 5, 6, 7, 8, 9, 10, 11, 12, 13] rfl (wr := [(h0, .inr (5, [.int (nI R), .int (nI C), .int (bI dio), .int (bI bk), .int (bI lt), .int sl, .int (nI V), .int ru, .int (bI sus), .int (bI sos), .int (nI T), .ref d1, .ref d2, .ref d3, .ref d4, .ref d5, .ref d6, .ref d7, .ref d8, .ref d9, .ref d10, .int (nI mk), .ref d11, .int sk, .int rf, .int tk, .int (nI fr), .int (nI fc), .ref d12, .ref d13])), (d1, .inl (cI, 64, .inl (xN pos))), (d2, .inl (cI, 64, .inl ph)), (d3, .inl (cI, 64, .inl bg)), (d4, .inl (cZ, 64, .inl (xB fs))), (d5, .inl (cZ, 64, .inl (xB gs))), (d6, .inl (cI, 8, .inl st)), (d7, .inl (cI, 8, .inl kk)), (d8, .inl (cI, 8, .inl ve)), (d9, .inl (cI, 8, .inl si)), (d10, .inl (cZ, 8, .inl (xB ca))), (d11, .inl (cI, 48, .inl lg)), (d12, .inl (cI, 64, .inl op)), (d13, .inl (cI, 64, .inl ob))]) rfl (by decide) (by decide) (by decide) rfl (Nat.le_of_ble_eq_true rfl) dX5_voice_8 (fun v9 w9 hT9 => ?_)
  obtain ⟨rfl, rfl⟩ := hT9
  refine x_at (ws' := [(h0, .inr (5, [.int (nI R), .int (nI C), .int (bI dio), .int (bI bk), .int (bI lt), .int sl, .int (nI V), .int ru, .int (bI sus), .int (bI sos), .int (nI T), .ref d1, .ref d2, .ref d3, .ref d4, .ref d5, .ref d6, .ref d7, .ref d8, .ref d9, .ref d10, .int (nI mk), .ref d11, .int sk, .int rf, .int tk, .int (nI fr), .int (nI fc), .ref d12, .ref d13])), (d1, .inl (cI, 64, .inl (xN pos))), (d2, .inl (cI, 64, .inl ph)), (d3, .inl (cI, 64, .inl bg)), (d4, .inl (cZ, 64, .inl (xB fs))), (d5, .inl (cZ, 64, .inl (xB gs))), (d6, .inl (cI, 8, .inl st)), (d7, .inl (cI, 8, .inl kk)), (d8, .inl (cI, 8, .inl ve)), (d9, .inl (cI, 8, .inl si)), (d10, .inl (cZ, 8, .inl (xB ca))), (d11, .inl (cI, 48, .inl lg)), (d12, .inl (cI, 64, .inl op)), (d13, .inl (cI, 64, .inl ob))]) (st' := [.int (bI (wiB (nI v) (nI 0) (nI (V - 1))))]) rfl rfl ?_
  refine xb_if_ne hE 16 (by decide) dX5_voice_11 (fun c11 => ?_) (fun c11 => ?_)
  · skip
    refine x_iload_n hE 2 rfl dX5_voice_16 ?_
    refine x_iconst hE (nI 1) (by decide) dX5_voice_17 ?_
    refine x_iconst hE (nI 3) (by decide) dX5_voice_18 ?_
    refine x_callS (n := 3) (st := []) hE (kX5_in l D cI cZ w (nI 1) (nI 3) ) gX5_voice_X5_in rfl (by decide +kernel) ⟨by decide, by decide⟩ ⟨Nat.zero_le _, Nat.zero_le _⟩ rfl [] [0, 1, 2, 3, 4, 5, 6, 7, 8, 9, 10, 11, 12, 13] rfl (wr := [(h0, .inr (5, [.int (nI R), .int (nI C), .int (bI dio), .int (bI bk), .int (bI lt), .int sl, .int (nI V), .int ru, .int (bI sus), .int (bI sos), .int (nI T), .ref d1, .ref d2, .ref d3, .ref d4, .ref d5, .ref d6, .ref d7, .ref d8, .ref d9, .ref d10, .int (nI mk), .ref d11, .int sk, .int rf, .int tk, .int (nI fr), .int (nI fc), .ref d12, .ref d13])), (d1, .inl (cI, 64, .inl (xN pos))), (d2, .inl (cI, 64, .inl ph)), (d3, .inl (cI, 64, .inl bg)), (d4, .inl (cZ, 64, .inl (xB fs))), (d5, .inl (cZ, 64, .inl (xB gs))), (d6, .inl (cI, 8, .inl st)), (d7, .inl (cI, 8, .inl kk)), (d8, .inl (cI, 8, .inl ve)), (d9, .inl (cI, 8, .inl si)), (d10, .inl (cZ, 8, .inl (xB ca))), (d11, .inl (cI, 48, .inl lg)), (d12, .inl (cI, 64, .inl op)), (d13, .inl (cI, 64, .inl ob))]) rfl (by decide) (by decide) (by decide) rfl (Nat.le_of_ble_eq_true rfl) dX5_voice_19 (fun v9 w9 hT9 => ?_)
    obtain ⟨rfl, rfl⟩ := hT9
    refine x_at (ws' := [(h0, .inr (5, [.int (nI R), .int (nI C), .int (bI dio), .int (bI bk), .int (bI lt), .int sl, .int (nI V), .int ru, .int (bI sus), .int (bI sos), .int (nI T), .ref d1, .ref d2, .ref d3, .ref d4, .ref d5, .ref d6, .ref d7, .ref d8, .ref d9, .ref d10, .int (nI mk), .ref d11, .int sk, .int rf, .int tk, .int (nI fr), .int (nI fc), .ref d12, .ref d13])), (d1, .inl (cI, 64, .inl (xN pos))), (d2, .inl (cI, 64, .inl ph)), (d3, .inl (cI, 64, .inl bg)), (d4, .inl (cZ, 64, .inl (xB fs))), (d5, .inl (cZ, 64, .inl (xB gs))), (d6, .inl (cI, 8, .inl st)), (d7, .inl (cI, 8, .inl kk)), (d8, .inl (cI, 8, .inl ve)), (d9, .inl (cI, 8, .inl si)), (d10, .inl (cZ, 8, .inl (xB ca))), (d11, .inl (cI, 48, .inl lg)), (d12, .inl (cI, 64, .inl op)), (d13, .inl (cI, 64, .inl ob))]) (st' := [.int (bI (wiB w (nI 1) (nI 3)))]) rfl rfl ?_
    refine xb_if_eq hE 37 (by decide) dX5_voice_22 (fun c22 => ?_) (fun c22 => ?_)
    · skip
      refine x_iload_n hE 2 rfl dX5_voice_37 ?_
      rcases x_tsw w 4 (by decide) with c38 | c38
      · skip
        refine x_tableOut hE 115 c38 (by decide) dX5_voice_38 ?_
        refine x_bipush hE (-2) (by decide) dX5_voice_115 ?_
        exact x_iret hE hr (⟨by rw [selN_out c38], rfl⟩) dX5_voice_117
      · skip
        obtain ⟨k38, hk38, e38⟩ := c38
        have hk38 : k38 = 0 ∨ k38 = 1 ∨ k38 = 2 ∨ k38 = 3 ∨ k38 = 4 := by omega
        rcases hk38 with rfl | rfl | rfl | rfl | rfl
        · skip
          refine x_tableIn hE 72 (x_tsl e38 (by decide)) (x_tsh e38 (by decide) (by decide)) (by rw [x_tsn e38 (by decide)]; rfl) (by decide) dX5_voice_38 ?_
          refine x_aload_n hE 0 rfl dX5_voice_72 ?_
          refine x_get hE g33 0 rfl rfl dX5_voice_73 ?_
          refine x_iload_n hE 1 rfl dX5_voice_76 ?_
          refine x_iald hE v (st v) (by omega) (by decide) rfl 6 rfl dX5_voice_77 ?_
          exact x_iret hE hr (⟨by rw [selN_in e38 (by decide) (by decide)]; first | rfl | (simp only [sel5, b2n, if_pos c11, if_neg (bnt c22), reduceIte, Bool.false_eq_true, Bool.true_eq_false]), rfl⟩) dX5_voice_78
        · skip
          exact absurd c22 (by rw [e38]; decide)
        · skip
          exact absurd c22 (by rw [e38]; decide)
        · skip
          exact absurd c22 (by rw [e38]; decide)
        · skip
          refine x_tableIn hE 100 (x_tsl e38 (by decide)) (x_tsh e38 (by decide) (by decide)) (by rw [x_tsn e38 (by decide)]; rfl) (by decide) dX5_voice_38 ?_
          refine x_aload_n hE 0 rfl dX5_voice_100 ?_
          refine x_get hE g45 0 rfl rfl dX5_voice_101 ?_
          refine x_iload_n hE 1 rfl dX5_voice_104 ?_
          refine x_zald hE v (ca v) (by omega) (by decide) rfl 10 rfl dX5_voice_105 ?_
          refine xb_if_eq hE 113 (by decide) dX5_voice_106 (fun c106 => ?_) (fun c106 => ?_)
          · skip
            refine x_iconst hE (nI 0) (by decide) dX5_voice_113 ?_
            exact x_iret hE hr (⟨by rw [selN_in e38 (by decide) (by decide)]; first | rfl | (simp only [sel5, b2n, if_pos c11, if_neg (bnt c22), if_neg (bnt c106), reduceIte, Bool.false_eq_true, Bool.true_eq_false]), rfl⟩) dX5_voice_114
          · skip
            refine x_iconst hE (nI 1) (by decide) dX5_voice_109 ?_
            refine x_goto hE 114 (by decide) dX5_voice_110 ?_
            exact x_iret hE hr (⟨by rw [selN_in e38 (by decide) (by decide)]; first | rfl | (simp only [sel5, b2n, if_pos c11, if_neg (bnt c22), if_pos c106, reduceIte, Bool.false_eq_true, Bool.true_eq_false]), rfl⟩) dX5_voice_114
    · skip
      refine x_aload_n hE 0 rfl dX5_voice_25 ?_
      refine x_get hE g33 0 rfl rfl dX5_voice_26 ?_
      refine x_iload_n hE 1 rfl dX5_voice_29 ?_
      refine x_iald hE v (st v) (by omega) (by decide) rfl 6 rfl dX5_voice_30 ?_
      refine x_if_ne hE 37 (by decide) dX5_voice_31 (fun c31 => ?_) (fun c31 => ?_)
      · skip
        refine x_iload_n hE 2 rfl dX5_voice_37 ?_
        rcases x_tsw w 4 (by decide) with c38 | c38
        · skip
          refine x_tableOut hE 115 c38 (by decide) dX5_voice_38 ?_
          refine x_bipush hE (-2) (by decide) dX5_voice_115 ?_
          exact x_iret hE hr (⟨by rw [selN_out c38], rfl⟩) dX5_voice_117
        · skip
          obtain ⟨k38, hk38, e38⟩ := c38
          have hk38 : k38 = 0 ∨ k38 = 1 ∨ k38 = 2 ∨ k38 = 3 ∨ k38 = 4 := by omega
          rcases hk38 with rfl | rfl | rfl | rfl | rfl
          · skip
            refine x_tableIn hE 72 (x_tsl e38 (by decide)) (x_tsh e38 (by decide) (by decide)) (by rw [x_tsn e38 (by decide)]; rfl) (by decide) dX5_voice_38 ?_
            refine x_aload_n hE 0 rfl dX5_voice_72 ?_
            refine x_get hE g33 0 rfl rfl dX5_voice_73 ?_
            refine x_iload_n hE 1 rfl dX5_voice_76 ?_
            refine x_iald hE v (st v) (by omega) (by decide) rfl 6 rfl dX5_voice_77 ?_
            exact x_iret hE hr (⟨by rw [selN_in e38 (by decide) (by decide)]; first | rfl | (simp only [sel5, b2n, if_pos c11, if_pos c22, if_neg c31, reduceIte, Bool.false_eq_true, Bool.true_eq_false]), rfl⟩) dX5_voice_78
          · skip
            refine x_tableIn hE 79 (x_tsl e38 (by decide)) (x_tsh e38 (by decide) (by decide)) (by rw [x_tsn e38 (by decide)]; rfl) (by decide) dX5_voice_38 ?_
            refine x_aload_n hE 0 rfl dX5_voice_79 ?_
            refine x_get hE g36 0 rfl rfl dX5_voice_80 ?_
            refine x_iload_n hE 1 rfl dX5_voice_83 ?_
            refine x_iald hE v (kk v) (by omega) (by decide) rfl 7 rfl dX5_voice_84 ?_
            exact x_iret hE hr (⟨by rw [selN_in e38 (by decide) (by decide)]; first | rfl | (simp only [sel5, b2n, if_pos c11, if_pos c22, if_neg c31, reduceIte, Bool.false_eq_true, Bool.true_eq_false]), rfl⟩) dX5_voice_85
          · skip
            refine x_tableIn hE 86 (x_tsl e38 (by decide)) (x_tsh e38 (by decide) (by decide)) (by rw [x_tsn e38 (by decide)]; rfl) (by decide) dX5_voice_38 ?_
            refine x_aload_n hE 0 rfl dX5_voice_86 ?_
            refine x_get hE g39 0 rfl rfl dX5_voice_87 ?_
            refine x_iload_n hE 1 rfl dX5_voice_90 ?_
            refine x_iald hE v (ve v) (by omega) (by decide) rfl 8 rfl dX5_voice_91 ?_
            exact x_iret hE hr (⟨by rw [selN_in e38 (by decide) (by decide)]; first | rfl | (simp only [sel5, b2n, if_pos c11, if_pos c22, if_neg c31, reduceIte, Bool.false_eq_true, Bool.true_eq_false]), rfl⟩) dX5_voice_92
          · skip
            refine x_tableIn hE 93 (x_tsl e38 (by decide)) (x_tsh e38 (by decide) (by decide)) (by rw [x_tsn e38 (by decide)]; rfl) (by decide) dX5_voice_38 ?_
            refine x_aload_n hE 0 rfl dX5_voice_93 ?_
            refine x_get hE g42 0 rfl rfl dX5_voice_94 ?_
            refine x_iload_n hE 1 rfl dX5_voice_97 ?_
            refine x_iald hE v (si v) (by omega) (by decide) rfl 9 rfl dX5_voice_98 ?_
            exact x_iret hE hr (⟨by rw [selN_in e38 (by decide) (by decide)]; first | rfl | (simp only [sel5, b2n, if_pos c11, if_pos c22, if_neg c31, reduceIte, Bool.false_eq_true, Bool.true_eq_false]), rfl⟩) dX5_voice_99
          · skip
            refine x_tableIn hE 100 (x_tsl e38 (by decide)) (x_tsh e38 (by decide) (by decide)) (by rw [x_tsn e38 (by decide)]; rfl) (by decide) dX5_voice_38 ?_
            refine x_aload_n hE 0 rfl dX5_voice_100 ?_
            refine x_get hE g45 0 rfl rfl dX5_voice_101 ?_
            refine x_iload_n hE 1 rfl dX5_voice_104 ?_
            refine x_zald hE v (ca v) (by omega) (by decide) rfl 10 rfl dX5_voice_105 ?_
            refine xb_if_eq hE 113 (by decide) dX5_voice_106 (fun c106 => ?_) (fun c106 => ?_)
            · skip
              refine x_iconst hE (nI 0) (by decide) dX5_voice_113 ?_
              exact x_iret hE hr (⟨by rw [selN_in e38 (by decide) (by decide)]; first | rfl | (simp only [sel5, b2n, if_pos c11, if_pos c22, if_neg c31, if_neg (bnt c106), reduceIte, Bool.false_eq_true, Bool.true_eq_false]), rfl⟩) dX5_voice_114
            · skip
              refine x_iconst hE (nI 1) (by decide) dX5_voice_109 ?_
              refine x_goto hE 114 (by decide) dX5_voice_110 ?_
              exact x_iret hE hr (⟨by rw [selN_in e38 (by decide) (by decide)]; first | rfl | (simp only [sel5, b2n, if_pos c11, if_pos c22, if_neg c31, if_pos c106, reduceIte, Bool.false_eq_true, Bool.true_eq_false]), rfl⟩) dX5_voice_114
      · skip
        refine x_bipush hE (-3) (by decide) dX5_voice_34 ?_
        exact x_iret hE hr (⟨by rw [if_pos c31, if_pos c31, if_pos c31, sel5_mid c22], rfl⟩) dX5_voice_36
  · skip
    exact absurd c11 (by rw [wi_ok (Nat.zero_le v) (by omega) (by omega)]; decide)
set_option maxHeartbeats 4000000 in
set_option maxRecDepth 100000 in
theorem kX5_voice_bad (l : Launch) (D : va_G) (cI cZ : ClassId) (h0 : Nat) (d1 : Nat) (d2 : Nat) (d3 : Nat) (d4 : Nat) (d5 : Nat) (d6 : Nat) (d7 : Nat) (d8 : Nat) (d9 : Nat) (d10 : Nat) (d11 : Nat) (d12 : Nat) (d13 : Nat) (R : Nat) (C : Nat) (dio : Bool) (bk : Bool) (lt : Bool) (sl : Int32) (V : Nat) (ru : Int32) (sus : Bool) (sos : Bool) (T : Nat) (pos : Nat → Nat) (ph : Nat → Int32) (bg : Nat → Int32) (fs : Nat → Bool) (gs : Nat → Bool) (st : Nat → Int32) (kk : Nat → Int32) (ve : Nat → Int32) (si : Nat → Int32) (ca : Nat → Bool) (mk : Nat) (lg : Nat → Int32) (sk : Int32) (rf : Int32) (tk : Int32) (fr : Nat) (fc : Nat) (op : Nat → Int32) (ob : Nat → Int32) (v : Int32) (w : Int32) (hV : 1 ≤ V ∧ V ≤ 8) (hh : wiB v (nI 0) (nI (V - 1)) = false) : xC l yX5_voice wsX5_voice 1 0 0 22 D cI cZ [.ref h0, .int v, .int w] [(h0, .inr (5, [.int (nI R), .int (nI C), .int (bI dio), .int (bI bk), .int (bI lt), .int sl, .int (nI V), .int ru, .int (bI sus), .int (bI sos), .int (nI T), .ref d1, .ref d2, .ref d3, .ref d4, .ref d5, .ref d6, .ref d7, .ref d8, .ref d9, .ref d10, .int (nI mk), .ref d11, .int sk, .int rf, .int tk, .int (nI fr), .int (nI fc), .ref d12, .ref d13])), (d1, .inl (cI, 64, .inl (xN pos))), (d2, .inl (cI, 64, .inl ph)), (d3, .inl (cI, 64, .inl bg)), (d4, .inl (cZ, 64, .inl (xB fs))), (d5, .inl (cZ, 64, .inl (xB gs))), (d6, .inl (cI, 8, .inl st)), (d7, .inl (cI, 8, .inl kk)), (d8, .inl (cI, 8, .inl ve)), (d9, .inl (cI, 8, .inl si)), (d10, .inl (cZ, 8, .inl (xB ca))), (d11, .inl (cI, 48, .inl lg)), (d12, .inl (cI, 64, .inl op)), (d13, .inl (cI, 64, .inl ob))] (fun v8 w8 => v8 = some (.int (-1)) ∧ w8 = [(h0, .inr (5, [.int (nI R), .int (nI C), .int (bI dio), .int (bI bk), .int (bI lt), .int sl, .int (nI V), .int ru, .int (bI sus), .int (bI sos), .int (nI T), .ref d1, .ref d2, .ref d3, .ref d4, .ref d5, .ref d6, .ref d7, .ref d8, .ref d9, .ref d10, .int (nI mk), .ref d11, .int sk, .int rf, .int tk, .int (nI fr), .int (nI fc), .ref d12, .ref d13])), (d1, .inl (cI, 64, .inl (xN pos))), (d2, .inl (cI, 64, .inl ph)), (d3, .inl (cI, 64, .inl bg)), (d4, .inl (cZ, 64, .inl (xB fs))), (d5, .inl (cZ, 64, .inl (xB gs))), (d6, .inl (cI, 8, .inl st)), (d7, .inl (cI, 8, .inl kk)), (d8, .inl (cI, 8, .inl ve)), (d9, .inl (cI, 8, .inl si)), (d10, .inl (cZ, 8, .inl (xB ca))), (d11, .inl (cI, 48, .inl lg)), (d12, .inl (cI, 64, .inl op)), (d13, .inl (cI, 64, .inl ob))]) := by
  refine xC.of (bytes := cX5_voice) (maxL := 3) (ret := (some .int)) (own := RX5) (by decide +kernel) rfl (Nat.le_of_ble_eq_true rfl) rfl ?_
  intro p9 e9 s9 m9 args9 below9 meth9 cd9 A hE hr hin2 hA9
  have inX5 : ∀ w ∈ wsX50, w ∈ wsX5_voice := fun w h => List.mem_cons_of_mem _ (List.mem_append_right _ h)
  have g13 : xF RX5 wsX5_voice 13 5 6 := ⟨"KeyScannerModel", RX5, TX5, 30, inX5, rfl, by decide, List.mem_of_getElem? (i := 1) rfl, rfl⟩
  refine x_at (ws' := [(h0, .inr (5, [.int (nI R), .int (nI C), .int (bI dio), .int (bI bk), .int (bI lt), .int sl, .int (nI V), .int ru, .int (bI sus), .int (bI sos), .int (nI T), .ref d1, .ref d2, .ref d3, .ref d4, .ref d5, .ref d6, .ref d7, .ref d8, .ref d9, .ref d10, .int (nI mk), .ref d11, .int sk, .int rf, .int tk, .int (nI fr), .int (nI fc), .ref d12, .ref d13])), (d1, .inl (cI, 64, .inl (xN pos))), (d2, .inl (cI, 64, .inl ph)), (d3, .inl (cI, 64, .inl bg)), (d4, .inl (cZ, 64, .inl (xB fs))), (d5, .inl (cZ, 64, .inl (xB gs))), (d6, .inl (cI, 8, .inl st)), (d7, .inl (cI, 8, .inl kk)), (d8, .inl (cI, 8, .inl ve)), (d9, .inl (cI, 8, .inl si)), (d10, .inl (cZ, 8, .inl (xB ca))), (d11, .inl (cI, 48, .inl lg)), (d12, .inl (cI, 64, .inl op)), (d13, .inl (cI, 64, .inl ob))]) (st' := []) rfl rfl ?_
  refine x_lv [(0, .ref h0), (1, .int v), (2, .int w)] [0, 1, 2] rfl ?_
  refine x_iload_n hE 1 rfl dX5_voice_0 ?_
  refine x_iconst hE (nI 0) (by decide) dX5_voice_1 ?_
  refine x_aload_n hE 0 rfl dX5_voice_2 ?_
  refine x_get hE g13 0 rfl rfl dX5_voice_3 ?_
  refine x_iconst hE (nI 1) (by decide) dX5_voice_6 ?_
  refine x_isub hE (nI (V - 1)) (xI_sub (by omega)) dX5_voice_7 ?_
  refine x_callS (n := 3) (st := []) hE (kX5_in l D cI cZ v (nI 0) (nI (V - 1)) ) gX5_voice_X5_in rfl (by decide +kernel) ⟨by decide, by decide⟩ ⟨Nat.zero_le _, Nat.zero_le _⟩ rfl [] [0, 1, 2, 3, 4, 5, 6, 7, 8, 9, 10, 11, 12, 13] rfl (wr := [(h0, .inr (5, [.int (nI R), .int (nI C), .int (bI dio), .int (bI bk), .int (bI lt), .int sl, .int (nI V), .int ru, .int (bI sus), .int (bI sos), .int (nI T), .ref d1, .ref d2, .ref d3, .ref d4, .ref d5, .ref d6, .ref d7, .ref d8, .ref d9, .ref d10, .int (nI mk), .ref d11, .int sk, .int rf, .int tk, .int (nI fr), .int (nI fc), .ref d12, .ref d13])), (d1, .inl (cI, 64, .inl (xN pos))), (d2, .inl (cI, 64, .inl ph)), (d3, .inl (cI, 64, .inl bg)), (d4, .inl (cZ, 64, .inl (xB fs))), (d5, .inl (cZ, 64, .inl (xB gs))), (d6, .inl (cI, 8, .inl st)), (d7, .inl (cI, 8, .inl kk)), (d8, .inl (cI, 8, .inl ve)), (d9, .inl (cI, 8, .inl si)), (d10, .inl (cZ, 8, .inl (xB ca))), (d11, .inl (cI, 48, .inl lg)), (d12, .inl (cI, 64, .inl op)), (d13, .inl (cI, 64, .inl ob))]) rfl (by decide) (by decide) (by decide) rfl (Nat.le_of_ble_eq_true rfl) dX5_voice_8 (fun v9 w9 hT9 => ?_)
  obtain ⟨rfl, rfl⟩ := hT9
  refine x_at (ws' := [(h0, .inr (5, [.int (nI R), .int (nI C), .int (bI dio), .int (bI bk), .int (bI lt), .int sl, .int (nI V), .int ru, .int (bI sus), .int (bI sos), .int (nI T), .ref d1, .ref d2, .ref d3, .ref d4, .ref d5, .ref d6, .ref d7, .ref d8, .ref d9, .ref d10, .int (nI mk), .ref d11, .int sk, .int rf, .int tk, .int (nI fr), .int (nI fc), .ref d12, .ref d13])), (d1, .inl (cI, 64, .inl (xN pos))), (d2, .inl (cI, 64, .inl ph)), (d3, .inl (cI, 64, .inl bg)), (d4, .inl (cZ, 64, .inl (xB fs))), (d5, .inl (cZ, 64, .inl (xB gs))), (d6, .inl (cI, 8, .inl st)), (d7, .inl (cI, 8, .inl kk)), (d8, .inl (cI, 8, .inl ve)), (d9, .inl (cI, 8, .inl si)), (d10, .inl (cZ, 8, .inl (xB ca))), (d11, .inl (cI, 48, .inl lg)), (d12, .inl (cI, 64, .inl op)), (d13, .inl (cI, 64, .inl ob))]) (st' := [.int (bI (wiB v (nI 0) (nI (V - 1))))]) rfl rfl ?_
  refine xb_if_ne hE 16 (by decide) dX5_voice_11 (fun c11 => ?_) (fun c11 => ?_)
  · skip
    exact absurd c11 (by rw [hh]; decide)
  · skip
    refine x_iconst hE (-1) (by decide) dX5_voice_14 ?_
    exact x_iret hE hr (⟨rfl, rfl⟩) dX5_voice_15
set_option maxHeartbeats 4000000 in
set_option maxRecDepth 100000 in
theorem kX5_count (l : Launch) (D : va_G) (cI cZ : ClassId) (h0 : Nat) (d1 : Nat) (d2 : Nat) (d3 : Nat) (d4 : Nat) (d5 : Nat) (d6 : Nat) (d7 : Nat) (d8 : Nat) (d9 : Nat) (d10 : Nat) (d11 : Nat) (d12 : Nat) (d13 : Nat) (R : Nat) (C : Nat) (dio : Bool) (bk : Bool) (lt : Bool) (sl : Int32) (V : Nat) (ru : Int32) (sus : Bool) (sos : Bool) (T : Nat) (pos : Nat → Nat) (ph : Nat → Int32) (bg : Nat → Int32) (fs : Nat → Bool) (gs : Nat → Bool) (st : Nat → Int32) (kk : Nat → Int32) (ve : Nat → Int32) (si : Nat → Int32) (ca : Nat → Bool) (mk : Nat) (lg : Nat → Int32) (sk : Int32) (rf : Int32) (tk : Int32) (fr : Nat) (fc : Nat) (op : Nat → Int32) (ob : Nat → Int32) (w : Int32) (hR : 1 ≤ R ∧ R ≤ 8) (hC : 1 ≤ C ∧ C ≤ 8) (hV : 1 ≤ V ∧ V ≤ 8) (hpos : ∀ k, pos k ≤ 2) : xC l yX5_count wsX5_count 2 0 0 45 D cI cZ [.ref h0, .int w] [(h0, .inr (5, [.int (nI R), .int (nI C), .int (bI dio), .int (bI bk), .int (bI lt), .int sl, .int (nI V), .int ru, .int (bI sus), .int (bI sos), .int (nI T), .ref d1, .ref d2, .ref d3, .ref d4, .ref d5, .ref d6, .ref d7, .ref d8, .ref d9, .ref d10, .int (nI mk), .ref d11, .int sk, .int rf, .int tk, .int (nI fr), .int (nI fc), .ref d12, .ref d13])), (d1, .inl (cI, 64, .inl (xN pos))), (d2, .inl (cI, 64, .inl ph)), (d3, .inl (cI, 64, .inl bg)), (d4, .inl (cZ, 64, .inl (xB fs))), (d5, .inl (cZ, 64, .inl (xB gs))), (d6, .inl (cI, 8, .inl st)), (d7, .inl (cI, 8, .inl kk)), (d8, .inl (cI, 8, .inl ve)), (d9, .inl (cI, 8, .inl si)), (d10, .inl (cZ, 8, .inl (xB ca))), (d11, .inl (cI, 48, .inl lg)), (d12, .inl (cI, 64, .inl op)), (d13, .inl (cI, 64, .inl ob))] (fun v8 w8 => v8 = some (.int (selN w 11 (sel12 (nI T) (nI (R * C)) (nI (prM pos (R * C))) (nI (gcM fs gs pos (R * C))) (nI (dcM fs R C)) (nI V) (nI (cvM st V).1) (nI (cvM st V).2) (nI mk) sk rf tk))) ∧ w8 = [(h0, .inr (5, [.int (nI R), .int (nI C), .int (bI dio), .int (bI bk), .int (bI lt), .int sl, .int (nI V), .int ru, .int (bI sus), .int (bI sos), .int (nI T), .ref d1, .ref d2, .ref d3, .ref d4, .ref d5, .ref d6, .ref d7, .ref d8, .ref d9, .ref d10, .int (nI mk), .ref d11, .int sk, .int rf, .int tk, .int (nI fr), .int (nI fc), .ref d12, .ref d13])), (d1, .inl (cI, 64, .inl (xN pos))), (d2, .inl (cI, 64, .inl ph)), (d3, .inl (cI, 64, .inl bg)), (d4, .inl (cZ, 64, .inl (xB fs))), (d5, .inl (cZ, 64, .inl (xB gs))), (d6, .inl (cI, 8, .inl st)), (d7, .inl (cI, 8, .inl kk)), (d8, .inl (cI, 8, .inl ve)), (d9, .inl (cI, 8, .inl si)), (d10, .inl (cZ, 8, .inl (xB ca))), (d11, .inl (cI, 48, .inl lg)), (d12, .inl (cI, 64, .inl op)), (d13, .inl (cI, 64, .inl ob))]) := by
  refine xC.of (bytes := cX5_count) (maxL := 6) (ret := (some .int)) (own := RX5) (by decide +kernel) rfl (Nat.le_of_ble_eq_true rfl) rfl ?_
  intro p9 e9 s9 m9 args9 below9 meth9 cd9 A hE hr hin2 hA9
  have inX5 : ∀ w ∈ wsX50, w ∈ wsX5_count := fun w h => List.mem_cons_of_mem _ (List.mem_append_right _ h)
  have g13 : xF RX5 wsX5_count 13 5 6 := ⟨"KeyScannerModel", RX5, TX5, 30, inX5, rfl, by decide, List.mem_of_getElem? (i := 1) rfl, rfl⟩
  have g74 : xF RX5 wsX5_count 74 5 10 := ⟨"KeyScannerModel", RX5, TX5, 30, inX5, rfl, by decide, List.mem_of_getElem? (i := 3) rfl, rfl⟩
  have g77 : xF RX5 wsX5_count 77 5 21 := ⟨"KeyScannerModel", RX5, TX5, 30, inX5, rfl, by decide, List.mem_of_getElem? (i := 4) rfl, rfl⟩
  have g80 : xF RX5 wsX5_count 80 5 23 := ⟨"KeyScannerModel", RX5, TX5, 30, inX5, rfl, by decide, List.mem_of_getElem? (i := 5) rfl, rfl⟩
  have g83 : xF RX5 wsX5_count 83 5 24 := ⟨"KeyScannerModel", RX5, TX5, 30, inX5, rfl, by decide, List.mem_of_getElem? (i := 6) rfl, rfl⟩
  have g86 : xF RX5 wsX5_count 86 5 25 := ⟨"KeyScannerModel", RX5, TX5, 30, inX5, rfl, by decide, List.mem_of_getElem? (i := 7) rfl, rfl⟩
  have g33 : xF RX5 wsX5_count 33 5 16 := ⟨"KeyScannerModel", RX5, TX5, 30, inX5, rfl, by decide, List.mem_of_getElem? (i := 2) rfl, rfl⟩
  have hRC : R * C ≤ 64 := Nat.mul_le_mul hR.2 hC.2
  refine x_at (ws' := [(h0, .inr (5, [.int (nI R), .int (nI C), .int (bI dio), .int (bI bk), .int (bI lt), .int sl, .int (nI V), .int ru, .int (bI sus), .int (bI sos), .int (nI T), .ref d1, .ref d2, .ref d3, .ref d4, .ref d5, .ref d6, .ref d7, .ref d8, .ref d9, .ref d10, .int (nI mk), .ref d11, .int sk, .int rf, .int tk, .int (nI fr), .int (nI fc), .ref d12, .ref d13])), (d1, .inl (cI, 64, .inl (xN pos))), (d2, .inl (cI, 64, .inl ph)), (d3, .inl (cI, 64, .inl bg)), (d4, .inl (cZ, 64, .inl (xB fs))), (d5, .inl (cZ, 64, .inl (xB gs))), (d6, .inl (cI, 8, .inl st)), (d7, .inl (cI, 8, .inl kk)), (d8, .inl (cI, 8, .inl ve)), (d9, .inl (cI, 8, .inl si)), (d10, .inl (cZ, 8, .inl (xB ca))), (d11, .inl (cI, 48, .inl lg)), (d12, .inl (cI, 64, .inl op)), (d13, .inl (cI, 64, .inl ob))]) (st' := []) rfl rfl ?_
  refine x_lv [(0, .ref h0), (1, .int w)] [0, 1] rfl ?_
  have lp42 : ∀ (n : Nat) (i : Nat) (ax : Nat) (bx : Nat) (hi : i + n = V) (hT : lfor (cvS st) i n (ax, bx) = cvM st V), X p9 l e9 { frames := 2, cells := 0, slots := 0, locals := 45 } s9 m9 args9 below9 meth9 cd9 0 0 (MQ below9 (xQ D (fun v8 w8 => v8 = some (.int (selN w 11 (sel12 (nI T) (nI (R * C)) (nI (prM pos (R * C))) (nI (gcM fs gs pos (R * C))) (nI (dcM fs R C)) (nI V) (nI (cvM st V).1) (nI (cvM st V).2) (nI mk) sk rf tk))) ∧ w8 = [(h0, .inr (5, [.int (nI R), .int (nI C), .int (bI dio), .int (bI bk), .int (bI lt), .int sl, .int (nI V), .int ru, .int (bI sus), .int (bI sos), .int (nI T), .ref d1, .ref d2, .ref d3, .ref d4, .ref d5, .ref d6, .ref d7, .ref d8, .ref d9, .ref d10, .int (nI mk), .ref d11, .int sk, .int rf, .int tk, .int (nI fr), .int (nI fc), .ref d12, .ref d13])), (d1, .inl (cI, 64, .inl (xN pos))), (d2, .inl (cI, 64, .inl ph)), (d3, .inl (cI, 64, .inl bg)), (d4, .inl (cZ, 64, .inl (xB fs))), (d5, .inl (cZ, 64, .inl (xB gs))), (d6, .inl (cI, 8, .inl st)), (d7, .inl (cI, 8, .inl kk)), (d8, .inl (cI, 8, .inl ve)), (d9, .inl (cI, 8, .inl si)), (d10, .inl (cZ, 8, .inl (xB ca))), (d11, .inl (cI, 48, .inl lg)), (d12, .inl (cI, 64, .inl op)), (d13, .inl (cI, 64, .inl ob))]) A) args9 s9 0 0 A) 6 D A [(h0, .inr (5, [.int (nI R), .int (nI C), .int (bI dio), .int (bI bk), .int (bI lt), .int sl, .int (nI V), .int ru, .int (bI sus), .int (bI sos), .int (nI T), .ref d1, .ref d2, .ref d3, .ref d4, .ref d5, .ref d6, .ref d7, .ref d8, .ref d9, .ref d10, .int (nI mk), .ref d11, .int sk, .int rf, .int tk, .int (nI fr), .int (nI fc), .ref d12, .ref d13])), (d1, .inl (cI, 64, .inl (xN pos))), (d2, .inl (cI, 64, .inl ph)), (d3, .inl (cI, 64, .inl bg)), (d4, .inl (cZ, 64, .inl (xB fs))), (d5, .inl (cZ, 64, .inl (xB gs))), (d6, .inl (cI, 8, .inl st)), (d7, .inl (cI, 8, .inl kk)), (d8, .inl (cI, 8, .inl ve)), (d9, .inl (cI, 8, .inl si)), (d10, .inl (cZ, 8, .inl (xB ca))), (d11, .inl (cI, 48, .inl lg)), (d12, .inl (cI, 64, .inl op)), (d13, .inl (cI, 64, .inl ob))] [(0, .ref h0), (1, .int w), (2, .int (nI (dcM fs R C))), (3, .int (nI ax)), (4, .int (nI bx)), (5, .int (nI i))] 42 [] := by
    intro n
    induction n with
    | zero =>
      intro i ax bx hi hT
      refine x_iload hE 5 rfl dX5_count_42 ?_
      refine x_aload_n hE 0 rfl dX5_count_44 ?_
      refine x_get hE g13 0 rfl rfl dX5_count_45 ?_
      refine xn_icmp_ge hE (by omega) (by omega) 96 (by decide) dX5_count_48 (fun c48 => ?_) (fun c48 => ?_)
      · skip
        refine x_iload_n hE 1 rfl dX5_count_96 ?_
        rcases x_tsw w 11 (by decide) with c97 | c97
        · skip
          refine x_tableOut hE 212 c97 (by decide) dX5_count_97 ?_
          refine x_bipush hE (-2) (by decide) dX5_count_212 ?_
          exact x_iret hE hr (⟨by rw [selN_out c97], rfl⟩) dX5_count_214
        · skip
          obtain ⟨k97, hk97, e97⟩ := c97
          have hk97 : k97 = 0 ∨ k97 = 1 ∨ k97 = 2 ∨ k97 = 3 ∨ k97 = 4 ∨ k97 = 5 ∨ k97 = 6 ∨ k97 = 7 ∨ k97 = 8 ∨ k97 = 9 ∨ k97 = 10 ∨ k97 = 11 := by omega
          rcases hk97 with rfl | rfl | rfl | rfl | rfl | rfl | rfl | rfl | rfl | rfl | rfl | rfl
          · skip
            refine x_tableIn hE 160 (x_tsl e97 (by decide)) (x_tsh e97 (by decide) (by decide)) (by rw [x_tsn e97 (by decide)]; rfl) (by decide) dX5_count_97 ?_
            refine x_aload_n hE 0 rfl dX5_count_160 ?_
            refine x_get hE g74 0 rfl rfl dX5_count_161 ?_
            exact x_iret hE hr (⟨by rw [selN_in e97 (by decide) (by decide), ← show (ax, bx) = cvM st V from hT]; rfl, rfl⟩) dX5_count_164
          · skip
            refine x_tableIn hE 165 (x_tsl e97 (by decide)) (x_tsh e97 (by decide) (by decide)) (by rw [x_tsn e97 (by decide)]; rfl) (by decide) dX5_count_97 ?_
            refine x_aload_n hE 0 rfl dX5_count_165 ?_
            refine x_callV (n := 0) (st := []) hE (kX5_keys l D cI cZ h0 d1 d2 d3 d4 d5 d6 d7 d8 d9 d10 d11 d12 d13 R C dio bk lt sl V ru sus sos T pos ph bg fs gs st kk ve si ca mk lg sk rf tk fr fc op ob ) gX5_count_X5_keys rfl (by decide +kernel) ⟨by decide, by decide⟩ ⟨Nat.zero_le _, Nat.zero_le _⟩ rfl [0, 1, 2, 3, 4, 5, 6, 7, 8, 9, 10, 11, 12, 13] [] rfl (wr := []) rfl (by decide) (by decide) (by decide) 0 rfl rfl rfl rfl (Nat.le_of_ble_eq_true rfl) dX5_count_166 (fun v9 w9 hT9 => ?_)
            obtain ⟨rfl, rfl⟩ := hT9
            refine x_at (ws' := [(h0, .inr (5, [.int (nI R), .int (nI C), .int (bI dio), .int (bI bk), .int (bI lt), .int sl, .int (nI V), .int ru, .int (bI sus), .int (bI sos), .int (nI T), .ref d1, .ref d2, .ref d3, .ref d4, .ref d5, .ref d6, .ref d7, .ref d8, .ref d9, .ref d10, .int (nI mk), .ref d11, .int sk, .int rf, .int tk, .int (nI fr), .int (nI fc), .ref d12, .ref d13])), (d1, .inl (cI, 64, .inl (xN pos))), (d2, .inl (cI, 64, .inl ph)), (d3, .inl (cI, 64, .inl bg)), (d4, .inl (cZ, 64, .inl (xB fs))), (d5, .inl (cZ, 64, .inl (xB gs))), (d6, .inl (cI, 8, .inl st)), (d7, .inl (cI, 8, .inl kk)), (d8, .inl (cI, 8, .inl ve)), (d9, .inl (cI, 8, .inl si)), (d10, .inl (cZ, 8, .inl (xB ca))), (d11, .inl (cI, 48, .inl lg)), (d12, .inl (cI, 64, .inl op)), (d13, .inl (cI, 64, .inl ob))]) (st' := [.int (nI (R * C))]) rfl rfl ?_
            exact x_iret hE hr (⟨by rw [selN_in e97 (by decide) (by decide), ← show (ax, bx) = cvM st V from hT]; rfl, rfl⟩) dX5_count_169
          · skip
            refine x_tableIn hE 170 (x_tsl e97 (by decide)) (x_tsh e97 (by decide) (by decide)) (by rw [x_tsn e97 (by decide)]; rfl) (by decide) dX5_count_97 ?_
            refine x_aload_n hE 0 rfl dX5_count_170 ?_
            refine x_callV (n := 0) (st := []) hE (kX5_pressed l D cI cZ h0 d1 d2 d3 d4 d5 d6 d7 d8 d9 d10 d11 d12 d13 R C dio bk lt sl V ru sus sos T pos ph bg fs gs st kk ve si ca mk lg sk rf tk fr fc op ob (by omega) (by omega) (by assumption)) gX5_count_X5_pressed rfl (by decide +kernel) ⟨by decide, by decide⟩ ⟨Nat.zero_le _, Nat.zero_le _⟩ rfl [0, 1, 2, 3, 4, 5, 6, 7, 8, 9, 10, 11, 12, 13] [] rfl (wr := []) rfl (by decide) (by decide) (by decide) 0 rfl rfl rfl rfl (Nat.le_of_ble_eq_true rfl) dX5_count_171 (fun v9 w9 hT9 => ?_)
            obtain ⟨rfl, rfl⟩ := hT9
            refine x_at (ws' := [(h0, .inr (5, [.int (nI R), .int (nI C), .int (bI dio), .int (bI bk), .int (bI lt), .int sl, .int (nI V), .int ru, .int (bI sus), .int (bI sos), .int (nI T), .ref d1, .ref d2, .ref d3, .ref d4, .ref d5, .ref d6, .ref d7, .ref d8, .ref d9, .ref d10, .int (nI mk), .ref d11, .int sk, .int rf, .int tk, .int (nI fr), .int (nI fc), .ref d12, .ref d13])), (d1, .inl (cI, 64, .inl (xN pos))), (d2, .inl (cI, 64, .inl ph)), (d3, .inl (cI, 64, .inl bg)), (d4, .inl (cZ, 64, .inl (xB fs))), (d5, .inl (cZ, 64, .inl (xB gs))), (d6, .inl (cI, 8, .inl st)), (d7, .inl (cI, 8, .inl kk)), (d8, .inl (cI, 8, .inl ve)), (d9, .inl (cI, 8, .inl si)), (d10, .inl (cZ, 8, .inl (xB ca))), (d11, .inl (cI, 48, .inl lg)), (d12, .inl (cI, 64, .inl op)), (d13, .inl (cI, 64, .inl ob))]) (st' := [.int (nI (prM pos (R * C)))]) rfl rfl ?_
            exact x_iret hE hr (⟨by rw [selN_in e97 (by decide) (by decide), ← show (ax, bx) = cvM st V from hT]; rfl, rfl⟩) dX5_count_174
          · skip
            refine x_tableIn hE 175 (x_tsl e97 (by decide)) (x_tsh e97 (by decide) (by decide)) (by rw [x_tsn e97 (by decide)]; rfl) (by decide) dX5_count_97 ?_
            refine x_aload_n hE 0 rfl dX5_count_175 ?_
            refine x_callV (n := 0) (st := []) hE (kX5_ghosts l D cI cZ h0 d1 d2 d3 d4 d5 d6 d7 d8 d9 d10 d11 d12 d13 R C dio bk lt sl V ru sus sos T pos ph bg fs gs st kk ve si ca mk lg sk rf tk fr fc op ob (by omega) (by omega) (by assumption)) gX5_count_X5_ghosts rfl (by decide +kernel) ⟨by decide, by decide⟩ ⟨Nat.zero_le _, Nat.zero_le _⟩ rfl [0, 1, 2, 3, 4, 5, 6, 7, 8, 9, 10, 11, 12, 13] [] rfl (wr := []) rfl (by decide) (by decide) (by decide) 0 rfl rfl rfl rfl (Nat.le_of_ble_eq_true rfl) dX5_count_176 (fun v9 w9 hT9 => ?_)
            obtain ⟨rfl, rfl⟩ := hT9
            refine x_at (ws' := [(h0, .inr (5, [.int (nI R), .int (nI C), .int (bI dio), .int (bI bk), .int (bI lt), .int sl, .int (nI V), .int ru, .int (bI sus), .int (bI sos), .int (nI T), .ref d1, .ref d2, .ref d3, .ref d4, .ref d5, .ref d6, .ref d7, .ref d8, .ref d9, .ref d10, .int (nI mk), .ref d11, .int sk, .int rf, .int tk, .int (nI fr), .int (nI fc), .ref d12, .ref d13])), (d1, .inl (cI, 64, .inl (xN pos))), (d2, .inl (cI, 64, .inl ph)), (d3, .inl (cI, 64, .inl bg)), (d4, .inl (cZ, 64, .inl (xB fs))), (d5, .inl (cZ, 64, .inl (xB gs))), (d6, .inl (cI, 8, .inl st)), (d7, .inl (cI, 8, .inl kk)), (d8, .inl (cI, 8, .inl ve)), (d9, .inl (cI, 8, .inl si)), (d10, .inl (cZ, 8, .inl (xB ca))), (d11, .inl (cI, 48, .inl lg)), (d12, .inl (cI, 64, .inl op)), (d13, .inl (cI, 64, .inl ob))]) (st' := [.int (nI (gcM fs gs pos (R * C)))]) rfl rfl ?_
            exact x_iret hE hr (⟨by rw [selN_in e97 (by decide) (by decide), ← show (ax, bx) = cvM st V from hT]; rfl, rfl⟩) dX5_count_179
          · skip
            refine x_tableIn hE 180 (x_tsl e97 (by decide)) (x_tsh e97 (by decide) (by decide)) (by rw [x_tsn e97 (by decide)]; rfl) (by decide) dX5_count_97 ?_
            refine x_iload_n hE 2 rfl dX5_count_180 ?_
            exact x_iret hE hr (⟨by rw [selN_in e97 (by decide) (by decide), ← show (ax, bx) = cvM st V from hT]; rfl, rfl⟩) dX5_count_181
          · skip
            refine x_tableIn hE 182 (x_tsl e97 (by decide)) (x_tsh e97 (by decide) (by decide)) (by rw [x_tsn e97 (by decide)]; rfl) (by decide) dX5_count_97 ?_
            refine x_aload_n hE 0 rfl dX5_count_182 ?_
            refine x_get hE g13 0 rfl rfl dX5_count_183 ?_
            exact x_iret hE hr (⟨by rw [selN_in e97 (by decide) (by decide), ← show (ax, bx) = cvM st V from hT]; rfl, rfl⟩) dX5_count_186
          · skip
            refine x_tableIn hE 187 (x_tsl e97 (by decide)) (x_tsh e97 (by decide) (by decide)) (by rw [x_tsn e97 (by decide)]; rfl) (by decide) dX5_count_97 ?_
            refine x_iload_n hE 3 rfl dX5_count_187 ?_
            exact x_iret hE hr (⟨by rw [selN_in e97 (by decide) (by decide), ← show (ax, bx) = cvM st V from hT]; rfl, rfl⟩) dX5_count_188
          · skip
            refine x_tableIn hE 189 (x_tsl e97 (by decide)) (x_tsh e97 (by decide) (by decide)) (by rw [x_tsn e97 (by decide)]; rfl) (by decide) dX5_count_97 ?_
            refine x_iload hE 4 rfl dX5_count_189 ?_
            exact x_iret hE hr (⟨by rw [selN_in e97 (by decide) (by decide), ← show (ax, bx) = cvM st V from hT]; rfl, rfl⟩) dX5_count_191
          · skip
            refine x_tableIn hE 192 (x_tsl e97 (by decide)) (x_tsh e97 (by decide) (by decide)) (by rw [x_tsn e97 (by decide)]; rfl) (by decide) dX5_count_97 ?_
            refine x_aload_n hE 0 rfl dX5_count_192 ?_
            refine x_get hE g77 0 rfl rfl dX5_count_193 ?_
            exact x_iret hE hr (⟨by rw [selN_in e97 (by decide) (by decide), ← show (ax, bx) = cvM st V from hT]; rfl, rfl⟩) dX5_count_196
          · skip
            refine x_tableIn hE 197 (x_tsl e97 (by decide)) (x_tsh e97 (by decide) (by decide)) (by rw [x_tsn e97 (by decide)]; rfl) (by decide) dX5_count_97 ?_
            refine x_aload_n hE 0 rfl dX5_count_197 ?_
            refine x_get hE g80 0 rfl rfl dX5_count_198 ?_
            exact x_iret hE hr (⟨by rw [selN_in e97 (by decide) (by decide), ← show (ax, bx) = cvM st V from hT]; rfl, rfl⟩) dX5_count_201
          · skip
            refine x_tableIn hE 202 (x_tsl e97 (by decide)) (x_tsh e97 (by decide) (by decide)) (by rw [x_tsn e97 (by decide)]; rfl) (by decide) dX5_count_97 ?_
            refine x_aload_n hE 0 rfl dX5_count_202 ?_
            refine x_get hE g83 0 rfl rfl dX5_count_203 ?_
            exact x_iret hE hr (⟨by rw [selN_in e97 (by decide) (by decide), ← show (ax, bx) = cvM st V from hT]; rfl, rfl⟩) dX5_count_206
          · skip
            refine x_tableIn hE 207 (x_tsl e97 (by decide)) (x_tsh e97 (by decide) (by decide)) (by rw [x_tsn e97 (by decide)]; rfl) (by decide) dX5_count_97 ?_
            refine x_aload_n hE 0 rfl dX5_count_207 ?_
            refine x_get hE g86 0 rfl rfl dX5_count_208 ?_
            exact x_iret hE hr (⟨by rw [selN_in e97 (by decide) (by decide), ← show (ax, bx) = cvM st V from hT]; rfl, rfl⟩) dX5_count_211
      · skip
        exfalso; omega
    | succ n ih =>
      intro i ax bx hi hT
      refine x_iload hE 5 rfl dX5_count_42 ?_
      refine x_aload_n hE 0 rfl dX5_count_44 ?_
      refine x_get hE g13 0 rfl rfl dX5_count_45 ?_
      refine xn_icmp_ge hE (by omega) (by omega) 96 (by decide) dX5_count_48 (fun c48 => ?_) (fun c48 => ?_)
      · skip
        exfalso; omega
      · skip
        refine x_iload_n hE 3 rfl dX5_count_51 ?_
        refine x_aload_n hE 0 rfl dX5_count_52 ?_
        refine x_get hE g33 0 rfl rfl dX5_count_53 ?_
        refine x_iload hE 5 rfl dX5_count_56 ?_
        refine x_iald hE i (st i) (by omega) (by decide) rfl 6 rfl dX5_count_58 ?_
        refine x_if_ne hE 66 (by decide) dX5_count_59 (fun c59 => ?_) (fun c59 => ?_)
        · skip
          refine x_iconst hE (nI 1) (by decide) dX5_count_66 ?_
          refine x_iadd hE (nI (ax + 1)) (nI_add _ _) dX5_count_67 ?_
          refine x_istore_n hE [(3, .int (nI (ax + 1))), (0, .ref h0), (1, .int w), (2, .int (nI (dcM fs R C))), (4, .int (nI bx)), (5, .int (nI i))] (by decide) rfl dX5_count_68 ?_
          refine x_iload hE 4 rfl dX5_count_69 ?_
          refine x_aload_n hE 1 rfl dX5_count_71 ?_
          refine x_get hE g33 0 rfl rfl dX5_count_72 ?_
          refine x_iload hE 5 rfl dX5_count_75 ?_
          refine x_iald hE i (st i) (by omega) (by decide) rfl 6 rfl dX5_count_77 ?_
          refine x_iconst hE (nI 2) (by decide) dX5_count_78 ?_
          refine x_icmp_ne hE 86 (by decide) dX5_count_79 (fun c79 => ?_) (fun c79 => ?_)
          · skip
            refine x_iconst hE (nI 0) (by decide) dX5_count_86 ?_
            refine x_iadd hE (nI (bx + 0)) (nI_add _ _) dX5_count_87 ?_
            refine x_istore hE [(4, .int (nI (bx + 0))), (3, .int (nI (ax + 1))), (0, .ref h0), (1, .int w), (2, .int (nI (dcM fs R C))), (5, .int (nI i))] (by decide) rfl dX5_count_88 ?_
            refine x_iinc hE (nI (i + 1)) [(5, .int (nI (i + 1))), (4, .int (nI (bx + 0))), (3, .int (nI (ax + 1))), (0, .ref h0), (1, .int w), (2, .int (nI (dcM fs R C)))] 5 rfl (nI_add _ _) (by decide) rfl dX5_count_90 ?_
            refine x_goto hE 42 (by decide) dX5_count_93 ?_
            refine x_lv [(0, .ref h0), (1, .int w), (2, .int (nI (dcM fs R C))), (3, .int (nI (ax + 1))), (4, .int (nI (bx + 0))), (5, .int (nI (i + 1)))] [3, 4, 5, 2, 1, 0] rfl ?_
            exact ih (i + 1) (ax + 1) (bx + 0) (by omega) (by have h9 := hT; simp only [lfor, lany, cvS, if_pos c48, if_neg c59, if_neg c79, reduceIte, Bool.false_eq_true, Bool.true_eq_false] at h9; exact h9)
          · skip
            refine x_iconst hE (nI 1) (by decide) dX5_count_82 ?_
            refine x_goto hE 87 (by decide) dX5_count_83 ?_
            refine x_iadd hE (nI (bx + 1)) (nI_add _ _) dX5_count_87 ?_
            refine x_istore hE [(4, .int (nI (bx + 1))), (3, .int (nI (ax + 1))), (0, .ref h0), (1, .int w), (2, .int (nI (dcM fs R C))), (5, .int (nI i))] (by decide) rfl dX5_count_88 ?_
            refine x_iinc hE (nI (i + 1)) [(5, .int (nI (i + 1))), (4, .int (nI (bx + 1))), (3, .int (nI (ax + 1))), (0, .ref h0), (1, .int w), (2, .int (nI (dcM fs R C)))] 5 rfl (nI_add _ _) (by decide) rfl dX5_count_90 ?_
            refine x_goto hE 42 (by decide) dX5_count_93 ?_
            refine x_lv [(0, .ref h0), (1, .int w), (2, .int (nI (dcM fs R C))), (3, .int (nI (ax + 1))), (4, .int (nI (bx + 1))), (5, .int (nI (i + 1)))] [3, 4, 5, 2, 1, 0] rfl ?_
            exact ih (i + 1) (ax + 1) (bx + 1) (by omega) (by have h9 := hT; simp only [lfor, lany, cvS, if_pos c48, if_neg c59, if_pos c79, reduceIte, Bool.false_eq_true, Bool.true_eq_false] at h9; exact h9)
        · skip
          refine x_iconst hE (nI 0) (by decide) dX5_count_62 ?_
          refine x_goto hE 67 (by decide) dX5_count_63 ?_
          refine x_iadd hE (nI (ax + 0)) (nI_add _ _) dX5_count_67 ?_
          refine x_istore_n hE [(3, .int (nI (ax + 0))), (0, .ref h0), (1, .int w), (2, .int (nI (dcM fs R C))), (4, .int (nI bx)), (5, .int (nI i))] (by decide) rfl dX5_count_68 ?_
          refine x_iload hE 4 rfl dX5_count_69 ?_
          refine x_aload_n hE 1 rfl dX5_count_71 ?_
          refine x_get hE g33 0 rfl rfl dX5_count_72 ?_
          refine x_iload hE 5 rfl dX5_count_75 ?_
          refine x_iald hE i (st i) (by omega) (by decide) rfl 6 rfl dX5_count_77 ?_
          refine x_iconst hE (nI 2) (by decide) dX5_count_78 ?_
          refine x_icmp_ne hE 86 (by decide) dX5_count_79 (fun c79 => ?_) (fun c79 => ?_)
          · skip
            refine x_iconst hE (nI 0) (by decide) dX5_count_86 ?_
            refine x_iadd hE (nI (bx + 0)) (nI_add _ _) dX5_count_87 ?_
            refine x_istore hE [(4, .int (nI (bx + 0))), (3, .int (nI (ax + 0))), (0, .ref h0), (1, .int w), (2, .int (nI (dcM fs R C))), (5, .int (nI i))] (by decide) rfl dX5_count_88 ?_
            refine x_iinc hE (nI (i + 1)) [(5, .int (nI (i + 1))), (4, .int (nI (bx + 0))), (3, .int (nI (ax + 0))), (0, .ref h0), (1, .int w), (2, .int (nI (dcM fs R C)))] 5 rfl (nI_add _ _) (by decide) rfl dX5_count_90 ?_
            refine x_goto hE 42 (by decide) dX5_count_93 ?_
            refine x_lv [(0, .ref h0), (1, .int w), (2, .int (nI (dcM fs R C))), (3, .int (nI (ax + 0))), (4, .int (nI (bx + 0))), (5, .int (nI (i + 1)))] [3, 4, 5, 2, 1, 0] rfl ?_
            exact ih (i + 1) (ax + 0) (bx + 0) (by omega) (by have h9 := hT; simp only [lfor, lany, cvS, if_pos c48, if_pos c59, if_neg c79, reduceIte, Bool.false_eq_true, Bool.true_eq_false] at h9; exact h9)
          · skip
            refine x_iconst hE (nI 1) (by decide) dX5_count_82 ?_
            refine x_goto hE 87 (by decide) dX5_count_83 ?_
            refine x_iadd hE (nI (bx + 1)) (nI_add _ _) dX5_count_87 ?_
            refine x_istore hE [(4, .int (nI (bx + 1))), (3, .int (nI (ax + 0))), (0, .ref h0), (1, .int w), (2, .int (nI (dcM fs R C))), (5, .int (nI i))] (by decide) rfl dX5_count_88 ?_
            refine x_iinc hE (nI (i + 1)) [(5, .int (nI (i + 1))), (4, .int (nI (bx + 1))), (3, .int (nI (ax + 0))), (0, .ref h0), (1, .int w), (2, .int (nI (dcM fs R C)))] 5 rfl (nI_add _ _) (by decide) rfl dX5_count_90 ?_
            refine x_goto hE 42 (by decide) dX5_count_93 ?_
            refine x_lv [(0, .ref h0), (1, .int w), (2, .int (nI (dcM fs R C))), (3, .int (nI (ax + 0))), (4, .int (nI (bx + 1))), (5, .int (nI (i + 1)))] [3, 4, 5, 2, 1, 0] rfl ?_
            exact ih (i + 1) (ax + 0) (bx + 1) (by omega) (by have h9 := hT; simp only [lfor, lany, cvS, if_pos c48, if_pos c59, if_pos c79, reduceIte, Bool.false_eq_true, Bool.true_eq_false] at h9; exact h9)
  have lp4 : ∀ (n : Nat) (i : Nat) (u : Nat) (hi : i + n = R * C) (hT : lfor (fun k a => a + (if dmM fs R C k = true then 1 else 0)) i n u = dcM fs R C), X p9 l e9 { frames := 2, cells := 0, slots := 0, locals := 45 } s9 m9 args9 below9 meth9 cd9 0 0 (MQ below9 (xQ D (fun v8 w8 => v8 = some (.int (selN w 11 (sel12 (nI T) (nI (R * C)) (nI (prM pos (R * C))) (nI (gcM fs gs pos (R * C))) (nI (dcM fs R C)) (nI V) (nI (cvM st V).1) (nI (cvM st V).2) (nI mk) sk rf tk))) ∧ w8 = [(h0, .inr (5, [.int (nI R), .int (nI C), .int (bI dio), .int (bI bk), .int (bI lt), .int sl, .int (nI V), .int ru, .int (bI sus), .int (bI sos), .int (nI T), .ref d1, .ref d2, .ref d3, .ref d4, .ref d5, .ref d6, .ref d7, .ref d8, .ref d9, .ref d10, .int (nI mk), .ref d11, .int sk, .int rf, .int tk, .int (nI fr), .int (nI fc), .ref d12, .ref d13])), (d1, .inl (cI, 64, .inl (xN pos))), (d2, .inl (cI, 64, .inl ph)), (d3, .inl (cI, 64, .inl bg)), (d4, .inl (cZ, 64, .inl (xB fs))), (d5, .inl (cZ, 64, .inl (xB gs))), (d6, .inl (cI, 8, .inl st)), (d7, .inl (cI, 8, .inl kk)), (d8, .inl (cI, 8, .inl ve)), (d9, .inl (cI, 8, .inl si)), (d10, .inl (cZ, 8, .inl (xB ca))), (d11, .inl (cI, 48, .inl lg)), (d12, .inl (cI, 64, .inl op)), (d13, .inl (cI, 64, .inl ob))]) A) args9 s9 0 0 A) 6 D A [(h0, .inr (5, [.int (nI R), .int (nI C), .int (bI dio), .int (bI bk), .int (bI lt), .int sl, .int (nI V), .int ru, .int (bI sus), .int (bI sos), .int (nI T), .ref d1, .ref d2, .ref d3, .ref d4, .ref d5, .ref d6, .ref d7, .ref d8, .ref d9, .ref d10, .int (nI mk), .ref d11, .int sk, .int rf, .int tk, .int (nI fr), .int (nI fc), .ref d12, .ref d13])), (d1, .inl (cI, 64, .inl (xN pos))), (d2, .inl (cI, 64, .inl ph)), (d3, .inl (cI, 64, .inl bg)), (d4, .inl (cZ, 64, .inl (xB fs))), (d5, .inl (cZ, 64, .inl (xB gs))), (d6, .inl (cI, 8, .inl st)), (d7, .inl (cI, 8, .inl kk)), (d8, .inl (cI, 8, .inl ve)), (d9, .inl (cI, 8, .inl si)), (d10, .inl (cZ, 8, .inl (xB ca))), (d11, .inl (cI, 48, .inl lg)), (d12, .inl (cI, 64, .inl op)), (d13, .inl (cI, 64, .inl ob))] [(0, .ref h0), (1, .int w), (2, .int (nI u)), (3, .int (nI i))] 4 [] := by
    intro n
    induction n with
    | zero =>
      intro i u hi hT
      refine x_iload_n hE 3 rfl dX5_count_4 ?_
      refine x_aload_n hE 0 rfl dX5_count_5 ?_
      refine x_callV (n := 0) (st := [.int (nI i)]) hE (kX5_keys l D cI cZ h0 d1 d2 d3 d4 d5 d6 d7 d8 d9 d10 d11 d12 d13 R C dio bk lt sl V ru sus sos T pos ph bg fs gs st kk ve si ca mk lg sk rf tk fr fc op ob ) gX5_count_X5_keys rfl (by decide +kernel) ⟨by decide, by decide⟩ ⟨Nat.zero_le _, Nat.zero_le _⟩ rfl [0, 1, 2, 3, 4, 5, 6, 7, 8, 9, 10, 11, 12, 13] [] rfl (wr := []) rfl (by decide) (by decide) (by decide) 0 rfl rfl rfl rfl (Nat.le_of_ble_eq_true rfl) dX5_count_6 (fun v9 w9 hT9 => ?_)
      obtain ⟨rfl, rfl⟩ := hT9
      refine x_at (ws' := [(h0, .inr (5, [.int (nI R), .int (nI C), .int (bI dio), .int (bI bk), .int (bI lt), .int sl, .int (nI V), .int ru, .int (bI sus), .int (bI sos), .int (nI T), .ref d1, .ref d2, .ref d3, .ref d4, .ref d5, .ref d6, .ref d7, .ref d8, .ref d9, .ref d10, .int (nI mk), .ref d11, .int sk, .int rf, .int tk, .int (nI fr), .int (nI fc), .ref d12, .ref d13])), (d1, .inl (cI, 64, .inl (xN pos))), (d2, .inl (cI, 64, .inl ph)), (d3, .inl (cI, 64, .inl bg)), (d4, .inl (cZ, 64, .inl (xB fs))), (d5, .inl (cZ, 64, .inl (xB gs))), (d6, .inl (cI, 8, .inl st)), (d7, .inl (cI, 8, .inl kk)), (d8, .inl (cI, 8, .inl ve)), (d9, .inl (cI, 8, .inl si)), (d10, .inl (cZ, 8, .inl (xB ca))), (d11, .inl (cI, 48, .inl lg)), (d12, .inl (cI, 64, .inl op)), (d13, .inl (cI, 64, .inl ob))]) (st' := [.int (nI (R * C)), .int (nI i)]) rfl rfl ?_
      refine xn_icmp_ge hE (by omega) (by omega) 34 (by decide) dX5_count_9 (fun c9 => ?_) (fun c9 => ?_)
      · skip
        have hu9 : u = dcM fs R C := hT
        rw [hu9]
        refine x_iconst hE (nI 0) (by decide) dX5_count_34 ?_
        refine x_istore_n hE [(3, .int (nI 0)), (0, .ref h0), (1, .int w), (2, .int (nI (dcM fs R C)))] (by decide) rfl dX5_count_35 ?_
        refine x_iconst hE (nI 0) (by decide) dX5_count_36 ?_
        refine x_istore hE [(4, .int (nI 0)), (3, .int (nI 0)), (0, .ref h0), (1, .int w), (2, .int (nI (dcM fs R C)))] (by decide) rfl dX5_count_37 ?_
        refine x_iconst hE (nI 0) (by decide) dX5_count_39 ?_
        refine x_istore hE [(5, .int (nI 0)), (4, .int (nI 0)), (3, .int (nI 0)), (0, .ref h0), (1, .int w), (2, .int (nI (dcM fs R C)))] (by decide) rfl dX5_count_40 ?_
        refine x_lv [(0, .ref h0), (1, .int w), (2, .int (nI (dcM fs R C))), (3, .int (nI 0)), (4, .int (nI 0)), (5, .int (nI 0))] [3, 4, 5, 2, 1, 0] rfl ?_
        exact lp42 V 0 0 0 (Nat.zero_add _) (rfl)
      · skip
        exfalso; omega
    | succ n ih =>
      intro i u hi hT
      refine x_iload_n hE 3 rfl dX5_count_4 ?_
      refine x_aload_n hE 0 rfl dX5_count_5 ?_
      refine x_callV (n := 0) (st := [.int (nI i)]) hE (kX5_keys l D cI cZ h0 d1 d2 d3 d4 d5 d6 d7 d8 d9 d10 d11 d12 d13 R C dio bk lt sl V ru sus sos T pos ph bg fs gs st kk ve si ca mk lg sk rf tk fr fc op ob ) gX5_count_X5_keys rfl (by decide +kernel) ⟨by decide, by decide⟩ ⟨Nat.zero_le _, Nat.zero_le _⟩ rfl [0, 1, 2, 3, 4, 5, 6, 7, 8, 9, 10, 11, 12, 13] [] rfl (wr := []) rfl (by decide) (by decide) (by decide) 0 rfl rfl rfl rfl (Nat.le_of_ble_eq_true rfl) dX5_count_6 (fun v9 w9 hT9 => ?_)
      obtain ⟨rfl, rfl⟩ := hT9
      refine x_at (ws' := [(h0, .inr (5, [.int (nI R), .int (nI C), .int (bI dio), .int (bI bk), .int (bI lt), .int sl, .int (nI V), .int ru, .int (bI sus), .int (bI sos), .int (nI T), .ref d1, .ref d2, .ref d3, .ref d4, .ref d5, .ref d6, .ref d7, .ref d8, .ref d9, .ref d10, .int (nI mk), .ref d11, .int sk, .int rf, .int tk, .int (nI fr), .int (nI fc), .ref d12, .ref d13])), (d1, .inl (cI, 64, .inl (xN pos))), (d2, .inl (cI, 64, .inl ph)), (d3, .inl (cI, 64, .inl bg)), (d4, .inl (cZ, 64, .inl (xB fs))), (d5, .inl (cZ, 64, .inl (xB gs))), (d6, .inl (cI, 8, .inl st)), (d7, .inl (cI, 8, .inl kk)), (d8, .inl (cI, 8, .inl ve)), (d9, .inl (cI, 8, .inl si)), (d10, .inl (cZ, 8, .inl (xB ca))), (d11, .inl (cI, 48, .inl lg)), (d12, .inl (cI, 64, .inl op)), (d13, .inl (cI, 64, .inl ob))]) (st' := [.int (nI (R * C)), .int (nI i)]) rfl rfl ?_
      refine xn_icmp_ge hE (by omega) (by omega) 34 (by decide) dX5_count_9 (fun c9 => ?_) (fun c9 => ?_)
      · skip
        exfalso; omega
      · skip
        refine x_iload_n hE 2 rfl dX5_count_12 ?_
        refine x_aload_n hE 0 rfl dX5_count_13 ?_
        refine x_iload_n hE 3 rfl dX5_count_14 ?_
        refine x_callV (n := 1) (st := [.int (nI u)]) hE (kX5_isDoubtful l D cI cZ h0 d1 d2 d3 d4 d5 d6 d7 d8 d9 d10 d11 d12 d13 R C dio bk lt sl V ru sus sos T pos ph bg fs gs st kk ve si ca mk lg sk rf tk fr fc op ob i (by omega) (by omega) (by omega)) gX5_count_X5_isDoubtful rfl (by decide +kernel) ⟨by decide, by decide⟩ ⟨Nat.zero_le _, Nat.zero_le _⟩ rfl [0, 1, 2, 3, 4, 5, 6, 7, 8, 9, 10, 11, 12, 13] [] rfl (wr := []) rfl (by decide) (by decide) (by decide) 0 rfl rfl rfl rfl (Nat.le_of_ble_eq_true rfl) dX5_count_15 (fun v9 w9 hT9 => ?_)
        obtain ⟨rfl, rfl⟩ := hT9
        refine x_at (ws' := [(h0, .inr (5, [.int (nI R), .int (nI C), .int (bI dio), .int (bI bk), .int (bI lt), .int sl, .int (nI V), .int ru, .int (bI sus), .int (bI sos), .int (nI T), .ref d1, .ref d2, .ref d3, .ref d4, .ref d5, .ref d6, .ref d7, .ref d8, .ref d9, .ref d10, .int (nI mk), .ref d11, .int sk, .int rf, .int tk, .int (nI fr), .int (nI fc), .ref d12, .ref d13])), (d1, .inl (cI, 64, .inl (xN pos))), (d2, .inl (cI, 64, .inl ph)), (d3, .inl (cI, 64, .inl bg)), (d4, .inl (cZ, 64, .inl (xB fs))), (d5, .inl (cZ, 64, .inl (xB gs))), (d6, .inl (cI, 8, .inl st)), (d7, .inl (cI, 8, .inl kk)), (d8, .inl (cI, 8, .inl ve)), (d9, .inl (cI, 8, .inl si)), (d10, .inl (cZ, 8, .inl (xB ca))), (d11, .inl (cI, 48, .inl lg)), (d12, .inl (cI, 64, .inl op)), (d13, .inl (cI, 64, .inl ob))]) (st' := [.int (bI (dmM fs R C i)), .int (nI u)]) rfl rfl ?_
        refine xb_if_eq hE 25 (by decide) dX5_count_18 (fun c18 => ?_) (fun c18 => ?_)
        · skip
          refine x_iconst hE (nI 0) (by decide) dX5_count_25 ?_
          refine x_iadd hE (nI (u + 0)) (nI_add _ _) dX5_count_26 ?_
          refine x_istore_n hE [(2, .int (nI (u + 0))), (0, .ref h0), (1, .int w), (3, .int (nI i))] (by decide) rfl dX5_count_27 ?_
          refine x_iinc hE (nI (i + 1)) [(3, .int (nI (i + 1))), (2, .int (nI (u + 0))), (0, .ref h0), (1, .int w)] 3 rfl (nI_add _ _) (by decide) rfl dX5_count_28 ?_
          refine x_goto hE 4 (by decide) dX5_count_31 ?_
          refine x_lv [(0, .ref h0), (1, .int w), (2, .int (nI (u + 0))), (3, .int (nI (i + 1)))] [2, 3, 1, 0] rfl ?_
          exact ih (i + 1) (u + 0) (by omega) (by simpa only [lfor, lany, lfind, if_pos c9, if_neg (bnt c18), reduceIte, Bool.false_eq_true, Bool.true_eq_false] using hT)
        · skip
          refine x_iconst hE (nI 1) (by decide) dX5_count_21 ?_
          refine x_goto hE 26 (by decide) dX5_count_22 ?_
          refine x_iadd hE (nI (u + 1)) (nI_add _ _) dX5_count_26 ?_
          refine x_istore_n hE [(2, .int (nI (u + 1))), (0, .ref h0), (1, .int w), (3, .int (nI i))] (by decide) rfl dX5_count_27 ?_
          refine x_iinc hE (nI (i + 1)) [(3, .int (nI (i + 1))), (2, .int (nI (u + 1))), (0, .ref h0), (1, .int w)] 3 rfl (nI_add _ _) (by decide) rfl dX5_count_28 ?_
          refine x_goto hE 4 (by decide) dX5_count_31 ?_
          refine x_lv [(0, .ref h0), (1, .int w), (2, .int (nI (u + 1))), (3, .int (nI (i + 1)))] [2, 3, 1, 0] rfl ?_
          exact ih (i + 1) (u + 1) (by omega) (by simpa only [lfor, lany, lfind, if_pos c9, if_pos c18, reduceIte, Bool.false_eq_true, Bool.true_eq_false] using hT)
  refine x_iconst hE (nI 0) (by decide) dX5_count_0 ?_
  refine x_istore_n hE [(2, .int (nI 0)), (0, .ref h0), (1, .int w)] (by decide) rfl dX5_count_1 ?_
  refine x_iconst hE (nI 0) (by decide) dX5_count_2 ?_
  refine x_istore_n hE [(3, .int (nI 0)), (2, .int (nI 0)), (0, .ref h0), (1, .int w)] (by decide) rfl dX5_count_3 ?_
  refine x_lv [(0, .ref h0), (1, .int w), (2, .int (nI 0)), (3, .int (nI 0))] [2, 3, 1, 0] rfl ?_
  exact lp4 (R * C) 0 0 (Nat.zero_add _) (rfl)
set_option maxHeartbeats 4000000 in
set_option maxRecDepth 100000 in
theorem kX5_log_ok (l : Launch) (D : va_G) (cI cZ : ClassId) (h0 : Nat) (d1 : Nat) (d2 : Nat) (d3 : Nat) (d4 : Nat) (d5 : Nat) (d6 : Nat) (d7 : Nat) (d8 : Nat) (d9 : Nat) (d10 : Nat) (d11 : Nat) (d12 : Nat) (d13 : Nat) (R : Nat) (C : Nat) (dio : Bool) (bk : Bool) (lt : Bool) (sl : Int32) (V : Nat) (ru : Int32) (sus : Bool) (sos : Bool) (T : Nat) (pos : Nat → Nat) (ph : Nat → Int32) (bg : Nat → Int32) (fs : Nat → Bool) (gs : Nat → Bool) (st : Nat → Int32) (kk : Nat → Int32) (ve : Nat → Int32) (si : Nat → Int32) (ca : Nat → Bool) (mk : Nat) (lg : Nat → Int32) (sk : Int32) (rf : Int32) (tk : Int32) (fr : Nat) (fc : Nat) (op : Nat → Int32) (ob : Nat → Int32) (en : Nat) (j : Nat) (hm : mk < 2 ^ 29) (he : en < min mk 16) (hj : j ≤ 2) : xC l yX5_log wsX5_log 1 0 0 22 D cI cZ [.ref h0, .int (nI en), .int (nI j)] [(h0, .inr (5, [.int (nI R), .int (nI C), .int (bI dio), .int (bI bk), .int (bI lt), .int sl, .int (nI V), .int ru, .int (bI sus), .int (bI sos), .int (nI T), .ref d1, .ref d2, .ref d3, .ref d4, .ref d5, .ref d6, .ref d7, .ref d8, .ref d9, .ref d10, .int (nI mk), .ref d11, .int sk, .int rf, .int tk, .int (nI fr), .int (nI fc), .ref d12, .ref d13])), (d1, .inl (cI, 64, .inl (xN pos))), (d2, .inl (cI, 64, .inl ph)), (d3, .inl (cI, 64, .inl bg)), (d4, .inl (cZ, 64, .inl (xB fs))), (d5, .inl (cZ, 64, .inl (xB gs))), (d6, .inl (cI, 8, .inl st)), (d7, .inl (cI, 8, .inl kk)), (d8, .inl (cI, 8, .inl ve)), (d9, .inl (cI, 8, .inl si)), (d10, .inl (cZ, 8, .inl (xB ca))), (d11, .inl (cI, 48, .inl lg)), (d12, .inl (cI, 64, .inl op)), (d13, .inl (cI, 64, .inl ob))] (fun v8 w8 => v8 = some (.int (lg (3 * en + j))) ∧ w8 = [(h0, .inr (5, [.int (nI R), .int (nI C), .int (bI dio), .int (bI bk), .int (bI lt), .int sl, .int (nI V), .int ru, .int (bI sus), .int (bI sos), .int (nI T), .ref d1, .ref d2, .ref d3, .ref d4, .ref d5, .ref d6, .ref d7, .ref d8, .ref d9, .ref d10, .int (nI mk), .ref d11, .int sk, .int rf, .int tk, .int (nI fr), .int (nI fc), .ref d12, .ref d13])), (d1, .inl (cI, 64, .inl (xN pos))), (d2, .inl (cI, 64, .inl ph)), (d3, .inl (cI, 64, .inl bg)), (d4, .inl (cZ, 64, .inl (xB fs))), (d5, .inl (cZ, 64, .inl (xB gs))), (d6, .inl (cI, 8, .inl st)), (d7, .inl (cI, 8, .inl kk)), (d8, .inl (cI, 8, .inl ve)), (d9, .inl (cI, 8, .inl si)), (d10, .inl (cZ, 8, .inl (xB ca))), (d11, .inl (cI, 48, .inl lg)), (d12, .inl (cI, 64, .inl op)), (d13, .inl (cI, 64, .inl ob))]) := by
  refine xC.of (bytes := cX5_log) (maxL := 3) (ret := (some .int)) (own := RX5) (by decide +kernel) rfl (Nat.le_of_ble_eq_true rfl) rfl ?_
  intro p9 e9 s9 m9 args9 below9 meth9 cd9 A hE hr hin2 hA9
  have inX5 : ∀ w ∈ wsX50, w ∈ wsX5_log := fun w h => List.mem_cons_of_mem _ (List.mem_append_right _ h)
  have g77 : xF RX5 wsX5_log 77 5 21 := ⟨"KeyScannerModel", RX5, TX5, 30, inX5, rfl, by decide, List.mem_of_getElem? (i := 1) rfl, rfl⟩
  have g48 : xF RX5 wsX5_log 48 5 22 := ⟨"KeyScannerModel", RX5, TX5, 30, inX5, rfl, by decide, List.mem_of_getElem? (i := 2) rfl, rfl⟩
  refine x_at (ws' := [(h0, .inr (5, [.int (nI R), .int (nI C), .int (bI dio), .int (bI bk), .int (bI lt), .int sl, .int (nI V), .int ru, .int (bI sus), .int (bI sos), .int (nI T), .ref d1, .ref d2, .ref d3, .ref d4, .ref d5, .ref d6, .ref d7, .ref d8, .ref d9, .ref d10, .int (nI mk), .ref d11, .int sk, .int rf, .int tk, .int (nI fr), .int (nI fc), .ref d12, .ref d13])), (d1, .inl (cI, 64, .inl (xN pos))), (d2, .inl (cI, 64, .inl ph)), (d3, .inl (cI, 64, .inl bg)), (d4, .inl (cZ, 64, .inl (xB fs))), (d5, .inl (cZ, 64, .inl (xB gs))), (d6, .inl (cI, 8, .inl st)), (d7, .inl (cI, 8, .inl kk)), (d8, .inl (cI, 8, .inl ve)), (d9, .inl (cI, 8, .inl si)), (d10, .inl (cZ, 8, .inl (xB ca))), (d11, .inl (cI, 48, .inl lg)), (d12, .inl (cI, 64, .inl op)), (d13, .inl (cI, 64, .inl ob))]) (st' := []) rfl rfl ?_
  refine x_lv [(0, .ref h0), (1, .int (nI en)), (2, .int (nI j))] [0, 1, 2] rfl ?_
  refine x_iload_n hE 1 rfl dX5_log_0 ?_
  refine xn_if_lt hE (by omega) 13 (by decide) dX5_log_1 (fun c1 => ?_) (fun c1 => ?_)
  · skip
    exact absurd c1 (by omega)
  · skip
    refine x_iload_n hE 2 rfl dX5_log_4 ?_
    refine x_iconst hE (nI 0) (by decide) dX5_log_5 ?_
    refine x_iconst hE (nI 2) (by decide) dX5_log_6 ?_
    refine x_callS (n := 3) (st := []) hE (kX5_in l D cI cZ (nI j) (nI 0) (nI 2) ) gX5_log_X5_in rfl (by decide +kernel) ⟨by decide, by decide⟩ ⟨Nat.zero_le _, Nat.zero_le _⟩ rfl [] [0, 1, 2, 3, 4, 5, 6, 7, 8, 9, 10, 11, 12, 13] rfl (wr := [(h0, .inr (5, [.int (nI R), .int (nI C), .int (bI dio), .int (bI bk), .int (bI lt), .int sl, .int (nI V), .int ru, .int (bI sus), .int (bI sos), .int (nI T), .ref d1, .ref d2, .ref d3, .ref d4, .ref d5, .ref d6, .ref d7, .ref d8, .ref d9, .ref d10, .int (nI mk), .ref d11, .int sk, .int rf, .int tk, .int (nI fr), .int (nI fc), .ref d12, .ref d13])), (d1, .inl (cI, 64, .inl (xN pos))), (d2, .inl (cI, 64, .inl ph)), (d3, .inl (cI, 64, .inl bg)), (d4, .inl (cZ, 64, .inl (xB fs))), (d5, .inl (cZ, 64, .inl (xB gs))), (d6, .inl (cI, 8, .inl st)), (d7, .inl (cI, 8, .inl kk)), (d8, .inl (cI, 8, .inl ve)), (d9, .inl (cI, 8, .inl si)), (d10, .inl (cZ, 8, .inl (xB ca))), (d11, .inl (cI, 48, .inl lg)), (d12, .inl (cI, 64, .inl op)), (d13, .inl (cI, 64, .inl ob))]) rfl (by decide) (by decide) (by decide) rfl (Nat.le_of_ble_eq_true rfl) dX5_log_7 (fun v9 w9 hT9 => ?_)
    obtain ⟨rfl, rfl⟩ := hT9
    refine x_at (ws' := [(h0, .inr (5, [.int (nI R), .int (nI C), .int (bI dio), .int (bI bk), .int (bI lt), .int sl, .int (nI V), .int ru, .int (bI sus), .int (bI sos), .int (nI T), .ref d1, .ref d2, .ref d3, .ref d4, .ref d5, .ref d6, .ref d7, .ref d8, .ref d9, .ref d10, .int (nI mk), .ref d11, .int sk, .int rf, .int tk, .int (nI fr), .int (nI fc), .ref d12, .ref d13])), (d1, .inl (cI, 64, .inl (xN pos))), (d2, .inl (cI, 64, .inl ph)), (d3, .inl (cI, 64, .inl bg)), (d4, .inl (cZ, 64, .inl (xB fs))), (d5, .inl (cZ, 64, .inl (xB gs))), (d6, .inl (cI, 8, .inl st)), (d7, .inl (cI, 8, .inl kk)), (d8, .inl (cI, 8, .inl ve)), (d9, .inl (cI, 8, .inl si)), (d10, .inl (cZ, 8, .inl (xB ca))), (d11, .inl (cI, 48, .inl lg)), (d12, .inl (cI, 64, .inl op)), (d13, .inl (cI, 64, .inl ob))]) (st' := [.int (bI (wiB (nI j) (nI 0) (nI 2)))]) rfl rfl ?_
    refine xb_if_ne hE 16 (by decide) dX5_log_10 (fun c10 => ?_) (fun c10 => ?_)
    · skip
      refine x_iload_n hE 1 rfl dX5_log_16 ?_
      refine x_bipush hE (nI 16) (by decide) dX5_log_17 ?_
      refine xn_icmp_ge hE (by omega) (by omega) 43 (by decide) dX5_log_19 (fun c19 => ?_) (fun c19 => ?_)
      · skip
        exact absurd (by omega) c19
      · skip
        refine x_iload_n hE 1 rfl dX5_log_22 ?_
        refine x_aload_n hE 0 rfl dX5_log_23 ?_
        refine x_get hE g77 0 rfl rfl dX5_log_24 ?_
        refine xn_icmp_ge hE (by omega) (by omega) 43 (by decide) dX5_log_27 (fun c27 => ?_) (fun c27 => ?_)
        · skip
          exact absurd (by omega) c27
        · skip
          refine x_aload_n hE 0 rfl dX5_log_30 ?_
          refine x_get hE g48 0 rfl rfl dX5_log_31 ?_
          refine x_iconst hE (nI 3) (by decide) dX5_log_34 ?_
          refine x_iload_n hE 1 rfl dX5_log_35 ?_
          refine x_imul hE (nI (3 * en)) (xI_mul _ _) dX5_log_36 ?_
          refine x_iload_n hE 2 rfl dX5_log_37 ?_
          refine x_iadd hE (nI ((3 * en) + j)) (nI_add _ _) dX5_log_38 ?_
          refine x_iald hE ((3 * en) + j) (lg ((3 * en) + j)) (by omega) (by decide) rfl 11 rfl dX5_log_39 ?_
          refine x_goto hE 45 (by decide) dX5_log_40 ?_
          exact x_iret hE hr (⟨rfl, rfl⟩) dX5_log_45
    · skip
      exact absurd c10 (by rw [wi_ok (Nat.zero_le j) hj (by decide)]; decide)
set_option maxHeartbeats 4000000 in
set_option maxRecDepth 100000 in
theorem kX5_log_bad (l : Launch) (D : va_G) (cI cZ : ClassId) (h0 : Nat) (d1 : Nat) (d2 : Nat) (d3 : Nat) (d4 : Nat) (d5 : Nat) (d6 : Nat) (d7 : Nat) (d8 : Nat) (d9 : Nat) (d10 : Nat) (d11 : Nat) (d12 : Nat) (d13 : Nat) (R : Nat) (C : Nat) (dio : Bool) (bk : Bool) (lt : Bool) (sl : Int32) (V : Nat) (ru : Int32) (sus : Bool) (sos : Bool) (T : Nat) (pos : Nat → Nat) (ph : Nat → Int32) (bg : Nat → Int32) (fs : Nat → Bool) (gs : Nat → Bool) (st : Nat → Int32) (kk : Nat → Int32) (ve : Nat → Int32) (si : Nat → Int32) (ca : Nat → Bool) (mk : Nat) (lg : Nat → Int32) (sk : Int32) (rf : Int32) (tk : Int32) (fr : Nat) (fc : Nat) (op : Nat → Int32) (ob : Nat → Int32) (en : Int32) (w : Int32) (hw : en < nI 0 ∨ wiB w (nI 0) (nI 2) = false) : xC l yX5_log wsX5_log 1 0 0 22 D cI cZ [.ref h0, .int en, .int w] [(h0, .inr (5, [.int (nI R), .int (nI C), .int (bI dio), .int (bI bk), .int (bI lt), .int sl, .int (nI V), .int ru, .int (bI sus), .int (bI sos), .int (nI T), .ref d1, .ref d2, .ref d3, .ref d4, .ref d5, .ref d6, .ref d7, .ref d8, .ref d9, .ref d10, .int (nI mk), .ref d11, .int sk, .int rf, .int tk, .int (nI fr), .int (nI fc), .ref d12, .ref d13])), (d1, .inl (cI, 64, .inl (xN pos))), (d2, .inl (cI, 64, .inl ph)), (d3, .inl (cI, 64, .inl bg)), (d4, .inl (cZ, 64, .inl (xB fs))), (d5, .inl (cZ, 64, .inl (xB gs))), (d6, .inl (cI, 8, .inl st)), (d7, .inl (cI, 8, .inl kk)), (d8, .inl (cI, 8, .inl ve)), (d9, .inl (cI, 8, .inl si)), (d10, .inl (cZ, 8, .inl (xB ca))), (d11, .inl (cI, 48, .inl lg)), (d12, .inl (cI, 64, .inl op)), (d13, .inl (cI, 64, .inl ob))] (fun v8 w8 => v8 = some (.int (-2)) ∧ w8 = [(h0, .inr (5, [.int (nI R), .int (nI C), .int (bI dio), .int (bI bk), .int (bI lt), .int sl, .int (nI V), .int ru, .int (bI sus), .int (bI sos), .int (nI T), .ref d1, .ref d2, .ref d3, .ref d4, .ref d5, .ref d6, .ref d7, .ref d8, .ref d9, .ref d10, .int (nI mk), .ref d11, .int sk, .int rf, .int tk, .int (nI fr), .int (nI fc), .ref d12, .ref d13])), (d1, .inl (cI, 64, .inl (xN pos))), (d2, .inl (cI, 64, .inl ph)), (d3, .inl (cI, 64, .inl bg)), (d4, .inl (cZ, 64, .inl (xB fs))), (d5, .inl (cZ, 64, .inl (xB gs))), (d6, .inl (cI, 8, .inl st)), (d7, .inl (cI, 8, .inl kk)), (d8, .inl (cI, 8, .inl ve)), (d9, .inl (cI, 8, .inl si)), (d10, .inl (cZ, 8, .inl (xB ca))), (d11, .inl (cI, 48, .inl lg)), (d12, .inl (cI, 64, .inl op)), (d13, .inl (cI, 64, .inl ob))]) := by
  refine xC.of (bytes := cX5_log) (maxL := 3) (ret := (some .int)) (own := RX5) (by decide +kernel) rfl (Nat.le_of_ble_eq_true rfl) rfl ?_
  intro p9 e9 s9 m9 args9 below9 meth9 cd9 A hE hr hin2 hA9
  refine x_at (ws' := [(h0, .inr (5, [.int (nI R), .int (nI C), .int (bI dio), .int (bI bk), .int (bI lt), .int sl, .int (nI V), .int ru, .int (bI sus), .int (bI sos), .int (nI T), .ref d1, .ref d2, .ref d3, .ref d4, .ref d5, .ref d6, .ref d7, .ref d8, .ref d9, .ref d10, .int (nI mk), .ref d11, .int sk, .int rf, .int tk, .int (nI fr), .int (nI fc), .ref d12, .ref d13])), (d1, .inl (cI, 64, .inl (xN pos))), (d2, .inl (cI, 64, .inl ph)), (d3, .inl (cI, 64, .inl bg)), (d4, .inl (cZ, 64, .inl (xB fs))), (d5, .inl (cZ, 64, .inl (xB gs))), (d6, .inl (cI, 8, .inl st)), (d7, .inl (cI, 8, .inl kk)), (d8, .inl (cI, 8, .inl ve)), (d9, .inl (cI, 8, .inl si)), (d10, .inl (cZ, 8, .inl (xB ca))), (d11, .inl (cI, 48, .inl lg)), (d12, .inl (cI, 64, .inl op)), (d13, .inl (cI, 64, .inl ob))]) (st' := []) rfl rfl ?_
  refine x_lv [(0, .ref h0), (1, .int en), (2, .int w)] [0, 1, 2] rfl ?_
  refine x_iload_n hE 1 rfl dX5_log_0 ?_
  refine x_if_lt hE 13 (by decide) dX5_log_1 (fun c1 => ?_) (fun c1 => ?_)
  · skip
    refine x_bipush hE (-2) (by decide) dX5_log_13 ?_
    exact x_iret hE hr (⟨rfl, rfl⟩) dX5_log_15
  · skip
    refine x_iload_n hE 2 rfl dX5_log_4 ?_
    refine x_iconst hE (nI 0) (by decide) dX5_log_5 ?_
    refine x_iconst hE (nI 2) (by decide) dX5_log_6 ?_
    refine x_callS (n := 3) (st := []) hE (kX5_in l D cI cZ w (nI 0) (nI 2) ) gX5_log_X5_in rfl (by decide +kernel) ⟨by decide, by decide⟩ ⟨Nat.zero_le _, Nat.zero_le _⟩ rfl [] [0, 1, 2, 3, 4, 5, 6, 7, 8, 9, 10, 11, 12, 13] rfl (wr := [(h0, .inr (5, [.int (nI R), .int (nI C), .int (bI dio), .int (bI bk), .int (bI lt), .int sl, .int (nI V), .int ru, .int (bI sus), .int (bI sos), .int (nI T), .ref d1, .ref d2, .ref d3, .ref d4, .ref d5, .ref d6, .ref d7, .ref d8, .ref d9, .ref d10, .int (nI mk), .ref d11, .int sk, .int rf, .int tk, .int (nI fr), .int (nI fc), .ref d12, .ref d13])), (d1, .inl (cI, 64, .inl (xN pos))), (d2, .inl (cI, 64, .inl ph)), (d3, .inl (cI, 64, .inl bg)), (d4, .inl (cZ, 64, .inl (xB fs))), (d5, .inl (cZ, 64, .inl (xB gs))), (d6, .inl (cI, 8, .inl st)), (d7, .inl (cI, 8, .inl kk)), (d8, .inl (cI, 8, .inl ve)), (d9, .inl (cI, 8, .inl si)), (d10, .inl (cZ, 8, .inl (xB ca))), (d11, .inl (cI, 48, .inl lg)), (d12, .inl (cI, 64, .inl op)), (d13, .inl (cI, 64, .inl ob))]) rfl (by decide) (by decide) (by decide) rfl (Nat.le_of_ble_eq_true rfl) dX5_log_7 (fun v9 w9 hT9 => ?_)
    obtain ⟨rfl, rfl⟩ := hT9
    refine x_at (ws' := [(h0, .inr (5, [.int (nI R), .int (nI C), .int (bI dio), .int (bI bk), .int (bI lt), .int sl, .int (nI V), .int ru, .int (bI sus), .int (bI sos), .int (nI T), .ref d1, .ref d2, .ref d3, .ref d4, .ref d5, .ref d6, .ref d7, .ref d8, .ref d9, .ref d10, .int (nI mk), .ref d11, .int sk, .int rf, .int tk, .int (nI fr), .int (nI fc), .ref d12, .ref d13])), (d1, .inl (cI, 64, .inl (xN pos))), (d2, .inl (cI, 64, .inl ph)), (d3, .inl (cI, 64, .inl bg)), (d4, .inl (cZ, 64, .inl (xB fs))), (d5, .inl (cZ, 64, .inl (xB gs))), (d6, .inl (cI, 8, .inl st)), (d7, .inl (cI, 8, .inl kk)), (d8, .inl (cI, 8, .inl ve)), (d9, .inl (cI, 8, .inl si)), (d10, .inl (cZ, 8, .inl (xB ca))), (d11, .inl (cI, 48, .inl lg)), (d12, .inl (cI, 64, .inl op)), (d13, .inl (cI, 64, .inl ob))]) (st' := [.int (bI (wiB w (nI 0) (nI 2)))]) rfl rfl ?_
    refine xb_if_ne hE 16 (by decide) dX5_log_10 (fun c10 => ?_) (fun c10 => ?_)
    · skip
      exact absurd hw (by rw [c10]; intro q9; rcases q9 with q9 | q9; exact c1 q9; exact absurd q9 (by decide))
    · skip
      refine x_bipush hE (-2) (by decide) dX5_log_13 ?_
      exact x_iret hE hr (⟨rfl, rfl⟩) dX5_log_15
set_option maxHeartbeats 4000000 in
set_option maxRecDepth 100000 in
theorem kX5_log_none (l : Launch) (D : va_G) (cI cZ : ClassId) (h0 : Nat) (d1 : Nat) (d2 : Nat) (d3 : Nat) (d4 : Nat) (d5 : Nat) (d6 : Nat) (d7 : Nat) (d8 : Nat) (d9 : Nat) (d10 : Nat) (d11 : Nat) (d12 : Nat) (d13 : Nat) (R : Nat) (C : Nat) (dio : Bool) (bk : Bool) (lt : Bool) (sl : Int32) (V : Nat) (ru : Int32) (sus : Bool) (sos : Bool) (T : Nat) (pos : Nat → Nat) (ph : Nat → Int32) (bg : Nat → Int32) (fs : Nat → Bool) (gs : Nat → Bool) (st : Nat → Int32) (kk : Nat → Int32) (ve : Nat → Int32) (si : Nat → Int32) (ca : Nat → Bool) (mk : Nat) (lg : Nat → Int32) (sk : Int32) (rf : Int32) (tk : Int32) (fr : Nat) (fc : Nat) (op : Nat → Int32) (ob : Nat → Int32) (en : Int32) (w : Int32) (he0 : ¬ en < nI 0) (he : ¬ en < nI (min mk 16)) (hw : wiB w (nI 0) (nI 2) = true) : xC l yX5_log wsX5_log 1 0 0 22 D cI cZ [.ref h0, .int en, .int w] [(h0, .inr (5, [.int (nI R), .int (nI C), .int (bI dio), .int (bI bk), .int (bI lt), .int sl, .int (nI V), .int ru, .int (bI sus), .int (bI sos), .int (nI T), .ref d1, .ref d2, .ref d3, .ref d4, .ref d5, .ref d6, .ref d7, .ref d8, .ref d9, .ref d10, .int (nI mk), .ref d11, .int sk, .int rf, .int tk, .int (nI fr), .int (nI fc), .ref d12, .ref d13])), (d1, .inl (cI, 64, .inl (xN pos))), (d2, .inl (cI, 64, .inl ph)), (d3, .inl (cI, 64, .inl bg)), (d4, .inl (cZ, 64, .inl (xB fs))), (d5, .inl (cZ, 64, .inl (xB gs))), (d6, .inl (cI, 8, .inl st)), (d7, .inl (cI, 8, .inl kk)), (d8, .inl (cI, 8, .inl ve)), (d9, .inl (cI, 8, .inl si)), (d10, .inl (cZ, 8, .inl (xB ca))), (d11, .inl (cI, 48, .inl lg)), (d12, .inl (cI, 64, .inl op)), (d13, .inl (cI, 64, .inl ob))] (fun v8 w8 => v8 = some (.int (-3)) ∧ w8 = [(h0, .inr (5, [.int (nI R), .int (nI C), .int (bI dio), .int (bI bk), .int (bI lt), .int sl, .int (nI V), .int ru, .int (bI sus), .int (bI sos), .int (nI T), .ref d1, .ref d2, .ref d3, .ref d4, .ref d5, .ref d6, .ref d7, .ref d8, .ref d9, .ref d10, .int (nI mk), .ref d11, .int sk, .int rf, .int tk, .int (nI fr), .int (nI fc), .ref d12, .ref d13])), (d1, .inl (cI, 64, .inl (xN pos))), (d2, .inl (cI, 64, .inl ph)), (d3, .inl (cI, 64, .inl bg)), (d4, .inl (cZ, 64, .inl (xB fs))), (d5, .inl (cZ, 64, .inl (xB gs))), (d6, .inl (cI, 8, .inl st)), (d7, .inl (cI, 8, .inl kk)), (d8, .inl (cI, 8, .inl ve)), (d9, .inl (cI, 8, .inl si)), (d10, .inl (cZ, 8, .inl (xB ca))), (d11, .inl (cI, 48, .inl lg)), (d12, .inl (cI, 64, .inl op)), (d13, .inl (cI, 64, .inl ob))]) := by
  refine xC.of (bytes := cX5_log) (maxL := 3) (ret := (some .int)) (own := RX5) (by decide +kernel) rfl (Nat.le_of_ble_eq_true rfl) rfl ?_
  intro p9 e9 s9 m9 args9 below9 meth9 cd9 A hE hr hin2 hA9
  have inX5 : ∀ w ∈ wsX50, w ∈ wsX5_log := fun w h => List.mem_cons_of_mem _ (List.mem_append_right _ h)
  have g77 : xF RX5 wsX5_log 77 5 21 := ⟨"KeyScannerModel", RX5, TX5, 30, inX5, rfl, by decide, List.mem_of_getElem? (i := 1) rfl, rfl⟩
  refine x_at (ws' := [(h0, .inr (5, [.int (nI R), .int (nI C), .int (bI dio), .int (bI bk), .int (bI lt), .int sl, .int (nI V), .int ru, .int (bI sus), .int (bI sos), .int (nI T), .ref d1, .ref d2, .ref d3, .ref d4, .ref d5, .ref d6, .ref d7, .ref d8, .ref d9, .ref d10, .int (nI mk), .ref d11, .int sk, .int rf, .int tk, .int (nI fr), .int (nI fc), .ref d12, .ref d13])), (d1, .inl (cI, 64, .inl (xN pos))), (d2, .inl (cI, 64, .inl ph)), (d3, .inl (cI, 64, .inl bg)), (d4, .inl (cZ, 64, .inl (xB fs))), (d5, .inl (cZ, 64, .inl (xB gs))), (d6, .inl (cI, 8, .inl st)), (d7, .inl (cI, 8, .inl kk)), (d8, .inl (cI, 8, .inl ve)), (d9, .inl (cI, 8, .inl si)), (d10, .inl (cZ, 8, .inl (xB ca))), (d11, .inl (cI, 48, .inl lg)), (d12, .inl (cI, 64, .inl op)), (d13, .inl (cI, 64, .inl ob))]) (st' := []) rfl rfl ?_
  refine x_lv [(0, .ref h0), (1, .int en), (2, .int w)] [0, 1, 2] rfl ?_
  refine x_iload_n hE 1 rfl dX5_log_0 ?_
  refine x_if_lt hE 13 (by decide) dX5_log_1 (fun c1 => ?_) (fun c1 => ?_)
  · skip
    exact absurd c1 he0
  · skip
    refine x_iload_n hE 2 rfl dX5_log_4 ?_
    refine x_iconst hE (nI 0) (by decide) dX5_log_5 ?_
    refine x_iconst hE (nI 2) (by decide) dX5_log_6 ?_
    refine x_callS (n := 3) (st := []) hE (kX5_in l D cI cZ w (nI 0) (nI 2) ) gX5_log_X5_in rfl (by decide +kernel) ⟨by decide, by decide⟩ ⟨Nat.zero_le _, Nat.zero_le _⟩ rfl [] [0, 1, 2, 3, 4, 5, 6, 7, 8, 9, 10, 11, 12, 13] rfl (wr := [(h0, .inr (5, [.int (nI R), .int (nI C), .int (bI dio), .int (bI bk), .int (bI lt), .int sl, .int (nI V), .int ru, .int (bI sus), .int (bI sos), .int (nI T), .ref d1, .ref d2, .ref d3, .ref d4, .ref d5, .ref d6, .ref d7, .ref d8, .ref d9, .ref d10, .int (nI mk), .ref d11, .int sk, .int rf, .int tk, .int (nI fr), .int (nI fc), .ref d12, .ref d13])), (d1, .inl (cI, 64, .inl (xN pos))), (d2, .inl (cI, 64, .inl ph)), (d3, .inl (cI, 64, .inl bg)), (d4, .inl (cZ, 64, .inl (xB fs))), (d5, .inl (cZ, 64, .inl (xB gs))), (d6, .inl (cI, 8, .inl st)), (d7, .inl (cI, 8, .inl kk)), (d8, .inl (cI, 8, .inl ve)), (d9, .inl (cI, 8, .inl si)), (d10, .inl (cZ, 8, .inl (xB ca))), (d11, .inl (cI, 48, .inl lg)), (d12, .inl (cI, 64, .inl op)), (d13, .inl (cI, 64, .inl ob))]) rfl (by decide) (by decide) (by decide) rfl (Nat.le_of_ble_eq_true rfl) dX5_log_7 (fun v9 w9 hT9 => ?_)
    obtain ⟨rfl, rfl⟩ := hT9
    refine x_at (ws' := [(h0, .inr (5, [.int (nI R), .int (nI C), .int (bI dio), .int (bI bk), .int (bI lt), .int sl, .int (nI V), .int ru, .int (bI sus), .int (bI sos), .int (nI T), .ref d1, .ref d2, .ref d3, .ref d4, .ref d5, .ref d6, .ref d7, .ref d8, .ref d9, .ref d10, .int (nI mk), .ref d11, .int sk, .int rf, .int tk, .int (nI fr), .int (nI fc), .ref d12, .ref d13])), (d1, .inl (cI, 64, .inl (xN pos))), (d2, .inl (cI, 64, .inl ph)), (d3, .inl (cI, 64, .inl bg)), (d4, .inl (cZ, 64, .inl (xB fs))), (d5, .inl (cZ, 64, .inl (xB gs))), (d6, .inl (cI, 8, .inl st)), (d7, .inl (cI, 8, .inl kk)), (d8, .inl (cI, 8, .inl ve)), (d9, .inl (cI, 8, .inl si)), (d10, .inl (cZ, 8, .inl (xB ca))), (d11, .inl (cI, 48, .inl lg)), (d12, .inl (cI, 64, .inl op)), (d13, .inl (cI, 64, .inl ob))]) (st' := [.int (bI (wiB w (nI 0) (nI 2)))]) rfl rfl ?_
    refine xb_if_ne hE 16 (by decide) dX5_log_10 (fun c10 => ?_) (fun c10 => ?_)
    · skip
      refine x_iload_n hE 1 rfl dX5_log_16 ?_
      refine x_bipush hE (nI 16) (by decide) dX5_log_17 ?_
      refine x_icmp_ge hE 43 (by decide) dX5_log_19 (fun c19 => ?_) (fun c19 => ?_)
      · skip
        refine x_bipush hE (-3) (by decide) dX5_log_43 ?_
        exact x_iret hE hr (⟨rfl, rfl⟩) dX5_log_45
      · skip
        refine x_iload_n hE 1 rfl dX5_log_22 ?_
        refine x_aload_n hE 0 rfl dX5_log_23 ?_
        refine x_get hE g77 0 rfl rfl dX5_log_24 ?_
        refine x_icmp_ge hE 43 (by decide) dX5_log_27 (fun c27 => ?_) (fun c27 => ?_)
        · skip
          refine x_bipush hE (-3) (by decide) dX5_log_43 ?_
          exact x_iret hE hr (⟨rfl, rfl⟩) dX5_log_45
        · skip
          exact absurd (lt_min16 c19 c27) he
    · skip
      exact absurd c10 (by rw [hw]; decide)
set_option maxHeartbeats 4000000 in
set_option maxRecDepth 100000 in
theorem kX5_velocity_ok (l : Launch) (D : va_G) (cI cZ : ClassId) (h0 : Nat) (d1 : Nat) (d2 : Nat) (d3 : Nat) (d4 : Nat) (d5 : Nat) (d6 : Nat) (d7 : Nat) (d8 : Nat) (d9 : Nat) (d10 : Nat) (d11 : Nat) (d12 : Nat) (d13 : Nat) (R : Nat) (C : Nat) (dio : Bool) (bk : Bool) (lt : Bool) (sl : Int32) (V : Nat) (ru : Int32) (sus : Bool) (sos : Bool) (T : Nat) (pos : Nat → Nat) (ph : Nat → Int32) (bg : Nat → Int32) (fs : Nat → Bool) (gs : Nat → Bool) (st : Nat → Int32) (kk : Nat → Int32) (ve : Nat → Int32) (si : Nat → Int32) (ca : Nat → Bool) (mk : Nat) (lg : Nat → Int32) (sk : Int32) (rf : Int32) (tk : Int32) (fr : Nat) (fc : Nat) (op : Nat → Int32) (ob : Nat → Int32) (n : Int32) (hw : wiB n (nI 0) (nI 1000) = true) : xC l yX5_velocity wsX5_velocity 1 0 0 22 D cI cZ [.ref h0, .int n] [(h0, .inr (5, [.int (nI R), .int (nI C), .int (bI dio), .int (bI bk), .int (bI lt), .int sl, .int (nI V), .int ru, .int (bI sus), .int (bI sos), .int (nI T), .ref d1, .ref d2, .ref d3, .ref d4, .ref d5, .ref d6, .ref d7, .ref d8, .ref d9, .ref d10, .int (nI mk), .ref d11, .int sk, .int rf, .int tk, .int (nI fr), .int (nI fc), .ref d12, .ref d13])), (d1, .inl (cI, 64, .inl (xN pos))), (d2, .inl (cI, 64, .inl ph)), (d3, .inl (cI, 64, .inl bg)), (d4, .inl (cZ, 64, .inl (xB fs))), (d5, .inl (cZ, 64, .inl (xB gs))), (d6, .inl (cI, 8, .inl st)), (d7, .inl (cI, 8, .inl kk)), (d8, .inl (cI, 8, .inl ve)), (d9, .inl (cI, 8, .inl si)), (d10, .inl (cZ, 8, .inl (xB ca))), (d11, .inl (cI, 48, .inl lg)), (d12, .inl (cI, 64, .inl op)), (d13, .inl (cI, 64, .inl ob))] (fun v8 w8 => v8 = some (.int (vaM sl n)) ∧ w8 = [(h0, .inr (5, [.int (nI R), .int (nI C), .int (bI dio), .int (bI bk), .int (bI lt), .int sl, .int (nI V), .int ru, .int (bI sus), .int (bI sos), .int (nI T), .ref d1, .ref d2, .ref d3, .ref d4, .ref d5, .ref d6, .ref d7, .ref d8, .ref d9, .ref d10, .int (nI mk), .ref d11, .int sk, .int rf, .int tk, .int (nI fr), .int (nI fc), .ref d12, .ref d13])), (d1, .inl (cI, 64, .inl (xN pos))), (d2, .inl (cI, 64, .inl ph)), (d3, .inl (cI, 64, .inl bg)), (d4, .inl (cZ, 64, .inl (xB fs))), (d5, .inl (cZ, 64, .inl (xB gs))), (d6, .inl (cI, 8, .inl st)), (d7, .inl (cI, 8, .inl kk)), (d8, .inl (cI, 8, .inl ve)), (d9, .inl (cI, 8, .inl si)), (d10, .inl (cZ, 8, .inl (xB ca))), (d11, .inl (cI, 48, .inl lg)), (d12, .inl (cI, 64, .inl op)), (d13, .inl (cI, 64, .inl ob))]) := by
  refine xC.of (bytes := cX5_velocity) (maxL := 2) (ret := (some .int)) (own := RX5) (by decide +kernel) rfl (Nat.le_of_ble_eq_true rfl) rfl ?_
  intro p9 e9 s9 m9 args9 below9 meth9 cd9 A hE hr hin2 hA9
  refine x_at (ws' := [(h0, .inr (5, [.int (nI R), .int (nI C), .int (bI dio), .int (bI bk), .int (bI lt), .int sl, .int (nI V), .int ru, .int (bI sus), .int (bI sos), .int (nI T), .ref d1, .ref d2, .ref d3, .ref d4, .ref d5, .ref d6, .ref d7, .ref d8, .ref d9, .ref d10, .int (nI mk), .ref d11, .int sk, .int rf, .int tk, .int (nI fr), .int (nI fc), .ref d12, .ref d13])), (d1, .inl (cI, 64, .inl (xN pos))), (d2, .inl (cI, 64, .inl ph)), (d3, .inl (cI, 64, .inl bg)), (d4, .inl (cZ, 64, .inl (xB fs))), (d5, .inl (cZ, 64, .inl (xB gs))), (d6, .inl (cI, 8, .inl st)), (d7, .inl (cI, 8, .inl kk)), (d8, .inl (cI, 8, .inl ve)), (d9, .inl (cI, 8, .inl si)), (d10, .inl (cZ, 8, .inl (xB ca))), (d11, .inl (cI, 48, .inl lg)), (d12, .inl (cI, 64, .inl op)), (d13, .inl (cI, 64, .inl ob))]) (st' := []) rfl rfl ?_
  refine x_lv [(0, .ref h0), (1, .int n)] [0, 1] rfl ?_
  refine x_iload_n hE 1 rfl dX5_velocity_0 ?_
  refine x_iconst hE (nI 0) (by decide) dX5_velocity_1 ?_
  refine x_sipush hE (nI 1000) (by decide) dX5_velocity_2 ?_
  refine x_callS (n := 3) (st := []) hE (kX5_in l D cI cZ n (nI 0) (nI 1000) ) gX5_velocity_X5_in rfl (by decide +kernel) ⟨by decide, by decide⟩ ⟨Nat.zero_le _, Nat.zero_le _⟩ rfl [] [0, 1, 2, 3, 4, 5, 6, 7, 8, 9, 10, 11, 12, 13] rfl (wr := [(h0, .inr (5, [.int (nI R), .int (nI C), .int (bI dio), .int (bI bk), .int (bI lt), .int sl, .int (nI V), .int ru, .int (bI sus), .int (bI sos), .int (nI T), .ref d1, .ref d2, .ref d3, .ref d4, .ref d5, .ref d6, .ref d7, .ref d8, .ref d9, .ref d10, .int (nI mk), .ref d11, .int sk, .int rf, .int tk, .int (nI fr), .int (nI fc), .ref d12, .ref d13])), (d1, .inl (cI, 64, .inl (xN pos))), (d2, .inl (cI, 64, .inl ph)), (d3, .inl (cI, 64, .inl bg)), (d4, .inl (cZ, 64, .inl (xB fs))), (d5, .inl (cZ, 64, .inl (xB gs))), (d6, .inl (cI, 8, .inl st)), (d7, .inl (cI, 8, .inl kk)), (d8, .inl (cI, 8, .inl ve)), (d9, .inl (cI, 8, .inl si)), (d10, .inl (cZ, 8, .inl (xB ca))), (d11, .inl (cI, 48, .inl lg)), (d12, .inl (cI, 64, .inl op)), (d13, .inl (cI, 64, .inl ob))]) rfl (by decide) (by decide) (by decide) rfl (Nat.le_of_ble_eq_true rfl) dX5_velocity_5 (fun v9 w9 hT9 => ?_)
  obtain ⟨rfl, rfl⟩ := hT9
  refine x_at (ws' := [(h0, .inr (5, [.int (nI R), .int (nI C), .int (bI dio), .int (bI bk), .int (bI lt), .int sl, .int (nI V), .int ru, .int (bI sus), .int (bI sos), .int (nI T), .ref d1, .ref d2, .ref d3, .ref d4, .ref d5, .ref d6, .ref d7, .ref d8, .ref d9, .ref d10, .int (nI mk), .ref d11, .int sk, .int rf, .int tk, .int (nI fr), .int (nI fc), .ref d12, .ref d13])), (d1, .inl (cI, 64, .inl (xN pos))), (d2, .inl (cI, 64, .inl ph)), (d3, .inl (cI, 64, .inl bg)), (d4, .inl (cZ, 64, .inl (xB fs))), (d5, .inl (cZ, 64, .inl (xB gs))), (d6, .inl (cI, 8, .inl st)), (d7, .inl (cI, 8, .inl kk)), (d8, .inl (cI, 8, .inl ve)), (d9, .inl (cI, 8, .inl si)), (d10, .inl (cZ, 8, .inl (xB ca))), (d11, .inl (cI, 48, .inl lg)), (d12, .inl (cI, 64, .inl op)), (d13, .inl (cI, 64, .inl ob))]) (st' := [.int (bI (wiB n (nI 0) (nI 1000)))]) rfl rfl ?_
  refine xb_if_eq hE 19 (by decide) dX5_velocity_8 (fun c8 => ?_) (fun c8 => ?_)
  · skip
    exact absurd c8 (by rw [hw]; decide)
  · skip
    refine x_aload_n hE 0 rfl dX5_velocity_11 ?_
    refine x_iload_n hE 1 rfl dX5_velocity_12 ?_
    refine x_callV (n := 1) (st := []) hE (kX5_velocityAfter l D cI cZ h0 d1 d2 d3 d4 d5 d6 d7 d8 d9 d10 d11 d12 d13 R C dio bk lt sl V ru sus sos T pos ph bg fs gs st kk ve si ca mk lg sk rf tk fr fc op ob n ) gX5_velocity_X5_velocityAfter rfl (by decide +kernel) ⟨by decide, by decide⟩ ⟨Nat.zero_le _, Nat.zero_le _⟩ rfl [0, 1, 2, 3, 4, 5, 6, 7, 8, 9, 10, 11, 12, 13] [] rfl (wr := []) rfl (by decide) (by decide) (by decide) 0 rfl rfl rfl rfl (Nat.le_of_ble_eq_true rfl) dX5_velocity_13 (fun v9 w9 hT9 => ?_)
    obtain ⟨rfl, rfl⟩ := hT9
    refine x_at (ws' := [(h0, .inr (5, [.int (nI R), .int (nI C), .int (bI dio), .int (bI bk), .int (bI lt), .int sl, .int (nI V), .int ru, .int (bI sus), .int (bI sos), .int (nI T), .ref d1, .ref d2, .ref d3, .ref d4, .ref d5, .ref d6, .ref d7, .ref d8, .ref d9, .ref d10, .int (nI mk), .ref d11, .int sk, .int rf, .int tk, .int (nI fr), .int (nI fc), .ref d12, .ref d13])), (d1, .inl (cI, 64, .inl (xN pos))), (d2, .inl (cI, 64, .inl ph)), (d3, .inl (cI, 64, .inl bg)), (d4, .inl (cZ, 64, .inl (xB fs))), (d5, .inl (cZ, 64, .inl (xB gs))), (d6, .inl (cI, 8, .inl st)), (d7, .inl (cI, 8, .inl kk)), (d8, .inl (cI, 8, .inl ve)), (d9, .inl (cI, 8, .inl si)), (d10, .inl (cZ, 8, .inl (xB ca))), (d11, .inl (cI, 48, .inl lg)), (d12, .inl (cI, 64, .inl op)), (d13, .inl (cI, 64, .inl ob))]) (st' := [.int (vaM sl n)]) rfl rfl ?_
    refine x_goto hE 21 (by decide) dX5_velocity_16 ?_
    exact x_iret hE hr (⟨rfl, rfl⟩) dX5_velocity_21
set_option maxHeartbeats 4000000 in
set_option maxRecDepth 100000 in
theorem kX5_velocity_bad (l : Launch) (D : va_G) (cI cZ : ClassId) (h0 : Nat) (d1 : Nat) (d2 : Nat) (d3 : Nat) (d4 : Nat) (d5 : Nat) (d6 : Nat) (d7 : Nat) (d8 : Nat) (d9 : Nat) (d10 : Nat) (d11 : Nat) (d12 : Nat) (d13 : Nat) (R : Nat) (C : Nat) (dio : Bool) (bk : Bool) (lt : Bool) (sl : Int32) (V : Nat) (ru : Int32) (sus : Bool) (sos : Bool) (T : Nat) (pos : Nat → Nat) (ph : Nat → Int32) (bg : Nat → Int32) (fs : Nat → Bool) (gs : Nat → Bool) (st : Nat → Int32) (kk : Nat → Int32) (ve : Nat → Int32) (si : Nat → Int32) (ca : Nat → Bool) (mk : Nat) (lg : Nat → Int32) (sk : Int32) (rf : Int32) (tk : Int32) (fr : Nat) (fc : Nat) (op : Nat → Int32) (ob : Nat → Int32) (n : Int32) (hw : wiB n (nI 0) (nI 1000) = false) : xC l yX5_velocity wsX5_velocity 1 0 0 22 D cI cZ [.ref h0, .int n] [(h0, .inr (5, [.int (nI R), .int (nI C), .int (bI dio), .int (bI bk), .int (bI lt), .int sl, .int (nI V), .int ru, .int (bI sus), .int (bI sos), .int (nI T), .ref d1, .ref d2, .ref d3, .ref d4, .ref d5, .ref d6, .ref d7, .ref d8, .ref d9, .ref d10, .int (nI mk), .ref d11, .int sk, .int rf, .int tk, .int (nI fr), .int (nI fc), .ref d12, .ref d13])), (d1, .inl (cI, 64, .inl (xN pos))), (d2, .inl (cI, 64, .inl ph)), (d3, .inl (cI, 64, .inl bg)), (d4, .inl (cZ, 64, .inl (xB fs))), (d5, .inl (cZ, 64, .inl (xB gs))), (d6, .inl (cI, 8, .inl st)), (d7, .inl (cI, 8, .inl kk)), (d8, .inl (cI, 8, .inl ve)), (d9, .inl (cI, 8, .inl si)), (d10, .inl (cZ, 8, .inl (xB ca))), (d11, .inl (cI, 48, .inl lg)), (d12, .inl (cI, 64, .inl op)), (d13, .inl (cI, 64, .inl ob))] (fun v8 w8 => v8 = some (.int (-2)) ∧ w8 = [(h0, .inr (5, [.int (nI R), .int (nI C), .int (bI dio), .int (bI bk), .int (bI lt), .int sl, .int (nI V), .int ru, .int (bI sus), .int (bI sos), .int (nI T), .ref d1, .ref d2, .ref d3, .ref d4, .ref d5, .ref d6, .ref d7, .ref d8, .ref d9, .ref d10, .int (nI mk), .ref d11, .int sk, .int rf, .int tk, .int (nI fr), .int (nI fc), .ref d12, .ref d13])), (d1, .inl (cI, 64, .inl (xN pos))), (d2, .inl (cI, 64, .inl ph)), (d3, .inl (cI, 64, .inl bg)), (d4, .inl (cZ, 64, .inl (xB fs))), (d5, .inl (cZ, 64, .inl (xB gs))), (d6, .inl (cI, 8, .inl st)), (d7, .inl (cI, 8, .inl kk)), (d8, .inl (cI, 8, .inl ve)), (d9, .inl (cI, 8, .inl si)), (d10, .inl (cZ, 8, .inl (xB ca))), (d11, .inl (cI, 48, .inl lg)), (d12, .inl (cI, 64, .inl op)), (d13, .inl (cI, 64, .inl ob))]) := by
  refine xC.of (bytes := cX5_velocity) (maxL := 2) (ret := (some .int)) (own := RX5) (by decide +kernel) rfl (Nat.le_of_ble_eq_true rfl) rfl ?_
  intro p9 e9 s9 m9 args9 below9 meth9 cd9 A hE hr hin2 hA9
  refine x_at (ws' := [(h0, .inr (5, [.int (nI R), .int (nI C), .int (bI dio), .int (bI bk), .int (bI lt), .int sl, .int (nI V), .int ru, .int (bI sus), .int (bI sos), .int (nI T), .ref d1, .ref d2, .ref d3, .ref d4, .ref d5, .ref d6, .ref d7, .ref d8, .ref d9, .ref d10, .int (nI mk), .ref d11, .int sk, .int rf, .int tk, .int (nI fr), .int (nI fc), .ref d12, .ref d13])), (d1, .inl (cI, 64, .inl (xN pos))), (d2, .inl (cI, 64, .inl ph)), (d3, .inl (cI, 64, .inl bg)), (d4, .inl (cZ, 64, .inl (xB fs))), (d5, .inl (cZ, 64, .inl (xB gs))), (d6, .inl (cI, 8, .inl st)), (d7, .inl (cI, 8, .inl kk)), (d8, .inl (cI, 8, .inl ve)), (d9, .inl (cI, 8, .inl si)), (d10, .inl (cZ, 8, .inl (xB ca))), (d11, .inl (cI, 48, .inl lg)), (d12, .inl (cI, 64, .inl op)), (d13, .inl (cI, 64, .inl ob))]) (st' := []) rfl rfl ?_
  refine x_lv [(0, .ref h0), (1, .int n)] [0, 1] rfl ?_
  refine x_iload_n hE 1 rfl dX5_velocity_0 ?_
  refine x_iconst hE (nI 0) (by decide) dX5_velocity_1 ?_
  refine x_sipush hE (nI 1000) (by decide) dX5_velocity_2 ?_
  refine x_callS (n := 3) (st := []) hE (kX5_in l D cI cZ n (nI 0) (nI 1000) ) gX5_velocity_X5_in rfl (by decide +kernel) ⟨by decide, by decide⟩ ⟨Nat.zero_le _, Nat.zero_le _⟩ rfl [] [0, 1, 2, 3, 4, 5, 6, 7, 8, 9, 10, 11, 12, 13] rfl (wr := [(h0, .inr (5, [.int (nI R), .int (nI C), .int (bI dio), .int (bI bk), .int (bI lt), .int sl, .int (nI V), .int ru, .int (bI sus), .int (bI sos), .int (nI T), .ref d1, .ref d2, .ref d3, .ref d4, .ref d5, .ref d6, .ref d7, .ref d8, .ref d9, .ref d10, .int (nI mk), .ref d11, .int sk, .int rf, .int tk, .int (nI fr), .int (nI fc), .ref d12, .ref d13])), (d1, .inl (cI, 64, .inl (xN pos))), (d2, .inl (cI, 64, .inl ph)), (d3, .inl (cI, 64, .inl bg)), (d4, .inl (cZ, 64, .inl (xB fs))), (d5, .inl (cZ, 64, .inl (xB gs))), (d6, .inl (cI, 8, .inl st)), (d7, .inl (cI, 8, .inl kk)), (d8, .inl (cI, 8, .inl ve)), (d9, .inl (cI, 8, .inl si)), (d10, .inl (cZ, 8, .inl (xB ca))), (d11, .inl (cI, 48, .inl lg)), (d12, .inl (cI, 64, .inl op)), (d13, .inl (cI, 64, .inl ob))]) rfl (by decide) (by decide) (by decide) rfl (Nat.le_of_ble_eq_true rfl) dX5_velocity_5 (fun v9 w9 hT9 => ?_)
  obtain ⟨rfl, rfl⟩ := hT9
  refine x_at (ws' := [(h0, .inr (5, [.int (nI R), .int (nI C), .int (bI dio), .int (bI bk), .int (bI lt), .int sl, .int (nI V), .int ru, .int (bI sus), .int (bI sos), .int (nI T), .ref d1, .ref d2, .ref d3, .ref d4, .ref d5, .ref d6, .ref d7, .ref d8, .ref d9, .ref d10, .int (nI mk), .ref d11, .int sk, .int rf, .int tk, .int (nI fr), .int (nI fc), .ref d12, .ref d13])), (d1, .inl (cI, 64, .inl (xN pos))), (d2, .inl (cI, 64, .inl ph)), (d3, .inl (cI, 64, .inl bg)), (d4, .inl (cZ, 64, .inl (xB fs))), (d5, .inl (cZ, 64, .inl (xB gs))), (d6, .inl (cI, 8, .inl st)), (d7, .inl (cI, 8, .inl kk)), (d8, .inl (cI, 8, .inl ve)), (d9, .inl (cI, 8, .inl si)), (d10, .inl (cZ, 8, .inl (xB ca))), (d11, .inl (cI, 48, .inl lg)), (d12, .inl (cI, 64, .inl op)), (d13, .inl (cI, 64, .inl ob))]) (st' := [.int (bI (wiB n (nI 0) (nI 1000)))]) rfl rfl ?_
  refine xb_if_eq hE 19 (by decide) dX5_velocity_8 (fun c8 => ?_) (fun c8 => ?_)
  · skip
    refine x_bipush hE (-2) (by decide) dX5_velocity_19 ?_
    exact x_iret hE hr (⟨rfl, rfl⟩) dX5_velocity_21
  · skip
    exact absurd c8 (by rw [hw]; decide)
set_option maxHeartbeats 4000000 in
set_option maxRecDepth 100000 in
theorem kX5_nextTaken (l : Launch) (D : va_G) (cI cZ : ClassId) (h0 : Nat) (d1 : Nat) (d2 : Nat) (d3 : Nat) (d4 : Nat) (d5 : Nat) (d6 : Nat) (d7 : Nat) (d8 : Nat) (d9 : Nat) (d10 : Nat) (d11 : Nat) (d12 : Nat) (d13 : Nat) (R : Nat) (C : Nat) (dio : Bool) (bk : Bool) (lt : Bool) (sl : Int32) (V : Nat) (ru : Int32) (sus : Bool) (sos : Bool) (T : Nat) (pos : Nat → Nat) (ph : Nat → Int32) (bg : Nat → Int32) (fs : Nat → Bool) (gs : Nat → Bool) (st : Nat → Int32) (kk : Nat → Int32) (ve : Nat → Int32) (si : Nat → Int32) (ca : Nat → Bool) (mk : Nat) (lg : Nat → Int32) (sk : Int32) (rf : Int32) (tk : Int32) (fr : Nat) (fc : Nat) (op : Nat → Int32) (ob : Nat → Int32) (hV : 1 ≤ V ∧ V ≤ 8) : xC l yX5_nextTaken wsX5_nextTaken 3 0 0 66 D cI cZ [.ref h0] [(h0, .inr (5, [.int (nI R), .int (nI C), .int (bI dio), .int (bI bk), .int (bI lt), .int sl, .int (nI V), .int ru, .int (bI sus), .int (bI sos), .int (nI T), .ref d1, .ref d2, .ref d3, .ref d4, .ref d5, .ref d6, .ref d7, .ref d8, .ref d9, .ref d10, .int (nI mk), .ref d11, .int sk, .int rf, .int tk, .int (nI fr), .int (nI fc), .ref d12, .ref d13])), (d1, .inl (cI, 64, .inl (xN pos))), (d2, .inl (cI, 64, .inl ph)), (d3, .inl (cI, 64, .inl bg)), (d4, .inl (cZ, 64, .inl (xB fs))), (d5, .inl (cZ, 64, .inl (xB gs))), (d6, .inl (cI, 8, .inl st)), (d7, .inl (cI, 8, .inl kk)), (d8, .inl (cI, 8, .inl ve)), (d9, .inl (cI, 8, .inl si)), (d10, .inl (cZ, 8, .inl (xB ca))), (d11, .inl (cI, 48, .inl lg)), (d12, .inl (cI, 64, .inl op)), (d13, .inl (cI, 64, .inl ob))] (fun v8 w8 => v8 = some (.int (ntM st ve si ru V)) ∧ w8 = [(h0, .inr (5, [.int (nI R), .int (nI C), .int (bI dio), .int (bI bk), .int (bI lt), .int sl, .int (nI V), .int ru, .int (bI sus), .int (bI sos), .int (nI T), .ref d1, .ref d2, .ref d3, .ref d4, .ref d5, .ref d6, .ref d7, .ref d8, .ref d9, .ref d10, .int (nI mk), .ref d11, .int sk, .int rf, .int tk, .int (nI fr), .int (nI fc), .ref d12, .ref d13])), (d1, .inl (cI, 64, .inl (xN pos))), (d2, .inl (cI, 64, .inl ph)), (d3, .inl (cI, 64, .inl bg)), (d4, .inl (cZ, 64, .inl (xB fs))), (d5, .inl (cZ, 64, .inl (xB gs))), (d6, .inl (cI, 8, .inl st)), (d7, .inl (cI, 8, .inl kk)), (d8, .inl (cI, 8, .inl ve)), (d9, .inl (cI, 8, .inl si)), (d10, .inl (cZ, 8, .inl (xB ca))), (d11, .inl (cI, 48, .inl lg)), (d12, .inl (cI, 64, .inl op)), (d13, .inl (cI, 64, .inl ob))]) := by
  refine xC.of (bytes := cX5_nextTaken) (maxL := 1) (ret := (some .int)) (own := RX5) (by decide +kernel) rfl (Nat.le_of_ble_eq_true rfl) rfl ?_
  intro p9 e9 s9 m9 args9 below9 meth9 cd9 A hE hr hin2 hA9
  refine x_at (ws' := [(h0, .inr (5, [.int (nI R), .int (nI C), .int (bI dio), .int (bI bk), .int (bI lt), .int sl, .int (nI V), .int ru, .int (bI sus), .int (bI sos), .int (nI T), .ref d1, .ref d2, .ref d3, .ref d4, .ref d5, .ref d6, .ref d7, .ref d8, .ref d9, .ref d10, .int (nI mk), .ref d11, .int sk, .int rf, .int tk, .int (nI fr), .int (nI fc), .ref d12, .ref d13])), (d1, .inl (cI, 64, .inl (xN pos))), (d2, .inl (cI, 64, .inl ph)), (d3, .inl (cI, 64, .inl bg)), (d4, .inl (cZ, 64, .inl (xB fs))), (d5, .inl (cZ, 64, .inl (xB gs))), (d6, .inl (cI, 8, .inl st)), (d7, .inl (cI, 8, .inl kk)), (d8, .inl (cI, 8, .inl ve)), (d9, .inl (cI, 8, .inl si)), (d10, .inl (cZ, 8, .inl (xB ca))), (d11, .inl (cI, 48, .inl lg)), (d12, .inl (cI, 64, .inl op)), (d13, .inl (cI, 64, .inl ob))]) (st' := []) rfl rfl ?_
  refine x_lv [(0, .ref h0)] [0] rfl ?_
  refine x_aload_n hE 0 rfl dX5_nextTaken_0 ?_
  refine x_callV (n := 0) (st := []) hE (kX5_freeVoice l D cI cZ h0 d1 d2 d3 d4 d5 d6 d7 d8 d9 d10 d11 d12 d13 R C dio bk lt sl V ru sus sos T pos ph bg fs gs st kk ve si ca mk lg sk rf tk fr fc op ob (by omega)) gX5_nextTaken_X5_freeVoice rfl (by decide +kernel) ⟨by decide, by decide⟩ ⟨Nat.zero_le _, Nat.zero_le _⟩ rfl [0, 1, 2, 3, 4, 5, 6, 7, 8, 9, 10, 11, 12, 13] [] rfl (wr := []) rfl (by decide) (by decide) (by decide) 0 rfl rfl rfl rfl (Nat.le_of_ble_eq_true rfl) dX5_nextTaken_1 (fun v9 w9 hT9 => ?_)
  obtain ⟨rfl, rfl⟩ := hT9
  refine x_at (ws' := [(h0, .inr (5, [.int (nI R), .int (nI C), .int (bI dio), .int (bI bk), .int (bI lt), .int sl, .int (nI V), .int ru, .int (bI sus), .int (bI sos), .int (nI T), .ref d1, .ref d2, .ref d3, .ref d4, .ref d5, .ref d6, .ref d7, .ref d8, .ref d9, .ref d10, .int (nI mk), .ref d11, .int sk, .int rf, .int tk, .int (nI fr), .int (nI fc), .ref d12, .ref d13])), (d1, .inl (cI, 64, .inl (xN pos))), (d2, .inl (cI, 64, .inl ph)), (d3, .inl (cI, 64, .inl bg)), (d4, .inl (cZ, 64, .inl (xB fs))), (d5, .inl (cZ, 64, .inl (xB gs))), (d6, .inl (cI, 8, .inl st)), (d7, .inl (cI, 8, .inl kk)), (d8, .inl (cI, 8, .inl ve)), (d9, .inl (cI, 8, .inl si)), (d10, .inl (cZ, 8, .inl (xB ca))), (d11, .inl (cI, 48, .inl lg)), (d12, .inl (cI, 64, .inl op)), (d13, .inl (cI, 64, .inl ob))]) (st' := [.int (rV (findN (ffP st) 0 V) V)]) rfl rfl ?_
  refine x_if_lt hE 12 (by decide) dX5_nextTaken_4 (fun c4 => ?_) (fun c4 => ?_)
  · skip
    refine x_aload_n hE 0 rfl dX5_nextTaken_12 ?_
    refine x_callV (n := 0) (st := []) hE (kX5_taken l D cI cZ h0 d1 d2 d3 d4 d5 d6 d7 d8 d9 d10 d11 d12 d13 R C dio bk lt sl V ru sus sos T pos ph bg fs gs st kk ve si ca mk lg sk rf tk fr fc op ob (by omega)) gX5_nextTaken_X5_taken rfl (by decide +kernel) ⟨by decide, by decide⟩ ⟨Nat.zero_le _, Nat.zero_le _⟩ rfl [0, 1, 2, 3, 4, 5, 6, 7, 8, 9, 10, 11, 12, 13] [] rfl (wr := []) rfl (by decide) (by decide) (by decide) 0 rfl rfl rfl rfl (Nat.le_of_ble_eq_true rfl) dX5_nextTaken_13 (fun v9 w9 hT9 => ?_)
    obtain ⟨rfl, rfl⟩ := hT9
    refine x_at (ws' := [(h0, .inr (5, [.int (nI R), .int (nI C), .int (bI dio), .int (bI bk), .int (bI lt), .int sl, .int (nI V), .int ru, .int (bI sus), .int (bI sos), .int (nI T), .ref d1, .ref d2, .ref d3, .ref d4, .ref d5, .ref d6, .ref d7, .ref d8, .ref d9, .ref d10, .int (nI mk), .ref d11, .int sk, .int rf, .int tk, .int (nI fr), .int (nI fc), .ref d12, .ref d13])), (d1, .inl (cI, 64, .inl (xN pos))), (d2, .inl (cI, 64, .inl ph)), (d3, .inl (cI, 64, .inl bg)), (d4, .inl (cZ, 64, .inl (xB fs))), (d5, .inl (cZ, 64, .inl (xB gs))), (d6, .inl (cI, 8, .inl st)), (d7, .inl (cI, 8, .inl kk)), (d8, .inl (cI, 8, .inl ve)), (d9, .inl (cI, 8, .inl si)), (d10, .inl (cZ, 8, .inl (xB ca))), (d11, .inl (cI, 48, .inl lg)), (d12, .inl (cI, 64, .inl op)), (d13, .inl (cI, 64, .inl ob))]) (st' := [.int (rV (tkN st ve si ru V) V)]) rfl rfl ?_
    exact x_iret hE hr (⟨by rw [ntM, if_neg ((rV_neg (by omega)).mp c4)], rfl⟩) dX5_nextTaken_16
  · skip
    refine x_bipush hE (-3) (by decide) dX5_nextTaken_7 ?_
    refine x_goto hE 16 (by decide) dX5_nextTaken_9 ?_
    exact x_iret hE hr (⟨by rw [ntM, if_pos (Decidable.of_not_not (fun q9 => c4 ((rV_neg (by omega)).mpr q9)))], rfl⟩) dX5_nextTaken_16
set_option maxHeartbeats 4000000 in
set_option maxRecDepth 100000 in
theorem kX5_connected_ok (l : Launch) (D : va_G) (cI cZ : ClassId) (h0 : Nat) (d1 : Nat) (d2 : Nat) (d3 : Nat) (d4 : Nat) (d5 : Nat) (d6 : Nat) (d7 : Nat) (d8 : Nat) (d9 : Nat) (d10 : Nat) (d11 : Nat) (d12 : Nat) (d13 : Nat) (R : Nat) (C : Nat) (dio : Bool) (bk : Bool) (lt : Bool) (sl : Int32) (V : Nat) (ru : Int32) (sus : Bool) (sos : Bool) (T : Nat) (pos : Nat → Nat) (ph : Nat → Int32) (bg : Nat → Int32) (fs : Nat → Bool) (gs : Nat → Bool) (st : Nat → Int32) (kk : Nat → Int32) (ve : Nat → Int32) (si : Nat → Int32) (ca : Nat → Bool) (mk : Nat) (lg : Nat → Int32) (sk : Int32) (rf : Int32) (tk : Int32) (fr : Nat) (fc : Nat) (op : Nat → Int32) (ob : Nat → Int32) (r : Nat) (hR : 1 ≤ R ∧ R ≤ 8) (hC : 1 ≤ C ∧ C ≤ 8) (hpos : ∀ k, pos k ≤ 2) (hrR : r < R) : xC l yX5_connected wsX5_connected 2 0 0 46 D cI cZ [.ref h0, .int (nI r)] [(h0, .inr (5, [.int (nI R), .int (nI C), .int (bI dio), .int (bI bk), .int (bI lt), .int sl, .int (nI V), .int ru, .int (bI sus), .int (bI sos), .int (nI T), .ref d1, .ref d2, .ref d3, .ref d4, .ref d5, .ref d6, .ref d7, .ref d8, .ref d9, .ref d10, .int (nI mk), .ref d11, .int sk, .int rf, .int tk, .int (nI fr), .int (nI fc), .ref d12, .ref d13])), (d1, .inl (cI, 64, .inl (xN pos))), (d2, .inl (cI, 64, .inl ph)), (d3, .inl (cI, 64, .inl bg)), (d4, .inl (cZ, 64, .inl (xB fs))), (d5, .inl (cZ, 64, .inl (xB gs))), (d6, .inl (cI, 8, .inl st)), (d7, .inl (cI, 8, .inl kk)), (d8, .inl (cI, 8, .inl ve)), (d9, .inl (cI, 8, .inl si)), (d10, .inl (cZ, 8, .inl (xB ca))), (d11, .inl (cI, 48, .inl lg)), (d12, .inl (cI, 64, .inl op)), (d13, .inl (cI, 64, .inl ob))] (fun v8 w8 => v8 = some (.int (nI ((cnF pos R C 1 r).1 + 256 * (cnF pos R C 1 r).2))) ∧ w8 = [(h0, .inr (5, [.int (nI R), .int (nI C), .int (bI dio), .int (bI bk), .int (bI lt), .int sl, .int (nI V), .int ru, .int (bI sus), .int (bI sos), .int (nI T), .ref d1, .ref d2, .ref d3, .ref d4, .ref d5, .ref d6, .ref d7, .ref d8, .ref d9, .ref d10, .int (nI mk), .ref d11, .int sk, .int rf, .int tk, .int (nI ((cnF pos R C 1 r).1)), .int (nI ((cnF pos R C 1 r).2)), .ref d12, .ref d13])), (d1, .inl (cI, 64, .inl (xN pos))), (d2, .inl (cI, 64, .inl ph)), (d3, .inl (cI, 64, .inl bg)), (d4, .inl (cZ, 64, .inl (xB fs))), (d5, .inl (cZ, 64, .inl (xB gs))), (d6, .inl (cI, 8, .inl st)), (d7, .inl (cI, 8, .inl kk)), (d8, .inl (cI, 8, .inl ve)), (d9, .inl (cI, 8, .inl si)), (d10, .inl (cZ, 8, .inl (xB ca))), (d11, .inl (cI, 48, .inl lg)), (d12, .inl (cI, 64, .inl op)), (d13, .inl (cI, 64, .inl ob))]) := by
  refine xC.of (bytes := cX5_connected) (maxL := 2) (ret := (some .int)) (own := RX5) (by decide +kernel) rfl (Nat.le_of_ble_eq_true rfl) rfl ?_
  intro p9 e9 s9 m9 args9 below9 meth9 cd9 A hE hr hin2 hA9
  have inX5 : ∀ w ∈ wsX50, w ∈ wsX5_connected := fun w h => List.mem_cons_of_mem _ (List.mem_append_right _ h)
  have g61 : xF RX5 wsX5_connected 61 5 0 := ⟨"KeyScannerModel", RX5, TX5, 30, inX5, rfl, by decide, List.mem_of_getElem? (i := 1) rfl, rfl⟩
  have g100 : xF RX5 wsX5_connected 100 5 26 := ⟨"KeyScannerModel", RX5, TX5, 30, inX5, rfl, by decide, List.mem_of_getElem? (i := 2) rfl, rfl⟩
  have g103 : xF RX5 wsX5_connected 103 5 27 := ⟨"KeyScannerModel", RX5, TX5, 30, inX5, rfl, by decide, List.mem_of_getElem? (i := 3) rfl, rfl⟩
  refine x_at (ws' := [(h0, .inr (5, [.int (nI R), .int (nI C), .int (bI dio), .int (bI bk), .int (bI lt), .int sl, .int (nI V), .int ru, .int (bI sus), .int (bI sos), .int (nI T), .ref d1, .ref d2, .ref d3, .ref d4, .ref d5, .ref d6, .ref d7, .ref d8, .ref d9, .ref d10, .int (nI mk), .ref d11, .int sk, .int rf, .int tk, .int (nI fr), .int (nI fc), .ref d12, .ref d13])), (d1, .inl (cI, 64, .inl (xN pos))), (d2, .inl (cI, 64, .inl ph)), (d3, .inl (cI, 64, .inl bg)), (d4, .inl (cZ, 64, .inl (xB fs))), (d5, .inl (cZ, 64, .inl (xB gs))), (d6, .inl (cI, 8, .inl st)), (d7, .inl (cI, 8, .inl kk)), (d8, .inl (cI, 8, .inl ve)), (d9, .inl (cI, 8, .inl si)), (d10, .inl (cZ, 8, .inl (xB ca))), (d11, .inl (cI, 48, .inl lg)), (d12, .inl (cI, 64, .inl op)), (d13, .inl (cI, 64, .inl ob))]) (st' := []) rfl rfl ?_
  refine x_lv [(0, .ref h0), (1, .int (nI r))] [0, 1] rfl ?_
  refine x_iload_n hE 1 rfl dX5_connected_0 ?_
  refine x_iconst hE (nI 0) (by decide) dX5_connected_1 ?_
  refine x_aload_n hE 0 rfl dX5_connected_2 ?_
  refine x_get hE g61 0 rfl rfl dX5_connected_3 ?_
  refine x_iconst hE (nI 1) (by decide) dX5_connected_6 ?_
  refine x_isub hE (nI (R - 1)) (xI_sub (by omega)) dX5_connected_7 ?_
  refine x_callS (n := 3) (st := []) hE (kX5_in l D cI cZ (nI r) (nI 0) (nI (R - 1)) ) gX5_connected_X5_in rfl (by decide +kernel) ⟨by decide, by decide⟩ ⟨Nat.zero_le _, Nat.zero_le _⟩ rfl [] [0, 1, 2, 3, 4, 5, 6, 7, 8, 9, 10, 11, 12, 13] rfl (wr := [(h0, .inr (5, [.int (nI R), .int (nI C), .int (bI dio), .int (bI bk), .int (bI lt), .int sl, .int (nI V), .int ru, .int (bI sus), .int (bI sos), .int (nI T), .ref d1, .ref d2, .ref d3, .ref d4, .ref d5, .ref d6, .ref d7, .ref d8, .ref d9, .ref d10, .int (nI mk), .ref d11, .int sk, .int rf, .int tk, .int (nI fr), .int (nI fc), .ref d12, .ref d13])), (d1, .inl (cI, 64, .inl (xN pos))), (d2, .inl (cI, 64, .inl ph)), (d3, .inl (cI, 64, .inl bg)), (d4, .inl (cZ, 64, .inl (xB fs))), (d5, .inl (cZ, 64, .inl (xB gs))), (d6, .inl (cI, 8, .inl st)), (d7, .inl (cI, 8, .inl kk)), (d8, .inl (cI, 8, .inl ve)), (d9, .inl (cI, 8, .inl si)), (d10, .inl (cZ, 8, .inl (xB ca))), (d11, .inl (cI, 48, .inl lg)), (d12, .inl (cI, 64, .inl op)), (d13, .inl (cI, 64, .inl ob))]) rfl (by decide) (by decide) (by decide) rfl (Nat.le_of_ble_eq_true rfl) dX5_connected_8 (fun v9 w9 hT9 => ?_)
  obtain ⟨rfl, rfl⟩ := hT9
  refine x_at (ws' := [(h0, .inr (5, [.int (nI R), .int (nI C), .int (bI dio), .int (bI bk), .int (bI lt), .int sl, .int (nI V), .int ru, .int (bI sus), .int (bI sos), .int (nI T), .ref d1, .ref d2, .ref d3, .ref d4, .ref d5, .ref d6, .ref d7, .ref d8, .ref d9, .ref d10, .int (nI mk), .ref d11, .int sk, .int rf, .int tk, .int (nI fr), .int (nI fc), .ref d12, .ref d13])), (d1, .inl (cI, 64, .inl (xN pos))), (d2, .inl (cI, 64, .inl ph)), (d3, .inl (cI, 64, .inl bg)), (d4, .inl (cZ, 64, .inl (xB fs))), (d5, .inl (cZ, 64, .inl (xB gs))), (d6, .inl (cI, 8, .inl st)), (d7, .inl (cI, 8, .inl kk)), (d8, .inl (cI, 8, .inl ve)), (d9, .inl (cI, 8, .inl si)), (d10, .inl (cZ, 8, .inl (xB ca))), (d11, .inl (cI, 48, .inl lg)), (d12, .inl (cI, 64, .inl op)), (d13, .inl (cI, 64, .inl ob))]) (st' := [.int (bI (wiB (nI r) (nI 0) (nI (R - 1))))]) rfl rfl ?_
  refine xb_if_ne hE 17 (by decide) dX5_connected_11 (fun c11 => ?_) (fun c11 => ?_)
  · skip
    refine x_aload_n hE 0 rfl dX5_connected_17 ?_
    refine x_iload_n hE 1 rfl dX5_connected_18 ?_
    refine x_iconst hE (nI 1) (by decide) dX5_connected_19 ?_
    refine x_callV (n := 2) (st := []) hE (kX5_connect l D cI cZ h0 d1 d2 d3 d4 d5 d6 d7 d8 d9 d10 d11 d12 d13 R C dio bk lt sl V ru sus sos T pos ph bg fs gs st kk ve si ca mk lg sk rf tk fr fc op ob r 1 (by omega) (by omega) (by omega) (by omega) (by assumption)) gX5_connected_X5_connect rfl (by decide +kernel) ⟨by decide, by decide⟩ ⟨Nat.zero_le _, Nat.zero_le _⟩ rfl [0, 1, 2, 3, 4, 5, 6, 7, 8, 9, 10, 11, 12, 13] [] rfl (wr := []) rfl (by decide) (by decide) (by decide) 0 rfl rfl rfl rfl (Nat.le_of_ble_eq_true rfl) dX5_connected_20 (fun v9 w9 hT9 => ?_)
    obtain ⟨rfl, rfl⟩ := hT9
    refine x_at (ws' := [(h0, .inr (5, [.int (nI R), .int (nI C), .int (bI dio), .int (bI bk), .int (bI lt), .int sl, .int (nI V), .int ru, .int (bI sus), .int (bI sos), .int (nI T), .ref d1, .ref d2, .ref d3, .ref d4, .ref d5, .ref d6, .ref d7, .ref d8, .ref d9, .ref d10, .int (nI mk), .ref d11, .int sk, .int rf, .int tk, .int (nI ((cnF pos R C 1 r).1)), .int (nI ((cnF pos R C 1 r).2)), .ref d12, .ref d13])), (d1, .inl (cI, 64, .inl (xN pos))), (d2, .inl (cI, 64, .inl ph)), (d3, .inl (cI, 64, .inl bg)), (d4, .inl (cZ, 64, .inl (xB fs))), (d5, .inl (cZ, 64, .inl (xB gs))), (d6, .inl (cI, 8, .inl st)), (d7, .inl (cI, 8, .inl kk)), (d8, .inl (cI, 8, .inl ve)), (d9, .inl (cI, 8, .inl si)), (d10, .inl (cZ, 8, .inl (xB ca))), (d11, .inl (cI, 48, .inl lg)), (d12, .inl (cI, 64, .inl op)), (d13, .inl (cI, 64, .inl ob))]) (st' := []) rfl rfl ?_
    refine x_aload_n hE 0 rfl dX5_connected_23 ?_
    refine x_get hE g100 0 rfl rfl dX5_connected_24 ?_
    refine x_sipush hE (nI 256) (by decide) dX5_connected_27 ?_
    refine x_aload_n hE 0 rfl dX5_connected_30 ?_
    refine x_get hE g103 0 rfl rfl dX5_connected_31 ?_
    refine x_imul hE (nI (256 * ((cnF pos R C 1 r).2))) (xI_mul _ _) dX5_connected_34 ?_
    refine x_iadd hE (nI (((cnF pos R C 1 r).1) + (256 * ((cnF pos R C 1 r).2)))) (nI_add _ _) dX5_connected_35 ?_
    exact x_iret hE hr (⟨rfl, rfl⟩) dX5_connected_36
  · skip
    exact absurd c11 (by rw [wi_ok (Nat.zero_le r) (by omega) (by omega)]; decide)
set_option maxHeartbeats 4000000 in
set_option maxRecDepth 100000 in
theorem kX5_connected_bad (l : Launch) (D : va_G) (cI cZ : ClassId) (h0 : Nat) (d1 : Nat) (d2 : Nat) (d3 : Nat) (d4 : Nat) (d5 : Nat) (d6 : Nat) (d7 : Nat) (d8 : Nat) (d9 : Nat) (d10 : Nat) (d11 : Nat) (d12 : Nat) (d13 : Nat) (R : Nat) (C : Nat) (dio : Bool) (bk : Bool) (lt : Bool) (sl : Int32) (V : Nat) (ru : Int32) (sus : Bool) (sos : Bool) (T : Nat) (pos : Nat → Nat) (ph : Nat → Int32) (bg : Nat → Int32) (fs : Nat → Bool) (gs : Nat → Bool) (st : Nat → Int32) (kk : Nat → Int32) (ve : Nat → Int32) (si : Nat → Int32) (ca : Nat → Bool) (mk : Nat) (lg : Nat → Int32) (sk : Int32) (rf : Int32) (tk : Int32) (fr : Nat) (fc : Nat) (op : Nat → Int32) (ob : Nat → Int32) (r : Int32) (hR : 1 ≤ R ∧ R ≤ 8) (hh : wiB r (nI 0) (nI (R - 1)) = false) : xC l yX5_connected wsX5_connected 1 0 0 22 D cI cZ [.ref h0, .int r] [(h0, .inr (5, [.int (nI R), .int (nI C), .int (bI dio), .int (bI bk), .int (bI lt), .int sl, .int (nI V), .int ru, .int (bI sus), .int (bI sos), .int (nI T), .ref d1, .ref d2, .ref d3, .ref d4, .ref d5, .ref d6, .ref d7, .ref d8, .ref d9, .ref d10, .int (nI mk), .ref d11, .int sk, .int rf, .int tk, .int (nI fr), .int (nI fc), .ref d12, .ref d13])), (d1, .inl (cI, 64, .inl (xN pos))), (d2, .inl (cI, 64, .inl ph)), (d3, .inl (cI, 64, .inl bg)), (d4, .inl (cZ, 64, .inl (xB fs))), (d5, .inl (cZ, 64, .inl (xB gs))), (d6, .inl (cI, 8, .inl st)), (d7, .inl (cI, 8, .inl kk)), (d8, .inl (cI, 8, .inl ve)), (d9, .inl (cI, 8, .inl si)), (d10, .inl (cZ, 8, .inl (xB ca))), (d11, .inl (cI, 48, .inl lg)), (d12, .inl (cI, 64, .inl op)), (d13, .inl (cI, 64, .inl ob))] (fun v8 w8 => v8 = some (.int (-2)) ∧ w8 = [(h0, .inr (5, [.int (nI R), .int (nI C), .int (bI dio), .int (bI bk), .int (bI lt), .int sl, .int (nI V), .int ru, .int (bI sus), .int (bI sos), .int (nI T), .ref d1, .ref d2, .ref d3, .ref d4, .ref d5, .ref d6, .ref d7, .ref d8, .ref d9, .ref d10, .int (nI mk), .ref d11, .int sk, .int rf, .int tk, .int (nI fr), .int (nI fc), .ref d12, .ref d13])), (d1, .inl (cI, 64, .inl (xN pos))), (d2, .inl (cI, 64, .inl ph)), (d3, .inl (cI, 64, .inl bg)), (d4, .inl (cZ, 64, .inl (xB fs))), (d5, .inl (cZ, 64, .inl (xB gs))), (d6, .inl (cI, 8, .inl st)), (d7, .inl (cI, 8, .inl kk)), (d8, .inl (cI, 8, .inl ve)), (d9, .inl (cI, 8, .inl si)), (d10, .inl (cZ, 8, .inl (xB ca))), (d11, .inl (cI, 48, .inl lg)), (d12, .inl (cI, 64, .inl op)), (d13, .inl (cI, 64, .inl ob))]) := by
  refine xC.of (bytes := cX5_connected) (maxL := 2) (ret := (some .int)) (own := RX5) (by decide +kernel) rfl (Nat.le_of_ble_eq_true rfl) rfl ?_
  intro p9 e9 s9 m9 args9 below9 meth9 cd9 A hE hr hin2 hA9
  have inX5 : ∀ w ∈ wsX50, w ∈ wsX5_connected := fun w h => List.mem_cons_of_mem _ (List.mem_append_right _ h)
  have g61 : xF RX5 wsX5_connected 61 5 0 := ⟨"KeyScannerModel", RX5, TX5, 30, inX5, rfl, by decide, List.mem_of_getElem? (i := 1) rfl, rfl⟩
  refine x_at (ws' := [(h0, .inr (5, [.int (nI R), .int (nI C), .int (bI dio), .int (bI bk), .int (bI lt), .int sl, .int (nI V), .int ru, .int (bI sus), .int (bI sos), .int (nI T), .ref d1, .ref d2, .ref d3, .ref d4, .ref d5, .ref d6, .ref d7, .ref d8, .ref d9, .ref d10, .int (nI mk), .ref d11, .int sk, .int rf, .int tk, .int (nI fr), .int (nI fc), .ref d12, .ref d13])), (d1, .inl (cI, 64, .inl (xN pos))), (d2, .inl (cI, 64, .inl ph)), (d3, .inl (cI, 64, .inl bg)), (d4, .inl (cZ, 64, .inl (xB fs))), (d5, .inl (cZ, 64, .inl (xB gs))), (d6, .inl (cI, 8, .inl st)), (d7, .inl (cI, 8, .inl kk)), (d8, .inl (cI, 8, .inl ve)), (d9, .inl (cI, 8, .inl si)), (d10, .inl (cZ, 8, .inl (xB ca))), (d11, .inl (cI, 48, .inl lg)), (d12, .inl (cI, 64, .inl op)), (d13, .inl (cI, 64, .inl ob))]) (st' := []) rfl rfl ?_
  refine x_lv [(0, .ref h0), (1, .int r)] [0, 1] rfl ?_
  refine x_iload_n hE 1 rfl dX5_connected_0 ?_
  refine x_iconst hE (nI 0) (by decide) dX5_connected_1 ?_
  refine x_aload_n hE 0 rfl dX5_connected_2 ?_
  refine x_get hE g61 0 rfl rfl dX5_connected_3 ?_
  refine x_iconst hE (nI 1) (by decide) dX5_connected_6 ?_
  refine x_isub hE (nI (R - 1)) (xI_sub (by omega)) dX5_connected_7 ?_
  refine x_callS (n := 3) (st := []) hE (kX5_in l D cI cZ r (nI 0) (nI (R - 1)) ) gX5_connected_X5_in rfl (by decide +kernel) ⟨by decide, by decide⟩ ⟨Nat.zero_le _, Nat.zero_le _⟩ rfl [] [0, 1, 2, 3, 4, 5, 6, 7, 8, 9, 10, 11, 12, 13] rfl (wr := [(h0, .inr (5, [.int (nI R), .int (nI C), .int (bI dio), .int (bI bk), .int (bI lt), .int sl, .int (nI V), .int ru, .int (bI sus), .int (bI sos), .int (nI T), .ref d1, .ref d2, .ref d3, .ref d4, .ref d5, .ref d6, .ref d7, .ref d8, .ref d9, .ref d10, .int (nI mk), .ref d11, .int sk, .int rf, .int tk, .int (nI fr), .int (nI fc), .ref d12, .ref d13])), (d1, .inl (cI, 64, .inl (xN pos))), (d2, .inl (cI, 64, .inl ph)), (d3, .inl (cI, 64, .inl bg)), (d4, .inl (cZ, 64, .inl (xB fs))), (d5, .inl (cZ, 64, .inl (xB gs))), (d6, .inl (cI, 8, .inl st)), (d7, .inl (cI, 8, .inl kk)), (d8, .inl (cI, 8, .inl ve)), (d9, .inl (cI, 8, .inl si)), (d10, .inl (cZ, 8, .inl (xB ca))), (d11, .inl (cI, 48, .inl lg)), (d12, .inl (cI, 64, .inl op)), (d13, .inl (cI, 64, .inl ob))]) rfl (by decide) (by decide) (by decide) rfl (Nat.le_of_ble_eq_true rfl) dX5_connected_8 (fun v9 w9 hT9 => ?_)
  obtain ⟨rfl, rfl⟩ := hT9
  refine x_at (ws' := [(h0, .inr (5, [.int (nI R), .int (nI C), .int (bI dio), .int (bI bk), .int (bI lt), .int sl, .int (nI V), .int ru, .int (bI sus), .int (bI sos), .int (nI T), .ref d1, .ref d2, .ref d3, .ref d4, .ref d5, .ref d6, .ref d7, .ref d8, .ref d9, .ref d10, .int (nI mk), .ref d11, .int sk, .int rf, .int tk, .int (nI fr), .int (nI fc), .ref d12, .ref d13])), (d1, .inl (cI, 64, .inl (xN pos))), (d2, .inl (cI, 64, .inl ph)), (d3, .inl (cI, 64, .inl bg)), (d4, .inl (cZ, 64, .inl (xB fs))), (d5, .inl (cZ, 64, .inl (xB gs))), (d6, .inl (cI, 8, .inl st)), (d7, .inl (cI, 8, .inl kk)), (d8, .inl (cI, 8, .inl ve)), (d9, .inl (cI, 8, .inl si)), (d10, .inl (cZ, 8, .inl (xB ca))), (d11, .inl (cI, 48, .inl lg)), (d12, .inl (cI, 64, .inl op)), (d13, .inl (cI, 64, .inl ob))]) (st' := [.int (bI (wiB r (nI 0) (nI (R - 1))))]) rfl rfl ?_
  refine xb_if_ne hE 17 (by decide) dX5_connected_11 (fun c11 => ?_) (fun c11 => ?_)
  · skip
    exact absurd c11 (by rw [hh]; decide)
  · skip
    refine x_bipush hE (-2) (by decide) dX5_connected_14 ?_
    exact x_iret hE hr (⟨rfl, rfl⟩) dX5_connected_16
set_option maxHeartbeats 4000000 in
set_option maxRecDepth 100000 in
theorem kX5_areAtRest (l : Launch) (D : va_G) (cI cZ : ClassId) (h0 : Nat) (d1 : Nat) (d2 : Nat) (d3 : Nat) (d4 : Nat) (d5 : Nat) (d6 : Nat) (d7 : Nat) (d8 : Nat) (d9 : Nat) (d10 : Nat) (d11 : Nat) (d12 : Nat) (d13 : Nat) (R : Nat) (C : Nat) (dio : Bool) (bk : Bool) (lt : Bool) (sl : Int32) (V : Nat) (ru : Int32) (sus : Bool) (sos : Bool) (T : Nat) (pos : Nat → Nat) (ph : Nat → Int32) (bg : Nat → Int32) (fs : Nat → Bool) (gs : Nat → Bool) (st : Nat → Int32) (kk : Nat → Int32) (ve : Nat → Int32) (si : Nat → Int32) (ca : Nat → Bool) (mk : Nat) (lg : Nat → Int32) (sk : Int32) (rf : Int32) (tk : Int32) (fr : Nat) (fc : Nat) (op : Nat → Int32) (ob : Nat → Int32) (hR : 1 ≤ R ∧ R ≤ 8) (hC : 1 ≤ C ∧ C ≤ 8) : xC l yX5_areAtRest wsX5_areAtRest 1 0 0 20 D cI cZ [.ref h0] [(h0, .inr (5, [.int (nI R), .int (nI C), .int (bI dio), .int (bI bk), .int (bI lt), .int sl, .int (nI V), .int ru, .int (bI sus), .int (bI sos), .int (nI T), .ref d1, .ref d2, .ref d3, .ref d4, .ref d5, .ref d6, .ref d7, .ref d8, .ref d9, .ref d10, .int (nI mk), .ref d11, .int sk, .int rf, .int tk, .int (nI fr), .int (nI fc), .ref d12, .ref d13])), (d1, .inl (cI, 64, .inl (xN pos))), (d2, .inl (cI, 64, .inl ph)), (d3, .inl (cI, 64, .inl bg)), (d4, .inl (cZ, 64, .inl (xB fs))), (d5, .inl (cZ, 64, .inl (xB gs))), (d6, .inl (cI, 8, .inl st)), (d7, .inl (cI, 8, .inl kk)), (d8, .inl (cI, 8, .inl ve)), (d9, .inl (cI, 8, .inl si)), (d10, .inl (cZ, 8, .inl (xB ca))), (d11, .inl (cI, 48, .inl lg)), (d12, .inl (cI, 64, .inl op)), (d13, .inl (cI, 64, .inl ob))] (fun v8 w8 => v8 = some (.int (bI (atB ph (R * C)))) ∧ w8 = [(h0, .inr (5, [.int (nI R), .int (nI C), .int (bI dio), .int (bI bk), .int (bI lt), .int sl, .int (nI V), .int ru, .int (bI sus), .int (bI sos), .int (nI T), .ref d1, .ref d2, .ref d3, .ref d4, .ref d5, .ref d6, .ref d7, .ref d8, .ref d9, .ref d10, .int (nI mk), .ref d11, .int sk, .int rf, .int tk, .int (nI fr), .int (nI fc), .ref d12, .ref d13])), (d1, .inl (cI, 64, .inl (xN pos))), (d2, .inl (cI, 64, .inl ph)), (d3, .inl (cI, 64, .inl bg)), (d4, .inl (cZ, 64, .inl (xB fs))), (d5, .inl (cZ, 64, .inl (xB gs))), (d6, .inl (cI, 8, .inl st)), (d7, .inl (cI, 8, .inl kk)), (d8, .inl (cI, 8, .inl ve)), (d9, .inl (cI, 8, .inl si)), (d10, .inl (cZ, 8, .inl (xB ca))), (d11, .inl (cI, 48, .inl lg)), (d12, .inl (cI, 64, .inl op)), (d13, .inl (cI, 64, .inl ob))]) := by
  refine xC.of (bytes := cX5_areAtRest) (maxL := 3) (ret := (some .boolean)) (own := RX5) (by decide +kernel) rfl (Nat.le_of_ble_eq_true rfl) rfl ?_
  intro p9 e9 s9 m9 args9 below9 meth9 cd9 A hE hr hin2 hA9
  have inX5 : ∀ w ∈ wsX50, w ∈ wsX5_areAtRest := fun w h => List.mem_cons_of_mem _ (List.mem_append_right _ h)
  have g20 : xF RX5 wsX5_areAtRest 20 5 12 := ⟨"KeyScannerModel", RX5, TX5, 30, inX5, rfl, by decide, List.mem_of_getElem? (i := 1) rfl, rfl⟩
  have hRC : R * C ≤ 64 := Nat.mul_le_mul hR.2 hC.2
  refine x_at (ws' := [(h0, .inr (5, [.int (nI R), .int (nI C), .int (bI dio), .int (bI bk), .int (bI lt), .int sl, .int (nI V), .int ru, .int (bI sus), .int (bI sos), .int (nI T), .ref d1, .ref d2, .ref d3, .ref d4, .ref d5, .ref d6, .ref d7, .ref d8, .ref d9, .ref d10, .int (nI mk), .ref d11, .int sk, .int rf, .int tk, .int (nI fr), .int (nI fc), .ref d12, .ref d13])), (d1, .inl (cI, 64, .inl (xN pos))), (d2, .inl (cI, 64, .inl ph)), (d3, .inl (cI, 64, .inl bg)), (d4, .inl (cZ, 64, .inl (xB fs))), (d5, .inl (cZ, 64, .inl (xB gs))), (d6, .inl (cI, 8, .inl st)), (d7, .inl (cI, 8, .inl kk)), (d8, .inl (cI, 8, .inl ve)), (d9, .inl (cI, 8, .inl si)), (d10, .inl (cZ, 8, .inl (xB ca))), (d11, .inl (cI, 48, .inl lg)), (d12, .inl (cI, 64, .inl op)), (d13, .inl (cI, 64, .inl ob))]) (st' := []) rfl rfl ?_
  refine x_lv [(0, .ref h0)] [0] rfl ?_
  have lp4 : ∀ (n : Nat) (i : Nat) (a : Bool) (hi : i + n = R * C) (hT : lfor (fun k a => if a = true then (if ph k = nI 0 then true else false) else false) i n a = atB ph (R * C)), X p9 l e9 { frames := 1, cells := 0, slots := 0, locals := 20 } s9 m9 args9 below9 meth9 cd9 0 0 (MQ below9 (xQ D (fun v8 w8 => v8 = some (.int (bI (atB ph (R * C)))) ∧ w8 = [(h0, .inr (5, [.int (nI R), .int (nI C), .int (bI dio), .int (bI bk), .int (bI lt), .int sl, .int (nI V), .int ru, .int (bI sus), .int (bI sos), .int (nI T), .ref d1, .ref d2, .ref d3, .ref d4, .ref d5, .ref d6, .ref d7, .ref d8, .ref d9, .ref d10, .int (nI mk), .ref d11, .int sk, .int rf, .int tk, .int (nI fr), .int (nI fc), .ref d12, .ref d13])), (d1, .inl (cI, 64, .inl (xN pos))), (d2, .inl (cI, 64, .inl ph)), (d3, .inl (cI, 64, .inl bg)), (d4, .inl (cZ, 64, .inl (xB fs))), (d5, .inl (cZ, 64, .inl (xB gs))), (d6, .inl (cI, 8, .inl st)), (d7, .inl (cI, 8, .inl kk)), (d8, .inl (cI, 8, .inl ve)), (d9, .inl (cI, 8, .inl si)), (d10, .inl (cZ, 8, .inl (xB ca))), (d11, .inl (cI, 48, .inl lg)), (d12, .inl (cI, 64, .inl op)), (d13, .inl (cI, 64, .inl ob))]) A) args9 s9 0 0 A) 3 D A [(h0, .inr (5, [.int (nI R), .int (nI C), .int (bI dio), .int (bI bk), .int (bI lt), .int sl, .int (nI V), .int ru, .int (bI sus), .int (bI sos), .int (nI T), .ref d1, .ref d2, .ref d3, .ref d4, .ref d5, .ref d6, .ref d7, .ref d8, .ref d9, .ref d10, .int (nI mk), .ref d11, .int sk, .int rf, .int tk, .int (nI fr), .int (nI fc), .ref d12, .ref d13])), (d1, .inl (cI, 64, .inl (xN pos))), (d2, .inl (cI, 64, .inl ph)), (d3, .inl (cI, 64, .inl bg)), (d4, .inl (cZ, 64, .inl (xB fs))), (d5, .inl (cZ, 64, .inl (xB gs))), (d6, .inl (cI, 8, .inl st)), (d7, .inl (cI, 8, .inl kk)), (d8, .inl (cI, 8, .inl ve)), (d9, .inl (cI, 8, .inl si)), (d10, .inl (cZ, 8, .inl (xB ca))), (d11, .inl (cI, 48, .inl lg)), (d12, .inl (cI, 64, .inl op)), (d13, .inl (cI, 64, .inl ob))] [(0, .ref h0), (1, .int (bI a)), (2, .int (nI i))] 4 [] := by
    intro n
    induction n with
    | zero =>
      intro i a hi hT
      refine x_iload_n hE 2 rfl dX5_areAtRest_4 ?_
      refine x_aload_n hE 0 rfl dX5_areAtRest_5 ?_
      refine x_callV (n := 0) (st := [.int (nI i)]) hE (kX5_keys l D cI cZ h0 d1 d2 d3 d4 d5 d6 d7 d8 d9 d10 d11 d12 d13 R C dio bk lt sl V ru sus sos T pos ph bg fs gs st kk ve si ca mk lg sk rf tk fr fc op ob ) gX5_areAtRest_X5_keys rfl (by decide +kernel) ⟨by decide, by decide⟩ ⟨Nat.zero_le _, Nat.zero_le _⟩ rfl [0, 1, 2, 3, 4, 5, 6, 7, 8, 9, 10, 11, 12, 13] [] rfl (wr := []) rfl (by decide) (by decide) (by decide) 0 rfl rfl rfl rfl (Nat.le_of_ble_eq_true rfl) dX5_areAtRest_6 (fun v9 w9 hT9 => ?_)
      obtain ⟨rfl, rfl⟩ := hT9
      refine x_at (ws' := [(h0, .inr (5, [.int (nI R), .int (nI C), .int (bI dio), .int (bI bk), .int (bI lt), .int sl, .int (nI V), .int ru, .int (bI sus), .int (bI sos), .int (nI T), .ref d1, .ref d2, .ref d3, .ref d4, .ref d5, .ref d6, .ref d7, .ref d8, .ref d9, .ref d10, .int (nI mk), .ref d11, .int sk, .int rf, .int tk, .int (nI fr), .int (nI fc), .ref d12, .ref d13])), (d1, .inl (cI, 64, .inl (xN pos))), (d2, .inl (cI, 64, .inl ph)), (d3, .inl (cI, 64, .inl bg)), (d4, .inl (cZ, 64, .inl (xB fs))), (d5, .inl (cZ, 64, .inl (xB gs))), (d6, .inl (cI, 8, .inl st)), (d7, .inl (cI, 8, .inl kk)), (d8, .inl (cI, 8, .inl ve)), (d9, .inl (cI, 8, .inl si)), (d10, .inl (cZ, 8, .inl (xB ca))), (d11, .inl (cI, 48, .inl lg)), (d12, .inl (cI, 64, .inl op)), (d13, .inl (cI, 64, .inl ob))]) (st' := [.int (nI (R * C)), .int (nI i)]) rfl rfl ?_
      refine xn_icmp_ge hE (by omega) (by omega) 37 (by decide) dX5_areAtRest_9 (fun c9 => ?_) (fun c9 => ?_)
      · skip
        refine x_iload_n hE 1 rfl dX5_areAtRest_37 ?_
        exact x_zret hE hr (⟨by rw [show a = atB ph (R * C) from hT], rfl⟩) dX5_areAtRest_38
      · skip
        exfalso; omega
    | succ n ih =>
      intro i a hi hT
      refine x_iload_n hE 2 rfl dX5_areAtRest_4 ?_
      refine x_aload_n hE 0 rfl dX5_areAtRest_5 ?_
      refine x_callV (n := 0) (st := [.int (nI i)]) hE (kX5_keys l D cI cZ h0 d1 d2 d3 d4 d5 d6 d7 d8 d9 d10 d11 d12 d13 R C dio bk lt sl V ru sus sos T pos ph bg fs gs st kk ve si ca mk lg sk rf tk fr fc op ob ) gX5_areAtRest_X5_keys rfl (by decide +kernel) ⟨by decide, by decide⟩ ⟨Nat.zero_le _, Nat.zero_le _⟩ rfl [0, 1, 2, 3, 4, 5, 6, 7, 8, 9, 10, 11, 12, 13] [] rfl (wr := []) rfl (by decide) (by decide) (by decide) 0 rfl rfl rfl rfl (Nat.le_of_ble_eq_true rfl) dX5_areAtRest_6 (fun v9 w9 hT9 => ?_)
      obtain ⟨rfl, rfl⟩ := hT9
      refine x_at (ws' := [(h0, .inr (5, [.int (nI R), .int (nI C), .int (bI dio), .int (bI bk), .int (bI lt), .int sl, .int (nI V), .int ru, .int (bI sus), .int (bI sos), .int (nI T), .ref d1, .ref d2, .ref d3, .ref d4, .ref d5, .ref d6, .ref d7, .ref d8, .ref d9, .ref d10, .int (nI mk), .ref d11, .int sk, .int rf, .int tk, .int (nI fr), .int (nI fc), .ref d12, .ref d13])), (d1, .inl (cI, 64, .inl (xN pos))), (d2, .inl (cI, 64, .inl ph)), (d3, .inl (cI, 64, .inl bg)), (d4, .inl (cZ, 64, .inl (xB fs))), (d5, .inl (cZ, 64, .inl (xB gs))), (d6, .inl (cI, 8, .inl st)), (d7, .inl (cI, 8, .inl kk)), (d8, .inl (cI, 8, .inl ve)), (d9, .inl (cI, 8, .inl si)), (d10, .inl (cZ, 8, .inl (xB ca))), (d11, .inl (cI, 48, .inl lg)), (d12, .inl (cI, 64, .inl op)), (d13, .inl (cI, 64, .inl ob))]) (st' := [.int (nI (R * C)), .int (nI i)]) rfl rfl ?_
      refine xn_icmp_ge hE (by omega) (by omega) 37 (by decide) dX5_areAtRest_9 (fun c9 => ?_) (fun c9 => ?_)
      · skip
        exfalso; omega
      · skip
        refine x_iload_n hE 1 rfl dX5_areAtRest_12 ?_
        refine xb_if_eq hE 29 (by decide) dX5_areAtRest_13 (fun c13 => ?_) (fun c13 => ?_)
        · skip
          refine x_iconst hE (nI 0) (by decide) dX5_areAtRest_29 ?_
          refine x_istore_n hE [(1, .int (nI 0)), (0, .ref h0), (2, .int (nI i))] (by decide) rfl dX5_areAtRest_30 ?_
          refine x_iinc hE (nI (i + 1)) [(2, .int (nI (i + 1))), (1, .int (nI 0)), (0, .ref h0)] 2 rfl (nI_add _ _) (by decide) rfl dX5_areAtRest_31 ?_
          refine x_goto hE 4 (by decide) dX5_areAtRest_34 ?_
          refine x_lv [(0, .ref h0), (1, .int (nI 0)), (2, .int (nI (i + 1)))] [2, 1, 0] rfl ?_
          exact ih (i + 1) false (by omega) (by simpa only [lfor, lany, lfind, if_pos c9, if_neg (bnt c13), reduceIte, Bool.false_eq_true, Bool.true_eq_false] using hT)
        · skip
          refine x_aload_n hE 0 rfl dX5_areAtRest_16 ?_
          refine x_get hE g20 0 rfl rfl dX5_areAtRest_17 ?_
          refine x_iload_n hE 2 rfl dX5_areAtRest_20 ?_
          refine x_iald hE i (ph i) (by omega) (by decide) rfl 2 rfl dX5_areAtRest_21 ?_
          refine x_if_ne hE 29 (by decide) dX5_areAtRest_22 (fun c22 => ?_) (fun c22 => ?_)
          · skip
            refine x_iconst hE (nI 0) (by decide) dX5_areAtRest_29 ?_
            refine x_istore_n hE [(1, .int (nI 0)), (0, .ref h0), (2, .int (nI i))] (by decide) rfl dX5_areAtRest_30 ?_
            refine x_iinc hE (nI (i + 1)) [(2, .int (nI (i + 1))), (1, .int (nI 0)), (0, .ref h0)] 2 rfl (nI_add _ _) (by decide) rfl dX5_areAtRest_31 ?_
            refine x_goto hE 4 (by decide) dX5_areAtRest_34 ?_
            refine x_lv [(0, .ref h0), (1, .int (nI 0)), (2, .int (nI (i + 1)))] [2, 1, 0] rfl ?_
            exact ih (i + 1) false (by omega) (by simpa only [lfor, lany, lfind, if_pos c9, if_pos c13, if_neg c22, reduceIte, Bool.false_eq_true, Bool.true_eq_false] using hT)
          · skip
            refine x_iconst hE (nI 1) (by decide) dX5_areAtRest_25 ?_
            refine x_goto hE 30 (by decide) dX5_areAtRest_26 ?_
            refine x_istore_n hE [(1, .int (nI 1)), (0, .ref h0), (2, .int (nI i))] (by decide) rfl dX5_areAtRest_30 ?_
            refine x_iinc hE (nI (i + 1)) [(2, .int (nI (i + 1))), (1, .int (nI 1)), (0, .ref h0)] 2 rfl (nI_add _ _) (by decide) rfl dX5_areAtRest_31 ?_
            refine x_goto hE 4 (by decide) dX5_areAtRest_34 ?_
            refine x_lv [(0, .ref h0), (1, .int (nI 1)), (2, .int (nI (i + 1)))] [2, 1, 0] rfl ?_
            exact ih (i + 1) true (by omega) (by simpa only [lfor, lany, lfind, if_pos c9, if_pos c13, if_pos c22, reduceIte, Bool.false_eq_true, Bool.true_eq_false] using hT)
  refine x_iconst hE (nI 1) (by decide) dX5_areAtRest_0 ?_
  refine x_istore_n hE [(1, .int (nI 1)), (0, .ref h0)] (by decide) rfl dX5_areAtRest_1 ?_
  refine x_iconst hE (nI 0) (by decide) dX5_areAtRest_2 ?_
  refine x_istore_n hE [(2, .int (nI 0)), (1, .int (nI 1)), (0, .ref h0)] (by decide) rfl dX5_areAtRest_3 ?_
  refine x_lv [(0, .ref h0), (1, .int (nI 1)), (2, .int (nI 0))] [2, 1, 0] rfl ?_
  exact lp4 (R * C) 0 true (Nat.zero_add _) (rfl)
set_option maxHeartbeats 4000000 in
set_option maxRecDepth 100000 in
theorem kX5_restAfter_ok (l : Launch) (D : va_G) (cI cZ : ClassId) (h0 : Nat) (d1 : Nat) (d2 : Nat) (d3 : Nat) (d4 : Nat) (d5 : Nat) (d6 : Nat) (d7 : Nat) (d8 : Nat) (d9 : Nat) (d10 : Nat) (d11 : Nat) (d12 : Nat) (d13 : Nat) (R : Nat) (C : Nat) (dio : Bool) (bk : Bool) (lt : Bool) (sl : Int32) (V : Nat) (ru : Int32) (sus : Bool) (sos : Bool) (T : Nat) (pos : Nat → Nat) (ph : Nat → Int32) (bg : Nat → Int32) (fs : Nat → Bool) (gs : Nat → Bool) (st : Nat → Int32) (kk : Nat → Int32) (ve : Nat → Int32) (si : Nat → Int32) (ca : Nat → Bool) (mk : Nat) (lg : Nat → Int32) (sk : Int32) (rf : Int32) (tk : Int32) (fr : Nat) (fc : Nat) (op : Nat → Int32) (ob : Nat → Int32) (t : Nat) (hR : 1 ≤ R ∧ R ≤ 8) (hC : 1 ≤ C ∧ C ≤ 8) (hTT : T < 2 ^ 29) (ht : 1 ≤ t ∧ t ≤ 1000) : xC l yX5_restAfter wsX5_restAfter 3 0 0 68 D cI cZ [.ref h0, .int (nI t)] [(h0, .inr (5, [.int (nI R), .int (nI C), .int (bI dio), .int (bI bk), .int (bI lt), .int sl, .int (nI V), .int ru, .int (bI sus), .int (bI sos), .int (nI T), .ref d1, .ref d2, .ref d3, .ref d4, .ref d5, .ref d6, .ref d7, .ref d8, .ref d9, .ref d10, .int (nI mk), .ref d11, .int sk, .int rf, .int tk, .int (nI fr), .int (nI fc), .ref d12, .ref d13])), (d1, .inl (cI, 64, .inl (xN pos))), (d2, .inl (cI, 64, .inl ph)), (d3, .inl (cI, 64, .inl bg)), (d4, .inl (cZ, 64, .inl (xB fs))), (d5, .inl (cZ, 64, .inl (xB gs))), (d6, .inl (cI, 8, .inl st)), (d7, .inl (cI, 8, .inl kk)), (d8, .inl (cI, 8, .inl ve)), (d9, .inl (cI, 8, .inl si)), (d10, .inl (cZ, 8, .inl (xB ca))), (d11, .inl (cI, 48, .inl lg)), (d12, .inl (cI, 64, .inl op)), (d13, .inl (cI, 64, .inl ob))] (fun v8 w8 => v8 = some (.int (raM fs gs R C T t t 0 (ph, bg))) ∧ w8 = [(h0, .inr (5, [.int (nI R), .int (nI C), .int (bI dio), .int (bI bk), .int (bI lt), .int sl, .int (nI V), .int ru, .int (bI sus), .int (bI sos), .int (nI T), .ref d1, .ref d2, .ref d3, .ref d4, .ref d5, .ref d6, .ref d7, .ref d8, .ref d9, .ref d10, .int (nI mk), .ref d11, .int sk, .int rf, .int tk, .int (nI fr), .int (nI fc), .ref d12, .ref d13])), (d1, .inl (cI, 64, .inl (xN pos))), (d2, .inl (cI, 64, .inl (fa_fill (fa_fill ph op 64) (raS fs gs R C T t t 0 (ph, bg)).1 64))), (d3, .inl (cI, 64, .inl (fa_fill (fa_fill bg ob 64) (raS fs gs R C T t t 0 (ph, bg)).2 64))), (d4, .inl (cZ, 64, .inl (xB fs))), (d5, .inl (cZ, 64, .inl (xB gs))), (d6, .inl (cI, 8, .inl st)), (d7, .inl (cI, 8, .inl kk)), (d8, .inl (cI, 8, .inl ve)), (d9, .inl (cI, 8, .inl si)), (d10, .inl (cZ, 8, .inl (xB ca))), (d11, .inl (cI, 48, .inl lg)), (d12, .inl (cI, 64, .inl (fa_fill ph op 64))), (d13, .inl (cI, 64, .inl (fa_fill bg ob 64)))]) := by
  refine xC.of (bytes := cX5_restAfter) (maxL := 6) (ret := (some .int)) (own := RX5) (by decide +kernel) rfl (Nat.le_of_ble_eq_true rfl) rfl ?_
  intro p9 e9 s9 m9 args9 below9 meth9 cd9 A hE hr hin2 hA9
  have inX5 : ∀ w ∈ wsX50, w ∈ wsX5_restAfter := fun w h => List.mem_cons_of_mem _ (List.mem_append_right _ h)
  have g20 : xF RX5 wsX5_restAfter 20 5 12 := ⟨"KeyScannerModel", RX5, TX5, 30, inX5, rfl, by decide, List.mem_of_getElem? (i := 2) rfl, rfl⟩
  have g51 : xF RX5 wsX5_restAfter 51 5 28 := ⟨"KeyScannerModel", RX5, TX5, 30, inX5, rfl, by decide, List.mem_of_getElem? (i := 1) rfl, rfl⟩
  have g23 : xF RX5 wsX5_restAfter 23 5 13 := ⟨"KeyScannerModel", RX5, TX5, 30, inX5, rfl, by decide, List.mem_of_getElem? (i := 4) rfl, rfl⟩
  have g54 : xF RX5 wsX5_restAfter 54 5 29 := ⟨"KeyScannerModel", RX5, TX5, 30, inX5, rfl, by decide, List.mem_of_getElem? (i := 3) rfl, rfl⟩
  have g74 : xF RX5 wsX5_restAfter 74 5 10 := ⟨"KeyScannerModel", RX5, TX5, 30, inX5, rfl, by decide, List.mem_of_getElem? (i := 5) rfl, rfl⟩
  have p74 : xP RX5 wsX5_restAfter 74 5 10 false .int := ⟨"KeyScannerModel", RX5, TX5, 30, tyX5, inX5, rfl, by decide, List.mem_of_getElem? (i := 5) rfl, rfl, tyX5_ok, nmX5, rfl, by decide +kernel, fun h => by cases h⟩
  refine x_at (ws' := [(h0, .inr (5, [.int (nI R), .int (nI C), .int (bI dio), .int (bI bk), .int (bI lt), .int sl, .int (nI V), .int ru, .int (bI sus), .int (bI sos), .int (nI T), .ref d1, .ref d2, .ref d3, .ref d4, .ref d5, .ref d6, .ref d7, .ref d8, .ref d9, .ref d10, .int (nI mk), .ref d11, .int sk, .int rf, .int tk, .int (nI fr), .int (nI fc), .ref d12, .ref d13])), (d1, .inl (cI, 64, .inl (xN pos))), (d2, .inl (cI, 64, .inl ph)), (d3, .inl (cI, 64, .inl bg)), (d4, .inl (cZ, 64, .inl (xB fs))), (d5, .inl (cZ, 64, .inl (xB gs))), (d6, .inl (cI, 8, .inl st)), (d7, .inl (cI, 8, .inl kk)), (d8, .inl (cI, 8, .inl ve)), (d9, .inl (cI, 8, .inl si)), (d10, .inl (cZ, 8, .inl (xB ca))), (d11, .inl (cI, 48, .inl lg)), (d12, .inl (cI, 64, .inl op)), (d13, .inl (cI, 64, .inl ob))]) (st' := []) rfl rfl ?_
  refine x_lv [(0, .ref h0), (1, .int (nI t))] [0, 1] rfl ?_
  have lp100 : ∀ (n : Nat) (i : Nat) (nn : Nat) (rb : Bool) (phy : Nat → Int32) (bgy : Nat → Int32) (px : Nat → Int32) (bx : Nat → Int32) (hi : i + n = 64) (h1 : px = fa_fill (fa_fill ph op 64) phy i) (h2 : bx = fa_fill (fa_fill bg ob 64) bgy i) (hres : (if rb = true then nI nn else (-3)) = raM fs gs R C T t t 0 (ph, bg)) (hfin : (phy, bgy) = raS fs gs R C T t t 0 (ph, bg)), X p9 l e9 { frames := 3, cells := 0, slots := 0, locals := 68 } s9 m9 args9 below9 meth9 cd9 0 0 (MQ below9 (xQ D (fun v8 w8 => v8 = some (.int (raM fs gs R C T t t 0 (ph, bg))) ∧ w8 = [(h0, .inr (5, [.int (nI R), .int (nI C), .int (bI dio), .int (bI bk), .int (bI lt), .int sl, .int (nI V), .int ru, .int (bI sus), .int (bI sos), .int (nI T), .ref d1, .ref d2, .ref d3, .ref d4, .ref d5, .ref d6, .ref d7, .ref d8, .ref d9, .ref d10, .int (nI mk), .ref d11, .int sk, .int rf, .int tk, .int (nI fr), .int (nI fc), .ref d12, .ref d13])), (d1, .inl (cI, 64, .inl (xN pos))), (d2, .inl (cI, 64, .inl (fa_fill (fa_fill ph op 64) (raS fs gs R C T t t 0 (ph, bg)).1 64))), (d3, .inl (cI, 64, .inl (fa_fill (fa_fill bg ob 64) (raS fs gs R C T t t 0 (ph, bg)).2 64))), (d4, .inl (cZ, 64, .inl (xB fs))), (d5, .inl (cZ, 64, .inl (xB gs))), (d6, .inl (cI, 8, .inl st)), (d7, .inl (cI, 8, .inl kk)), (d8, .inl (cI, 8, .inl ve)), (d9, .inl (cI, 8, .inl si)), (d10, .inl (cZ, 8, .inl (xB ca))), (d11, .inl (cI, 48, .inl lg)), (d12, .inl (cI, 64, .inl (fa_fill ph op 64))), (d13, .inl (cI, 64, .inl (fa_fill bg ob 64)))]) A) args9 s9 0 0 A) 6 D A [(h0, .inr (5, [.int (nI R), .int (nI C), .int (bI dio), .int (bI bk), .int (bI lt), .int sl, .int (nI V), .int ru, .int (bI sus), .int (bI sos), .int (nI T), .ref d1, .ref d2, .ref d3, .ref d4, .ref d5, .ref d6, .ref d7, .ref d8, .ref d9, .ref d10, .int (nI mk), .ref d11, .int sk, .int rf, .int tk, .int (nI fr), .int (nI fc), .ref d12, .ref d13])), (d1, .inl (cI, 64, .inl (xN pos))), (d2, .inl (cI, 64, .inl px)), (d3, .inl (cI, 64, .inl bx)), (d4, .inl (cZ, 64, .inl (xB fs))), (d5, .inl (cZ, 64, .inl (xB gs))), (d6, .inl (cI, 8, .inl st)), (d7, .inl (cI, 8, .inl kk)), (d8, .inl (cI, 8, .inl ve)), (d9, .inl (cI, 8, .inl si)), (d10, .inl (cZ, 8, .inl (xB ca))), (d11, .inl (cI, 48, .inl lg)), (d12, .inl (cI, 64, .inl (fa_fill ph op 64))), (d13, .inl (cI, 64, .inl (fa_fill bg ob 64)))] [(0, .ref h0), (1, .int (nI t)), (2, .int (nI T)), (3, .int (nI nn)), (4, .int (bI rb)), (5, .int (nI i))] 100 [] := by
    intro n
    induction n with
    | zero =>
      intro i nn rb phy bgy px bx hi h1 h2 hres hfin
      refine x_iload hE 5 rfl dX5_restAfter_100 ?_
      refine x_bipush hE (nI 64) (by decide) dX5_restAfter_102 ?_
      refine xn_icmp_ge hE (by omega) (by omega) 141 (by decide) dX5_restAfter_104 (fun c104 => ?_) (fun c104 => ?_)
      · skip
        refine x_iload hE 4 rfl dX5_restAfter_141 ?_
        refine xb_if_eq hE 150 (by decide) dX5_restAfter_143 (fun c143 => ?_) (fun c143 => ?_)
        · skip
          refine x_bipush hE (-3) (by decide) dX5_restAfter_150 ?_
          exact x_iret hE hr (⟨by rw [← hres, if_neg (bnt c143)], by rw [h1, h2, show i = 64 by omega, ← hfin]⟩) dX5_restAfter_152
        · skip
          refine x_iload_n hE 3 rfl dX5_restAfter_146 ?_
          refine x_goto hE 152 (by decide) dX5_restAfter_147 ?_
          exact x_iret hE hr (⟨by rw [← hres, if_pos c143], by rw [h1, h2, show i = 64 by omega, ← hfin]⟩) dX5_restAfter_152
      · skip
        exfalso; omega
    | succ n ih =>
      intro i nn rb phy bgy px bx hi h1 h2 hres hfin
      refine x_iload hE 5 rfl dX5_restAfter_100 ?_
      refine x_bipush hE (nI 64) (by decide) dX5_restAfter_102 ?_
      refine xn_icmp_ge hE (by omega) (by omega) 141 (by decide) dX5_restAfter_104 (fun c104 => ?_) (fun c104 => ?_)
      · skip
        exfalso; omega
      · skip
        refine x_aload_n hE 0 rfl dX5_restAfter_107 ?_
        refine x_get hE g20 0 rfl rfl dX5_restAfter_108 ?_
        refine x_iload hE 5 rfl dX5_restAfter_111 ?_
        refine x_aload_n hE 0 rfl dX5_restAfter_113 ?_
        refine x_get hE g51 0 rfl rfl dX5_restAfter_114 ?_
        refine x_iload hE 5 rfl dX5_restAfter_117 ?_
        refine x_iald hE i ((fa_fill ph op 64) i) (by omega) (by decide) rfl 12 rfl dX5_restAfter_119 ?_
        refine x_iast hE i (upd px i ((fa_fill ph op 64) i)) (by omega) (by decide) rfl [(h0, .inr (5, [.int (nI R), .int (nI C), .int (bI dio), .int (bI bk), .int (bI lt), .int sl, .int (nI V), .int ru, .int (bI sus), .int (bI sos), .int (nI T), .ref d1, .ref d2, .ref d3, .ref d4, .ref d5, .ref d6, .ref d7, .ref d8, .ref d9, .ref d10, .int (nI mk), .ref d11, .int sk, .int rf, .int tk, .int (nI fr), .int (nI fc), .ref d12, .ref d13])), (d1, .inl (cI, 64, .inl (xN pos))), (d2, .inl (cI, 64, .inl (upd px i ((fa_fill ph op 64) i)))), (d3, .inl (cI, 64, .inl bx)), (d4, .inl (cZ, 64, .inl (xB fs))), (d5, .inl (cZ, 64, .inl (xB gs))), (d6, .inl (cI, 8, .inl st)), (d7, .inl (cI, 8, .inl kk)), (d8, .inl (cI, 8, .inl ve)), (d9, .inl (cI, 8, .inl si)), (d10, .inl (cZ, 8, .inl (xB ca))), (d11, .inl (cI, 48, .inl lg)), (d12, .inl (cI, 64, .inl (fa_fill ph op 64))), (d13, .inl (cI, 64, .inl (fa_fill bg ob 64)))] 2 rfl rfl dX5_restAfter_120 ?_
        refine x_aload_n hE 0 rfl dX5_restAfter_121 ?_
        refine x_get hE g23 0 rfl rfl dX5_restAfter_122 ?_
        refine x_iload hE 5 rfl dX5_restAfter_125 ?_
        refine x_aload_n hE 0 rfl dX5_restAfter_127 ?_
        refine x_get hE g54 0 rfl rfl dX5_restAfter_128 ?_
        refine x_iload hE 5 rfl dX5_restAfter_131 ?_
        refine x_iald hE i ((fa_fill bg ob 64) i) (by omega) (by decide) rfl 13 rfl dX5_restAfter_133 ?_
        refine x_iast hE i (upd bx i ((fa_fill bg ob 64) i)) (by omega) (by decide) rfl [(h0, .inr (5, [.int (nI R), .int (nI C), .int (bI dio), .int (bI bk), .int (bI lt), .int sl, .int (nI V), .int ru, .int (bI sus), .int (bI sos), .int (nI T), .ref d1, .ref d2, .ref d3, .ref d4, .ref d5, .ref d6, .ref d7, .ref d8, .ref d9, .ref d10, .int (nI mk), .ref d11, .int sk, .int rf, .int tk, .int (nI fr), .int (nI fc), .ref d12, .ref d13])), (d1, .inl (cI, 64, .inl (xN pos))), (d2, .inl (cI, 64, .inl (upd px i ((fa_fill ph op 64) i)))), (d3, .inl (cI, 64, .inl (upd bx i ((fa_fill bg ob 64) i)))), (d4, .inl (cZ, 64, .inl (xB fs))), (d5, .inl (cZ, 64, .inl (xB gs))), (d6, .inl (cI, 8, .inl st)), (d7, .inl (cI, 8, .inl kk)), (d8, .inl (cI, 8, .inl ve)), (d9, .inl (cI, 8, .inl si)), (d10, .inl (cZ, 8, .inl (xB ca))), (d11, .inl (cI, 48, .inl lg)), (d12, .inl (cI, 64, .inl (fa_fill ph op 64))), (d13, .inl (cI, 64, .inl (fa_fill bg ob 64)))] 3 rfl rfl dX5_restAfter_134 ?_
        refine x_iinc hE (nI (i + 1)) [(5, .int (nI (i + 1))), (0, .ref h0), (1, .int (nI t)), (2, .int (nI T)), (3, .int (nI nn)), (4, .int (bI rb))] 5 rfl (nI_add _ _) (by decide) rfl dX5_restAfter_135 ?_
        refine x_goto hE 100 (by decide) dX5_restAfter_138 ?_
        refine x_lv [(0, .ref h0), (1, .int (nI t)), (2, .int (nI T)), (3, .int (nI nn)), (4, .int (bI rb)), (5, .int (nI (i + 1)))] [1, 2, 3, 4, 5, 0] rfl ?_
        exact ih (i + 1) nn rb phy bgy (upd px i ((fa_fill ph op 64) i)) (upd bx i ((fa_fill bg ob 64) i)) (by omega) (by rw [h1]; exact fa_fill_succ _ _ _) (by rw [h2]; exact fa_fill_succ _ _ _) (hres) (hfin)
  have lp65 : ∀ (n : Nat) (nn : Nat) (rb : Bool) (phx : Nat → Int32) (bgx : Nat → Int32) (Tx : Nat) (hn : nn + n = t) (hrb : rb = atB phx (R * C)) (hTx : Tx = T + nn) (hT : raM fs gs R C T t n nn (phx, bgx) = raM fs gs R C T t t 0 (ph, bg)) (hS : raS fs gs R C T t n nn (phx, bgx) = raS fs gs R C T t t 0 (ph, bg)), X p9 l e9 { frames := 3, cells := 0, slots := 0, locals := 68 } s9 m9 args9 below9 meth9 cd9 0 0 (MQ below9 (xQ D (fun v8 w8 => v8 = some (.int (raM fs gs R C T t t 0 (ph, bg))) ∧ w8 = [(h0, .inr (5, [.int (nI R), .int (nI C), .int (bI dio), .int (bI bk), .int (bI lt), .int sl, .int (nI V), .int ru, .int (bI sus), .int (bI sos), .int (nI T), .ref d1, .ref d2, .ref d3, .ref d4, .ref d5, .ref d6, .ref d7, .ref d8, .ref d9, .ref d10, .int (nI mk), .ref d11, .int sk, .int rf, .int tk, .int (nI fr), .int (nI fc), .ref d12, .ref d13])), (d1, .inl (cI, 64, .inl (xN pos))), (d2, .inl (cI, 64, .inl (fa_fill (fa_fill ph op 64) (raS fs gs R C T t t 0 (ph, bg)).1 64))), (d3, .inl (cI, 64, .inl (fa_fill (fa_fill bg ob 64) (raS fs gs R C T t t 0 (ph, bg)).2 64))), (d4, .inl (cZ, 64, .inl (xB fs))), (d5, .inl (cZ, 64, .inl (xB gs))), (d6, .inl (cI, 8, .inl st)), (d7, .inl (cI, 8, .inl kk)), (d8, .inl (cI, 8, .inl ve)), (d9, .inl (cI, 8, .inl si)), (d10, .inl (cZ, 8, .inl (xB ca))), (d11, .inl (cI, 48, .inl lg)), (d12, .inl (cI, 64, .inl (fa_fill ph op 64))), (d13, .inl (cI, 64, .inl (fa_fill bg ob 64)))]) A) args9 s9 0 0 A) 6 D A [(h0, .inr (5, [.int (nI R), .int (nI C), .int (bI dio), .int (bI bk), .int (bI lt), .int sl, .int (nI V), .int ru, .int (bI sus), .int (bI sos), .int (nI Tx), .ref d1, .ref d2, .ref d3, .ref d4, .ref d5, .ref d6, .ref d7, .ref d8, .ref d9, .ref d10, .int (nI mk), .ref d11, .int sk, .int rf, .int tk, .int (nI fr), .int (nI fc), .ref d12, .ref d13])), (d1, .inl (cI, 64, .inl (xN pos))), (d2, .inl (cI, 64, .inl phx)), (d3, .inl (cI, 64, .inl bgx)), (d4, .inl (cZ, 64, .inl (xB fs))), (d5, .inl (cZ, 64, .inl (xB gs))), (d6, .inl (cI, 8, .inl st)), (d7, .inl (cI, 8, .inl kk)), (d8, .inl (cI, 8, .inl ve)), (d9, .inl (cI, 8, .inl si)), (d10, .inl (cZ, 8, .inl (xB ca))), (d11, .inl (cI, 48, .inl lg)), (d12, .inl (cI, 64, .inl (fa_fill ph op 64))), (d13, .inl (cI, 64, .inl (fa_fill bg ob 64)))] [(0, .ref h0), (1, .int (nI t)), (2, .int (nI T)), (3, .int (nI nn)), (4, .int (bI rb))] 65 [] := by
    intro n
    induction n with
    | zero =>
      intro nn rb phx bgx Tx hn hrb hTx hT hS
      refine x_iload hE 4 rfl dX5_restAfter_65 ?_
      refine xb_if_ne hE 92 (by decide) dX5_restAfter_67 (fun c67 => ?_) (fun c67 => ?_)
      · skip
        refine x_aload_n hE 0 rfl dX5_restAfter_92 ?_
        refine x_iload_n hE 2 rfl dX5_restAfter_93 ?_
        refine x_put hE p74 [(h0, .inr (5, [.int (nI R), .int (nI C), .int (bI dio), .int (bI bk), .int (bI lt), .int sl, .int (nI V), .int ru, .int (bI sus), .int (bI sos), .int (nI T), .ref d1, .ref d2, .ref d3, .ref d4, .ref d5, .ref d6, .ref d7, .ref d8, .ref d9, .ref d10, .int (nI mk), .ref d11, .int sk, .int rf, .int tk, .int (nI fr), .int (nI fc), .ref d12, .ref d13])), (d1, .inl (cI, 64, .inl (xN pos))), (d2, .inl (cI, 64, .inl phx)), (d3, .inl (cI, 64, .inl bgx)), (d4, .inl (cZ, 64, .inl (xB fs))), (d5, .inl (cZ, 64, .inl (xB gs))), (d6, .inl (cI, 8, .inl st)), (d7, .inl (cI, 8, .inl kk)), (d8, .inl (cI, 8, .inl ve)), (d9, .inl (cI, 8, .inl si)), (d10, .inl (cZ, 8, .inl (xB ca))), (d11, .inl (cI, 48, .inl lg)), (d12, .inl (cI, 64, .inl (fa_fill ph op 64))), (d13, .inl (cI, 64, .inl (fa_fill bg ob 64)))] 0 rfl rfl rfl rfl (Nat.le_of_ble_eq_true rfl) dX5_restAfter_94 ?_
        refine x_iconst hE (nI 0) (by decide) dX5_restAfter_97 ?_
        refine x_istore hE [(5, .int (nI 0)), (0, .ref h0), (1, .int (nI t)), (2, .int (nI T)), (3, .int (nI nn)), (4, .int (bI rb))] (by decide) rfl dX5_restAfter_98 ?_
        refine x_lv [(0, .ref h0), (1, .int (nI t)), (2, .int (nI T)), (3, .int (nI nn)), (4, .int (bI rb)), (5, .int (nI 0))] [1, 2, 3, 4, 5, 0] rfl ?_
        exact lp100 64 0 nn rb phx bgx phx bgx (rfl) (by rw [fa_fill_0]) (by rw [fa_fill_0]) (by rw [hrb]; exact hT) (hS)
      · skip
        refine x_iload_n hE 3 rfl dX5_restAfter_70 ?_
        refine x_iload_n hE 1 rfl dX5_restAfter_71 ?_
        refine xn_icmp_ge hE (by omega) (by omega) 92 (by decide) dX5_restAfter_72 (fun c72 => ?_) (fun c72 => ?_)
        · skip
          refine x_aload_n hE 0 rfl dX5_restAfter_92 ?_
          refine x_iload_n hE 2 rfl dX5_restAfter_93 ?_
          refine x_put hE p74 [(h0, .inr (5, [.int (nI R), .int (nI C), .int (bI dio), .int (bI bk), .int (bI lt), .int sl, .int (nI V), .int ru, .int (bI sus), .int (bI sos), .int (nI T), .ref d1, .ref d2, .ref d3, .ref d4, .ref d5, .ref d6, .ref d7, .ref d8, .ref d9, .ref d10, .int (nI mk), .ref d11, .int sk, .int rf, .int tk, .int (nI fr), .int (nI fc), .ref d12, .ref d13])), (d1, .inl (cI, 64, .inl (xN pos))), (d2, .inl (cI, 64, .inl phx)), (d3, .inl (cI, 64, .inl bgx)), (d4, .inl (cZ, 64, .inl (xB fs))), (d5, .inl (cZ, 64, .inl (xB gs))), (d6, .inl (cI, 8, .inl st)), (d7, .inl (cI, 8, .inl kk)), (d8, .inl (cI, 8, .inl ve)), (d9, .inl (cI, 8, .inl si)), (d10, .inl (cZ, 8, .inl (xB ca))), (d11, .inl (cI, 48, .inl lg)), (d12, .inl (cI, 64, .inl (fa_fill ph op 64))), (d13, .inl (cI, 64, .inl (fa_fill bg ob 64)))] 0 rfl rfl rfl rfl (Nat.le_of_ble_eq_true rfl) dX5_restAfter_94 ?_
          refine x_iconst hE (nI 0) (by decide) dX5_restAfter_97 ?_
          refine x_istore hE [(5, .int (nI 0)), (0, .ref h0), (1, .int (nI t)), (2, .int (nI T)), (3, .int (nI nn)), (4, .int (bI rb))] (by decide) rfl dX5_restAfter_98 ?_
          refine x_lv [(0, .ref h0), (1, .int (nI t)), (2, .int (nI T)), (3, .int (nI nn)), (4, .int (bI rb)), (5, .int (nI 0))] [1, 2, 3, 4, 5, 0] rfl ?_
          exact lp100 64 0 nn rb phx bgx phx bgx (rfl) (by rw [fa_fill_0]) (by rw [fa_fill_0]) (by rw [hrb]; exact hT) (hS)
        · skip
          exfalso; omega
    | succ n ih =>
      intro nn rb phx bgx Tx hn hrb hTx hT hS
      refine x_iload hE 4 rfl dX5_restAfter_65 ?_
      refine xb_if_ne hE 92 (by decide) dX5_restAfter_67 (fun c67 => ?_) (fun c67 => ?_)
      · skip
        refine x_aload_n hE 0 rfl dX5_restAfter_92 ?_
        refine x_iload_n hE 2 rfl dX5_restAfter_93 ?_
        refine x_put hE p74 [(h0, .inr (5, [.int (nI R), .int (nI C), .int (bI dio), .int (bI bk), .int (bI lt), .int sl, .int (nI V), .int ru, .int (bI sus), .int (bI sos), .int (nI T), .ref d1, .ref d2, .ref d3, .ref d4, .ref d5, .ref d6, .ref d7, .ref d8, .ref d9, .ref d10, .int (nI mk), .ref d11, .int sk, .int rf, .int tk, .int (nI fr), .int (nI fc), .ref d12, .ref d13])), (d1, .inl (cI, 64, .inl (xN pos))), (d2, .inl (cI, 64, .inl phx)), (d3, .inl (cI, 64, .inl bgx)), (d4, .inl (cZ, 64, .inl (xB fs))), (d5, .inl (cZ, 64, .inl (xB gs))), (d6, .inl (cI, 8, .inl st)), (d7, .inl (cI, 8, .inl kk)), (d8, .inl (cI, 8, .inl ve)), (d9, .inl (cI, 8, .inl si)), (d10, .inl (cZ, 8, .inl (xB ca))), (d11, .inl (cI, 48, .inl lg)), (d12, .inl (cI, 64, .inl (fa_fill ph op 64))), (d13, .inl (cI, 64, .inl (fa_fill bg ob 64)))] 0 rfl rfl rfl rfl (Nat.le_of_ble_eq_true rfl) dX5_restAfter_94 ?_
        refine x_iconst hE (nI 0) (by decide) dX5_restAfter_97 ?_
        refine x_istore hE [(5, .int (nI 0)), (0, .ref h0), (1, .int (nI t)), (2, .int (nI T)), (3, .int (nI nn)), (4, .int (bI rb))] (by decide) rfl dX5_restAfter_98 ?_
        refine x_lv [(0, .ref h0), (1, .int (nI t)), (2, .int (nI T)), (3, .int (nI nn)), (4, .int (bI rb)), (5, .int (nI 0))] [1, 2, 3, 4, 5, 0] rfl ?_
        exact lp100 64 0 nn rb phx bgx phx bgx (rfl) (by rw [fa_fill_0]) (by rw [fa_fill_0]) (by have h9 := hT; simp only [raM, ← hrb, if_pos c67] at h9; rw [if_pos c67]; exact h9) (by have h9 := hS; simp only [raS, ← hrb, if_pos c67] at h9; exact h9)
      · skip
        refine x_iload_n hE 3 rfl dX5_restAfter_70 ?_
        refine x_iload_n hE 1 rfl dX5_restAfter_71 ?_
        refine xn_icmp_ge hE (by omega) (by omega) 92 (by decide) dX5_restAfter_72 (fun c72 => ?_) (fun c72 => ?_)
        · skip
          exfalso; omega
        · skip
          refine x_aload_n hE 0 rfl dX5_restAfter_75 ?_
          refine x_iconst hE (nI 0) (by decide) dX5_restAfter_76 ?_
          refine x_callV (n := 1) (st := []) hE (kX5_pass_no l D cI cZ h0 d1 d2 d3 d4 d5 d6 d7 d8 d9 d10 d11 d12 d13 R C dio bk lt sl V ru sus sos Tx pos phx bgx fs gs st kk ve si ca mk lg sk rf tk fr fc (fa_fill ph op 64) (fa_fill bg ob 64) (by omega) (by omega) (by omega)) gX5_restAfter_X5_pass rfl (by decide +kernel) ⟨by decide, by decide⟩ ⟨Nat.zero_le _, Nat.zero_le _⟩ rfl [0, 1, 2, 3, 4, 5, 6, 7, 8, 9, 10, 11, 12, 13] [] rfl (wr := []) rfl (by decide) (by decide) (by decide) 0 rfl rfl rfl rfl (Nat.le_of_ble_eq_true rfl) dX5_restAfter_77 (fun v9 w9 hT9 => ?_)
          obtain ⟨rfl, rfl⟩ := hT9
          generalize hF77 : nrow Tx fs gs C (Tx % R) (phx, bgx) = F77
          refine x_at (ws' := [(h0, .inr (5, [.int (nI R), .int (nI C), .int (bI dio), .int (bI bk), .int (bI lt), .int sl, .int (nI V), .int ru, .int (bI sus), .int (bI sos), .int (nI (Tx + 1)), .ref d1, .ref d2, .ref d3, .ref d4, .ref d5, .ref d6, .ref d7, .ref d8, .ref d9, .ref d10, .int (nI mk), .ref d11, .int sk, .int rf, .int tk, .int (nI fr), .int (nI fc), .ref d12, .ref d13])), (d1, .inl (cI, 64, .inl (xN pos))), (d2, .inl (cI, 64, .inl F77.1)), (d3, .inl (cI, 64, .inl F77.2)), (d4, .inl (cZ, 64, .inl (xB fs))), (d5, .inl (cZ, 64, .inl (xB gs))), (d6, .inl (cI, 8, .inl st)), (d7, .inl (cI, 8, .inl kk)), (d8, .inl (cI, 8, .inl ve)), (d9, .inl (cI, 8, .inl si)), (d10, .inl (cZ, 8, .inl (xB ca))), (d11, .inl (cI, 48, .inl lg)), (d12, .inl (cI, 64, .inl (fa_fill ph op 64))), (d13, .inl (cI, 64, .inl (fa_fill bg ob 64)))]) (st' := []) rfl rfl ?_
          refine x_iinc hE (nI (nn + 1)) [(3, .int (nI (nn + 1))), (0, .ref h0), (1, .int (nI t)), (2, .int (nI T)), (4, .int (bI rb))] 3 rfl (nI_add _ _) (by decide) rfl dX5_restAfter_80 ?_
          refine x_aload_n hE 1 rfl dX5_restAfter_83 ?_
          refine x_callV (n := 0) (st := []) hE (kX5_areAtRest l D cI cZ h0 d1 d2 d3 d4 d5 d6 d7 d8 d9 d10 d11 d12 d13 R C dio bk lt sl V ru sus sos (Tx + 1) pos F77.1 F77.2 fs gs st kk ve si ca mk lg sk rf tk fr fc (fa_fill ph op 64) (fa_fill bg ob 64) (by omega) (by omega)) gX5_restAfter_X5_areAtRest rfl (by decide +kernel) ⟨by decide, by decide⟩ ⟨Nat.zero_le _, Nat.zero_le _⟩ rfl [0, 1, 2, 3, 4, 5, 6, 7, 8, 9, 10, 11, 12, 13] [] rfl (wr := []) rfl (by decide) (by decide) (by decide) 0 rfl rfl rfl rfl (Nat.le_of_ble_eq_true rfl) dX5_restAfter_84 (fun v9 w9 hT9 => ?_)
          obtain ⟨rfl, rfl⟩ := hT9
          refine x_at (ws' := [(h0, .inr (5, [.int (nI R), .int (nI C), .int (bI dio), .int (bI bk), .int (bI lt), .int sl, .int (nI V), .int ru, .int (bI sus), .int (bI sos), .int (nI (Tx + 1)), .ref d1, .ref d2, .ref d3, .ref d4, .ref d5, .ref d6, .ref d7, .ref d8, .ref d9, .ref d10, .int (nI mk), .ref d11, .int sk, .int rf, .int tk, .int (nI fr), .int (nI fc), .ref d12, .ref d13])), (d1, .inl (cI, 64, .inl (xN pos))), (d2, .inl (cI, 64, .inl F77.1)), (d3, .inl (cI, 64, .inl F77.2)), (d4, .inl (cZ, 64, .inl (xB fs))), (d5, .inl (cZ, 64, .inl (xB gs))), (d6, .inl (cI, 8, .inl st)), (d7, .inl (cI, 8, .inl kk)), (d8, .inl (cI, 8, .inl ve)), (d9, .inl (cI, 8, .inl si)), (d10, .inl (cZ, 8, .inl (xB ca))), (d11, .inl (cI, 48, .inl lg)), (d12, .inl (cI, 64, .inl (fa_fill ph op 64))), (d13, .inl (cI, 64, .inl (fa_fill bg ob 64)))]) (st' := [.int (bI (atB F77.1 (R * C)))]) rfl rfl ?_
          refine x_istore hE [(4, .int (bI (atB F77.1 (R * C)))), (3, .int (nI (nn + 1))), (0, .ref h0), (1, .int (nI t)), (2, .int (nI T))] (by decide) rfl dX5_restAfter_87 ?_
          refine x_goto hE 65 (by decide) dX5_restAfter_89 ?_
          refine x_lv [(0, .ref h0), (1, .int (nI t)), (2, .int (nI T)), (3, .int (nI (nn + 1))), (4, .int (bI (atB F77.1 (R * C))))] [2, 3, 4, 1, 0] rfl ?_
          exact ih (nn + 1) (atB F77.1 (R * C)) F77.1 F77.2 (Tx + 1) (by omega) (rfl) (by omega) (by have h9 := hT; simp only [lfor, lany, raM, ← hrb, ← hTx, if_neg (bnt c67), if_pos c72, hF77, reduceIte, Bool.false_eq_true, Bool.true_eq_false] at h9; exact h9) (by have h9 := hS; simp only [lfor, lany, raS, ← hrb, ← hTx, if_neg (bnt c67), if_pos c72, hF77, reduceIte, Bool.false_eq_true, Bool.true_eq_false] at h9; exact h9)
  have lp16 : ∀ (n : Nat) (i : Nat) (px : Nat → Int32) (bx : Nat → Int32) (hi : i + n = 64) (h1 : px = fa_fill ph op i) (h2 : bx = fa_fill bg ob i), X p9 l e9 { frames := 3, cells := 0, slots := 0, locals := 68 } s9 m9 args9 below9 meth9 cd9 0 0 (MQ below9 (xQ D (fun v8 w8 => v8 = some (.int (raM fs gs R C T t t 0 (ph, bg))) ∧ w8 = [(h0, .inr (5, [.int (nI R), .int (nI C), .int (bI dio), .int (bI bk), .int (bI lt), .int sl, .int (nI V), .int ru, .int (bI sus), .int (bI sos), .int (nI T), .ref d1, .ref d2, .ref d3, .ref d4, .ref d5, .ref d6, .ref d7, .ref d8, .ref d9, .ref d10, .int (nI mk), .ref d11, .int sk, .int rf, .int tk, .int (nI fr), .int (nI fc), .ref d12, .ref d13])), (d1, .inl (cI, 64, .inl (xN pos))), (d2, .inl (cI, 64, .inl (fa_fill (fa_fill ph op 64) (raS fs gs R C T t t 0 (ph, bg)).1 64))), (d3, .inl (cI, 64, .inl (fa_fill (fa_fill bg ob 64) (raS fs gs R C T t t 0 (ph, bg)).2 64))), (d4, .inl (cZ, 64, .inl (xB fs))), (d5, .inl (cZ, 64, .inl (xB gs))), (d6, .inl (cI, 8, .inl st)), (d7, .inl (cI, 8, .inl kk)), (d8, .inl (cI, 8, .inl ve)), (d9, .inl (cI, 8, .inl si)), (d10, .inl (cZ, 8, .inl (xB ca))), (d11, .inl (cI, 48, .inl lg)), (d12, .inl (cI, 64, .inl (fa_fill ph op 64))), (d13, .inl (cI, 64, .inl (fa_fill bg ob 64)))]) A) args9 s9 0 0 A) 6 D A [(h0, .inr (5, [.int (nI R), .int (nI C), .int (bI dio), .int (bI bk), .int (bI lt), .int sl, .int (nI V), .int ru, .int (bI sus), .int (bI sos), .int (nI T), .ref d1, .ref d2, .ref d3, .ref d4, .ref d5, .ref d6, .ref d7, .ref d8, .ref d9, .ref d10, .int (nI mk), .ref d11, .int sk, .int rf, .int tk, .int (nI fr), .int (nI fc), .ref d12, .ref d13])), (d1, .inl (cI, 64, .inl (xN pos))), (d2, .inl (cI, 64, .inl ph)), (d3, .inl (cI, 64, .inl bg)), (d4, .inl (cZ, 64, .inl (xB fs))), (d5, .inl (cZ, 64, .inl (xB gs))), (d6, .inl (cI, 8, .inl st)), (d7, .inl (cI, 8, .inl kk)), (d8, .inl (cI, 8, .inl ve)), (d9, .inl (cI, 8, .inl si)), (d10, .inl (cZ, 8, .inl (xB ca))), (d11, .inl (cI, 48, .inl lg)), (d12, .inl (cI, 64, .inl px)), (d13, .inl (cI, 64, .inl bx))] [(0, .ref h0), (1, .int (nI t)), (2, .int (nI i))] 16 [] := by
    intro n
    induction n with
    | zero =>
      intro i px bx hi h1 h2
      refine x_iload_n hE 2 rfl dX5_restAfter_16 ?_
      refine x_bipush hE (nI 64) (by decide) dX5_restAfter_17 ?_
      refine xn_icmp_ge hE (by omega) (by omega) 52 (by decide) dX5_restAfter_19 (fun c19 => ?_) (fun c19 => ?_)
      · skip
        have h3 : px = fa_fill ph op 64 := by rw [h1, show i = 64 by omega]
        have h4 : bx = fa_fill bg ob 64 := by rw [h2, show i = 64 by omega]
        rw [h3, h4]
        refine x_aload_n hE 0 rfl dX5_restAfter_52 ?_
        refine x_get hE g74 0 rfl rfl dX5_restAfter_53 ?_
        refine x_istore_n hE [(2, .int (nI T)), (0, .ref h0), (1, .int (nI t))] (by decide) rfl dX5_restAfter_56 ?_
        refine x_iconst hE (nI 0) (by decide) dX5_restAfter_57 ?_
        refine x_istore_n hE [(3, .int (nI 0)), (2, .int (nI T)), (0, .ref h0), (1, .int (nI t))] (by decide) rfl dX5_restAfter_58 ?_
        refine x_aload_n hE 2 rfl dX5_restAfter_59 ?_
        refine x_callV (n := 0) (st := []) hE (kX5_areAtRest l D cI cZ h0 d1 d2 d3 d4 d5 d6 d7 d8 d9 d10 d11 d12 d13 R C dio bk lt sl V ru sus sos T pos ph bg fs gs st kk ve si ca mk lg sk rf tk fr fc (fa_fill ph op 64) (fa_fill bg ob 64) (by omega) (by omega)) gX5_restAfter_X5_areAtRest rfl (by decide +kernel) ⟨by decide, by decide⟩ ⟨Nat.zero_le _, Nat.zero_le _⟩ rfl [0, 1, 2, 3, 4, 5, 6, 7, 8, 9, 10, 11, 12, 13] [] rfl (wr := []) rfl (by decide) (by decide) (by decide) 0 rfl rfl rfl rfl (Nat.le_of_ble_eq_true rfl) dX5_restAfter_60 (fun v9 w9 hT9 => ?_)
        obtain ⟨rfl, rfl⟩ := hT9
        refine x_at (ws' := [(h0, .inr (5, [.int (nI R), .int (nI C), .int (bI dio), .int (bI bk), .int (bI lt), .int sl, .int (nI V), .int ru, .int (bI sus), .int (bI sos), .int (nI T), .ref d1, .ref d2, .ref d3, .ref d4, .ref d5, .ref d6, .ref d7, .ref d8, .ref d9, .ref d10, .int (nI mk), .ref d11, .int sk, .int rf, .int tk, .int (nI fr), .int (nI fc), .ref d12, .ref d13])), (d1, .inl (cI, 64, .inl (xN pos))), (d2, .inl (cI, 64, .inl ph)), (d3, .inl (cI, 64, .inl bg)), (d4, .inl (cZ, 64, .inl (xB fs))), (d5, .inl (cZ, 64, .inl (xB gs))), (d6, .inl (cI, 8, .inl st)), (d7, .inl (cI, 8, .inl kk)), (d8, .inl (cI, 8, .inl ve)), (d9, .inl (cI, 8, .inl si)), (d10, .inl (cZ, 8, .inl (xB ca))), (d11, .inl (cI, 48, .inl lg)), (d12, .inl (cI, 64, .inl (fa_fill ph op 64))), (d13, .inl (cI, 64, .inl (fa_fill bg ob 64)))]) (st' := [.int (bI (atB ph (R * C)))]) rfl rfl ?_
        refine x_istore hE [(4, .int (bI (atB ph (R * C)))), (3, .int (nI 0)), (2, .int (nI T)), (0, .ref h0), (1, .int (nI t))] (by decide) rfl dX5_restAfter_63 ?_
        refine x_lv [(0, .ref h0), (1, .int (nI t)), (2, .int (nI T)), (3, .int (nI 0)), (4, .int (bI (atB ph (R * C))))] [3, 4, 2, 1, 0] rfl ?_
        exact lp65 t 0 (atB ph (R * C)) ph bg T (Nat.zero_add _) (rfl) (rfl) (rfl) (rfl)
      · skip
        exfalso; omega
    | succ n ih =>
      intro i px bx hi h1 h2
      refine x_iload_n hE 2 rfl dX5_restAfter_16 ?_
      refine x_bipush hE (nI 64) (by decide) dX5_restAfter_17 ?_
      refine xn_icmp_ge hE (by omega) (by omega) 52 (by decide) dX5_restAfter_19 (fun c19 => ?_) (fun c19 => ?_)
      · skip
        exfalso; omega
      · skip
        refine x_aload_n hE 0 rfl dX5_restAfter_22 ?_
        refine x_get hE g51 0 rfl rfl dX5_restAfter_23 ?_
        refine x_iload_n hE 2 rfl dX5_restAfter_26 ?_
        refine x_aload_n hE 0 rfl dX5_restAfter_27 ?_
        refine x_get hE g20 0 rfl rfl dX5_restAfter_28 ?_
        refine x_iload_n hE 2 rfl dX5_restAfter_31 ?_
        refine x_iald hE i (ph i) (by omega) (by decide) rfl 2 rfl dX5_restAfter_32 ?_
        refine x_iast hE i (upd px i (ph i)) (by omega) (by decide) rfl [(h0, .inr (5, [.int (nI R), .int (nI C), .int (bI dio), .int (bI bk), .int (bI lt), .int sl, .int (nI V), .int ru, .int (bI sus), .int (bI sos), .int (nI T), .ref d1, .ref d2, .ref d3, .ref d4, .ref d5, .ref d6, .ref d7, .ref d8, .ref d9, .ref d10, .int (nI mk), .ref d11, .int sk, .int rf, .int tk, .int (nI fr), .int (nI fc), .ref d12, .ref d13])), (d1, .inl (cI, 64, .inl (xN pos))), (d2, .inl (cI, 64, .inl ph)), (d3, .inl (cI, 64, .inl bg)), (d4, .inl (cZ, 64, .inl (xB fs))), (d5, .inl (cZ, 64, .inl (xB gs))), (d6, .inl (cI, 8, .inl st)), (d7, .inl (cI, 8, .inl kk)), (d8, .inl (cI, 8, .inl ve)), (d9, .inl (cI, 8, .inl si)), (d10, .inl (cZ, 8, .inl (xB ca))), (d11, .inl (cI, 48, .inl lg)), (d12, .inl (cI, 64, .inl (upd px i (ph i)))), (d13, .inl (cI, 64, .inl bx))] 12 rfl rfl dX5_restAfter_33 ?_
        refine x_aload_n hE 0 rfl dX5_restAfter_34 ?_
        refine x_get hE g54 0 rfl rfl dX5_restAfter_35 ?_
        refine x_iload_n hE 2 rfl dX5_restAfter_38 ?_
        refine x_aload_n hE 0 rfl dX5_restAfter_39 ?_
        refine x_get hE g23 0 rfl rfl dX5_restAfter_40 ?_
        refine x_iload_n hE 2 rfl dX5_restAfter_43 ?_
        refine x_iald hE i (bg i) (by omega) (by decide) rfl 3 rfl dX5_restAfter_44 ?_
        refine x_iast hE i (upd bx i (bg i)) (by omega) (by decide) rfl [(h0, .inr (5, [.int (nI R), .int (nI C), .int (bI dio), .int (bI bk), .int (bI lt), .int sl, .int (nI V), .int ru, .int (bI sus), .int (bI sos), .int (nI T), .ref d1, .ref d2, .ref d3, .ref d4, .ref d5, .ref d6, .ref d7, .ref d8, .ref d9, .ref d10, .int (nI mk), .ref d11, .int sk, .int rf, .int tk, .int (nI fr), .int (nI fc), .ref d12, .ref d13])), (d1, .inl (cI, 64, .inl (xN pos))), (d2, .inl (cI, 64, .inl ph)), (d3, .inl (cI, 64, .inl bg)), (d4, .inl (cZ, 64, .inl (xB fs))), (d5, .inl (cZ, 64, .inl (xB gs))), (d6, .inl (cI, 8, .inl st)), (d7, .inl (cI, 8, .inl kk)), (d8, .inl (cI, 8, .inl ve)), (d9, .inl (cI, 8, .inl si)), (d10, .inl (cZ, 8, .inl (xB ca))), (d11, .inl (cI, 48, .inl lg)), (d12, .inl (cI, 64, .inl (upd px i (ph i)))), (d13, .inl (cI, 64, .inl (upd bx i (bg i))))] 13 rfl rfl dX5_restAfter_45 ?_
        refine x_iinc hE (nI (i + 1)) [(2, .int (nI (i + 1))), (0, .ref h0), (1, .int (nI t))] 2 rfl (nI_add _ _) (by decide) rfl dX5_restAfter_46 ?_
        refine x_goto hE 16 (by decide) dX5_restAfter_49 ?_
        refine x_lv [(0, .ref h0), (1, .int (nI t)), (2, .int (nI (i + 1)))] [1, 2, 0] rfl ?_
        exact ih (i + 1) (upd px i (ph i)) (upd bx i (bg i)) (by omega) (by rw [h1]; exact fa_fill_succ _ _ _) (by rw [h2]; exact fa_fill_succ _ _ _)
  refine x_iload_n hE 1 rfl dX5_restAfter_0 ?_
  refine x_iconst hE (nI 1) (by decide) dX5_restAfter_1 ?_
  refine x_sipush hE (nI 1000) (by decide) dX5_restAfter_2 ?_
  refine x_callS (n := 3) (st := []) hE (kX5_in l D cI cZ (nI t) (nI 1) (nI 1000) ) gX5_restAfter_X5_in rfl (by decide +kernel) ⟨by decide, by decide⟩ ⟨Nat.zero_le _, Nat.zero_le _⟩ rfl [] [0, 1, 2, 3, 4, 5, 6, 7, 8, 9, 10, 11, 12, 13] rfl (wr := [(h0, .inr (5, [.int (nI R), .int (nI C), .int (bI dio), .int (bI bk), .int (bI lt), .int sl, .int (nI V), .int ru, .int (bI sus), .int (bI sos), .int (nI T), .ref d1, .ref d2, .ref d3, .ref d4, .ref d5, .ref d6, .ref d7, .ref d8, .ref d9, .ref d10, .int (nI mk), .ref d11, .int sk, .int rf, .int tk, .int (nI fr), .int (nI fc), .ref d12, .ref d13])), (d1, .inl (cI, 64, .inl (xN pos))), (d2, .inl (cI, 64, .inl ph)), (d3, .inl (cI, 64, .inl bg)), (d4, .inl (cZ, 64, .inl (xB fs))), (d5, .inl (cZ, 64, .inl (xB gs))), (d6, .inl (cI, 8, .inl st)), (d7, .inl (cI, 8, .inl kk)), (d8, .inl (cI, 8, .inl ve)), (d9, .inl (cI, 8, .inl si)), (d10, .inl (cZ, 8, .inl (xB ca))), (d11, .inl (cI, 48, .inl lg)), (d12, .inl (cI, 64, .inl op)), (d13, .inl (cI, 64, .inl ob))]) rfl (by decide) (by decide) (by decide) rfl (Nat.le_of_ble_eq_true rfl) dX5_restAfter_5 (fun v9 w9 hT9 => ?_)
  obtain ⟨rfl, rfl⟩ := hT9
  refine x_at (ws' := [(h0, .inr (5, [.int (nI R), .int (nI C), .int (bI dio), .int (bI bk), .int (bI lt), .int sl, .int (nI V), .int ru, .int (bI sus), .int (bI sos), .int (nI T), .ref d1, .ref d2, .ref d3, .ref d4, .ref d5, .ref d6, .ref d7, .ref d8, .ref d9, .ref d10, .int (nI mk), .ref d11, .int sk, .int rf, .int tk, .int (nI fr), .int (nI fc), .ref d12, .ref d13])), (d1, .inl (cI, 64, .inl (xN pos))), (d2, .inl (cI, 64, .inl ph)), (d3, .inl (cI, 64, .inl bg)), (d4, .inl (cZ, 64, .inl (xB fs))), (d5, .inl (cZ, 64, .inl (xB gs))), (d6, .inl (cI, 8, .inl st)), (d7, .inl (cI, 8, .inl kk)), (d8, .inl (cI, 8, .inl ve)), (d9, .inl (cI, 8, .inl si)), (d10, .inl (cZ, 8, .inl (xB ca))), (d11, .inl (cI, 48, .inl lg)), (d12, .inl (cI, 64, .inl op)), (d13, .inl (cI, 64, .inl ob))]) (st' := [.int (bI (wiB (nI t) (nI 1) (nI 1000)))]) rfl rfl ?_
  refine xb_if_ne hE 14 (by decide) dX5_restAfter_8 (fun c8 => ?_) (fun c8 => ?_)
  · skip
    refine x_iconst hE (nI 0) (by decide) dX5_restAfter_14 ?_
    refine x_istore_n hE [(2, .int (nI 0)), (0, .ref h0), (1, .int (nI t))] (by decide) rfl dX5_restAfter_15 ?_
    refine x_lv [(0, .ref h0), (1, .int (nI t)), (2, .int (nI 0))] [1, 2, 0] rfl ?_
    exact lp16 64 0 op ob (rfl) (by rw [fa_fill_0]) (by rw [fa_fill_0])
  · skip
    exact absurd c8 (by rw [wi_ok ht.1 ht.2 (by decide)]; decide)
set_option maxHeartbeats 4000000 in
set_option maxRecDepth 100000 in
theorem kX5_restAfter_bad (l : Launch) (D : va_G) (cI cZ : ClassId) (h0 : Nat) (d1 : Nat) (d2 : Nat) (d3 : Nat) (d4 : Nat) (d5 : Nat) (d6 : Nat) (d7 : Nat) (d8 : Nat) (d9 : Nat) (d10 : Nat) (d11 : Nat) (d12 : Nat) (d13 : Nat) (R : Nat) (C : Nat) (dio : Bool) (bk : Bool) (lt : Bool) (sl : Int32) (V : Nat) (ru : Int32) (sus : Bool) (sos : Bool) (T : Nat) (pos : Nat → Nat) (ph : Nat → Int32) (bg : Nat → Int32) (fs : Nat → Bool) (gs : Nat → Bool) (st : Nat → Int32) (kk : Nat → Int32) (ve : Nat → Int32) (si : Nat → Int32) (ca : Nat → Bool) (mk : Nat) (lg : Nat → Int32) (sk : Int32) (rf : Int32) (tk : Int32) (fr : Nat) (fc : Nat) (op : Nat → Int32) (ob : Nat → Int32) (t : Int32) (hw : wiB t (nI 1) (nI 1000) = false) : xC l yX5_restAfter wsX5_restAfter 1 0 0 22 D cI cZ [.ref h0, .int t] [(h0, .inr (5, [.int (nI R), .int (nI C), .int (bI dio), .int (bI bk), .int (bI lt), .int sl, .int (nI V), .int ru, .int (bI sus), .int (bI sos), .int (nI T), .ref d1, .ref d2, .ref d3, .ref d4, .ref d5, .ref d6, .ref d7, .ref d8, .ref d9, .ref d10, .int (nI mk), .ref d11, .int sk, .int rf, .int tk, .int (nI fr), .int (nI fc), .ref d12, .ref d13])), (d1, .inl (cI, 64, .inl (xN pos))), (d2, .inl (cI, 64, .inl ph)), (d3, .inl (cI, 64, .inl bg)), (d4, .inl (cZ, 64, .inl (xB fs))), (d5, .inl (cZ, 64, .inl (xB gs))), (d6, .inl (cI, 8, .inl st)), (d7, .inl (cI, 8, .inl kk)), (d8, .inl (cI, 8, .inl ve)), (d9, .inl (cI, 8, .inl si)), (d10, .inl (cZ, 8, .inl (xB ca))), (d11, .inl (cI, 48, .inl lg)), (d12, .inl (cI, 64, .inl op)), (d13, .inl (cI, 64, .inl ob))] (fun v8 w8 => v8 = some (.int (-2)) ∧ w8 = [(h0, .inr (5, [.int (nI R), .int (nI C), .int (bI dio), .int (bI bk), .int (bI lt), .int sl, .int (nI V), .int ru, .int (bI sus), .int (bI sos), .int (nI T), .ref d1, .ref d2, .ref d3, .ref d4, .ref d5, .ref d6, .ref d7, .ref d8, .ref d9, .ref d10, .int (nI mk), .ref d11, .int sk, .int rf, .int tk, .int (nI fr), .int (nI fc), .ref d12, .ref d13])), (d1, .inl (cI, 64, .inl (xN pos))), (d2, .inl (cI, 64, .inl ph)), (d3, .inl (cI, 64, .inl bg)), (d4, .inl (cZ, 64, .inl (xB fs))), (d5, .inl (cZ, 64, .inl (xB gs))), (d6, .inl (cI, 8, .inl st)), (d7, .inl (cI, 8, .inl kk)), (d8, .inl (cI, 8, .inl ve)), (d9, .inl (cI, 8, .inl si)), (d10, .inl (cZ, 8, .inl (xB ca))), (d11, .inl (cI, 48, .inl lg)), (d12, .inl (cI, 64, .inl op)), (d13, .inl (cI, 64, .inl ob))]) := by
  refine xC.of (bytes := cX5_restAfter) (maxL := 6) (ret := (some .int)) (own := RX5) (by decide +kernel) rfl (Nat.le_of_ble_eq_true rfl) rfl ?_
  intro p9 e9 s9 m9 args9 below9 meth9 cd9 A hE hr hin2 hA9
  refine x_at (ws' := [(h0, .inr (5, [.int (nI R), .int (nI C), .int (bI dio), .int (bI bk), .int (bI lt), .int sl, .int (nI V), .int ru, .int (bI sus), .int (bI sos), .int (nI T), .ref d1, .ref d2, .ref d3, .ref d4, .ref d5, .ref d6, .ref d7, .ref d8, .ref d9, .ref d10, .int (nI mk), .ref d11, .int sk, .int rf, .int tk, .int (nI fr), .int (nI fc), .ref d12, .ref d13])), (d1, .inl (cI, 64, .inl (xN pos))), (d2, .inl (cI, 64, .inl ph)), (d3, .inl (cI, 64, .inl bg)), (d4, .inl (cZ, 64, .inl (xB fs))), (d5, .inl (cZ, 64, .inl (xB gs))), (d6, .inl (cI, 8, .inl st)), (d7, .inl (cI, 8, .inl kk)), (d8, .inl (cI, 8, .inl ve)), (d9, .inl (cI, 8, .inl si)), (d10, .inl (cZ, 8, .inl (xB ca))), (d11, .inl (cI, 48, .inl lg)), (d12, .inl (cI, 64, .inl op)), (d13, .inl (cI, 64, .inl ob))]) (st' := []) rfl rfl ?_
  refine x_lv [(0, .ref h0), (1, .int t)] [0, 1] rfl ?_
  refine x_iload_n hE 1 rfl dX5_restAfter_0 ?_
  refine x_iconst hE (nI 1) (by decide) dX5_restAfter_1 ?_
  refine x_sipush hE (nI 1000) (by decide) dX5_restAfter_2 ?_
  refine x_callS (n := 3) (st := []) hE (kX5_in l D cI cZ t (nI 1) (nI 1000) ) gX5_restAfter_X5_in rfl (by decide +kernel) ⟨by decide, by decide⟩ ⟨Nat.zero_le _, Nat.zero_le _⟩ rfl [] [0, 1, 2, 3, 4, 5, 6, 7, 8, 9, 10, 11, 12, 13] rfl (wr := [(h0, .inr (5, [.int (nI R), .int (nI C), .int (bI dio), .int (bI bk), .int (bI lt), .int sl, .int (nI V), .int ru, .int (bI sus), .int (bI sos), .int (nI T), .ref d1, .ref d2, .ref d3, .ref d4, .ref d5, .ref d6, .ref d7, .ref d8, .ref d9, .ref d10, .int (nI mk), .ref d11, .int sk, .int rf, .int tk, .int (nI fr), .int (nI fc), .ref d12, .ref d13])), (d1, .inl (cI, 64, .inl (xN pos))), (d2, .inl (cI, 64, .inl ph)), (d3, .inl (cI, 64, .inl bg)), (d4, .inl (cZ, 64, .inl (xB fs))), (d5, .inl (cZ, 64, .inl (xB gs))), (d6, .inl (cI, 8, .inl st)), (d7, .inl (cI, 8, .inl kk)), (d8, .inl (cI, 8, .inl ve)), (d9, .inl (cI, 8, .inl si)), (d10, .inl (cZ, 8, .inl (xB ca))), (d11, .inl (cI, 48, .inl lg)), (d12, .inl (cI, 64, .inl op)), (d13, .inl (cI, 64, .inl ob))]) rfl (by decide) (by decide) (by decide) rfl (Nat.le_of_ble_eq_true rfl) dX5_restAfter_5 (fun v9 w9 hT9 => ?_)
  obtain ⟨rfl, rfl⟩ := hT9
  refine x_at (ws' := [(h0, .inr (5, [.int (nI R), .int (nI C), .int (bI dio), .int (bI bk), .int (bI lt), .int sl, .int (nI V), .int ru, .int (bI sus), .int (bI sos), .int (nI T), .ref d1, .ref d2, .ref d3, .ref d4, .ref d5, .ref d6, .ref d7, .ref d8, .ref d9, .ref d10, .int (nI mk), .ref d11, .int sk, .int rf, .int tk, .int (nI fr), .int (nI fc), .ref d12, .ref d13])), (d1, .inl (cI, 64, .inl (xN pos))), (d2, .inl (cI, 64, .inl ph)), (d3, .inl (cI, 64, .inl bg)), (d4, .inl (cZ, 64, .inl (xB fs))), (d5, .inl (cZ, 64, .inl (xB gs))), (d6, .inl (cI, 8, .inl st)), (d7, .inl (cI, 8, .inl kk)), (d8, .inl (cI, 8, .inl ve)), (d9, .inl (cI, 8, .inl si)), (d10, .inl (cZ, 8, .inl (xB ca))), (d11, .inl (cI, 48, .inl lg)), (d12, .inl (cI, 64, .inl op)), (d13, .inl (cI, 64, .inl ob))]) (st' := [.int (bI (wiB t (nI 1) (nI 1000)))]) rfl rfl ?_
  refine xb_if_ne hE 14 (by decide) dX5_restAfter_8 (fun c8 => ?_) (fun c8 => ?_)
  · skip
    exact absurd c8 (by rw [hw]; decide)
  · skip
    refine x_bipush hE (-2) (by decide) dX5_restAfter_11 ?_
    exact x_iret hE hr (⟨rfl, rfl⟩) dX5_restAfter_13
set_option maxHeartbeats 4000000 in
set_option maxRecDepth 100000 in
theorem kX5_worstKey (l : Launch) (D : va_G) (cI cZ : ClassId) (h0 : Nat) (d1 : Nat) (d2 : Nat) (d3 : Nat) (d4 : Nat) (d5 : Nat) (d6 : Nat) (d7 : Nat) (d8 : Nat) (d9 : Nat) (d10 : Nat) (d11 : Nat) (d12 : Nat) (d13 : Nat) (R : Nat) (C : Nat) (dio : Bool) (bk : Bool) (lt : Bool) (sl : Int32) (V : Nat) (ru : Int32) (sus : Bool) (sos : Bool) (T : Nat) (pos : Nat → Nat) (ph : Nat → Int32) (bg : Nat → Int32) (fs : Nat → Bool) (gs : Nat → Bool) (st : Nat → Int32) (kk : Nat → Int32) (ve : Nat → Int32) (si : Nat → Int32) (ca : Nat → Bool) (mk : Nat) (lg : Nat → Int32) (sk : Int32) (rf : Int32) (tk : Int32) (fr : Nat) (fc : Nat) (op : Nat → Int32) (ob : Nat → Int32) (hR : 1 ≤ R ∧ R ≤ 8) (hC : 1 ≤ C ∧ C ≤ 8) (hpos : ∀ k, pos k ≤ 2) : xC l yX5_worstKey wsX5_worstKey 3 0 0 70 D cI cZ [.ref h0] [(h0, .inr (5, [.int (nI R), .int (nI C), .int (bI dio), .int (bI bk), .int (bI lt), .int sl, .int (nI V), .int ru, .int (bI sus), .int (bI sos), .int (nI T), .ref d1, .ref d2, .ref d3, .ref d4, .ref d5, .ref d6, .ref d7, .ref d8, .ref d9, .ref d10, .int (nI mk), .ref d11, .int sk, .int rf, .int tk, .int (nI fr), .int (nI fc), .ref d12, .ref d13])), (d1, .inl (cI, 64, .inl (xN pos))), (d2, .inl (cI, 64, .inl ph)), (d3, .inl (cI, 64, .inl bg)), (d4, .inl (cZ, 64, .inl (xB fs))), (d5, .inl (cZ, 64, .inl (xB gs))), (d6, .inl (cI, 8, .inl st)), (d7, .inl (cI, 8, .inl kk)), (d8, .inl (cI, 8, .inl ve)), (d9, .inl (cI, 8, .inl si)), (d10, .inl (cZ, 8, .inl (xB ca))), (d11, .inl (cI, 48, .inl lg)), (d12, .inl (cI, 64, .inl op)), (d13, .inl (cI, 64, .inl ob))] (fun v8 w8 => v8 = some (.int ((wmN dio pos R C fs gs).1)) ∧ w8 = [(h0, .inr (5, [.int (nI R), .int (nI C), .int (bI dio), .int (bI bk), .int (bI lt), .int sl, .int (nI V), .int ru, .int (bI sus), .int (bI sos), .int (nI T), .ref d1, .ref d2, .ref d3, .ref d4, .ref d5, .ref d6, .ref d7, .ref d8, .ref d9, .ref d10, .int (nI mk), .ref d11, .int sk, .int rf, .int tk, .int (nI ((cnF pos R C 2 (R - 1)).1)), .int (nI ((cnF pos R C 2 (R - 1)).2)), .ref d12, .ref d13])), (d1, .inl (cI, 64, .inl (xN pos))), (d2, .inl (cI, 64, .inl ph)), (d3, .inl (cI, 64, .inl bg)), (d4, .inl (cZ, 64, .inl (xB ((apA dio pos R C ((wmN dio pos R C fs gs).2.2.1, (wmN dio pos R C fs gs).2.2.2)).1)))), (d5, .inl (cZ, 64, .inl (xB ((apA dio pos R C ((wmN dio pos R C fs gs).2.2.1, (wmN dio pos R C fs gs).2.2.2)).2)))), (d6, .inl (cI, 8, .inl st)), (d7, .inl (cI, 8, .inl kk)), (d8, .inl (cI, 8, .inl ve)), (d9, .inl (cI, 8, .inl si)), (d10, .inl (cZ, 8, .inl (xB ca))), (d11, .inl (cI, 48, .inl lg)), (d12, .inl (cI, 64, .inl op)), (d13, .inl (cI, 64, .inl ob))]) := by
  refine xC.of (bytes := cX5_worstKey) (maxL := 5) (ret := (some .int)) (own := RX5) (by decide +kernel) rfl (Nat.le_of_ble_eq_true rfl) rfl ?_
  intro p9 e9 s9 m9 args9 below9 meth9 cd9 A hE hr hin2 hA9
  have inX5 : ∀ w ∈ wsX50, w ∈ wsX5_worstKey := fun w h => List.mem_cons_of_mem _ (List.mem_append_right _ h)
  have g16 : xF RX5 wsX5_worstKey 16 5 11 := ⟨"KeyScannerModel", RX5, TX5, 30, inX5, rfl, by decide, List.mem_of_getElem? (i := 1) rfl, rfl⟩
  have hRC : R * C ≤ 64 := Nat.mul_le_mul hR.2 hC.2
  refine x_at (ws' := [(h0, .inr (5, [.int (nI R), .int (nI C), .int (bI dio), .int (bI bk), .int (bI lt), .int sl, .int (nI V), .int ru, .int (bI sus), .int (bI sos), .int (nI T), .ref d1, .ref d2, .ref d3, .ref d4, .ref d5, .ref d6, .ref d7, .ref d8, .ref d9, .ref d10, .int (nI mk), .ref d11, .int sk, .int rf, .int tk, .int (nI fr), .int (nI fc), .ref d12, .ref d13])), (d1, .inl (cI, 64, .inl (xN pos))), (d2, .inl (cI, 64, .inl ph)), (d3, .inl (cI, 64, .inl bg)), (d4, .inl (cZ, 64, .inl (xB fs))), (d5, .inl (cZ, 64, .inl (xB gs))), (d6, .inl (cI, 8, .inl st)), (d7, .inl (cI, 8, .inl kk)), (d8, .inl (cI, 8, .inl ve)), (d9, .inl (cI, 8, .inl si)), (d10, .inl (cZ, 8, .inl (xB ca))), (d11, .inl (cI, 48, .inl lg)), (d12, .inl (cI, 64, .inl op)), (d13, .inl (cI, 64, .inl ob))]) (st' := []) rfl rfl ?_
  refine x_lv [(0, .ref h0)] [0] rfl ?_
  have lp10 : ∀ (n : Nat) (i : Nat) (ls : Nat) (b : Int32) (fsx : Nat → Bool) (gsx : Nat → Bool) (frx : Nat) (fcx : Nat) (hi : i + n = R * C) (hl : ls ≤ 64) (hT : lfor (wmS dio pos R C) i n (b, ls, fsx, gsx) = wmN dio pos R C fs gs), X p9 l e9 { frames := 3, cells := 0, slots := 0, locals := 70 } s9 m9 args9 below9 meth9 cd9 0 0 (MQ below9 (xQ D (fun v8 w8 => v8 = some (.int ((wmN dio pos R C fs gs).1)) ∧ w8 = [(h0, .inr (5, [.int (nI R), .int (nI C), .int (bI dio), .int (bI bk), .int (bI lt), .int sl, .int (nI V), .int ru, .int (bI sus), .int (bI sos), .int (nI T), .ref d1, .ref d2, .ref d3, .ref d4, .ref d5, .ref d6, .ref d7, .ref d8, .ref d9, .ref d10, .int (nI mk), .ref d11, .int sk, .int rf, .int tk, .int (nI ((cnF pos R C 2 (R - 1)).1)), .int (nI ((cnF pos R C 2 (R - 1)).2)), .ref d12, .ref d13])), (d1, .inl (cI, 64, .inl (xN pos))), (d2, .inl (cI, 64, .inl ph)), (d3, .inl (cI, 64, .inl bg)), (d4, .inl (cZ, 64, .inl (xB ((apA dio pos R C ((wmN dio pos R C fs gs).2.2.1, (wmN dio pos R C fs gs).2.2.2)).1)))), (d5, .inl (cZ, 64, .inl (xB ((apA dio pos R C ((wmN dio pos R C fs gs).2.2.1, (wmN dio pos R C fs gs).2.2.2)).2)))), (d6, .inl (cI, 8, .inl st)), (d7, .inl (cI, 8, .inl kk)), (d8, .inl (cI, 8, .inl ve)), (d9, .inl (cI, 8, .inl si)), (d10, .inl (cZ, 8, .inl (xB ca))), (d11, .inl (cI, 48, .inl lg)), (d12, .inl (cI, 64, .inl op)), (d13, .inl (cI, 64, .inl ob))]) A) args9 s9 0 0 A) 5 D A [(h0, .inr (5, [.int (nI R), .int (nI C), .int (bI dio), .int (bI bk), .int (bI lt), .int sl, .int (nI V), .int ru, .int (bI sus), .int (bI sos), .int (nI T), .ref d1, .ref d2, .ref d3, .ref d4, .ref d5, .ref d6, .ref d7, .ref d8, .ref d9, .ref d10, .int (nI mk), .ref d11, .int sk, .int rf, .int tk, .int (nI frx), .int (nI fcx), .ref d12, .ref d13])), (d1, .inl (cI, 64, .inl (xN pos))), (d2, .inl (cI, 64, .inl ph)), (d3, .inl (cI, 64, .inl bg)), (d4, .inl (cZ, 64, .inl (xB fsx))), (d5, .inl (cZ, 64, .inl (xB gsx))), (d6, .inl (cI, 8, .inl st)), (d7, .inl (cI, 8, .inl kk)), (d8, .inl (cI, 8, .inl ve)), (d9, .inl (cI, 8, .inl si)), (d10, .inl (cZ, 8, .inl (xB ca))), (d11, .inl (cI, 48, .inl lg)), (d12, .inl (cI, 64, .inl op)), (d13, .inl (cI, 64, .inl ob))] [(0, .ref h0), (1, .int (nI ls)), (2, .int b), (3, .int (nI i))] 10 [] := by
    intro n
    induction n with
    | zero =>
      intro i ls b fsx gsx frx fcx hi hl hT
      refine x_iload_n hE 3 rfl dX5_worstKey_10 ?_
      refine x_aload_n hE 0 rfl dX5_worstKey_11 ?_
      refine x_callV (n := 0) (st := [.int (nI i)]) hE (kX5_keys l D cI cZ h0 d1 d2 d3 d4 d5 d6 d7 d8 d9 d10 d11 d12 d13 R C dio bk lt sl V ru sus sos T pos ph bg fsx gsx st kk ve si ca mk lg sk rf tk frx fcx op ob ) gX5_worstKey_X5_keys rfl (by decide +kernel) ⟨by decide, by decide⟩ ⟨Nat.zero_le _, Nat.zero_le _⟩ rfl [0, 1, 2, 3, 4, 5, 6, 7, 8, 9, 10, 11, 12, 13] [] rfl (wr := []) rfl (by decide) (by decide) (by decide) 0 rfl rfl rfl rfl (Nat.le_of_ble_eq_true rfl) dX5_worstKey_12 (fun v9 w9 hT9 => ?_)
      obtain ⟨rfl, rfl⟩ := hT9
      refine x_at (ws' := [(h0, .inr (5, [.int (nI R), .int (nI C), .int (bI dio), .int (bI bk), .int (bI lt), .int sl, .int (nI V), .int ru, .int (bI sus), .int (bI sos), .int (nI T), .ref d1, .ref d2, .ref d3, .ref d4, .ref d5, .ref d6, .ref d7, .ref d8, .ref d9, .ref d10, .int (nI mk), .ref d11, .int sk, .int rf, .int tk, .int (nI frx), .int (nI fcx), .ref d12, .ref d13])), (d1, .inl (cI, 64, .inl (xN pos))), (d2, .inl (cI, 64, .inl ph)), (d3, .inl (cI, 64, .inl bg)), (d4, .inl (cZ, 64, .inl (xB fsx))), (d5, .inl (cZ, 64, .inl (xB gsx))), (d6, .inl (cI, 8, .inl st)), (d7, .inl (cI, 8, .inl kk)), (d8, .inl (cI, 8, .inl ve)), (d9, .inl (cI, 8, .inl si)), (d10, .inl (cZ, 8, .inl (xB ca))), (d11, .inl (cI, 48, .inl lg)), (d12, .inl (cI, 64, .inl op)), (d13, .inl (cI, 64, .inl ob))]) (st' := [.int (nI (R * C)), .int (nI i)]) rfl rfl ?_
      refine xn_icmp_ge hE (by omega) (by omega) 87 (by decide) dX5_worstKey_15 (fun c15 => ?_) (fun c15 => ?_)
      · skip
        refine x_aload_n hE 0 rfl dX5_worstKey_87 ?_
        refine x_callV (n := 0) (st := []) hE (kX5_appear l D cI cZ h0 d1 d2 d3 d4 d5 d6 d7 d8 d9 d10 d11 d12 d13 R C dio bk lt sl V ru sus sos T pos ph bg fsx gsx st kk ve si ca mk lg sk rf tk frx fcx op ob (by omega) (by omega) (hpos)) gX5_worstKey_X5_appear rfl (by decide +kernel) ⟨by decide, by decide⟩ ⟨Nat.zero_le _, Nat.zero_le _⟩ rfl [0, 1, 2, 3, 4, 5, 6, 7, 8, 9, 10, 11, 12, 13] [] rfl (wr := []) rfl (by decide) (by decide) (by decide) 0 rfl rfl rfl rfl (Nat.le_of_ble_eq_true rfl) dX5_worstKey_88 (fun v9 w9 hT9 => ?_)
        obtain ⟨rfl, rfl⟩ := hT9
        refine x_at (ws' := [(h0, .inr (5, [.int (nI R), .int (nI C), .int (bI dio), .int (bI bk), .int (bI lt), .int sl, .int (nI V), .int ru, .int (bI sus), .int (bI sos), .int (nI T), .ref d1, .ref d2, .ref d3, .ref d4, .ref d5, .ref d6, .ref d7, .ref d8, .ref d9, .ref d10, .int (nI mk), .ref d11, .int sk, .int rf, .int tk, .int (nI ((cnF pos R C 2 (R - 1)).1)), .int (nI ((cnF pos R C 2 (R - 1)).2)), .ref d12, .ref d13])), (d1, .inl (cI, 64, .inl (xN pos))), (d2, .inl (cI, 64, .inl ph)), (d3, .inl (cI, 64, .inl bg)), (d4, .inl (cZ, 64, .inl (xB ((apA dio pos R C (fsx, gsx)).1)))), (d5, .inl (cZ, 64, .inl (xB ((apA dio pos R C (fsx, gsx)).2)))), (d6, .inl (cI, 8, .inl st)), (d7, .inl (cI, 8, .inl kk)), (d8, .inl (cI, 8, .inl ve)), (d9, .inl (cI, 8, .inl si)), (d10, .inl (cZ, 8, .inl (xB ca))), (d11, .inl (cI, 48, .inl lg)), (d12, .inl (cI, 64, .inl op)), (d13, .inl (cI, 64, .inl ob))]) (st' := []) rfl rfl ?_
        refine x_iload_n hE 2 rfl dX5_worstKey_91 ?_
        exact x_iret hE hr (⟨by rw [← show (b, ls, fsx, gsx) = wmN dio pos R C fs gs from hT], by rw [← show (b, ls, fsx, gsx) = wmN dio pos R C fs gs from hT]⟩) dX5_worstKey_92
      · skip
        exfalso; omega
    | succ n ih =>
      intro i ls b fsx gsx frx fcx hi hl hT
      refine x_iload_n hE 3 rfl dX5_worstKey_10 ?_
      refine x_aload_n hE 0 rfl dX5_worstKey_11 ?_
      refine x_callV (n := 0) (st := [.int (nI i)]) hE (kX5_keys l D cI cZ h0 d1 d2 d3 d4 d5 d6 d7 d8 d9 d10 d11 d12 d13 R C dio bk lt sl V ru sus sos T pos ph bg fsx gsx st kk ve si ca mk lg sk rf tk frx fcx op ob ) gX5_worstKey_X5_keys rfl (by decide +kernel) ⟨by decide, by decide⟩ ⟨Nat.zero_le _, Nat.zero_le _⟩ rfl [0, 1, 2, 3, 4, 5, 6, 7, 8, 9, 10, 11, 12, 13] [] rfl (wr := []) rfl (by decide) (by decide) (by decide) 0 rfl rfl rfl rfl (Nat.le_of_ble_eq_true rfl) dX5_worstKey_12 (fun v9 w9 hT9 => ?_)
      obtain ⟨rfl, rfl⟩ := hT9
      refine x_at (ws' := [(h0, .inr (5, [.int (nI R), .int (nI C), .int (bI dio), .int (bI bk), .int (bI lt), .int sl, .int (nI V), .int ru, .int (bI sus), .int (bI sos), .int (nI T), .ref d1, .ref d2, .ref d3, .ref d4, .ref d5, .ref d6, .ref d7, .ref d8, .ref d9, .ref d10, .int (nI mk), .ref d11, .int sk, .int rf, .int tk, .int (nI frx), .int (nI fcx), .ref d12, .ref d13])), (d1, .inl (cI, 64, .inl (xN pos))), (d2, .inl (cI, 64, .inl ph)), (d3, .inl (cI, 64, .inl bg)), (d4, .inl (cZ, 64, .inl (xB fsx))), (d5, .inl (cZ, 64, .inl (xB gsx))), (d6, .inl (cI, 8, .inl st)), (d7, .inl (cI, 8, .inl kk)), (d8, .inl (cI, 8, .inl ve)), (d9, .inl (cI, 8, .inl si)), (d10, .inl (cZ, 8, .inl (xB ca))), (d11, .inl (cI, 48, .inl lg)), (d12, .inl (cI, 64, .inl op)), (d13, .inl (cI, 64, .inl ob))]) (st' := [.int (nI (R * C)), .int (nI i)]) rfl rfl ?_
      refine xn_icmp_ge hE (by omega) (by omega) 87 (by decide) dX5_worstKey_15 (fun c15 => ?_) (fun c15 => ?_)
      · skip
        exfalso; omega
      · skip
        refine x_aload_n hE 0 rfl dX5_worstKey_18 ?_
        refine x_get hE g16 0 rfl rfl dX5_worstKey_19 ?_
        refine x_iload_n hE 3 rfl dX5_worstKey_22 ?_
        refine x_iald hE i (nI (pos i)) (by omega) (by decide) rfl 1 rfl dX5_worstKey_23 ?_
        refine x_istore hE [(4, .int (nI (pos i))), (0, .ref h0), (1, .int (nI ls)), (2, .int b), (3, .int (nI i))] (by decide) rfl dX5_worstKey_24 ?_
        refine x_iload hE 0 rfl dX5_worstKey_26 ?_
        have hp28 := hpos i
        refine xn_if_le hE (by omega) 81 (by decide) dX5_worstKey_28 (fun c28 => ?_) (fun c28 => ?_)
        · skip
          refine x_iinc hE (nI (i + 1)) [(3, .int (nI (i + 1))), (4, .int (nI (pos i))), (0, .ref h0), (1, .int (nI ls)), (2, .int b)] 4 rfl (nI_add _ _) (by decide) rfl dX5_worstKey_81 ?_
          refine x_goto hE 10 (by decide) dX5_worstKey_84 ?_
          refine x_lv [(0, .ref h0), (1, .int (nI ls)), (2, .int b), (3, .int (nI (i + 1)))] [2, 3, 4, 0] rfl ?_
          exact ih (i + 1) ls b fsx gsx frx fcx (by omega) (hl) (by have h9 := hT; simp only [lfor, lany, wmS, if_pos c15, if_neg c28, reduceIte, Bool.false_eq_true, Bool.true_eq_false] at h9; exact h9)
        · skip
          refine x_aload_n hE 1 rfl dX5_worstKey_31 ?_
          refine x_get hE g16 0 rfl rfl dX5_worstKey_32 ?_
          refine x_iload_n hE 4 rfl dX5_worstKey_35 ?_
          refine x_iconst hE (nI 0) (by decide) dX5_worstKey_36 ?_
          refine x_iast hE i (xN (updN pos i 0)) (by omega) (by decide) (upd_xN _ _ _) [(h0, .inr (5, [.int (nI R), .int (nI C), .int (bI dio), .int (bI bk), .int (bI lt), .int sl, .int (nI V), .int ru, .int (bI sus), .int (bI sos), .int (nI T), .ref d1, .ref d2, .ref d3, .ref d4, .ref d5, .ref d6, .ref d7, .ref d8, .ref d9, .ref d10, .int (nI mk), .ref d11, .int sk, .int rf, .int tk, .int (nI frx), .int (nI fcx), .ref d12, .ref d13])), (d1, .inl (cI, 64, .inl (xN (updN pos i 0)))), (d2, .inl (cI, 64, .inl ph)), (d3, .inl (cI, 64, .inl bg)), (d4, .inl (cZ, 64, .inl (xB fsx))), (d5, .inl (cZ, 64, .inl (xB gsx))), (d6, .inl (cI, 8, .inl st)), (d7, .inl (cI, 8, .inl kk)), (d8, .inl (cI, 8, .inl ve)), (d9, .inl (cI, 8, .inl si)), (d10, .inl (cZ, 8, .inl (xB ca))), (d11, .inl (cI, 48, .inl lg)), (d12, .inl (cI, 64, .inl op)), (d13, .inl (cI, 64, .inl ob))] 1 rfl rfl dX5_worstKey_37 ?_
          have hpx : ∀ j, updN pos i 0 j ≤ 2 := fun j => by unfold updN; split; exact Nat.zero_le _; exact hpos j
          refine x_aload_n hE 1 rfl dX5_worstKey_38 ?_
          refine x_callV (n := 0) (st := []) hE (kX5_appear l D cI cZ h0 d1 d2 d3 d4 d5 d6 d7 d8 d9 d10 d11 d12 d13 R C dio bk lt sl V ru sus sos T (updN pos i 0) ph bg fsx gsx st kk ve si ca mk lg sk rf tk frx fcx op ob (by omega) (by omega) (hpx)) gX5_worstKey_X5_appear rfl (by decide +kernel) ⟨by decide, by decide⟩ ⟨Nat.zero_le _, Nat.zero_le _⟩ rfl [0, 1, 2, 3, 4, 5, 6, 7, 8, 9, 10, 11, 12, 13] [] rfl (wr := []) rfl (by decide) (by decide) (by decide) 0 rfl rfl rfl rfl (Nat.le_of_ble_eq_true rfl) dX5_worstKey_39 (fun v9 w9 hT9 => ?_)
          obtain ⟨rfl, rfl⟩ := hT9
          generalize hF39 : apA dio (updN pos i 0) R C (fsx, gsx) = F39
          refine x_at (ws' := [(h0, .inr (5, [.int (nI R), .int (nI C), .int (bI dio), .int (bI bk), .int (bI lt), .int sl, .int (nI V), .int ru, .int (bI sus), .int (bI sos), .int (nI T), .ref d1, .ref d2, .ref d3, .ref d4, .ref d5, .ref d6, .ref d7, .ref d8, .ref d9, .ref d10, .int (nI mk), .ref d11, .int sk, .int rf, .int tk, .int (nI ((cnF (updN pos i 0) R C 2 (R - 1)).1)), .int (nI ((cnF (updN pos i 0) R C 2 (R - 1)).2)), .ref d12, .ref d13])), (d1, .inl (cI, 64, .inl (xN (updN pos i 0)))), (d2, .inl (cI, 64, .inl ph)), (d3, .inl (cI, 64, .inl bg)), (d4, .inl (cZ, 64, .inl (xB F39.1))), (d5, .inl (cZ, 64, .inl (xB F39.2))), (d6, .inl (cI, 8, .inl st)), (d7, .inl (cI, 8, .inl kk)), (d8, .inl (cI, 8, .inl ve)), (d9, .inl (cI, 8, .inl si)), (d10, .inl (cZ, 8, .inl (xB ca))), (d11, .inl (cI, 48, .inl lg)), (d12, .inl (cI, 64, .inl op)), (d13, .inl (cI, 64, .inl ob))]) (st' := []) rfl rfl ?_
          refine x_aload_n hE 1 rfl dX5_worstKey_42 ?_
          refine x_callV (n := 0) (st := []) hE (kX5_ghosts l D cI cZ h0 d1 d2 d3 d4 d5 d6 d7 d8 d9 d10 d11 d12 d13 R C dio bk lt sl V ru sus sos T (updN pos i 0) ph bg F39.1 F39.2 st kk ve si ca mk lg sk rf tk ((cnF (updN pos i 0) R C 2 (R - 1)).1) ((cnF (updN pos i 0) R C 2 (R - 1)).2) op ob (by omega) (by omega) (hpx)) gX5_worstKey_X5_ghosts rfl (by decide +kernel) ⟨by decide, by decide⟩ ⟨Nat.zero_le _, Nat.zero_le _⟩ rfl [0, 1, 2, 3, 4, 5, 6, 7, 8, 9, 10, 11, 12, 13] [] rfl (wr := []) rfl (by decide) (by decide) (by decide) 0 rfl rfl rfl rfl (Nat.le_of_ble_eq_true rfl) dX5_worstKey_43 (fun v9 w9 hT9 => ?_)
          obtain ⟨rfl, rfl⟩ := hT9
          refine x_at (ws' := [(h0, .inr (5, [.int (nI R), .int (nI C), .int (bI dio), .int (bI bk), .int (bI lt), .int sl, .int (nI V), .int ru, .int (bI sus), .int (bI sos), .int (nI T), .ref d1, .ref d2, .ref d3, .ref d4, .ref d5, .ref d6, .ref d7, .ref d8, .ref d9, .ref d10, .int (nI mk), .ref d11, .int sk, .int rf, .int tk, .int (nI ((cnF (updN pos i 0) R C 2 (R - 1)).1)), .int (nI ((cnF (updN pos i 0) R C 2 (R - 1)).2)), .ref d12, .ref d13])), (d1, .inl (cI, 64, .inl (xN (updN pos i 0)))), (d2, .inl (cI, 64, .inl ph)), (d3, .inl (cI, 64, .inl bg)), (d4, .inl (cZ, 64, .inl (xB F39.1))), (d5, .inl (cZ, 64, .inl (xB F39.2))), (d6, .inl (cI, 8, .inl st)), (d7, .inl (cI, 8, .inl kk)), (d8, .inl (cI, 8, .inl ve)), (d9, .inl (cI, 8, .inl si)), (d10, .inl (cZ, 8, .inl (xB ca))), (d11, .inl (cI, 48, .inl lg)), (d12, .inl (cI, 64, .inl op)), (d13, .inl (cI, 64, .inl ob))]) (st' := [.int (nI (gcM F39.1 F39.2 (updN pos i 0) (R * C)))]) rfl rfl ?_
          have hg46 := gcM_le F39.1 F39.2 (updN pos i 0) (R * C)
          refine x_iload_n hE 2 rfl dX5_worstKey_46 ?_
          refine xn_icmp_ge hE (by omega) (by omega) 54 (by decide) dX5_worstKey_47 (fun c47 => ?_) (fun c47 => ?_)
          · skip
            refine x_iload_n hE 3 rfl dX5_worstKey_54 ?_
            refine x_istore_n hE [(2, .int b), (4, .int (nI (pos i))), (0, .ref h0), (1, .int (nI ls)), (3, .int (nI i))] (by decide) rfl dX5_worstKey_55 ?_
            refine x_aload_n hE 2 rfl dX5_worstKey_56 ?_
            refine x_callV (n := 0) (st := []) hE (kX5_ghosts l D cI cZ h0 d1 d2 d3 d4 d5 d6 d7 d8 d9 d10 d11 d12 d13 R C dio bk lt sl V ru sus sos T (updN pos i 0) ph bg F39.1 F39.2 st kk ve si ca mk lg sk rf tk ((cnF (updN pos i 0) R C 2 (R - 1)).1) ((cnF (updN pos i 0) R C 2 (R - 1)).2) op ob (by omega) (by omega) (hpx)) gX5_worstKey_X5_ghosts rfl (by decide +kernel) ⟨by decide, by decide⟩ ⟨Nat.zero_le _, Nat.zero_le _⟩ rfl [0, 1, 2, 3, 4, 5, 6, 7, 8, 9, 10, 11, 12, 13] [] rfl (wr := []) rfl (by decide) (by decide) (by decide) 0 rfl rfl rfl rfl (Nat.le_of_ble_eq_true rfl) dX5_worstKey_57 (fun v9 w9 hT9 => ?_)
            obtain ⟨rfl, rfl⟩ := hT9
            refine x_at (ws' := [(h0, .inr (5, [.int (nI R), .int (nI C), .int (bI dio), .int (bI bk), .int (bI lt), .int sl, .int (nI V), .int ru, .int (bI sus), .int (bI sos), .int (nI T), .ref d1, .ref d2, .ref d3, .ref d4, .ref d5, .ref d6, .ref d7, .ref d8, .ref d9, .ref d10, .int (nI mk), .ref d11, .int sk, .int rf, .int tk, .int (nI ((cnF (updN pos i 0) R C 2 (R - 1)).1)), .int (nI ((cnF (updN pos i 0) R C 2 (R - 1)).2)), .ref d12, .ref d13])), (d1, .inl (cI, 64, .inl (xN (updN pos i 0)))), (d2, .inl (cI, 64, .inl ph)), (d3, .inl (cI, 64, .inl bg)), (d4, .inl (cZ, 64, .inl (xB F39.1))), (d5, .inl (cZ, 64, .inl (xB F39.2))), (d6, .inl (cI, 8, .inl st)), (d7, .inl (cI, 8, .inl kk)), (d8, .inl (cI, 8, .inl ve)), (d9, .inl (cI, 8, .inl si)), (d10, .inl (cZ, 8, .inl (xB ca))), (d11, .inl (cI, 48, .inl lg)), (d12, .inl (cI, 64, .inl op)), (d13, .inl (cI, 64, .inl ob))]) (st' := [.int (nI (gcM F39.1 F39.2 (updN pos i 0) (R * C)))]) rfl rfl ?_
            refine x_iload_n hE 3 rfl dX5_worstKey_60 ?_
            refine xn_icmp_ge hE (by omega) (by omega) 71 (by decide) dX5_worstKey_61 (fun c61 => ?_) (fun c61 => ?_)
            · skip
              refine x_iload_n hE 3 rfl dX5_worstKey_71 ?_
              refine x_istore_n hE [(1, .int (nI ls)), (2, .int b), (4, .int (nI (pos i))), (0, .ref h0), (3, .int (nI i))] (by decide) rfl dX5_worstKey_72 ?_
              refine x_aload_n hE 3 rfl dX5_worstKey_73 ?_
              refine x_get hE g16 0 rfl rfl dX5_worstKey_74 ?_
              refine x_iload_n hE 4 rfl dX5_worstKey_77 ?_
              refine x_iload hE 2 rfl dX5_worstKey_78 ?_
              refine x_iast hE i (xN (pos)) (by omega) (by decide) ((upd_xN _ _ _).trans (by rw [updN_back])) [(h0, .inr (5, [.int (nI R), .int (nI C), .int (bI dio), .int (bI bk), .int (bI lt), .int sl, .int (nI V), .int ru, .int (bI sus), .int (bI sos), .int (nI T), .ref d1, .ref d2, .ref d3, .ref d4, .ref d5, .ref d6, .ref d7, .ref d8, .ref d9, .ref d10, .int (nI mk), .ref d11, .int sk, .int rf, .int tk, .int (nI ((cnF (updN pos i 0) R C 2 (R - 1)).1)), .int (nI ((cnF (updN pos i 0) R C 2 (R - 1)).2)), .ref d12, .ref d13])), (d1, .inl (cI, 64, .inl (xN pos))), (d2, .inl (cI, 64, .inl ph)), (d3, .inl (cI, 64, .inl bg)), (d4, .inl (cZ, 64, .inl (xB F39.1))), (d5, .inl (cZ, 64, .inl (xB F39.2))), (d6, .inl (cI, 8, .inl st)), (d7, .inl (cI, 8, .inl kk)), (d8, .inl (cI, 8, .inl ve)), (d9, .inl (cI, 8, .inl si)), (d10, .inl (cZ, 8, .inl (xB ca))), (d11, .inl (cI, 48, .inl lg)), (d12, .inl (cI, 64, .inl op)), (d13, .inl (cI, 64, .inl ob))] 1 rfl rfl dX5_worstKey_80 ?_
              refine x_iinc hE (nI (i + 1)) [(3, .int (nI (i + 1))), (1, .int (nI ls)), (2, .int b), (4, .int (nI (pos i))), (0, .ref h0)] 4 rfl (nI_add _ _) (by decide) rfl dX5_worstKey_81 ?_
              refine x_goto hE 10 (by decide) dX5_worstKey_84 ?_
              refine x_lv [(0, .ref h0), (1, .int (nI ls)), (2, .int b), (3, .int (nI (i + 1)))] [4, 1, 2, 0] rfl ?_
              exact ih (i + 1) ls b F39.1 F39.2 ((cnF (updN pos i 0) R C 2 (R - 1)).1) ((cnF (updN pos i 0) R C 2 (R - 1)).2) (by omega) (hl) (by have h9 := hT; simp only [lfor, lany, wmS, if_pos c15, if_pos c28, hF39, if_neg c47, if_neg c61, reduceIte, Bool.false_eq_true, Bool.true_eq_false] at h9; exact h9)
            · skip
              exact absurd c61 c47
          · skip
            refine x_iload_n hE 4 rfl dX5_worstKey_50 ?_
            refine x_goto hE 55 (by decide) dX5_worstKey_51 ?_
            refine x_istore_n hE [(2, .int (nI i)), (4, .int (nI (pos i))), (0, .ref h0), (1, .int (nI ls)), (3, .int (nI i))] (by decide) rfl dX5_worstKey_55 ?_
            refine x_aload_n hE 2 rfl dX5_worstKey_56 ?_
            refine x_callV (n := 0) (st := []) hE (kX5_ghosts l D cI cZ h0 d1 d2 d3 d4 d5 d6 d7 d8 d9 d10 d11 d12 d13 R C dio bk lt sl V ru sus sos T (updN pos i 0) ph bg F39.1 F39.2 st kk ve si ca mk lg sk rf tk ((cnF (updN pos i 0) R C 2 (R - 1)).1) ((cnF (updN pos i 0) R C 2 (R - 1)).2) op ob (by omega) (by omega) (hpx)) gX5_worstKey_X5_ghosts rfl (by decide +kernel) ⟨by decide, by decide⟩ ⟨Nat.zero_le _, Nat.zero_le _⟩ rfl [0, 1, 2, 3, 4, 5, 6, 7, 8, 9, 10, 11, 12, 13] [] rfl (wr := []) rfl (by decide) (by decide) (by decide) 0 rfl rfl rfl rfl (Nat.le_of_ble_eq_true rfl) dX5_worstKey_57 (fun v9 w9 hT9 => ?_)
            obtain ⟨rfl, rfl⟩ := hT9
            refine x_at (ws' := [(h0, .inr (5, [.int (nI R), .int (nI C), .int (bI dio), .int (bI bk), .int (bI lt), .int sl, .int (nI V), .int ru, .int (bI sus), .int (bI sos), .int (nI T), .ref d1, .ref d2, .ref d3, .ref d4, .ref d5, .ref d6, .ref d7, .ref d8, .ref d9, .ref d10, .int (nI mk), .ref d11, .int sk, .int rf, .int tk, .int (nI ((cnF (updN pos i 0) R C 2 (R - 1)).1)), .int (nI ((cnF (updN pos i 0) R C 2 (R - 1)).2)), .ref d12, .ref d13])), (d1, .inl (cI, 64, .inl (xN (updN pos i 0)))), (d2, .inl (cI, 64, .inl ph)), (d3, .inl (cI, 64, .inl bg)), (d4, .inl (cZ, 64, .inl (xB F39.1))), (d5, .inl (cZ, 64, .inl (xB F39.2))), (d6, .inl (cI, 8, .inl st)), (d7, .inl (cI, 8, .inl kk)), (d8, .inl (cI, 8, .inl ve)), (d9, .inl (cI, 8, .inl si)), (d10, .inl (cZ, 8, .inl (xB ca))), (d11, .inl (cI, 48, .inl lg)), (d12, .inl (cI, 64, .inl op)), (d13, .inl (cI, 64, .inl ob))]) (st' := [.int (nI (gcM F39.1 F39.2 (updN pos i 0) (R * C)))]) rfl rfl ?_
            refine x_iload_n hE 3 rfl dX5_worstKey_60 ?_
            refine xn_icmp_ge hE (by omega) (by omega) 71 (by decide) dX5_worstKey_61 (fun c61 => ?_) (fun c61 => ?_)
            · skip
              exact absurd c47 c61
            · skip
              refine x_aload_n hE 2 rfl dX5_worstKey_64 ?_
              refine x_callV (n := 0) (st := []) hE (kX5_ghosts l D cI cZ h0 d1 d2 d3 d4 d5 d6 d7 d8 d9 d10 d11 d12 d13 R C dio bk lt sl V ru sus sos T (updN pos i 0) ph bg F39.1 F39.2 st kk ve si ca mk lg sk rf tk ((cnF (updN pos i 0) R C 2 (R - 1)).1) ((cnF (updN pos i 0) R C 2 (R - 1)).2) op ob (by omega) (by omega) (hpx)) gX5_worstKey_X5_ghosts rfl (by decide +kernel) ⟨by decide, by decide⟩ ⟨Nat.zero_le _, Nat.zero_le _⟩ rfl [0, 1, 2, 3, 4, 5, 6, 7, 8, 9, 10, 11, 12, 13] [] rfl (wr := []) rfl (by decide) (by decide) (by decide) 0 rfl rfl rfl rfl (Nat.le_of_ble_eq_true rfl) dX5_worstKey_65 (fun v9 w9 hT9 => ?_)
              obtain ⟨rfl, rfl⟩ := hT9
              refine x_at (ws' := [(h0, .inr (5, [.int (nI R), .int (nI C), .int (bI dio), .int (bI bk), .int (bI lt), .int sl, .int (nI V), .int ru, .int (bI sus), .int (bI sos), .int (nI T), .ref d1, .ref d2, .ref d3, .ref d4, .ref d5, .ref d6, .ref d7, .ref d8, .ref d9, .ref d10, .int (nI mk), .ref d11, .int sk, .int rf, .int tk, .int (nI ((cnF (updN pos i 0) R C 2 (R - 1)).1)), .int (nI ((cnF (updN pos i 0) R C 2 (R - 1)).2)), .ref d12, .ref d13])), (d1, .inl (cI, 64, .inl (xN (updN pos i 0)))), (d2, .inl (cI, 64, .inl ph)), (d3, .inl (cI, 64, .inl bg)), (d4, .inl (cZ, 64, .inl (xB F39.1))), (d5, .inl (cZ, 64, .inl (xB F39.2))), (d6, .inl (cI, 8, .inl st)), (d7, .inl (cI, 8, .inl kk)), (d8, .inl (cI, 8, .inl ve)), (d9, .inl (cI, 8, .inl si)), (d10, .inl (cZ, 8, .inl (xB ca))), (d11, .inl (cI, 48, .inl lg)), (d12, .inl (cI, 64, .inl op)), (d13, .inl (cI, 64, .inl ob))]) (st' := [.int (nI (gcM F39.1 F39.2 (updN pos i 0) (R * C)))]) rfl rfl ?_
              refine x_goto hE 72 (by decide) dX5_worstKey_68 ?_
              refine x_istore_n hE [(1, .int (nI (gcM F39.1 F39.2 (updN pos i 0) (R * C)))), (2, .int (nI i)), (4, .int (nI (pos i))), (0, .ref h0), (3, .int (nI i))] (by decide) rfl dX5_worstKey_72 ?_
              refine x_aload_n hE 3 rfl dX5_worstKey_73 ?_
              refine x_get hE g16 0 rfl rfl dX5_worstKey_74 ?_
              refine x_iload_n hE 4 rfl dX5_worstKey_77 ?_
              refine x_iload hE 2 rfl dX5_worstKey_78 ?_
              refine x_iast hE i (xN (pos)) (by omega) (by decide) ((upd_xN _ _ _).trans (by rw [updN_back])) [(h0, .inr (5, [.int (nI R), .int (nI C), .int (bI dio), .int (bI bk), .int (bI lt), .int sl, .int (nI V), .int ru, .int (bI sus), .int (bI sos), .int (nI T), .ref d1, .ref d2, .ref d3, .ref d4, .ref d5, .ref d6, .ref d7, .ref d8, .ref d9, .ref d10, .int (nI mk), .ref d11, .int sk, .int rf, .int tk, .int (nI ((cnF (updN pos i 0) R C 2 (R - 1)).1)), .int (nI ((cnF (updN pos i 0) R C 2 (R - 1)).2)), .ref d12, .ref d13])), (d1, .inl (cI, 64, .inl (xN pos))), (d2, .inl (cI, 64, .inl ph)), (d3, .inl (cI, 64, .inl bg)), (d4, .inl (cZ, 64, .inl (xB F39.1))), (d5, .inl (cZ, 64, .inl (xB F39.2))), (d6, .inl (cI, 8, .inl st)), (d7, .inl (cI, 8, .inl kk)), (d8, .inl (cI, 8, .inl ve)), (d9, .inl (cI, 8, .inl si)), (d10, .inl (cZ, 8, .inl (xB ca))), (d11, .inl (cI, 48, .inl lg)), (d12, .inl (cI, 64, .inl op)), (d13, .inl (cI, 64, .inl ob))] 1 rfl rfl dX5_worstKey_80 ?_
              refine x_iinc hE (nI (i + 1)) [(3, .int (nI (i + 1))), (1, .int (nI (gcM F39.1 F39.2 (updN pos i 0) (R * C)))), (2, .int (nI i)), (4, .int (nI (pos i))), (0, .ref h0)] 4 rfl (nI_add _ _) (by decide) rfl dX5_worstKey_81 ?_
              refine x_goto hE 10 (by decide) dX5_worstKey_84 ?_
              refine x_lv [(0, .ref h0), (1, .int (nI (gcM F39.1 F39.2 (updN pos i 0) (R * C)))), (2, .int (nI i)), (3, .int (nI (i + 1)))] [4, 1, 2, 0] rfl ?_
              exact ih (i + 1) (gcM F39.1 F39.2 (updN pos i 0) (R * C)) (nI i) F39.1 F39.2 ((cnF (updN pos i 0) R C 2 (R - 1)).1) ((cnF (updN pos i 0) R C 2 (R - 1)).2) (by omega) (by omega) (by have h9 := hT; simp only [lfor, lany, wmS, if_pos c15, if_pos c28, hF39, if_pos c47, if_pos c61, reduceIte, Bool.false_eq_true, Bool.true_eq_false] at h9; exact h9)
  refine x_aload_n hE 0 rfl dX5_worstKey_0 ?_
  refine x_callV (n := 0) (st := []) hE (kX5_ghosts l D cI cZ h0 d1 d2 d3 d4 d5 d6 d7 d8 d9 d10 d11 d12 d13 R C dio bk lt sl V ru sus sos T pos ph bg fs gs st kk ve si ca mk lg sk rf tk fr fc op ob (by omega) (by omega) (hpos)) gX5_worstKey_X5_ghosts rfl (by decide +kernel) ⟨by decide, by decide⟩ ⟨Nat.zero_le _, Nat.zero_le _⟩ rfl [0, 1, 2, 3, 4, 5, 6, 7, 8, 9, 10, 11, 12, 13] [] rfl (wr := []) rfl (by decide) (by decide) (by decide) 0 rfl rfl rfl rfl (Nat.le_of_ble_eq_true rfl) dX5_worstKey_1 (fun v9 w9 hT9 => ?_)
  obtain ⟨rfl, rfl⟩ := hT9
  refine x_at (ws' := [(h0, .inr (5, [.int (nI R), .int (nI C), .int (bI dio), .int (bI bk), .int (bI lt), .int sl, .int (nI V), .int ru, .int (bI sus), .int (bI sos), .int (nI T), .ref d1, .ref d2, .ref d3, .ref d4, .ref d5, .ref d6, .ref d7, .ref d8, .ref d9, .ref d10, .int (nI mk), .ref d11, .int sk, .int rf, .int tk, .int (nI fr), .int (nI fc), .ref d12, .ref d13])), (d1, .inl (cI, 64, .inl (xN pos))), (d2, .inl (cI, 64, .inl ph)), (d3, .inl (cI, 64, .inl bg)), (d4, .inl (cZ, 64, .inl (xB fs))), (d5, .inl (cZ, 64, .inl (xB gs))), (d6, .inl (cI, 8, .inl st)), (d7, .inl (cI, 8, .inl kk)), (d8, .inl (cI, 8, .inl ve)), (d9, .inl (cI, 8, .inl si)), (d10, .inl (cZ, 8, .inl (xB ca))), (d11, .inl (cI, 48, .inl lg)), (d12, .inl (cI, 64, .inl op)), (d13, .inl (cI, 64, .inl ob))]) (st' := [.int (nI (gcM fs gs pos (R * C)))]) rfl rfl ?_
  have hg4 := gcM_le fs gs pos (R * C)
  refine x_istore_n hE [(1, .int (nI (gcM fs gs pos (R * C)))), (0, .ref h0)] (by decide) rfl dX5_worstKey_4 ?_
  refine x_bipush hE (-3) (by decide) dX5_worstKey_5 ?_
  refine x_istore_n hE [(2, .int (-3)), (1, .int (nI (gcM fs gs pos (R * C)))), (0, .ref h0)] (by decide) rfl dX5_worstKey_7 ?_
  refine x_iconst hE (nI 0) (by decide) dX5_worstKey_8 ?_
  refine x_istore_n hE [(3, .int (nI 0)), (2, .int (-3)), (1, .int (nI (gcM fs gs pos (R * C)))), (0, .ref h0)] (by decide) rfl dX5_worstKey_9 ?_
  refine x_lv [(0, .ref h0), (1, .int (nI (gcM fs gs pos (R * C)))), (2, .int (-3)), (3, .int (nI 0))] [3, 2, 1, 0] rfl ?_
  exact lp10 (R * C) 0 (gcM fs gs pos (R * C)) (-3) fs gs fr fc (Nat.zero_add _) (by omega) (rfl)
