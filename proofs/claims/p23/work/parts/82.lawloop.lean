set_option maxHeartbeats 8000000 in
set_option maxRecDepth 100000 in
theorem lo_fin {p9 : Program} {l : Launch} {e9 : Env} {s9 : State} {m9 : MethodId} {below9 : List Frame} {meth9 : Method} {cd9 : Code} {D : va_G} {cI cZ : ClassId} {b L : Nat} {xs : Nat → Int32} {a : KAd} {s : KSt} {R C V N cq zq ev : Nat} (hE : xE p9 s9 m9 #[Value.ref b] meth9 cd9 code RL wsL_law 19 D cI cZ (fun q : Nat => s9.heap.size ≤ q)) (hS9 : va_X b L xs s9 s9.heap ∧ b < s9.heap.size ∧ ¬ (fun q : Nat => s9.heap.size ≤ q) b ∧ L ≤ 1536) (hr : meth9.sig.returnType = ret) (hI : INV s R C V N) (hN : N ≤ 900) (hc9 : cq ≤ 600000) (hz9 : zq ≤ 7302250) (hev : ev = 34) : X p9 l e9 room_1 s9 m9 #[Value.ref b] below9 meth9 cd9 cq zq (lw_Z below9 #[Value.ref b] s9) 19 D (fun q : Nat => s9.heap.size ≤ q) (kW cI cZ a s) [(0, .ref b), (1, .ref (aH a)), (3, .int (nI R)), (4, .int (nI C)), (5, .int (nI (R * C))), (6, .int (bI (kdio s))), (7, .int (bI (kSus s))), (8, .int (bI (kSos s))), (9, .int (kRu s)), (10, .int (kSl s)), (11, .int (nI V)), (12, .int (nI ev))] 98 [] := by
  obtain ⟨hRC, hRC1⟩ := hI.rc
  have hok := hI.ok (by omega)
  have hok2 := hok.rs (q := 2) (u := 3) (by decide) (by decide)
  obtain ⟨hR, hC, hV⟩ : (1 ≤ R ∧ R ≤ 8) ∧ (1 ≤ C ∧ C ≤ 8) ∧ (1 ≤ V ∧ V ≤ 8) := ⟨hok.2.2.2.1, hok.2.2.2.2.1, hok.2.2.2.2.2.1⟩
  refine x_iload hE 11 rfl dL_law_98 ?_
  refine x_bipush hE (nI 34) (by decide) dL_law_100 ?_
  refine xn_icmp_ge hE (by omega) (by decide) 909 (by decide) dL_law_102 (fun c102 => ?_) (fun c102 => ?_)
  · skip
    refine x_aload_n hE 1 rfl dL_law_909 ?_
    refine x_iload hE 4 rfl dL_law_910 ?_
    refine x_iconst hE (nI 0) (by decide) dL_law_912 ?_
    refine x_callK (n := 2) (st := []) hE (ck_key_hi l D cI cZ a s hok  ) gL_law_X4_key rfl rfl (by decide +kernel) ⟨by decide, by decide⟩ ⟨show cq ≤ 600000 by omega, show zq ≤ 7302250 by omega⟩ rfl rfl (Nat.le_of_ble_eq_true rfl) dL_law_913 (fun v9 w9 hT9 => ?_)
    obtain ⟨rfl, rfl⟩ := hT9
    refine x_at (ws' := (kW cI cZ a s)) (st' := [.int (-1)]) rfl rfl ?_
    refine x_iconst hE (-1) (by decide) dL_law_916 ?_
    refine x_icmp_ne hE 1005 (by decide) dL_law_917 (fun c917 => ?_) (fun c917 => ?_)
    · skip
      exact absurd rfl c917
    · skip
      refine x_aload_n hE 1 rfl dL_law_920 ?_
      refine x_iconst hE (-1) (by decide) dL_law_921 ?_
      refine x_iconst hE (nI 0) (by decide) dL_law_922 ?_
      refine x_callK (n := 2) (st := []) hE (ck_key_lo l D cI cZ a s hok  ) gL_law_X4_key rfl rfl (by decide +kernel) ⟨by decide, by decide⟩ ⟨show cq ≤ 600000 by omega, show zq ≤ 7302250 by omega⟩ rfl rfl (Nat.le_of_ble_eq_true rfl) dL_law_923 (fun v9 w9 hT9 => ?_)
      obtain ⟨rfl, rfl⟩ := hT9
      refine x_at (ws' := (kW cI cZ a s)) (st' := [.int (-1)]) rfl rfl ?_
      refine x_iconst hE (-1) (by decide) dL_law_926 ?_
      refine x_icmp_ne hE 1005 (by decide) dL_law_927 (fun c927 => ?_) (fun c927 => ?_)
      · skip
        exact absurd rfl c927
      · skip
        refine x_aload_n hE 1 rfl dL_law_930 ?_
        refine x_iconst hE (nI 0) (by decide) dL_law_931 ?_
        refine x_callK (n := 1) (st := []) hE (ck_tick_lo l D cI cZ a s hok  ) gL_law_X4_tick rfl rfl (by decide +kernel) ⟨by decide, by decide⟩ ⟨show cq ≤ 600000 by omega, show zq ≤ 7302250 by omega⟩ rfl rfl (Nat.le_of_ble_eq_true rfl) dL_law_932 (fun v9 w9 hT9 => ?_)
        obtain ⟨rfl, rfl⟩ := hT9
        refine x_at (ws' := (kW cI cZ a s)) (st' := [.int (-2)]) rfl rfl ?_
        refine x_bipush hE (-2) (by decide) dL_law_935 ?_
        refine x_icmp_ne hE 1005 (by decide) dL_law_937 (fun c937 => ?_) (fun c937 => ?_)
        · skip
          exact absurd rfl c937
        · skip
          refine x_aload_n hE 1 rfl dL_law_940 ?_
          refine x_sipush hE (nI 1001) (by decide) dL_law_941 ?_
          refine x_callK (n := 1) (st := []) hE (ck_tick_hi l D cI cZ a s hok  ) gL_law_X4_tick rfl rfl (by decide +kernel) ⟨by decide, by decide⟩ ⟨show cq ≤ 600000 by omega, show zq ≤ 7302250 by omega⟩ rfl rfl (Nat.le_of_ble_eq_true rfl) dL_law_944 (fun v9 w9 hT9 => ?_)
          obtain ⟨rfl, rfl⟩ := hT9
          refine x_at (ws' := (kW cI cZ a s)) (st' := [.int (-2)]) rfl rfl ?_
          refine x_bipush hE (-2) (by decide) dL_law_947 ?_
          refine x_icmp_ne hE 1005 (by decide) dL_law_949 (fun c949 => ?_) (fun c949 => ?_)
          · skip
            exact absurd rfl c949
          · skip
            refine x_aload_n hE 1 rfl dL_law_952 ?_
            refine x_bipush hE (nI 12) (by decide) dL_law_953 ?_
            refine x_callK (n := 1) (st := []) hE (ck_count_12 l D cI cZ a s hok  ) gL_law_X4_count rfl rfl (by decide +kernel) ⟨by decide, by decide⟩ ⟨show cq ≤ 600000 by omega, show zq ≤ 7302250 by omega⟩ rfl rfl (Nat.le_of_ble_eq_true rfl) dL_law_955 (fun v9 w9 hT9 => ?_)
            obtain ⟨rfl, rfl⟩ := hT9
            refine x_at (ws' := (kW cI cZ a s)) (st' := [.int (-2)]) rfl rfl ?_
            refine x_bipush hE (-2) (by decide) dL_law_958 ?_
            refine x_icmp_ne hE 1005 (by decide) dL_law_960 (fun c960 => ?_) (fun c960 => ?_)
            · skip
              exact absurd rfl c960
            · skip
              refine x_aload_n hE 1 rfl dL_law_963 ?_
              refine x_iconst hE (nI 2) (by decide) dL_law_964 ?_
              refine x_iconst hE (nI 3) (by decide) dL_law_965 ?_
              refine x_callK (n := 2) (st := []) hE (ck_reset l D cI cZ a s hok 2 3 (by decide) (by decide)) gL_law_X4_reset rfl rfl (by decide +kernel) ⟨by decide, by decide⟩ ⟨show cq ≤ 600000 by omega, show zq ≤ 7302250 by omega⟩ rfl rfl (Nat.le_of_ble_eq_true rfl) dL_law_966 (fun v9 w9 hT9 => ?_)
              obtain ⟨rfl, rfl⟩ := hT9
              refine x_at (ws' := (kW cI cZ a (rsS s 2 3))) (st' := [.int (nI (2 * 3))]) rfl rfl ?_
              refine x_bipush hE (nI 6) (by decide) dL_law_969 ?_
              refine xn_icmp_ne hE (by decide) (by decide) 1005 (by decide) dL_law_971 (fun c971 => ?_) (fun c971 => ?_)
              · skip
                exact absurd rfl c971
              · skip
                refine x_aload_n hE 1 rfl dL_law_974 ?_
                refine x_iconst hE (nI 0) (by decide) dL_law_975 ?_
                refine x_callK (n := 1) (st := []) hE (ck_count_0 l D cI cZ a (rsS s 2 3) hok2  ) gL_law_X4_count rfl rfl (by decide +kernel) ⟨by decide, by decide⟩ ⟨show cq ≤ 600000 by omega, show zq ≤ 7302250 by omega⟩ rfl rfl (Nat.le_of_ble_eq_true rfl) dL_law_976 (fun v9 w9 hT9 => ?_)
                obtain ⟨rfl, rfl⟩ := hT9
                refine x_at (ws' := (kW cI cZ a (rsS s 2 3))) (st' := [.int (nI (kT (rsS s 2 3)))]) rfl rfl ?_
                refine xn_if_ne hE (by show 0 < 2 ^ 31; decide) 1005 (by decide) dL_law_979 (fun c979 => ?_) (fun c979 => ?_)
                · skip
                  exact absurd rfl c979
                · skip
                  refine x_aload_n hE 1 rfl dL_law_982 ?_
                  refine x_bipush hE (nI 6) (by decide) dL_law_983 ?_
                  refine x_callK (n := 1) (st := []) hE (ck_count_6 l D cI cZ a (rsS s 2 3) hok2  ) gL_law_X4_count rfl rfl (by decide +kernel) ⟨by decide, by decide⟩ ⟨show cq ≤ 600000 by omega, show zq ≤ 7302250 by omega⟩ rfl rfl (Nat.le_of_ble_eq_true rfl) dL_law_985 (fun v9 w9 hT9 => ?_)
                  obtain ⟨rfl, rfl⟩ := hT9
                  refine x_at (ws' := (kW cI cZ a (rsS s 2 3))) (st' := [.int (nI (V - isN (kst (rsS s 2 3)) (nI 0) V))]) rfl rfl ?_
                  refine xn_if_ne hE (by omega) 1005 (by decide) dL_law_988 (fun c988 => ?_) (fun c988 => ?_)
                  · skip
                    exact absurd (rs_free hok 2 3) c988
                  · skip
                    refine x_aload_n hE 1 rfl dL_law_991 ?_
                    refine x_iconst hE (nI 5) (by decide) dL_law_992 ?_
                    refine x_callK (n := 1) (st := []) hE (ck_count_5 l D cI cZ a (rsS s 2 3) hok2  ) gL_law_X4_count rfl rfl (by decide +kernel) ⟨by decide, by decide⟩ ⟨show cq ≤ 600000 by omega, show zq ≤ 7302250 by omega⟩ rfl rfl (Nat.le_of_ble_eq_true rfl) dL_law_993 (fun v9 w9 hT9 => ?_)
                    obtain ⟨rfl, rfl⟩ := hT9
                    refine x_at (ws' := (kW cI cZ a (rsS s 2 3))) (st' := [.int (nI V)]) rfl rfl ?_
                    refine x_iload hE 10 rfl dL_law_996 ?_
                    refine xn_icmp_ne hE (by omega) (by omega) 1005 (by decide) dL_law_998 (fun c998 => ?_) (fun c998 => ?_)
                    · skip
                      exact absurd rfl c998
                    · skip
                      refine x_iconst hE (nI 1) (by decide) dL_law_1001 ?_
                      refine x_goto hE 1006 (by decide) dL_law_1002 ?_
                      refine x_eq 1 rfl ?_
                      refine x_widen 600000 7302250 (by omega) (by omega) ?_
                      exact fun H locs ls hP hD hS hl => va_forget (fun q hq => hS.2.2 q hq) (lw_ret hE.1 hE.2.1 hr hE.2.2.2.2.2.2.2.2 dL_law_1006)
  · skip
    exact absurd c102 (by omega)
theorem law_loop {p9 : Program} {l : Launch} {e9 : Env} {s9 : State} {m9 : MethodId} {below9 : List Frame} {meth9 : Method} {cd9 : Code} {D : va_G} {cI cZ : ClassId} {b L : Nat} {xs : Nat → Int32} {a : KAd} {R C : Nat} (hE : xE p9 s9 m9 #[Value.ref b] meth9 cd9 code RL wsL_law 19 D cI cZ (fun q : Nat => s9.heap.size ≤ q)) (hS9 : va_X b L xs s9 s9.heap ∧ b < s9.heap.size ∧ ¬ (fun q : Nat => s9.heap.size ≤ q) b ∧ L ≤ 1536) (hr : meth9.sig.returnType = ret) : ∀ (m ev : Nat) (s : KSt) (V : Nat), ev + m = 34 → INV s R C V (21 * ev) → X p9 l e9 room_1 s9 m9 #[Value.ref b] below9 meth9 cd9 (21 + 36 * ev) (348 + 2304 * ev) (lw_Z below9 #[Value.ref b] s9) 19 D (fun q : Nat => s9.heap.size ≤ q) (kW cI cZ a s) [(0, .ref b), (1, .ref (aH a)), (3, .int (nI R)), (4, .int (nI C)), (5, .int (nI (R * C))), (6, .int (bI (kdio s))), (7, .int (bI (kSus s))), (8, .int (bI (kSos s))), (9, .int (kRu s)), (10, .int (kSl s)), (11, .int (nI V)), (12, .int (nI ev))] 98 []
  | 0, ev, s, V, he, hI => lo_fin hE hS9 hr hI (by omega) (by omega) (by omega) (by omega)
  | m + 1, ev, s, V, he, hI => by
    refine lo_disp hE hS9 hI (by omega) ⟨by omega, by omega⟩ (by omega) (fun s2 V2 hI2 => ?_)
    refine lo_tail hE hS9 hI2 (by omega) (by omega) (by omega) (by omega) ?_
    refine x_widen (21 + 36 * (ev + 1)) (348 + 2304 * (ev + 1)) (by omega) (by omega) ?_
    exact law_loop hE hS9 hr m (ev + 1) s2 V2 (by omega) (hI2.le (by omega))
set_option maxHeartbeats 4000000 in
set_option maxRecDepth 100000 in
theorem whole_start {p : Program} {e : Env} {s : State} {m : MethodId} {below : List Frame} {meth : Method} {c : Code} (l : Launch) (hflags : l.flags = flags0) {b L : Nat} {xs : Nat → Int32} (hL : L ≤ 260) (C0 : lw_At p s m meth c b L xs) : W p l e room_1 s m #[Value.ref b] below meth c s.heap [] 0 0 (lw_Z below #[Value.ref b] s) (entryFrame m ([Value.ref b] : List Value).toArray 19) := by
  obtain ⟨hx, hb, hr, hml, hown, hts, hX, hbl, hlocks, hgv⟩ := id C0
  have hwl : ∀ w ∈ wsL_law, w.before #[Value.ref b] s = true := fun w hw => hts w (wsL_law_in w hw)
  obtain ⟨c0, iS0, hKn0⟩ := u_known (C := RX0) (T := TX0) (N := 4) (n := 4) hwl inlX0 (hwl (.instantiable RX0 4) (List.mem_of_getElem? (i := 14) rfl))
  obtain ⟨c1, iS1, hKn1⟩ := u_known (C := RX1) (T := TX1) (N := 6) (n := 6) hwl inlX1 (hwl (.instantiable RX1 6) (List.mem_of_getElem? (i := 10) rfl))
  obtain ⟨c2, iS2, hKn2⟩ := u_known (C := RX2) (T := TX2) (N := 2) (n := 2) hwl inlX2 (hwl (.instantiable RX2 2) (List.mem_of_getElem? (i := 35) rfl))
  obtain ⟨c3, iS3, hKn3⟩ := u_known (C := RX3) (T := TX3) (N := 11) (n := 11) hwl inlX3 (hwl (.instantiable RX3 11) (List.mem_of_getElem? (i := 18) rfl))
  obtain ⟨c4, iS4, hKn4⟩ := u_known (C := RX4) (T := TX4) (N := 11) (n := 11) hwl inlX4 (hwl (.instantiable RX4 11) (List.mem_of_getElem? (i := 1) rfl))
  obtain ⟨D, hKc⟩ : ∃ D : va_G, ∀ (k : Nat) (q : vw_C), vwCl[k]? = some q → u_Kn s q.1 q.2.1 q.2.2 (D.1 k) (D.2 k) := by
    refine ⟨(fun k => if k = 0 then c0 else if k = 1 then c1 else if k = 2 then c2 else if k = 3 then c3 else c4, fun k => if k = 0 then iS0 else if k = 1 then iS1 else if k = 2 then iS2 else if k = 3 then iS3 else iS4), ?_⟩
    intro k q hq
    match k, hq with
    | 0, hq => cases hq; exact hKn0
    | 1, hq => cases hq; exact hKn1
    | 2, hq => cases hq; exact hKn2
    | 3, hq => cases hq; exact hKn3
    | 4, hq => cases hq; exact hKn4
    | k + 5, hq => simp [vwCl] at hq
  obtain ⟨cI, kI, mI, f1I, f2I, f3I⟩ := Cond.arrayClass_spec (hwl (.arrayClass .int) (List.mem_of_getElem? (i := 21) rfl))
  obtain ⟨cZ, kZ, mZ, f1Z, f2Z, f3Z⟩ := Cond.arrayClass_spec (hwl (.arrayClass .boolean) (List.mem_of_getElem? (i := 62) rfl))
  have hK : va_K D vwCl (xTy cI cZ) s := ⟨hKc, fun k q hq => by
    match k, hq with
    | 0, hq => cases hq; exact ⟨fun n z => ⟨fun k h => (by cases h), kI, f2I, mI, f3I⟩, f1I⟩
    | 1, hq => cases hq; exact ⟨fun n z => ⟨fun k h => (by cases h), kZ, f2Z, mZ, f3Z⟩, f1Z⟩
    | k + 2, hq => simp [xTy] at hq⟩
  have hN : xNs s := fun q hq => by
    have h4 : q = (RX1, 50, yX4_one, "KeyScanner") ∨ q = (RX1, 17, yX2_init, "KeyScanner") ∨ q = (RX4, 11, yX1_init, "KeyScanner") ∨ q = (RX4, 18, yX0_init, "KeyScanner") := by simpa [xNw] using hq
    rcases h4 with rfl | rfl | rfl | rfl
    · exact va_Nw.of rfl (hts (.methodLinkNest RX1 50 yX4_one "KeyScanner") (by decide +kernel))
    · exact va_Nw.of rfl (hts (.methodLinkNest RX1 17 yX2_init "KeyScanner") (by decide +kernel))
    · exact va_Nw.of rfl (hts (.methodLinkNest RX4 11 yX1_init "KeyScanner") (by decide +kernel))
    · exact va_Nw.of rfl (hts (.methodLinkNest RX4 18 yX0_init "KeyScanner") (by decide +kernel))
  have hE : xE p s m #[Value.ref b] meth c code RL wsL_law 19 D cI cZ (fun q : Nat => s.heap.size ≤ q) := ⟨hx, hb, hml, hown, hwl, hK, hN, fun _ h => h, hlocks⟩
  have hS9 : va_X b L xs s s.heap ∧ b < s.heap.size ∧ ¬ (fun q : Nat => s.heap.size ≤ q) b ∧ L ≤ 1536 := ⟨hX, hbl, Nat.not_le.mpr hbl, by omega⟩
  have hP : va_P D vwCl [] s.heap := fun k q h => by simp at h
  have hD : va_D (fun q : Nat => s.heap.size ≤ q) [] := ⟨fun i j p q h => by simp at h, fun k q h => by simp at h⟩
  have K : X p l e room_1 s m #[Value.ref b] below meth c 0 0 (lw_Z below #[Value.ref b] s) 19 D (fun q : Nat => s.heap.size ≤ q) [] [(0, .ref b)] 0 [] := by
    refine x_newobj (ci := 4) hE RX4 TX4 11 tyX4 inlX4 tyX4_ok (List.mem_of_getElem? (i := 0) rfl) (List.mem_of_getElem? (i := 1) rfl) (List.mem_of_getElem? (i := 2) rfl) rfl [.null, .null, .null, .null, .null, .int (nI 0), .int (nI 0), .int (bI false), .int (bI false), .int (nI 0), .int (nI 0)] (fun j hj => by rcases (show j = 0 ∨ j = 1 ∨ j = 2 ∨ j = 3 ∨ j = 4 ∨ j = 5 ∨ j = 6 ∨ j = 7 ∨ j = 8 ∨ j = 9 ∨ j = 10 by omega) with rfl | rfl | rfl | rfl | rfl | rfl | rfl | rfl | rfl | rfl | rfl <;> rfl) 1 11 rfl rfl (by decide) (by decide) dL_law_0 (fun h0 => ?_)
    refine x_at (ws' := [(h0, .inr (4, [.null, .null, .null, .null, .null, .int (nI 0), .int (nI 0), .int (bI false), .int (bI false), .int (nI 0), .int (nI 0)]))]) (st' := [.ref h0]) rfl rfl ?_
    refine x_dup hE rfl dL_law_3 ?_
    refine x_callI (n := 0) (st := [.ref h0]) hE (kX4_init l D cI cZ h0 ) gL_law_X4_init rfl (List.mem_of_getElem? (i := 2) rfl) (List.mem_of_getElem? (i := 3) rfl) (List.mem_of_getElem? (i := 4) rfl) rfl (by decide +kernel) ⟨by decide, by decide⟩ ⟨by decide, by decide⟩ rfl [0] [] rfl (wr := []) rfl (by decide) (by decide) (by decide) rfl (Nat.le_of_ble_eq_true rfl) dL_law_4 (fun v9 w9 hT9 => ?_)
    obtain ⟨m0, p1, f0, f1, f2, s0, s1, s2, j0, a1, a2, a3, w0, v1, v2, v3, v4, v5, b1, b2, rfl, rfl⟩ := hT9
    refine x_at (ws' := [(h0, .inr (4, [.ref m0, .ref j0, .ref w0, .ref b1, .ref b2, .int (nI 0), .int (nI 8), .int (bI false), .int (bI false), .int (nI 0), .int (nI 0)])), (b1, .inl (cI, 64, .inl (fun _ => nI 0))), (b2, .inl (cI, 64, .inl (fun _ => nI 0))), (m0, .inr (1, [.ref p1, .ref f0, .ref s0, .int (nI 4), .int (nI 4), .int (bI false)])), (p1, .inl (cI, 64, .inl (xN (fun _ => 0)))), (f0, .inr (2, [.ref f1, .ref f2])), (f1, .inl (cI, 8, .inl (xN (fun _ => 0)))), (f2, .inl (cI, 8, .inl (xN (fun _ => 0)))), (s0, .inr (2, [.ref s1, .ref s2])), (s1, .inl (cI, 8, .inl (xN (fun _ => 0)))), (s2, .inl (cI, 8, .inl (xN (fun _ => 0)))), (w0, .inr (3, [.ref v1, .ref v2, .ref v3, .ref v4, .ref v5, .ref j0, .int (nI 4), .int (nI 0), .int (nI 0), .int (bI false), .int (bI false)])), (v1, .inl (cI, 8, .inl (fun _ => nI 0))), (v2, .inl (cI, 8, .inl (fun _ => nI 0))), (v3, .inl (cI, 8, .inl (fun _ => nI 0))), (v4, .inl (cI, 8, .inl (fun _ => nI 0))), (v5, .inl (cZ, 8, .inl (xB (fun _ => false)))), (j0, .inr (0, [.ref a1, .ref a2, .ref a3, .int (nI 0)])), (a1, .inl (cI, 16, .inl (fun _ => nI 0))), (a2, .inl (cI, 16, .inl (fun _ => nI 0))), (a3, .inl (cI, 16, .inl (fun _ => nI 0)))]) (st' := [.ref h0]) rfl rfl ?_
    refine x_at (ws' := kW cI cZ ((h0, b1, b2, m0, p1, f0, f1, f2, s0, s1, s2, w0, v1, v2, v3, v4, v5, j0, a1, a2, a3) : KAd) K0) (st' := [.ref (aH ((h0, b1, b2, m0, p1, f0, f1, f2, s0, s1, s2, w0, v1, v2, v3, v4, v5, j0, a1, a2, a3) : KAd))]) rfl rfl ?_
    exact lo_start hE hS9 (by decide) (by decide) (fun R C hR hC => law_loop hE hS9 hr 34 0 (rsS K0 R C) 4 rfl (K0_rs hR hC))
  rw [lg_entry_eq]
  exact K s.heap [] _ hP hD va_S.rf (lv_entry [.ref b] (n := 19) (Nat.le_of_ble_eq_true rfl))
