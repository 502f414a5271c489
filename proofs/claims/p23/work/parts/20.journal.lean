set_option maxHeartbeats 4000000 in
set_option maxRecDepth 100000 in
theorem kJ9_floorMod_7cf53 (l : Launch) (D : va_G) (cI cZ : ClassId) (x : Nat) (y : Nat) (hx : x < 2 ^ 31) (hy : y < 2 ^ 31) (h0 : 0 < y) : xC l yJ9_floorMod_7cf53 wsJ9_floorMod_7cf53 0 0 0 0 D cI cZ [.int (nI x), .int (nI y)] [] (fun v8 w8 => v8 = some (.int (nI (x % y))) ∧ w8 = []) := by
  refine xC.of (bytes := cJ9_floorMod_7cf53) (maxL := 3) (ret := (some .int)) (own := RJ9) (by decide +kernel) rfl (Nat.le_of_ble_eq_true rfl) rfl ?_
  intro p9 e9 s9 m9 args9 below9 meth9 cd9 A hE hr hin2 hA9
  refine x_at (ws' := []) (st' := []) rfl rfl ?_
  refine x_lv [(0, .int (nI x)), (1, .int (nI y))] [0, 1] rfl ?_
  have hm9 : x % y < 2 ^ 31 := Nat.lt_of_le_of_lt (Nat.mod_le x y) hx
  have hx9 : x ^^^ y < 2 ^ 31 := Nat.xor_lt_two_pow hx hy
  refine x_iload_n hE 0 rfl dJ9_floorMod_7cf53_0 ?_
  refine x_iload_n hE 1 rfl dJ9_floorMod_7cf53_1 ?_
  refine x_irem hE (nI (x % y)) (nI_ne0 (by omega) (by omega)) (xI_rem (by omega) (by omega) (by omega)) dJ9_floorMod_7cf53_2 ?_
  refine x_istore_n hE [(2, .int (nI (x % y))), (0, .int (nI x)), (1, .int (nI y))] (by decide) rfl dJ9_floorMod_7cf53_3 ?_
  refine x_iload_n hE 1 rfl dJ9_floorMod_7cf53_4 ?_
  refine x_iload_n hE 2 rfl dJ9_floorMod_7cf53_5 ?_
  refine x_ixor hE (nI (x ^^^ y)) (fb_xorI _ _) dJ9_floorMod_7cf53_6 ?_
  refine xn_if_ge hE (by omega) 18 (by decide) dJ9_floorMod_7cf53_7 (fun c7 => ?_) (fun c7 => ?_)
  · skip
    refine x_iload_n hE 0 rfl dJ9_floorMod_7cf53_18 ?_
    exact x_iret hE hr (⟨rfl, rfl⟩) dJ9_floorMod_7cf53_19
  · skip
    exact absurd c7 (Nat.not_lt_zero _)
set_option maxHeartbeats 4000000 in
set_option maxRecDepth 100000 in
theorem kX0_empty (l : Launch) (D : va_G) (cI cZ : ClassId) (h0 : Nat) (a1 : Nat) (a2 : Nat) (a3 : Nat) (jt : Nat → Int32) (jk : Nat → Int32) (jy : Nat → Int32) (mk : Nat)  : xC l yX0_empty wsX0_empty 0 0 0 0 D cI cZ [.ref h0] [(h0, .inr (0, [.ref a1, .ref a2, .ref a3, .int (nI mk)])), (a1, .inl (cI, 16, .inl jt)), (a2, .inl (cI, 16, .inl jk)), (a3, .inl (cI, 16, .inl jy))] (fun v8 w8 => v8 = none ∧ w8 = [(h0, .inr (0, [.ref a1, .ref a2, .ref a3, .int (nI 0)])), (a1, .inl (cI, 16, .inl jt)), (a2, .inl (cI, 16, .inl jk)), (a3, .inl (cI, 16, .inl jy))]) := by
  refine xC.of (bytes := cX0_empty) (maxL := 1) (ret := none) (own := RX0) (by decide +kernel) rfl (Nat.le_of_ble_eq_true rfl) rfl ?_
  intro p9 e9 s9 m9 args9 below9 meth9 cd9 A hE hr hin2 hA9
  have inX0 : ∀ w ∈ wsX00, w ∈ wsX0_empty := fun w h => List.mem_cons_of_mem _ (List.mem_append_right _ h)
  have p21 : xP RX0 wsX0_empty 21 0 3 false .int := ⟨"KeyScanner$Journal", RX0, TX0, 4, tyX0, inX0, rfl, by decide, List.mem_of_getElem? (i := 1) rfl, rfl, tyX0_ok, nmX0, rfl, by decide +kernel, fun h => by cases h⟩
  refine x_at (ws' := [(h0, .inr (0, [.ref a1, .ref a2, .ref a3, .int (nI mk)])), (a1, .inl (cI, 16, .inl jt)), (a2, .inl (cI, 16, .inl jk)), (a3, .inl (cI, 16, .inl jy))]) (st' := []) rfl rfl ?_
  refine x_lv [(0, .ref h0)] [0] rfl ?_
  refine x_aload_n hE 0 rfl dX0_empty_0 ?_
  refine x_iconst hE (nI 0) (by decide) dX0_empty_1 ?_
  refine x_put hE p21 [(h0, .inr (0, [.ref a1, .ref a2, .ref a3, .int (nI 0)])), (a1, .inl (cI, 16, .inl jt)), (a2, .inl (cI, 16, .inl jk)), (a3, .inl (cI, 16, .inl jy))] 0 rfl rfl rfl rfl (Nat.le_of_ble_eq_true rfl) dX0_empty_2 ?_
  exact x_vret hE hr (⟨rfl, rfl⟩) dX0_empty_5
set_option maxHeartbeats 4000000 in
set_option maxRecDepth 100000 in
theorem kX0_write (l : Launch) (D : va_G) (cI cZ : ClassId) (h0 : Nat) (a1 : Nat) (a2 : Nat) (a3 : Nat) (jt : Nat → Int32) (jk : Nat → Int32) (jy : Nat → Int32) (mk : Nat) (t : Int32) (kd : Int32) (ky : Int32) (hm : mk < 2 ^ 30) : xC l yX0_write wsX0_write 1 0 0 22 D cI cZ [.ref h0, .int t, .int kd, .int ky] [(h0, .inr (0, [.ref a1, .ref a2, .ref a3, .int (nI mk)])), (a1, .inl (cI, 16, .inl jt)), (a2, .inl (cI, 16, .inl jk)), (a3, .inl (cI, 16, .inl jy))] (fun v8 w8 => v8 = none ∧ w8 = [(h0, .inr (0, [.ref a1, .ref a2, .ref a3, .int (nI (mk + 1))])), (a1, .inl (cI, 16, .inl (upd jt (mk % 16) t))), (a2, .inl (cI, 16, .inl (upd jk (mk % 16) kd))), (a3, .inl (cI, 16, .inl (upd jy (mk % 16) ky)))]) := by
  refine xC.of (bytes := cX0_write) (maxL := 5) (ret := none) (own := RX0) (by decide +kernel) rfl (Nat.le_of_ble_eq_true rfl) rfl ?_
  intro p9 e9 s9 m9 args9 below9 meth9 cd9 A hE hr hin2 hA9
  have inX0 : ∀ w ∈ wsX00, w ∈ wsX0_write := fun w h => List.mem_cons_of_mem _ (List.mem_append_right _ h)
  have g21 : xF RX0 wsX0_write 21 0 3 := ⟨"KeyScanner$Journal", RX0, TX0, 4, inX0, rfl, by decide, List.mem_of_getElem? (i := 1) rfl, rfl⟩
  have g9 : xF RX0 wsX0_write 9 0 0 := ⟨"KeyScanner$Journal", RX0, TX0, 4, inX0, rfl, by decide, List.mem_of_getElem? (i := 2) rfl, rfl⟩
  have g15 : xF RX0 wsX0_write 15 0 1 := ⟨"KeyScanner$Journal", RX0, TX0, 4, inX0, rfl, by decide, List.mem_of_getElem? (i := 3) rfl, rfl⟩
  have g18 : xF RX0 wsX0_write 18 0 2 := ⟨"KeyScanner$Journal", RX0, TX0, 4, inX0, rfl, by decide, List.mem_of_getElem? (i := 4) rfl, rfl⟩
  have p21 : xP RX0 wsX0_write 21 0 3 false .int := ⟨"KeyScanner$Journal", RX0, TX0, 4, tyX0, inX0, rfl, by decide, List.mem_of_getElem? (i := 1) rfl, rfl, tyX0_ok, nmX0, rfl, by decide +kernel, fun h => by cases h⟩
  have hm16 : mk % 16 < 16 := Nat.mod_lt _ (by decide)
  refine x_at (ws' := [(h0, .inr (0, [.ref a1, .ref a2, .ref a3, .int (nI mk)])), (a1, .inl (cI, 16, .inl jt)), (a2, .inl (cI, 16, .inl jk)), (a3, .inl (cI, 16, .inl jy))]) (st' := []) rfl rfl ?_
  refine x_lv [(0, .ref h0), (1, .int t), (2, .int kd), (3, .int ky)] [0, 1, 2, 3] rfl ?_
  refine x_aload_n hE 0 rfl dX0_write_0 ?_
  refine x_get hE g21 0 rfl rfl dX0_write_1 ?_
  refine x_bipush hE (nI 16) (by decide) dX0_write_4 ?_
  refine x_callS (n := 2) (st := []) hE (kJ9_floorMod_7cf53 l D cI cZ mk 16 (by omega) (by omega) (by omega)) gX0_write_J9_floorMod_7cf53 rfl (by decide +kernel) ⟨by decide, by decide⟩ ⟨Nat.zero_le _, Nat.zero_le _⟩ rfl [] [0, 1, 2, 3] rfl (wr := [(h0, .inr (0, [.ref a1, .ref a2, .ref a3, .int (nI mk)])), (a1, .inl (cI, 16, .inl jt)), (a2, .inl (cI, 16, .inl jk)), (a3, .inl (cI, 16, .inl jy))]) rfl (by decide) (by decide) (by decide) rfl (Nat.le_of_ble_eq_true rfl) dX0_write_6 (fun v9 w9 hT9 => ?_)
  obtain ⟨rfl, rfl⟩ := hT9
  refine x_at (ws' := [(h0, .inr (0, [.ref a1, .ref a2, .ref a3, .int (nI mk)])), (a1, .inl (cI, 16, .inl jt)), (a2, .inl (cI, 16, .inl jk)), (a3, .inl (cI, 16, .inl jy))]) (st' := [.int (nI (mk % 16))]) rfl rfl ?_
  refine x_istore hE [(4, .int (nI (mk % 16))), (0, .ref h0), (1, .int t), (2, .int kd), (3, .int ky)] (by decide) rfl dX0_write_9 ?_
  refine x_aload_n hE 1 rfl dX0_write_11 ?_
  refine x_get hE g9 0 rfl rfl dX0_write_12 ?_
  refine x_iload hE 0 rfl dX0_write_15 ?_
  refine x_iload_n hE 2 rfl dX0_write_17 ?_
  refine x_iast hE (mk % 16) (upd jt (mk % 16) t) (by omega) (by decide) rfl [(h0, .inr (0, [.ref a1, .ref a2, .ref a3, .int (nI mk)])), (a1, .inl (cI, 16, .inl (upd jt (mk % 16) t))), (a2, .inl (cI, 16, .inl jk)), (a3, .inl (cI, 16, .inl jy))] 1 rfl rfl dX0_write_18 ?_
  refine x_aload_n hE 1 rfl dX0_write_19 ?_
  refine x_get hE g15 0 rfl rfl dX0_write_20 ?_
  refine x_iload hE 0 rfl dX0_write_23 ?_
  refine x_iload_n hE 3 rfl dX0_write_25 ?_
  refine x_iast hE (mk % 16) (upd jk (mk % 16) kd) (by omega) (by decide) rfl [(h0, .inr (0, [.ref a1, .ref a2, .ref a3, .int (nI mk)])), (a1, .inl (cI, 16, .inl (upd jt (mk % 16) t))), (a2, .inl (cI, 16, .inl (upd jk (mk % 16) kd))), (a3, .inl (cI, 16, .inl jy))] 2 rfl rfl dX0_write_26 ?_
  refine x_aload_n hE 1 rfl dX0_write_27 ?_
  refine x_get hE g18 0 rfl rfl dX0_write_28 ?_
  refine x_iload hE 0 rfl dX0_write_31 ?_
  refine x_iload_n hE 4 rfl dX0_write_33 ?_
  refine x_iast hE (mk % 16) (upd jy (mk % 16) ky) (by omega) (by decide) rfl [(h0, .inr (0, [.ref a1, .ref a2, .ref a3, .int (nI mk)])), (a1, .inl (cI, 16, .inl (upd jt (mk % 16) t))), (a2, .inl (cI, 16, .inl (upd jk (mk % 16) kd))), (a3, .inl (cI, 16, .inl (upd jy (mk % 16) ky)))] 3 rfl rfl dX0_write_34 ?_
  refine x_aload_n hE 1 rfl dX0_write_35 ?_
  refine x_dup hE rfl dX0_write_36 ?_
  refine x_get hE g21 0 rfl rfl dX0_write_37 ?_
  refine x_iconst hE (nI 1) (by decide) dX0_write_40 ?_
  refine x_iadd hE (nI (mk + 1)) (nI_add _ _) dX0_write_41 ?_
  refine x_put hE p21 [(h0, .inr (0, [.ref a1, .ref a2, .ref a3, .int (nI (mk + 1))])), (a1, .inl (cI, 16, .inl (upd jt (mk % 16) t))), (a2, .inl (cI, 16, .inl (upd jk (mk % 16) kd))), (a3, .inl (cI, 16, .inl (upd jy (mk % 16) ky)))] 0 rfl rfl rfl rfl (Nat.le_of_ble_eq_true rfl) dX0_write_42 ?_
  exact x_vret hE hr (⟨rfl, rfl⟩) dX0_write_45
set_option maxHeartbeats 4000000 in
set_option maxRecDepth 100000 in
theorem kX0_size (l : Launch) (D : va_G) (cI cZ : ClassId) (h0 : Nat) (a1 : Nat) (a2 : Nat) (a3 : Nat) (jt : Nat → Int32) (jk : Nat → Int32) (jy : Nat → Int32) (mk : Nat) (hm : mk < 2 ^ 30) : xC l yX0_size wsX0_size 1 0 0 13 D cI cZ [.ref h0] [(h0, .inr (0, [.ref a1, .ref a2, .ref a3, .int (nI mk)])), (a1, .inl (cI, 16, .inl jt)), (a2, .inl (cI, 16, .inl jk)), (a3, .inl (cI, 16, .inl jy))] (fun v8 w8 => v8 = some (.int (nI (min mk 16))) ∧ w8 = [(h0, .inr (0, [.ref a1, .ref a2, .ref a3, .int (nI mk)])), (a1, .inl (cI, 16, .inl jt)), (a2, .inl (cI, 16, .inl jk)), (a3, .inl (cI, 16, .inl jy))]) := by
  refine xC.of (bytes := cX0_size) (maxL := 1) (ret := (some .int)) (own := RX0) (by decide +kernel) rfl (Nat.le_of_ble_eq_true rfl) rfl ?_
  intro p9 e9 s9 m9 args9 below9 meth9 cd9 A hE hr hin2 hA9
  have inX0 : ∀ w ∈ wsX00, w ∈ wsX0_size := fun w h => List.mem_cons_of_mem _ (List.mem_append_right _ h)
  have g21 : xF RX0 wsX0_size 21 0 3 := ⟨"KeyScanner$Journal", RX0, TX0, 4, inX0, rfl, by decide, List.mem_of_getElem? (i := 1) rfl, rfl⟩
  refine x_at (ws' := [(h0, .inr (0, [.ref a1, .ref a2, .ref a3, .int (nI mk)])), (a1, .inl (cI, 16, .inl jt)), (a2, .inl (cI, 16, .inl jk)), (a3, .inl (cI, 16, .inl jy))]) (st' := []) rfl rfl ?_
  refine x_lv [(0, .ref h0)] [0] rfl ?_
  refine x_aload_n hE 0 rfl dX0_size_0 ?_
  refine x_get hE g21 0 rfl rfl dX0_size_1 ?_
  refine x_bipush hE (nI 16) (by decide) dX0_size_4 ?_
  refine x_mmin hE (nI (min mk 16)) (xI_min (by omega) (by omega)) (List.mem_of_getElem? (i := 2) rfl) (List.mem_of_getElem? (i := 3) rfl) (List.mem_of_getElem? (i := 4) rfl) (List.mem_of_getElem? (i := 5) rfl) (by decide) (by decide) ⟨Nat.zero_le _, Nat.zero_le _⟩ dX0_size_6 ?_
  exact x_iret hE hr (⟨rfl, rfl⟩) dX0_size_9
set_option maxHeartbeats 4000000 in
set_option maxRecDepth 100000 in
theorem kX0_place (l : Launch) (D : va_G) (cI cZ : ClassId) (h0 : Nat) (a1 : Nat) (a2 : Nat) (a3 : Nat) (jt : Nat → Int32) (jk : Nat → Int32) (jy : Nat → Int32) (mk : Nat) (en : Nat) (hm : mk < 2 ^ 30) (he : en < mk) : xC l yX0_place wsX0_place 1 0 0 22 D cI cZ [.ref h0, .int (nI en)] [(h0, .inr (0, [.ref a1, .ref a2, .ref a3, .int (nI mk)])), (a1, .inl (cI, 16, .inl jt)), (a2, .inl (cI, 16, .inl jk)), (a3, .inl (cI, 16, .inl jy))] (fun v8 w8 => v8 = some (.int (nI ((mk - 1 - en) % 16))) ∧ w8 = [(h0, .inr (0, [.ref a1, .ref a2, .ref a3, .int (nI mk)])), (a1, .inl (cI, 16, .inl jt)), (a2, .inl (cI, 16, .inl jk)), (a3, .inl (cI, 16, .inl jy))]) := by
  refine xC.of (bytes := cX0_place) (maxL := 2) (ret := (some .int)) (own := RX0) (by decide +kernel) rfl (Nat.le_of_ble_eq_true rfl) rfl ?_
  intro p9 e9 s9 m9 args9 below9 meth9 cd9 A hE hr hin2 hA9
  have inX0 : ∀ w ∈ wsX00, w ∈ wsX0_place := fun w h => List.mem_cons_of_mem _ (List.mem_append_right _ h)
  have g21 : xF RX0 wsX0_place 21 0 3 := ⟨"KeyScanner$Journal", RX0, TX0, 4, inX0, rfl, by decide, List.mem_of_getElem? (i := 1) rfl, rfl⟩
  refine x_at (ws' := [(h0, .inr (0, [.ref a1, .ref a2, .ref a3, .int (nI mk)])), (a1, .inl (cI, 16, .inl jt)), (a2, .inl (cI, 16, .inl jk)), (a3, .inl (cI, 16, .inl jy))]) (st' := []) rfl rfl ?_
  refine x_lv [(0, .ref h0), (1, .int (nI en))] [0, 1] rfl ?_
  refine x_aload_n hE 0 rfl dX0_place_0 ?_
  refine x_get hE g21 0 rfl rfl dX0_place_1 ?_
  refine x_iconst hE (nI 1) (by decide) dX0_place_4 ?_
  refine x_isub hE (nI (mk - 1)) (xI_sub (by omega)) dX0_place_5 ?_
  refine x_iload_n hE 1 rfl dX0_place_6 ?_
  refine x_isub hE (nI ((mk - 1) - en)) (xI_sub (by omega)) dX0_place_7 ?_
  refine x_bipush hE (nI 16) (by decide) dX0_place_8 ?_
  refine x_callS (n := 2) (st := []) hE (kJ9_floorMod_7cf53 l D cI cZ ((mk - 1) - en) 16 (by omega) (by omega) (by omega)) gX0_place_J9_floorMod_7cf53 rfl (by decide +kernel) ⟨by decide, by decide⟩ ⟨Nat.zero_le _, Nat.zero_le _⟩ rfl [] [0, 1, 2, 3] rfl (wr := [(h0, .inr (0, [.ref a1, .ref a2, .ref a3, .int (nI mk)])), (a1, .inl (cI, 16, .inl jt)), (a2, .inl (cI, 16, .inl jk)), (a3, .inl (cI, 16, .inl jy))]) rfl (by decide) (by decide) (by decide) rfl (Nat.le_of_ble_eq_true rfl) dX0_place_10 (fun v9 w9 hT9 => ?_)
  obtain ⟨rfl, rfl⟩ := hT9
  refine x_at (ws' := [(h0, .inr (0, [.ref a1, .ref a2, .ref a3, .int (nI mk)])), (a1, .inl (cI, 16, .inl jt)), (a2, .inl (cI, 16, .inl jk)), (a3, .inl (cI, 16, .inl jy))]) (st' := [.int (nI (((mk - 1) - en) % 16))]) rfl rfl ?_
  exact x_iret hE hr (⟨rfl, rfl⟩) dX0_place_13
