/-! the law: its script, what holds between both -/
section
variable {p : Program} {l : Launch} {e : Env} {R : Room} {s : State} {m : MethodId} {args : Array Value} {below : List Frame} {meth : Method} {c : Code} {cells slots : Nat} {Q : State → Prop} {cc : ByteArray} {own : String} {Ts : List Cond} {nL : Nat} {D : va_G} {cI cZ : ClassId} {A : Nat → Prop} {ws : va_W} {lv : List (Nat × Value)} {pc : Nat} {st : List Value}
theorem x_sld (hE : xE p s m args meth c cc own Ts nL D cI cZ A) {b L : Nat} {xs : Nat → Int32} (hS9 : va_X b L xs s s.heap ∧ b < s.heap.size ∧ ¬ A b ∧ L ≤ 1536) (k : Nat) (v : Int32) (hk : k < L) (hv : xs k = v) (hdg : decode cc pc = .ok (.iaload, 1)) (kk : X p l e R s m args below meth c cells slots Q nL D A ws lv (pc + 1) (.int v :: st)) : X p l e R s m args below meth c cells slots Q nL D A ws lv pc (.int (nI k) :: .ref b :: st) := by
  have hL : L < 2 ^ 31 := by omega
  have h := xclamp (Nat.lt_trans hk hL)
  exact fun H locs ls hP hD hS hl => va_sld hE.1 hE.2.1 hS9.1 hS9.2.1 hS9.2.2.1 hS (xvpin hk hL) hdg (by rw [h, hv]; exact kk H locs ls hP hD hS hl)
theorem x_slen (hE : xE p s m args meth c cc own Ts nL D cI cZ A) {b L : Nat} {xs : Nat → Int32} (hS9 : va_X b L xs s s.heap ∧ b < s.heap.size ∧ ¬ A b ∧ L ≤ 1536) (hdg : decode cc pc = .ok (.arraylength, 1)) (kk : X p l e R s m args below meth c cells slots Q nL D A ws lv (pc + 1) (.int (nI L) :: st)) : X p l e R s m args below meth c cells slots Q nL D A ws lv pc (.ref b :: st) :=
  fun H locs ls hP hD hS hl => va_slen hE.1 hE.2.1 hS9.1 hS9.2.1 hS9.2.2.1 hS hdg (kk H locs ls hP hD hS hl)
end
def LI (i R C : Nat) (dio : Bool) (V : Nat) (sus sos : Bool) (T : Nat) (pos pos2 cl jn dl dn : Nat → Nat) (x : XS) (y : MS) (fs gs : Nat → Bool) : Prop :=
  (1 ≤ R ∧ R ≤ 8) ∧ (1 ≤ C ∧ C ≤ 8) ∧ (1 ≤ V ∧ V ≤ 8) ∧ (∀ k, pos k ≤ 2) ∧ (∀ k, R * C ≤ k → pos k = 0) ∧ pos2 = pos ∧ NT pos R C cl jn dl dn ∧ XR V sus sos x y ∧ (∀ k, k < R * C → fs k = ap1 dio pos R C k) ∧ (∀ k, k < R * C → gs k = ap2 dio pos R C k) ∧ T ≤ 1000 * i ∧ mkS x ≤ 320 * i
section
variable {i R C V T : Nat} {dio sus sos : Bool} {pos pos2 cl jn dl dn : Nat → Nat} {x : XS} {y : MS} {fs gs : Nat → Bool}
theorem LI.same (h : LI i R C dio V sus sos T pos pos2 cl jn dl dn x y fs gs) : LI (i + 3) R C dio V sus sos T pos pos2 cl jn dl dn x y fs gs := by
  obtain ⟨h1, h2, h3, h4, h5, h6, h7, h8, h9, h10, h11, h12⟩ := h
  exact ⟨h1, h2, h3, h4, h5, h6, h7, h8, h9, h10, by omega, by omega⟩
theorem LI.lts (h : LI i R C dio V sus sos T pos pos2 cl jn dl dn x y fs gs) : (∀ r, cl r < 256) ∧ (∀ r, jn r < 256) ∧ (∀ r, dl r < 256) ∧ ∀ r, dn r < 256 := h.2.2.2.2.2.2.1.lts h.2.1.2
theorem LI.seen1 (h : LI i R C dio V sus sos T pos pos2 cl jn dl dn x y fs gs) : ∀ k, k < R * C → fs k = fsB (seenN dio cl jn) C k := by
  obtain ⟨h1, h2, h3, h4, h5, h6, h7, h8, h9, h10, h11, h12⟩ := h
  intro k hk
  rw [h9 k hk, ap1_eq h7 h1.2 h2 h4 hk]
theorem LI.seen2 (h : LI i R C dio V sus sos T pos pos2 cl jn dl dn x y fs gs) : ∀ k, k < R * C → gs k = fsB (seenN dio dl dn) C k := by
  obtain ⟨h1, h2, h3, h4, h5, h6, h7, h8, h9, h10, h11, h12⟩ := h
  intro k hk
  rw [h10 k hk, ap2_eq h7 h1.2 h2 h4 hk]
theorem LI.sin (h : LI i R C dio V sus sos T pos pos2 cl jn dl dn x y fs gs) : ∀ r c, (seenN dio cl jn r).testBit c = true → r < R ∧ c < C := by
  obtain ⟨h1, h2, h3, h4, h5, h6, h7, h8, h9, h10, h11, h12⟩ := h
  intro r c hb
  rw [h7.2.2.1] at hb
  exact seen_in h7.1 h1.2 h2.2 hb
theorem LI.gf (h : LI i R C dio V sus sos T pos pos2 cl jn dl dn x y fs gs) : ∀ k, k < R * C → gs k = true → fs k = true := by
  obtain ⟨h1, h2, h3, h4, h5, h6, h7, h8, h9, h10, h11, h12⟩ := h
  intro k hk hg
  rw [h10 k hk] at hg
  rw [h9 k hk]
  unfold ap1
  rw [if_pos hg]
theorem LI.gh (h : LI i R C dio V sus sos T pos pos2 cl jn dl dn x y fs gs) : gcN dio cl jn dl dn R = gcM fs gs pos (R * C) := by
  rw [gc_eq h.2.2.2.2.2.2.1 h.1.2 h.2.1]
  exact gcM_ext (fun k hk => (h.seen1 k hk).symm) (fun k hk => (h.seen2 k hk).symm)
theorem LI.dc (h : LI i R C dio V sus sos T pos pos2 cl jn dl dn x y fs gs) : dcN (seenN dio cl jn) R C = dcM fs R C := dc_eq h.2.1.1 h.sin h.seen1
theorem LI.db (h : LI i R C dio V sus sos T pos pos2 cl jn dl dn x y fs gs) {k : Nat} (hk : k < R * C) : dbN (seenN dio cl jn) R C k = dmM fs R C k := by
  rw [db_eq h.2.1.1 hk h.sin, dm_ext h.2.1.1 hk h.seen1]
theorem LI.g1 (h : LI i R C dio V sus sos T pos pos2 cl jn dl dn x y fs gs) {k : Nat} (hk : k < R * C) : (ghN dio cl jn dl dn (k / C)).testBit (k % C) = ghM fs gs pos k := by
  rw [gh_bit h.2.2.2.2.2.2.1 h.2.1 hk]
  unfold ghM
  rw [h.seen1 k hk, h.seen2 k hk]
/-- appearances anew -/
theorem LI.ap (h : LI i R C dio V sus sos T pos pos2 cl jn dl dn x y fs gs) (s : AS) : LI (i + 3) R C dio V sus sos T pos pos2 cl jn dl dn x y (apA dio pos R C s).1 (apA dio pos R C s).2 := by
  obtain ⟨h1, h2, h3, h4, h5, h6, h7, h8, h9, h10, h11, h12⟩ := h
  exact ⟨h1, h2, h3, h4, h5, h6, h7, h8, fun k hk => apA_1 hk, fun k hk => apA_2 hk, by omega, by omega⟩
theorem LI.setd (h : LI i R C dio V sus sos T pos pos2 cl jn dl dn x y fs gs) (on : Bool) (s : AS) : LI (i + 3) R C on V sus sos T pos pos2 cl jn dl dn x y (apA on pos R C s).1 (apA on pos R C s).2 := by
  obtain ⟨h1, h2, h3, h4, h5, h6, h7, h8, h9, h10, h11, h12⟩ := h
  exact ⟨h1, h2, h3, h4, h5, h6, h7, h8, fun k hk => apA_1 hk, fun k hk => apA_2 hk, by omega, by omega⟩
theorem LI.key (h : LI i R C dio V sus sos T pos pos cl jn dl dn x y fs gs) {k q : Nat} (hk : k < R * C) (hq : q ≤ 2) (s : AS) : LI (i + 3) R C dio V sus sos T (updN pos k q) (updN pos k q) (putC cl (k / C) (k % C) (decide (1 ≤ q))) (putJ cl jn (k / C) (k % C) (decide (1 ≤ q))) (putC dl (k / C) (k % C) (decide (q = 2))) (putJ dl dn (k / C) (k % C) (decide (q = 2))) x y (apA dio (updN pos k q) R C s).1 (apA dio (updN pos k q) R C s).2 := by
  obtain ⟨h1, h2, h3, h4, h5, h6, h7, h8, h9, h10, h11, h12⟩ := h
  refine ⟨h1, h2, h3, fun j => ?_, fun j hj => ?_, rfl, NT_move h7 h2 hk hq, h8, fun k hk => apA_1 hk, fun k hk => apA_2 hk, by omega, by omega⟩
  · unfold updN; split
    · exact hq
    · exact h4 j
  · show (if j = k then q else pos j) = 0
    rw [if_neg (by omega)]; exact h5 j hj
theorem zz (h : ∀ k, R * C ≤ k → pos k = 0) {n : Nat} (hn : R * C ≤ n) (k : Nat) : zeroN pos n k = 0 := by
  unfold zeroN fa_fill
  by_cases e : k < n
  · rw [if_pos e]
  · rw [if_neg e]; exact h k (by omega)
theorem LI.lift (h : LI i R C dio V sus sos T pos pos cl jn dl dn x y fs gs) (s : AS) : LI (i + 3) R C dio V sus sos T (zeroN pos 64) (zeroN pos (R * C)) (zeroN cl 8) (zeroN jn 8) (zeroN dl 8) (zeroN dn 8) x y (apA dio (zeroN pos (R * C)) R C s).1 (apA dio (zeroN pos (R * C)) R C s).2 := by
  obtain ⟨h1, h2, h3, h4, h5, h6, h7, h8, h9, h10, h11, h12⟩ := h
  have hRC : R * C ≤ 64 := Nat.mul_le_mul h1.2 h2.2
  have e : zeroN pos (R * C) = zeroN pos 64 := by
    funext k; rw [zz h5 (Nat.le_refl _), zz h5 hRC]
  rw [e]
  exact ⟨h1, h2, h3, fun j => by rw [zz h5 hRC]; decide, fun j _ => zz h5 hRC j, rfl, NT_lift h7 h1.2 (fun k _ => zz h5 hRC k), h8, fun k hk => apA_1 hk, fun k hk => apA_2 hk, by omega, by omega⟩
end
section
variable {i R C V T : Nat} {dio sus sos : Bool} {pos pos2 cl jn dl dn : Nat → Nat} {fs gs : Nat → Bool} {ph bg st kk ve si : Nat → Int32} {ca : Nat → Bool} {tk : Int32} {jt jk jy : Nat → Int32} {mj : Nat} {sk rf : Int32} {bg2 lg : Nat → Int32}
theorem LI.reset (h : LI i R C dio V sus sos T pos pos cl jn dl dn (ph, bg, st, kk, ve, si, ca, tk, jt, jk, jy, mj, sk, rf) (ph, bg2, st, kk, ve, si, ca, tk, lg, mj, sk, rf) fs gs) {q u : Nat} (hq : 1 ≤ q ∧ q ≤ 8) (hu : 1 ≤ u ∧ u ≤ 8) (s : AS) : LI (i + 3) q u dio V false false 0 (zeroN pos 64) (zeroN pos 64) (zeroN cl 8) (zeroN jn 8) (zeroN dl 8) (zeroN dn 8) (zeroI ph 64, bg, zeroI st 8, kk, ve, si, zeroB ca 8, nI 0, jt, jk, jy, 0, nI 0, nI 0) (zeroI ph 64, zeroI bg2 64, zeroI st 8, kk, ve, si, zeroB ca 8, nI 0, lg, 0, nI 0, nI 0) (apA dio (zeroN pos 64) q u s).1 (apA dio (zeroN pos 64) q u s).2 := by
  obtain ⟨h1, h2, h3, h4, h5, h6, h7, h8, h9, h10, h11, h12⟩ := h
  obtain ⟨_, _, _, _, _, _, _, _, _, _, hb, hj, hs, hp⟩ := h8
  have hRC : R * C ≤ 64 := Nat.mul_le_mul h1.2 h2.2
  refine ⟨hq, hu, h3, fun j => by rw [zz h5 hRC]; decide, fun j _ => zz h5 hRC j, rfl, NT_lift h7 h1.2 (fun k _ => zz h5 hRC k), XR_mk rfl rfl rfl rfl rfl rfl rfl rfl rfl rfl ?_ (fun e _ h => absurd h (Nat.not_lt_zero _)) ⟨?_, ?_⟩ ?_, fun k hk => apA_1 hk, fun k hk => apA_2 hk, Nat.zero_le _, Nat.zero_le _⟩
  · intro k
    unfold zeroI fa_fill
    by_cases e : k < 64
    · rw [if_pos e]; exact fun q => absurd rfl q
    · rw [if_neg e, if_neg e]; exact hb k
  · intro v
    unfold zeroI fa_fill
    by_cases e : v < 8
    · rw [if_pos e]; exact Or.inl rfl
    · rw [if_neg e]; exact hs.1 v
  · intro v
    unfold zeroI fa_fill
    by_cases e : v < 8
    · rw [if_pos e]; intro q; exact absurd q (show ¬ nI 0 = nI 2 by decide)
    · rw [if_neg e]; intro q; have := (hs.2 v q).1; omega
  · intro k
    unfold zeroI fa_fill
    by_cases e : k < 64
    · rw [if_pos e]; exact Or.inl rfl
    · rw [if_neg e]; exact hp k
theorem LI.vr (h : LI i R C dio V sus sos T pos pos cl jn dl dn (ph, bg, st, kk, ve, si, ca, tk, jt, jk, jy, mj, sk, rf) (ph, bg2, st, kk, ve, si, ca, tk, lg, mj, sk, rf) fs gs) : VR (st, ca, jt, jk, jy, mj) (st, ca, lg, mj) ∧ SI V sus sos st ca := by
  obtain ⟨h1, h2, h3, h4, h5, h6, h7, h8, h9, h10, h11, h12⟩ := h
  obtain ⟨_, _, _, _, _, _, _, _, _, _, hb, hj, hs, hp⟩ := h8
  exact ⟨⟨rfl, rfl, rfl, hj⟩, hs⟩
/-- voices of both after a setting or a pedal -/
theorem LI.put (h : LI i R C dio V sus sos T pos pos cl jn dl dn (ph, bg, st, kk, ve, si, ca, tk, jt, jk, jy, mj, sk, rf) (ph, bg2, st, kk, ve, si, ca, tk, lg, mj, sk, rf) fs gs) {V' : Nat} {sus' sos' : Bool} {a : VJ} {b : VM} (hV : 1 ≤ V' ∧ V' ≤ 8) (hr : VR a b) (hs' : SI V' sus' sos' a.1 a.2.1) (hm : a.2.2.2.2.2 ≤ mj + 8) : LI (i + 3) R C dio V' sus' sos' T pos pos cl jn dl dn (ph, bg, a.1, kk, ve, si, a.2.1, tk, a.2.2.1, a.2.2.2.1, a.2.2.2.2.1, a.2.2.2.2.2, sk, rf) (ph, bg2, b.1, kk, ve, si, b.2.1, tk, b.2.2.1, b.2.2.2, sk, rf) fs gs := by
  obtain ⟨h1, h2, h3, h4, h5, h6, h7, h8, h9, h10, h11, h12⟩ := h
  obtain ⟨_, _, _, _, _, _, _, _, _, _, hb, hj, hs, hp⟩ := h8
  have h13 : mj ≤ 320 * i := h12
  exact ⟨h1, h2, hV, h4, h5, h6, h7, XR_mk rfl hr.1 rfl rfl rfl hr.2.1 rfl hr.2.2.1 rfl rfl hb hr.2.2.2 hs' hp, h9, h10, by omega, show a.2.2.2.2.2 ≤ 320 * (i + 3) by omega⟩
theorem LI.voices (h : LI i R C dio V sus sos T pos pos cl jn dl dn (ph, bg, st, kk, ve, si, ca, tk, jt, jk, jy, mj, sk, rf) (ph, bg2, st, kk, ve, si, ca, tk, lg, mj, sk, rf) fs gs) {q : Nat} (hq : 1 ≤ q ∧ q ≤ 8) : LI (i + 3) R C dio q sus sos T pos pos cl jn dl dn (ph, bg, (limV kk (nI T) q V (st, ca, jt, jk, jy, mj)).1, kk, ve, si, (limV kk (nI T) q V (st, ca, jt, jk, jy, mj)).2.1, tk, (limV kk (nI T) q V (st, ca, jt, jk, jy, mj)).2.2.1, (limV kk (nI T) q V (st, ca, jt, jk, jy, mj)).2.2.2.1, (limV kk (nI T) q V (st, ca, jt, jk, jy, mj)).2.2.2.2.1, (limV kk (nI T) q V (st, ca, jt, jk, jy, mj)).2.2.2.2.2, sk, rf) (ph, bg2, (lmV kk T q V (st, ca, lg, mj)).1, kk, ve, si, (lmV kk T q V (st, ca, lg, mj)).2.1, tk, (lmV kk T q V (st, ca, lg, mj)).2.2.1, (lmV kk T q V (st, ca, lg, mj)).2.2.2, sk, rf) fs gs := by
  have h3 := h.2.2.1
  obtain ⟨hv, hs⟩ := h.vr
  have hm := limV_mkV kk (nI T) q V (st, ca, jt, jk, jy, mj)
  exact h.put hq (limV_sim hv) (lim_SI hs) (by show _ ≤ mj + 8; have : (limV kk (nI T) q V (st, ca, jt, jk, jy, mj)).2.2.2.2.2 ≤ mj + V := hm; omega)
theorem LI.pedal1 (h : LI i R C dio V sus sos T pos pos cl jn dl dn (ph, bg, st, kk, ve, si, ca, tk, jt, jk, jy, mj, sk, rf) (ph, bg2, st, kk, ve, si, ca, tk, lg, mj, sk, rf) fs gs) (on : Bool) : LI (i + 3) R C dio V on sos T pos pos cl jn dl dn (ph, bg, (msuV kk (nI T) sus sos on V (st, ca, jt, jk, jy, mj)).1.1, kk, ve, si, (msuV kk (nI T) sus sos on V (st, ca, jt, jk, jy, mj)).1.2.1, tk, (msuV kk (nI T) sus sos on V (st, ca, jt, jk, jy, mj)).1.2.2.1, (msuV kk (nI T) sus sos on V (st, ca, jt, jk, jy, mj)).1.2.2.2.1, (msuV kk (nI T) sus sos on V (st, ca, jt, jk, jy, mj)).1.2.2.2.2.1, (msuV kk (nI T) sus sos on V (st, ca, jt, jk, jy, mj)).1.2.2.2.2.2, sk, rf) (ph, bg2, (dkM kk T on sos V (st, ca, lg, mj)).1.1, kk, ve, si, (dkM kk T on sos V (st, ca, lg, mj)).1.2.1, tk, (dkM kk T on sos V (st, ca, lg, mj)).1.2.2.1, (dkM kk T on sos V (st, ca, lg, mj)).1.2.2.2, sk, rf) fs gs ∧ (msuV kk (nI T) sus sos on V (st, ca, jt, jk, jy, mj)).2 = (dkM kk T on sos V (st, ca, lg, mj)).2 := by
  have h3 := h.2.2.1
  obtain ⟨hv, hs⟩ := h.vr
  have hm : (msuV kk (nI T) sus sos on V (st, ca, jt, jk, jy, mj)).1.2.2.2.2.2 ≤ mj + V := msuV_mk kk (nI T) sus sos on V (st, ca, jt, jk, jy, mj)
  obtain ⟨a1, a2, a3⟩ := su_sim (on := on) (kk := kk) (T := T) (V := V) (sus := sus) (sos := sos) hs hv
  exact ⟨h.put h3 a1 a3 (by omega), a2⟩
theorem LI.pedal2 (h : LI i R C dio V sus sos T pos pos cl jn dl dn (ph, bg, st, kk, ve, si, ca, tk, jt, jk, jy, mj, sk, rf) (ph, bg2, st, kk, ve, si, ca, tk, lg, mj, sk, rf) fs gs) (on : Bool) : LI (i + 3) R C dio V sus on T pos pos cl jn dl dn (ph, bg, (msoV kk (nI T) sus sos on V (st, ca, jt, jk, jy, mj)).1.1, kk, ve, si, (msoV kk (nI T) sus sos on V (st, ca, jt, jk, jy, mj)).1.2.1, tk, (msoV kk (nI T) sus sos on V (st, ca, jt, jk, jy, mj)).1.2.2.1, (msoV kk (nI T) sus sos on V (st, ca, jt, jk, jy, mj)).1.2.2.2.1, (msoV kk (nI T) sus sos on V (st, ca, jt, jk, jy, mj)).1.2.2.2.2.1, (msoV kk (nI T) sus sos on V (st, ca, jt, jk, jy, mj)).1.2.2.2.2.2, sk, rf) (ph, bg2, (soM kk T sus sos on V (st, ca, lg, mj)).1.1, kk, ve, si, (soM kk T sus sos on V (st, ca, lg, mj)).1.2.1, tk, (soM kk T sus sos on V (st, ca, lg, mj)).1.2.2.1, (soM kk T sus sos on V (st, ca, lg, mj)).1.2.2.2, sk, rf) fs gs ∧ (msoV kk (nI T) sus sos on V (st, ca, jt, jk, jy, mj)).2 = (soM kk T sus sos on V (st, ca, lg, mj)).2 := by
  have h3 := h.2.2.1
  obtain ⟨hv, hs⟩ := h.vr
  have hm : (msoV kk (nI T) sus sos on V (st, ca, jt, jk, jy, mj)).1.2.2.2.2.2 ≤ mj + V := msoV_mk kk (nI T) sus sos on V (st, ca, jt, jk, jy, mj)
  obtain ⟨a1, a2, a3⟩ := so_sim (on := on) (kk := kk) (T := T) (V := V) (sus := sus) (sos := sos) hs hv
  exact ⟨h.put h3 a1 a3 (by omega), a2⟩
theorem LI.tick (h : LI i R C dio V sus sos T pos pos cl jn dl dn (ph, bg, st, kk, ve, si, ca, tk, jt, jk, jy, mj, sk, rf) (ph, bg2, st, kk, ve, si, ca, tk, lg, mj, sk, rf) fs gs) {t : Nat} (ht : 1 ≤ t ∧ t ≤ 1000) (sl ru : Int32) (bk lt : Bool) {F : XS} {G : MS} (hF : tckS (T, sl, ru, R, V, bk, lt, sus, sos) (fsB (seenN dio cl jn) C) (fsB (seenN dio dl dn) C) (dbN (seenN dio cl jn) R C) C (min t R) (ph, bg, st, kk, ve, si, ca, tk, jt, jk, jy, mj, sk, rf) = F) (hG : mtck (T, sl, ru, R, V, bk, lt, sus, sos) fs gs (dmM fs R C) C t (ph, bg2, st, kk, ve, si, ca, tk, lg, mj, sk, rf) = G) : LI (i + 3) R C dio V sus sos (T + t) pos pos cl jn dl dn F G fs gs := by
  have hgf := h.gf
  have hfs := h.seen1
  have hgs := h.seen2
  have hdb : ∀ k, k < R * C → dbN (seenN dio cl jn) R C k = dmM fs R C k := fun k hk => h.db hk
  obtain ⟨h1, h2, h3, h4, h5, h6, h7, h8, h9, h10, h11, h12⟩ := h
  have hs := tck_sim (pr := (T, sl, ru, R, V, bk, lt, sus, sos)) (C := C) (n := min t R) h3.1 h1.1 (fun k hk => (hfs k hk).symm) (fun k hk => (hgs k hk).symm) hdb h8
  have hm := tckS_mk (T, sl, ru, R, V, bk, lt, sus, sos) (fsB (seenN dio cl jn) C) (fsB (seenN dio dl dn) C) (dbN (seenN dio cl jn) R C) C (min t R) (ph, bg, st, kk, ve, si, ca, tk, jt, jk, jy, mj, sk, rf)
  rw [← mtck_min (pr := (T, sl, ru, R, V, bk, lt, sus, sos)) (t := t) h1 h2.1 hgf h8.PH, hF, hG] at hs
  rw [hF] at hm
  have h13 : mj ≤ 320 * i := h12
  have h14 : mkS F ≤ mj + min t R * (C * 5) := hm
  have h15 : min t R * (C * 5) ≤ 8 * 40 := Nat.mul_le_mul (by omega) (by omega)
  exact ⟨h1, h2, h3, h4, h5, h6, h7, hs, h9, h10, by omega, by omega⟩
theorem LI.bg0 (h : LI i R C dio V sus sos T pos pos cl jn dl dn (ph, bg, st, kk, ve, si, ca, tk, jt, jk, jy, mj, sk, rf) (ph, bg2, st, kk, ve, si, ca, tk, lg, mj, sk, rf) fs gs) (k : Nat) : (if ph k = nI 0 then nI 0 else bg2 k) = (if ph k = nI 0 then nI 0 else bg k) := by
  obtain ⟨h1, h2, h3, h4, h5, h6, h7, h8, h9, h10, h11, h12⟩ := h
  obtain ⟨_, _, _, _, _, _, _, _, _, _, hb, hj, hs, hp⟩ := h8
  by_cases e : ph k = nI 0
  · rw [if_pos e, if_pos e]
  · rw [if_neg e, if_neg e, hb k e]
theorem LI.log (h : LI i R C dio V sus sos T pos pos cl jn dl dn (ph, bg, st, kk, ve, si, ca, tk, jt, jk, jy, mj, sk, rf) (ph, bg2, st, kk, ve, si, ca, tk, lg, mj, sk, rf) fs gs) : JR jt jk jy mj lg ∧ PH ph := by
  obtain ⟨h1, h2, h3, h4, h5, h6, h7, h8, h9, h10, h11, h12⟩ := h
  obtain ⟨_, _, _, _, _, _, _, _, _, _, hb, hj, hs, hp⟩ := h8
  exact ⟨hj, hp⟩
theorem LI.rest (h : LI i R C dio V sus sos T pos pos cl jn dl dn (ph, bg, st, kk, ve, si, ca, tk, jt, jk, jy, mj, sk, rf) (ph, bg2, st, kk, ve, si, ca, tk, lg, mj, sk, rf) fs gs) (t : Nat) : raN (arN ph (seenN dio cl jn) T R C) 0 (min t R + 1) = raM fs gs R C T t t 0 (ph, bg2) := by
  have hfs := h.seen1
  have hgf := h.gf
  have hin := h.sin
  have hp := h.log.2
  exact rest_eq h.1 h.2.1.1 hp hgf hfs (fun r c hb => (hin r c hb).2)
theorem LI.kept (h : LI i R C dio V sus sos T pos pos cl jn dl dn (ph, bg, st, kk, ve, si, ca, tk, jt, jk, jy, mj, sk, rf) (ph, bg2, st, kk, ve, si, ca, tk, lg, mj, sk, rf) fs gs) (t : Nat) (op ob : Nat → Int32) : LI (i + 3) R C dio V sus sos T pos pos cl jn dl dn (ph, bg, st, kk, ve, si, ca, tk, jt, jk, jy, mj, sk, rf) (fa_fill (fa_fill ph op 64) (raS fs gs R C T t t 0 (ph, bg2)).1 64, fa_fill (fa_fill bg2 ob 64) (raS fs gs R C T t t 0 (ph, bg2)).2 64, st, kk, ve, si, ca, tk, lg, mj, sk, rf) fs gs := by
  have hRC : R * C ≤ 64 := Nat.mul_le_mul h.1.2 h.2.1.2
  have e := fun j (hj : 64 ≤ j) => ras_out (F := fs) (G := gs) (T := T) (t := t) h.1.1 (show R * C ≤ j by omega) t 0 (ph, bg2)
  rw [restore (f := ph) (fun j hj => (e j hj).1), restore (f := bg2) (fun j hj => (e j hj).2)]
  exact h.same
end
