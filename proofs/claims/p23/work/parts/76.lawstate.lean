/-! the law's own numbers; what the other calls keep -/
def v31 (v : Int32) : Nat := v.toBitVec.toNat % 2 ^ 31
theorem v31_ok (v : Int32) : v &&& nI 2147483647 = nI (v31 v) := by
  apply Int32.toBitVec_inj.mp
  rw [Int32.toBitVec_and]
  apply BitVec.eq_of_toNat_eq
  rw [BitVec.toNat_and]
  have e1 : (nI 2147483647).toBitVec.toNat = 2 ^ 31 - 1 := by decide
  have e2 : (nI (v31 v)).toBitVec.toNat = v31 v := by
    show (BitVec.ofNat 32 (v31 v)).toNat = v31 v
    rw [BitVec.toNat_ofNat]
    exact Nat.mod_eq_of_lt (Nat.lt_trans (Nat.mod_lt _ (by decide)) (by decide))
  rw [e1, e2, Nat.and_two_pow_sub_one_eq_mod]
  rfl
theorem v31_lt (v : Int32) : v31 v < 2 ^ 31 := Nat.mod_lt _ (by decide)
def lowN (v : Int32) (n : Nat) : Nat := v31 v % n
theorem lowN_lt {v : Int32} {n : Nat} (h : 0 < n) : lowN v n < n := Nat.mod_lt _ h
def cellV (L : Nat) (xs : Nat → Int32) (k : Nat) : Int32 := if k < L then xs k else nI 6370009 * nI k + nI 3301
def lmU (st : Nat → Int32) (i n u : Nat) : Nat := lfor (fun v u => if st v = nI 0 then u else u + 1) i n u
theorem lmU_add (st : Nat → Int32) : ∀ (n i u : Nat), lmU st i n u = u + lmU st i n 0
  | 0, _, u => (Nat.add_zero u).symm
  | n + 1, i, u => by
    have h1 := lmU_add st n (i + 1) (if st i = nI 0 then u else u + 1)
    have h2 := lmU_add st n (i + 1) (if st i = nI 0 then 0 else 0 + 1)
    show lmU st (i + 1) n (if st i = nI 0 then u else u + 1) = u + lmU st (i + 1) n (if st i = nI 0 then 0 else 0 + 1)
    rw [h1, h2]
    by_cases e : st i = nI 0
    · rw [if_pos e, if_pos e]; omega
    · rw [if_neg e, if_neg e]; omega
theorem lmU_le (st : Nat → Int32) : ∀ (n i u : Nat), lmU st i n u ≤ u + n
  | 0, _, _ => Nat.le_refl _
  | n + 1, i, u => by
    have h1 := lmU_le st n (i + 1) (if st i = nI 0 then u else u + 1)
    show lmU st (i + 1) n (if st i = nI 0 then u else u + 1) ≤ _
    by_cases e : st i = nI 0
    · rw [if_pos e] at h1 ⊢; omega
    · rw [if_neg e] at h1 ⊢; omega
theorem lim_at (kk : Nat → Int32) (now : Int32) : ∀ (n i : Nat) (s : VJ), (∀ v, (lfor (limS kk now) i n s).1 v = if i ≤ v ∧ v < i + n then nI 0 else s.1 v) ∧ (∀ v, (lfor (limS kk now) i n s).2.1 v = if (i ≤ v ∧ v < i + n) ∧ ¬ s.1 v = nI 0 then false else s.2.1 v) ∧ (lfor (limS kk now) i n s).2.2.2.2.2 = lmU s.1 i n s.2.2.2.2.2
  | 0, i, s => ⟨fun v => (if_neg (by omega)).symm, fun v => (if_neg (by omega)).symm, rfl⟩
  | n + 1, i, s => by
    obtain ⟨h1, h2, h3⟩ := lim_at kk now n (i + 1) (limS kk now i s)
    have a1 : ∀ v, (limS kk now i s).1 v = if v = i then nI 0 else s.1 v := fun v => by
      unfold limS
      by_cases e : s.1 i = nI 0
      · rw [if_pos e]
        by_cases z : v = i
        · rw [if_pos z, z]; exact e
        · rw [if_neg z]
      · rw [if_neg e]; rfl
    have a2 : ∀ v, (limS kk now i s).2.1 v = if v = i ∧ ¬ s.1 i = nI 0 then false else s.2.1 v := fun v => by
      unfold limS
      by_cases e : s.1 i = nI 0
      · rw [if_pos e, if_neg (fun q => q.2 e)]
      · rw [if_neg e]
        show updB s.2.1 i false v = _
        unfold updB
        by_cases z : v = i
        · rw [if_pos z, if_pos ⟨z, e⟩]
        · rw [if_neg z, if_neg (fun q => z q.1)]
    have a3 : (limS kk now i s).2.2.2.2.2 = if s.1 i = nI 0 then s.2.2.2.2.2 else s.2.2.2.2.2 + 1 := by
      unfold limS
      by_cases e : s.1 i = nI 0
      · rw [if_pos e, if_pos e]
      · rw [if_neg e, if_neg e]; rfl
    refine ⟨fun v => ?_, fun v => ?_, ?_⟩
    · show (lfor (limS kk now) (i + 1) n (limS kk now i s)).1 v = _
      rw [h1, a1]
      by_cases z : v = i
      · rw [if_neg (by omega), if_pos z, if_pos (by omega)]
      · by_cases y : i + 1 ≤ v ∧ v < i + 1 + n
        · rw [if_pos y, if_pos (by omega)]
        · rw [if_neg y, if_neg z, if_neg (by omega)]
    · show (lfor (limS kk now) (i + 1) n (limS kk now i s)).2.1 v = _
      rw [h2, a1, a2]
      by_cases z : v = i
      · subst z
        by_cases e : s.1 v = nI 0
        · rw [if_neg (fun q => by omega), if_neg (fun q => q.2 e), if_neg (fun q => q.2 e)]
        · rw [if_neg (fun q => by omega), if_pos ⟨rfl, e⟩, if_pos ⟨⟨Nat.le_refl _, by omega⟩, e⟩]
      · rw [if_neg z, if_neg (show ¬ (v = i ∧ ¬ s.1 i = nI 0) from fun q => z q.1)]
        by_cases y : (i + 1 ≤ v ∧ v < i + 1 + n) ∧ ¬ s.1 v = nI 0
        · rw [if_pos y, if_pos ⟨by omega, y.2⟩]
        · rw [if_neg y, if_neg (fun q => y ⟨by omega, q.2⟩)]
    · show (lfor (limS kk now) (i + 1) n (limS kk now i s)).2.2.2.2.2 = lmU s.1 (i + 1) n (if s.1 i = nI 0 then s.2.2.2.2.2 else s.2.2.2.2.2 + 1)
      rw [h3, a3]
      unfold lmU
      refine lfor_ext n (i + 1) _ (fun k t hk _ => ?_)
      rw [a1, if_neg (show ¬ k = i by omega)]
theorem st_pos {st : Nat → Int32} {v : Nat} (h : st v = nI 0 ∨ st v = nI 1 ∨ st v = nI 2) : nI 0 < st v ↔ ¬ st v = nI 0 := by
  rcases h with e | e | e <;> rw [e] <;> decide
theorem isN_all {st : Nat → Int32} {x : Int32} {V : Nat} (h : ∀ v, v < V → st v = x) : isN st x V = V := by
  rw [isN_ct]
  have h1 := fb_ct_not (fun v => decide (st v = x)) V
  have h2 : fb_ct (fun k => !decide (st k = x)) V = 0 := fb_ct_zero.mpr (fun k hk => by rw [h k hk]; simp)
  omega
theorem wx_none (pos gw : Nat → Nat) : ∀ (n i : Nat) (x : Int32) (ls : Nat), (∀ k, i ≤ k → k < i + n → pos k = 0) → wxL pos gw i n (x, ls) = x
  | 0, _, _, _, _ => rfl
  | n + 1, i, x, ls, h => by
    show (if 0 < ls then wxL pos gw (i + 1) n (if pos i = 0 then (x, ls) else if gw i < ls then (nI i, gw i) else (x, ls)) else x) = x
    rw [if_pos (h i (Nat.le_refl _) (by omega)), wx_none pos gw n (i + 1) x ls (fun k h1 h2 => h k (by omega) (by omega)), ite_self]
theorem zeroN_lt {f : Nat → Nat} {n k : Nat} (h : k < n) : zeroN f n k = 0 := if_pos h
section
variable {s : KSt} {R C V N : Nat}
theorem INV.mv (h : INV s R C V N) {k q : Nat} (hk : k < R * C) (hq : q ≤ 2) : INV (mvS s k q) R C V N := by
  obtain ⟨h1, h2, h3, h4, h5, h6, h7, h8, h9, h10, h11, h12, h13⟩ := h
  refine ⟨h1, h2, h3, h4, h5, h6, fun j => ?_, ?_, h9, h10, h11, h12, h13⟩
  · show updN (kpos s) k q j ≤ 2
    unfold updN
    split
    · exact hq
    · exact h7 j
  · have := NT_move h8 h5 hk hq
    show NT (updN (kpos s) k q) R C (putC (kcl s) (k / kC s) (k % kC s) (decide (1 ≤ q))) (putJ (kcl s) (kjn s) (k / kC s) (k % kC s) (decide (1 ≤ q))) (putC (kdl s) (k / kC s) (k % kC s) (decide (q = 2))) (putJ (kdl s) (kdn s) (k / kC s) (k % kC s) (decide (q = 2)))
    rw [h2]; exact this
theorem INV.li (h : INV s R C V N) : INV (liS s) R C V N := by
  have hrc := h.rc
  obtain ⟨h1, h2, h3, h4, h5, h6, h7, h8, h9, h10, h11, h12, h13⟩ := h
  refine ⟨h1, h2, h3, h4, h5, h6, fun j => ?_, NT_lift h8 h4.2 (fun k hk => zeroN_lt (by omega)), h9, h10, h11, h12, h13⟩
  show zeroN (kpos s) 64 j ≤ 2
  unfold zeroN fa_fill
  split
  · exact Nat.zero_le _
  · exact h7 j
theorem INV.di (h : INV s R C V N) (on : Bool) : INV (diS s on) R C V N := h
theorem INV.sl (h : INV s R C V N) (x : Int32) : INV (slS s x) R C V N := h
theorem INV.bk (h : INV s R C V N) (on : Bool) : INV (bkS s on) R C V N := h
theorem INV.lt (h : INV s R C V N) (on : Bool) : INV (ltS s on) R C V N := h
theorem INV.vo_mk (h : INV s R C V N) (q : Nat) (x : Int32) : kmk (voS s q x) = kmk s + lmU (kst s) q (V - q) 0 := by
  have h3 : kV s = V := h.2.2.1
  show (limV (kkk s) (nI (kT s)) q (kV s) (vjOf s)).2.2.2.2.2 = _
  rw [h3]
  unfold limV
  rw [(lim_at (kkk s) (nI (kT s)) (V - q) q (vjOf s)).2.2, lmU_add]
theorem INV.vo (h : INV s R C V N) {q : Nat} (hq : 1 ≤ q ∧ q ≤ 8) (x : Int32) : INV (voS s q x) R C q (N + 1) := by
  have hm := h.vo_mk q x
  have hl := lmU_le (kst s) (V - q) q 0
  obtain ⟨h1, h2, h3, h4, h5, h6, h7, h8, h9, h10, h11, h12, h13⟩ := h
  refine ⟨h1, h2, rfl, h4, h5, hq, h7, h8, h9, ?_, h11, by show kT s ≤ N + 1; omega, by omega⟩
  show VI q (R * C) (kT s) (kSus s) (kSos s) (limV (kkk s) (nI (kT s)) q (kV s) (vjOf s)).1 (kkk s) (kve s) (ksi s) (limV (kkk s) (nI (kT s)) q (kV s) (vjOf s)).2.1
  rw [h3]
  unfold limV
  obtain ⟨a1, a2, _⟩ := lim_at (kkk s) (nI (kT s)) (V - q) q (vjOf s)
  generalize lfor (limS (kkk s) (nI (kT s))) q (V - q) (vjOf s) = X at a1 a2
  have big : ∀ v, ¬ kst s v = nI 0 → v < V := fun v hv => (h10.2.1 v hv).1
  have a1' : ∀ v, X.1 v = if q ≤ v ∧ v < q + (V - q) then nI 0 else kst s v := a1
  have a2' : ∀ v, X.2.1 v = if (q ≤ v ∧ v < q + (V - q)) ∧ ¬ kst s v = nI 0 then false else kca s v := a2
  have live : ∀ v, ¬ X.1 v = nI 0 → ¬ (q ≤ v ∧ v < q + (V - q)) ∧ X.1 v = kst s v := fun v hv => by
    have hn : ¬ (q ≤ v ∧ v < q + (V - q)) := fun w => by rw [a1', if_pos w] at hv; exact hv rfl
    exact ⟨hn, by rw [a1', if_neg hn]⟩
  refine h10.free (fun v => ?_) (fun v hv => ?_) (fun v hv => ?_) (fun v hv => ?_) (fun v hv => ?_)
  · rw [a1']
    split
    · exact Or.inl rfl
    · exact Or.inr rfl
  · obtain ⟨b1, b2⟩ := live v hv
    rw [b2] at hv
    have := big v hv
    omega
  · obtain ⟨b1, b2⟩ := live v (by rw [hv]; decide)
    rw [b2] at hv
    have := (h10.1.2 v hv).2
    have e : X.2.1 v = kca s v := (a2' v).trans (if_neg (fun w => b1 w.1))
    unfold kpB at this ⊢
    rw [e]; exact this
  · rw [a2']
    by_cases w : (q ≤ v ∧ v < q + (V - q)) ∧ ¬ kst s v = nI 0
    · rw [if_pos w]
    · rw [if_neg w]
      refine h10.2.2.2.1 v ?_
      rw [a1'] at hv
      by_cases y : q ≤ v ∧ v < q + (V - q)
      · exact Decidable.of_not_not (fun z => w ⟨y, z⟩)
      · rw [if_neg y] at hv; exact hv
  · rw [a2'] at hv
    split at hv
    · cases hv
    · exact h10.2.2.2.2 v hv
theorem KOK.rs (h : KOK s R C V) {q u : Nat} (hq : 1 ≤ q ∧ q ≤ 8) (hu : 1 ≤ u ∧ u ≤ 8) : KOK (rsS s q u) q u V := by
  obtain ⟨h1, h2, h3, h4, h5, h6, h7, l1, l2, l3, l4, h12, h13⟩ := h
  have z : ∀ (f : Nat → Nat) (n b : Nat), (∀ j, f j < b) → 0 < b → ∀ j, zeroN f n j < b := fun f n b hf hb j => by
    unfold zeroN fa_fill
    split
    · exact hb
    · exact hf j
  refine ⟨rfl, rfl, h3, hq, hu, h6, fun k => ?_, z _ _ _ l1 (by decide), z _ _ _ l2 (by decide), z _ _ _ l3 (by decide), z _ _ _ l4 (by decide), by show 0 + 8 < 2 ^ 29; decide, by show 0 + 4096 < 2 ^ 29; decide⟩
  show zeroN (kpos s) 64 k ≤ 2
  unfold zeroN fa_fill
  split
  · exact Nat.zero_le _
  · exact h7 k
theorem li_pr (h : INV s R C V N) : prN (kpos (liS s)) (R * C) = 0 := by
  have hrc := h.rc
  rw [pr_eq]
  have key : ∀ n, n ≤ R * C → prM (kpos (liS s)) n = 0 := by
    intro n
    induction n with
    | zero => intro _; rfl
    | succ n ih =>
      intro hn
      rw [prM_succ, ih (by omega), if_neg]
      show ¬ 0 < zeroN (kpos s) 64 n
      rw [zeroN_lt (by omega)]; omega
  exact key _ (Nat.le_refl _)
theorem li_worst (h : INV s R C V N) (gw : Nat → Nat) (x : Int32) (ls : Nat) : wxL (kpos (liS s)) gw 0 (R * C) (x, ls) = x := by
  have hrc := h.rc
  exact wx_none _ _ _ _ _ _ (fun k _ hk => zeroN_lt (by omega))
theorem rs_free (h : KOK s R C V) (q u : Nat) : V - isN (kst (rsS s q u)) (nI 0) V = 0 := by
  have hV : V ≤ 8 := h.2.2.2.2.2.1.2
  have : isN (kst (rsS s q u)) (nI 0) V = V := isN_all (fun v hv => if_pos (show v < 8 by omega))
  omega
end
/-- a new scanner -/
def K0 : KSt := ((0, nI 8, nI 0, 4, 4, false, false, false, false), (fun _ => nI 0, fun _ => nI 0, fun _ => nI 0, fun _ => nI 0, fun _ => nI 0, fun _ => nI 0, fun _ => false, nI 0, fun _ => nI 0, fun _ => nI 0, fun _ => nI 0, 0, nI 0, nI 0), (fun _ => 0, 4, false, fun _ => 0, fun _ => 0, fun _ => 0, fun _ => 0))
theorem K0_ok : KOK K0 4 4 4 := ⟨rfl, rfl, rfl, by decide, by decide, by decide, fun _ => Nat.zero_le _, fun _ => Nat.zero_lt_succ 255, fun _ => Nat.zero_lt_succ 255, fun _ => Nat.zero_lt_succ 255, fun _ => Nat.zero_lt_succ 255, by decide, by decide⟩
theorem K0_rs {q u : Nat} (hq : 1 ≤ q ∧ q ≤ 8) (hu : 1 ≤ u ∧ u ≤ 8) : INV (rsS K0 q u) q u 4 0 := by
  have ezN : ∀ n, zeroN (fun _ => 0) n = fun _ => 0 := fun n => by funext j; unfold zeroN fa_fill; split <;> rfl
  have ezI : ∀ n, zeroI (fun _ => nI 0) n = fun _ => nI 0 := fun n => by funext j; unfold zeroI fa_fill; split <;> rfl
  have ezB : ∀ n, zeroB (fun _ => false) n = fun _ => false := fun n => by funext j; unfold zeroB fa_fill; split <;> rfl
  have e : rsS K0 q u = ((0, nI 8, nI 0, q, 4, false, false, false, false), (fun _ => nI 0, fun _ => nI 0, fun _ => nI 0, fun _ => nI 0, fun _ => nI 0, fun _ => nI 0, fun _ => false, nI 0, fun _ => nI 0, fun _ => nI 0, fun _ => nI 0, 0, nI 0, nI 0), (fun _ => 0, u, false, fun _ => 0, fun _ => 0, fun _ => 0, fun _ => 0)) := by
    show ((0, nI 8, nI 0, q, 4, false, false, false, false), (zeroI (fun _ => nI 0) 64, fun _ => nI 0, zeroI (fun _ => nI 0) 8, fun _ => nI 0, fun _ => nI 0, fun _ => nI 0, zeroB (fun _ => false) 8, nI 0, fun _ => nI 0, fun _ => nI 0, fun _ => nI 0, 0, nI 0, nI 0), (zeroN (fun _ => 0) 64, u, false, zeroN (fun _ => 0) 8, zeroN (fun _ => 0) 8, zeroN (fun _ => 0) 8, zeroN (fun _ => 0) 8)) = _
    rw [ezN, ezN, ezI, ezI, ezB]
  have hj : (fun _ => 0 : Nat → Nat) = joinN (fun _ => 0) (fun _ => 0) := by funext r; exact (joinN_zero (fun _ => rfl) r).symm
  rw [e]
  refine ⟨rfl, rfl, rfl, hq, hu, by decide, fun _ => Nat.zero_le _, ⟨net_zero (by decide) (fun _ _ => rfl) (fun _ => rfl), net_zero (by decide) (fun _ _ => rfl) (fun _ => rfl), hj, hj⟩, fun _ => Or.inl rfl, ⟨⟨fun _ => Or.inl rfl, fun v hv => absurd hv (show ¬ nI 0 = nI 2 by decide)⟩, fun v hv => absurd rfl hv, fun v w hv => absurd rfl hv, fun _ _ => rfl, fun v hv => (by cases hv)⟩, fun k hk => absurd rfl hk, Nat.le_refl _, Nat.zero_le _⟩
theorem kmk_lt {s : KSt} {R C V : Nat} (h : KOK s R C V) : kmk s < 2 ^ 31 := by
  have := h.2.2.2.2.2.2.2.2.2.2.2.2
  omega
theorem prN_lt {pos : Nat → Nat} {n : Nat} (h : n < 2 ^ 31) : prN pos n < 2 ^ 31 := by
  rw [pr_eq]
  exact Nat.lt_of_le_of_lt (prM_le pos n) h
