/-! the pedals, the voices' counts -/
theorem findN_true {p : Nat → Bool} : ∀ (n i : Nat), findN p i n < i + n → p (findN p i n) = true
  | 0, i, h => absurd h (Nat.lt_irrefl _)
  | n + 1, i, h => by
    by_cases e : p i = true
    · have : findN p i (n + 1) = i := if_pos e
      rw [this]; exact e
    · have e2 : findN p i (n + 1) = findN p (i + 1) n := if_neg e
      rw [e2] at h ⊢
      exact findN_true n (i + 1) (by omega)
theorem vo_snd {st kk : Nat → Int32} {key : Int32} {V : Nat} (h : findN (wkP st kk key) 0 V < V) : ¬ st (findN (wkP st kk key) 0 V) = nI 0 ∧ kk (findN (wkP st kk key) 0 V) = key := wkP_iff.mp (findN_true V 0 (by omega))
theorem ct3_of {st : Nat → Int32} (h : ∀ v, st v = nI 0 ∨ st v = nI 1 ∨ st v = nI 2) : ∀ n, isN st (nI 0) n + isN st (nI 1) n + isN st (nI 2) n = n
  | 0 => rfl
  | n + 1 => by
    have ih := ct3_of h n
    rw [isN_ct, isN_ct, isN_ct] at ih ⊢
    rw [fb_ct_succ, fb_ct_succ, fb_ct_succ]
    rcases h n with e | e | e <;> simp only [e, n01, n21, n20, n10, n12, n02, decide_false, decide_true, if_true, Bool.false_eq_true, if_false] <;> omega
section
variable {s : KSt} {R C V N : Nat}
theorem INV.ct3 (h : INV s R C V N) : isN (kst s) (nI 0) V + isN (kst s) (nI 1) V + isN (kst s) (nI 2) V = V := ct3_of h.vi.1.1 V
theorem all_snd {st : Nat → Int32} (c : ¬ fb_ct (fun v => decide (¬ st v = nI 0)) V < V) : ∀ v, v < V → ¬ st v = nI 0 := by
  intro v hv e
  have h1 := fb_ct_not (fun v => decide (¬ st v = nI 0)) V
  have h2 : fb_ct (fun k => !decide (¬ st k = nI 0)) V = 0 := by omega
  have := fb_ct_zero.mp h2 v hv
  rw [e] at this
  revert this; decide
theorem ff_none {st : Nat → Int32} (h : ∀ v, v < V → ¬ st v = nI 0) : ¬ findN (ffP st) 0 V < V := by
  intro hf
  have := findN_true V 0 (by omega : findN (ffP st) 0 V < 0 + V)
  unfold ffP at this
  split at this
  · rename_i e; exact h _ hf e
  · cases this
theorem nt_none (h : INV s R C V N) (c : fb_ct (fun v => decide (¬ kst s v = nI 0)) V < V) : ntF (kst s) (kve s) (ksi s) (kRu s) V = (-3) := by
  unfold ntF
  by_cases e : findN (ffP (kst s)) 0 V < V
  · rw [if_pos e]
  · exfalso
    have h1 := findN_none (p := ffP (kst s)) V 0 (by omega)
    have h2 : fb_ct (fun v => decide (¬ kst s v = nI 0)) V = V := by
      have h3 := fb_ct_not (fun v => decide (¬ kst s v = nI 0)) V
      have h4 : fb_ct (fun k => !decide (¬ kst s k = nI 0)) V = 0 := fb_ct_zero.mpr (fun k hk => by
        have := h1 k (Nat.zero_le _) (by omega)
        unfold ffP at this
        by_cases z : kst s k = nI 0
        · rw [if_pos z] at this; cases this
        · simp [z])
      omega
    omega
theorem bst_wk (h : ∀ v, v < V → ¬ kst s v = nI 0) : lfor (bstS s V) 0 V V = wkN false (kst s) (kve s) (ksi s) (kRu s) V := by
  unfold wkN
  exact lfor_ext V 0 V (fun k t _ hk => if_neg (h k (by omega)))
theorem kep_wk (c : kRu s = nI 2) : lfor (kepS s V) 0 V V = wkN true (kst s) (kve s) (ksi s) (kRu s) V := by
  unfold wkN
  refine lfor_ext V 0 V (fun k t _ hk => ?_)
  unfold kepS wkS
  rw [if_pos rfl]
  have e : wkB (kve s) (ksi s) (kRu s) k t = if ksi s k < ksi s t then true else false := by
    unfold wkB
    rw [if_neg (by rw [c]; decide)]
  rw [e]
  by_cases q : ksi s k < ksi s t
  · rw [if_pos q, if_pos q, if_pos rfl]
  · rw [if_neg q, if_neg q, if_neg Bool.false_ne_true]
theorem nt_tk (h : INV s R C V N) (c : ¬ fb_ct (fun v => decide (¬ kst s v = nI 0)) V < V) : ntF (kst s) (kve s) (ksi s) (kRu s) V = nI (tkN (kst s) (kve s) (ksi s) (kRu s) V) := by
  have hs := all_snd c
  unfold ntF
  rw [if_neg (ff_none hs), vic_eq h.rR.2.2.1.1 (fun v hv => (h.vi.1.1 v).resolve_left (hs v hv))]
theorem nt_kept (h : INV s R C V N) (c : ¬ fb_ct (fun v => decide (¬ kst s v = nI 0)) V < V) (c2 : kRu s = nI 2) (c3 : ¬ rV (lfor (kepS s V) 0 V V) V < nI 0) : ntF (kst s) (kve s) (ksi s) (kRu s) V = rV (lfor (kepS s V) 0 V V) V := by
  have hV := h.rR.2.2.1
  have hk := rV_ge (by omega) c3
  rw [nt_tk h c, rV_some hk]
  rw [kep_wk c2] at hk ⊢
  unfold tkN
  rw [if_pos c2, if_pos hk]
theorem nt_best (h : INV s R C V N) (c : ¬ fb_ct (fun v => decide (¬ kst s v = nI 0)) V < V) (c2 : ¬ kRu s = nI 2 ∨ rV (lfor (kepS s V) 0 V V) V < nI 0) : ntF (kst s) (kve s) (ksi s) (kRu s) V = rV (lfor (bstS s V) 0 V V) V := by
  have hV := h.rR.2.2.1
  rw [nt_tk h c, bst_wk (all_snd c), rV_some (wkN_lt hV.1)]
  unfold tkN
  by_cases z : kRu s = nI 2
  · have hk := (rV_neg (by omega)).mp (c2.resolve_left (fun q => q z))
    rw [kep_wk z] at hk
    rw [if_pos z, if_neg hk]
  · rw [if_neg z]
end
/-- what a pass that frees kept voices leaves -/
def fkP (sus sos : Bool) (st : Nat → Int32) (ca : Nat → Bool) (v : Nat) : Bool := decide (st v = nI 2) && !kpB sus sos ca v
theorem fk_at (kk : Nat → Int32) (now : Int32) (sus sos : Bool) (s : VJ) : ∀ n, (∀ v, (lfor (fkS kk now sus sos) 0 n (s, 0)).1.1 v = if v < n ∧ fkP sus sos s.1 s.2.1 v = true then nI 0 else s.1 v) ∧ (∀ v, (lfor (fkS kk now sus sos) 0 n (s, 0)).1.2.1 v = if v < n ∧ fkP sus sos s.1 s.2.1 v = true then false else s.2.1 v) ∧ (lfor (fkS kk now sus sos) 0 n (s, 0)).2 = fb_ct (fkP sus sos s.1 s.2.1) n ∧ (lfor (fkS kk now sus sos) 0 n (s, 0)).1.2.2.2.2.2 = s.2.2.2.2.2 + fb_ct (fkP sus sos s.1 s.2.1) n
  | 0 => ⟨fun v => (if_neg (by omega)).symm, fun v => (if_neg (by omega)).symm, rfl, rfl⟩
  | n + 1 => by
    obtain ⟨h1, h2, h3, h4⟩ := fk_at kk now sus sos s n
    rw [lfor_last, fb_ct_succ]
    generalize hX : lfor (fkS kk now sus sos) 0 n (s, 0) = X at h1 h2 h3 h4
    have e1 : X.1.1 n = s.1 n := by rw [h1, if_neg (by omega)]
    have e2 : X.1.2.1 n = s.2.1 n := by rw [h2, if_neg (by omega)]
    have e3 : kpB sus sos X.1.2.1 n = kpB sus sos s.2.1 n := by unfold kpB; rw [e2]
    have keep : fkP sus sos s.1 s.2.1 n = false → fkS kk now sus sos n X = X := fun q => by
      unfold fkS
      by_cases c1 : X.1.1 n = nI 2
      · rw [if_pos c1]
        have : kpB sus sos X.1.2.1 n = true := by
          rw [e3]
          unfold fkP at q
          rw [decide_eq_true (e1.symm.trans c1)] at q
          simpa using q
        rw [if_pos this]
      · rw [if_neg c1]
    by_cases q : fkP sus sos s.1 s.2.1 n = true
    · have q' := q
      unfold fkP at q'
      rw [Bool.and_eq_true] at q'
      have c1 : X.1.1 n = nI 2 := e1.trans (of_decide_eq_true q'.1)
      have c2 : ¬ kpB sus sos X.1.2.1 n = true := by
        rw [e3]; have := q'.2; simpa using this
      have e : fkS kk now sus sos n X = (freeV kk now n X.1, X.2 + 1) := by
        unfold fkS
        rw [if_pos c1, if_neg c2]
      rw [e, if_pos q]
      refine ⟨fun v => ?_, fun v => ?_, by show X.2 + 1 = _; rw [h3], by show X.1.2.2.2.2.2 + 1 = _; rw [h4]; rfl⟩
      · show upd X.1.1 n (nI 0) v = _
        unfold upd
        by_cases z : v = n
        · rw [if_pos z, if_pos ⟨by omega, z ▸ q⟩]
        · rw [if_neg z, h1]
          by_cases y : v < n ∧ fkP sus sos s.1 s.2.1 v = true
          · rw [if_pos y, if_pos ⟨by omega, y.2⟩]
          · rw [if_neg y, if_neg (fun w => y ⟨by omega, w.2⟩)]
      · show updB X.1.2.1 n false v = _
        unfold updB
        by_cases z : v = n
        · rw [if_pos z, if_pos ⟨by omega, z ▸ q⟩]
        · rw [if_neg z, h2]
          by_cases y : v < n ∧ fkP sus sos s.1 s.2.1 v = true
          · rw [if_pos y, if_pos ⟨by omega, y.2⟩]
          · rw [if_neg y, if_neg (fun w => y ⟨by omega, w.2⟩)]
    · rw [keep (by simpa using q), if_neg q]
      have same : ∀ v, (v < n + 1 ∧ fkP sus sos s.1 s.2.1 v = true) ↔ (v < n ∧ fkP sus sos s.1 s.2.1 v = true) := fun v => ⟨fun w => ⟨by
        rcases Nat.lt_or_ge v n with z | z
        · exact z
        · have : v = n := by omega
          exact absurd (this ▸ w.2) q, w.2⟩, fun w => ⟨by omega, w.2⟩⟩
      refine ⟨fun v => ?_, fun v => ?_, h3, h4⟩
      · rw [h1]
        by_cases y : v < n ∧ fkP sus sos s.1 s.2.1 v = true
        · rw [if_pos y, if_pos ((same v).mpr y)]
        · rw [if_neg y, if_neg (fun w => y ((same v).mp w))]
      · rw [h2]
        by_cases y : v < n ∧ fkP sus sos s.1 s.2.1 v = true
        · rw [if_pos y, if_pos ((same v).mpr y)]
        · rw [if_neg y, if_neg (fun w => y ((same v).mp w))]
theorem fk_counts (kk : Nat → Int32) (now : Int32) (sus sos : Bool) (s : VJ) (V : Nat) : isN (fkV kk now sus sos V s).1.1 (nI 2) V = isN s.1 (nI 2) V - (fkV kk now sus sos V s).2 ∧ isN (fkV kk now sus sos V s).1.1 (nI 0) V = isN s.1 (nI 0) V + (fkV kk now sus sos V s).2 ∧ (fkV kk now sus sos V s).2 ≤ isN s.1 (nI 2) V ∧ (fkV kk now sus sos V s).2 = fb_ct (fkP sus sos s.1 s.2.1) V ∧ (fkV kk now sus sos V s).1.2.2.2.2.2 = s.2.2.2.2.2 + (fkV kk now sus sos V s).2 := by
  obtain ⟨h1, h2, h3, h4⟩ := fk_at kk now sus sos s V
  unfold fkV
  generalize lfor (fkS kk now sus sos) 0 V (s, 0) = X at h1 h2 h3 h4
  rw [isN_ct, isN_ct, isN_ct, isN_ct, h3, h4]
  have hsub : ∀ v, fkP sus sos s.1 s.2.1 v = true → s.1 v = nI 2 := fun v q => by
    unfold fkP at q
    rw [Bool.and_eq_true] at q
    exact of_decide_eq_true q.1
  have e2 : fb_ct (fun v => decide (s.1 v = nI 2)) V = fb_ct (fun v => decide (X.1.1 v = nI 2)) V + fb_ct (fkP sus sos s.1 s.2.1) V := by
    rw [← fb_ct_or (fun k hk => by
      rintro ⟨a, b⟩
      have a' := of_decide_eq_true a
      rw [h1, if_pos ⟨hk, b⟩] at a'
      exact absurd a' (by decide))]
    refine fb_ct_cong (fun k hk => ?_)
    show decide (s.1 k = nI 2) = (decide (X.1.1 k = nI 2) || fkP sus sos s.1 s.2.1 k)
    rw [h1]
    by_cases q : fkP sus sos s.1 s.2.1 k = true
    · rw [if_pos ⟨hk, q⟩, q, hsub k q]; decide
    · rw [if_neg (fun w => q w.2)]
      have : fkP sus sos s.1 s.2.1 k = false := by simpa using q
      rw [this, Bool.or_false]
  have e0 : fb_ct (fun v => decide (X.1.1 v = nI 0)) V = fb_ct (fun v => decide (s.1 v = nI 0)) V + fb_ct (fkP sus sos s.1 s.2.1) V := by
    rw [← fb_ct_or (fun k hk => by
      rintro ⟨a, b⟩
      have a' := of_decide_eq_true a
      rw [hsub k b] at a'
      exact absurd a' (by decide))]
    refine fb_ct_cong (fun k hk => ?_)
    show decide (X.1.1 k = nI 0) = (decide (s.1 k = nI 0) || fkP sus sos s.1 s.2.1 k)
    rw [h1]
    by_cases q : fkP sus sos s.1 s.2.1 k = true
    · rw [if_pos ⟨hk, q⟩, q]; simp
    · rw [if_neg (fun w => q w.2)]
      have : fkP sus sos s.1 s.2.1 k = false := by simpa using q
      rw [this, Bool.or_false]
  exact ⟨by omega, e0, by omega, rfl, rfl⟩
theorem cap_at (st : Nat → Int32) (dn : Bool) (c : Nat → Bool) : ∀ n v, lfor (capS st dn) 0 n c v = if v < n then (if dn = true then decide (st v = nI 1) else false) else c v
  | 0, v => (if_neg (by omega)).symm
  | n + 1, v => by
    rw [lfor_last]
    have ih := cap_at st dn c n v
    have e : ∀ x, (if dn = true then (if st x = nI 1 then true else false) else false) = (if dn = true then decide (st x = nI 1) else false) := fun x => by
      by_cases q : st x = nI 1
      · rw [if_pos q, decide_eq_true q]
      · rw [if_neg q, decide_eq_false q]
    show updB _ n _ v = _
    unfold updB
    by_cases z : v = n
    · rw [if_pos z, if_pos (show v < n + 1 from by omega), z]; exact e n
    · rw [if_neg z, ih]
      by_cases y : v < n
      · rw [if_pos y, if_pos (show v < n + 1 from by omega)]
      · rw [if_neg y, if_neg (show ¬ v < n + 1 from by omega)]
