/-! ticks and rest -/
def tickN : Nat → KSt → KSt
  | 0, s => s
  | n + 1, s => tick1 (tickN n s)
theorem ph_ct1 {p : Nat → Int32} {k : Nat} (h : nI 0 < p k) : (if decide (¬ p k = nI 0) = true then 1 else 0) = 1 := by
  rw [if_pos]
  refine decide_eq_true (fun e => ?_)
  rw [e] at h
  exact absurd h (by decide)
theorem ph_ct0 {p : Nat → Int32} (hp : PH p) {k : Nat} (h : ¬ nI 0 < p k) : (if decide (¬ p k = nI 0) = true then 1 else 0) = 0 := by
  rw [if_neg]
  intro e
  have e := of_decide_eq_true e
  rcases hp k with q | q | q | q
  · exact e q
  all_goals (rw [q] at h; exact absurd (by decide) h)
theorem bus_iff {p : Nat → Int32} {n : Nat} : fb_ct (fun q => decide (¬ p q = nI 0)) n = 0 ↔ ∀ k, k < n → p k = nI 0 := by
  rw [fb_ct_zero]
  refine ⟨fun h k hk => ?_, fun h k hk => ?_⟩
  · have := of_decide_eq_false (h k hk)
    exact Decidable.of_not_not this
  · exact decide_eq_false (fun q => q (h k hk))
section
variable {s : KSt} {R C V N : Nat}
theorem INV.ph (h : INV s R C V N) : PH (kph s) := h.2.2.2.2.2.2.2.2.1
theorem kT1_lt (h : KOK s R C V) : kT s + 1 < 2 ^ 31 := by
  have := h.2.2.2.2.2.2.2.2.2.2.2.1
  omega
end
/-! pedals -/
def fsu (s : KSt) (V : Nat) (dn : Bool) : Nat := if kSus s = true then (if dn = true then 0 else if kSos s = true then isN (kst s) (nI 2) V - fb_ct (fun v => decide (kst s v = nI 2) && kca s v) V else isN (kst s) (nI 2) V) else 0
def fso (s : KSt) (V : Nat) (dn : Bool) : Nat := if kSos s = true then (if dn = true then 0 else if kSus s = true then 0 else isN (kst s) (nI 2) V) else 0
theorem isN_ct (st : Nat → Int32) (x : Int32) : ∀ V, isN st x V = fb_ct (fun v => decide (st v = x)) V
  | 0 => rfl
  | V + 1 => by
    have h := isN_ct st x V
    unfold isN at h ⊢
    rw [lfor_last, h, fb_ct_succ]
    by_cases e : st V = x
    · rw [if_pos e, if_pos (decide_eq_true e)]
    · rw [if_neg e, if_neg (fun q => e (of_decide_eq_true q))]; rfl
theorem ct_le2 (st : Nat → Int32) (ca : Nat → Bool) (V : Nat) : fb_ct (fun v => decide (st v = nI 2) && ca v) V ≤ isN st (nI 2) V := by
  rw [isN_ct]
  exact fb_ct_sub (fun k _ h => by simp at h ⊢; exact h.1)
section
variable {s : KSt} {R C V N : Nat}
end
/-! the law's looks at the voices -/
def bstS (s : KSt) (V v b : Nat) : Nat := if kst s v = nI 0 then b else wkS false (kst s) (kve s) (ksi s) (kRu s) V v b
def kepS (s : KSt) (V v b : Nat) : Nat := if kst s v = nI 2 then (if b < V then (if ksi s v < ksi s b then v else b) else v) else b
theorem snd_ct (st : Nat → Int32) (V : Nat) : V - isN st (nI 0) V = fb_ct (fun v => decide (¬ st v = nI 0)) V := by
  rw [isN_ct]
  have h := fb_ct_not (fun v => decide (st v = nI 0)) V
  have e : fb_ct (fun v => !decide (st v = nI 0)) V = fb_ct (fun v => decide (¬ st v = nI 0)) V := fb_ct_cong (fun k _ => by simp)
  rw [← e]; omega
theorem rV_V {V : Nat} : rV V V = (-3) := if_neg (Nat.lt_irrefl _)
theorem not_rV {w V : Nat} (hV : V < 2 ^ 31) (h : w < V) : ¬ rV w V < nI 0 := fun q => (rV_neg hV).mp q h
theorem rV_ge {w V : Nat} (hV : V < 2 ^ 31) (h : ¬ rV w V < nI 0) : w < V := Decidable.of_not_not (fun q => h ((rV_neg hV).mpr q))
theorem wkB_lt {ve si : Nat → Int32} {ru : Int32} {v o : Nat} (h : ru = nI 1) (hl : ve v < ve o) : wkB ve si ru v o = true := by
  unfold wkB
  rw [if_pos h]
  by_cases e : ve v = ve o
  · rw [e, Int32.lt_iff_toInt_lt] at hl; omega
  · rw [if_neg e, if_pos hl]
section
variable {s : KSt} {R C V N : Nat} {i b9 b10 : Nat}
theorem INV.vi (h : INV s R C V N) : VI V (R * C) (kT s) (kSus s) (kSos s) (kst s) (kkk s) (kve s) (ksi s) (kca s) := h.2.2.2.2.2.2.2.2.2.1
theorem bst_new (hi : i < V) (c : ¬ kst s i = nI 0) (h : b9 < V → wkB (kve s) (ksi s) (kRu s) i b9 = true) : rV (bstS s V i b9) V = nI i := by
  have e : bstS s V i b9 = i := by
    unfold bstS wkS
    rw [if_neg c, if_neg Bool.false_ne_true]
    by_cases hb : b9 < V
    · rw [if_pos hb, if_pos (h hb)]
    · rw [if_neg hb]
  rw [e, rV_some hi]
theorem bst_old (hb : b9 < V) (c : ¬ kst s i = nI 0) (h : wkB (kve s) (ksi s) (kRu s) i b9 = false) : bstS s V i b9 = b9 := by
  unfold bstS wkS
  rw [if_neg c, if_neg Bool.false_ne_true, if_pos hb, h]
  rfl
theorem bst_free (c : kst s i = nI 0) : bstS s V i b9 = b9 := if_pos c
theorem bst_snd (c : ¬ kst s i = nI 0) (h : b9 < V → ¬ kst s b9 = nI 0) : bstS s V i b9 < V → ¬ kst s (bstS s V i b9) = nI 0 := by
  unfold bstS wkS
  rw [if_neg c, if_neg Bool.false_ne_true]
  by_cases hb : b9 < V
  · rw [if_pos hb]
    split
    · exact fun _ => c
    · exact h
  · rw [if_neg hb]; exact fun _ => c
theorem kep_new (hi : i < V) (c : ¬ kst s i = nI 0) (c2 : kst s i = nI 2) (h : b10 < V → ksi s i < ksi s b10) : rV (kepS s V i b10) V = nI i := by
  have e : kepS s V i b10 = i := by
    unfold kepS
    rw [if_pos c2]
    by_cases hb : b10 < V
    · rw [if_pos hb, if_pos (h hb)]
    · rw [if_neg hb]
  rw [e, rV_some hi]
theorem kep_off (c : ¬ kst s i = nI 0) (c2 : ¬ kst s i = nI 2) : kepS s V i b10 = b10 := if_neg c2
theorem kep_old (hb : b10 < V) (c : ¬ kst s i = nI 0) (c2 : kst s i = nI 2) (h : ¬ ksi s i < ksi s b10) : kepS s V i b10 = b10 := by
  unfold kepS
  rw [if_pos c2, if_pos hb, if_neg h]
theorem kep_free (c : kst s i = nI 0) : kepS s V i b10 = b10 := if_neg (by rw [c]; decide)
theorem kep_snd (c : ¬ kst s i = nI 0) (h : b10 < V → ¬ kst s b10 = nI 0) : kepS s V i b10 < V → ¬ kst s (kepS s V i b10) = nI 0 := by
  unfold kepS
  by_cases c2 : kst s i = nI 2
  · rw [if_pos c2]
    by_cases hb : b10 < V
    · rw [if_pos hb]
      split
      · exact fun _ => c
      · exact h
    · rw [if_neg hb]; exact fun _ => c
  · rw [if_neg c2]; exact h
theorem lg_cmp_0 (x : Int64) : lg_cmp x 1 = nI 0 ↔ x = 1 := by
  unfold lg_cmp
  by_cases h1 : x > 1
  · rw [if_pos h1]
    refine ⟨fun h => absurd h (by decide), fun h => ?_⟩
    rw [h] at h1; exact absurd h1 (by decide)
  · rw [if_neg h1]
    by_cases h2 : x = 1
    · rw [if_pos h2]; exact ⟨fun _ => h2, fun _ => rfl⟩
    · rw [if_neg h2]; exact ⟨fun h => absurd h (by decide), fun h => absurd h h2⟩
theorem i64_and1 (x : Int64) : x &&& 1 = 1 ↔ x.toBitVec.getLsbD 0 = true := by
  rw [← Int64.toBitVec_inj, Int64.toBitVec_and]
  constructor
  · intro h
    have := congrArg (fun v => BitVec.getLsbD v 0) h
    simp at this
    simpa using this
  · intro h
    apply BitVec.eq_of_getLsbD_eq
    intro i hi
    rw [BitVec.getLsbD_and]
    by_cases e : i = 0
    · subst e; rw [h]; decide
    · have : (1 : Int64).toBitVec.getLsbD i = false := by
        show (1#64).getLsbD i = false
        rw [BitVec.getLsbD_one]; simp; omega
      rw [this]; simp
theorem us_or (us w : Int64) : ∀ k, k < 64 → (lg_cmp (((us ||| w) >>> ((nI k).toInt64 &&& 63)) &&& 1) 1 = nI 0 ↔ lg_cmp ((us >>> ((nI k).toInt64 &&& 63)) &&& 1) 1 = nI 0 ∨ lg_cmp ((w >>> ((nI k).toInt64 &&& 63)) &&& 1) 1 = nI 0) := by
  intro k _
  rw [lg_cmp_0, lg_cmp_0, lg_cmp_0, i64_and1, i64_and1, i64_and1, Int64.toBitVec_shiftRight, Int64.toBitVec_shiftRight, Int64.toBitVec_shiftRight, Int64.toBitVec_or]
  generalize (((nI k).toInt64 &&& 63).toBitVec.smod 64) = z
  rw [BitVec.getLsbD_sshiftRight', BitVec.getLsbD_sshiftRight', BitVec.getLsbD_sshiftRight']
  by_cases h : z.toNat < 64
  · simp [h]
  · simp [h]
/-- which keys are used, as bits of a long -/
theorem us_bit : ∀ q, q < 64 → ∀ k, k < 64 → (lg_cmp ((((1 : Int64) <<< ((nI q).toInt64 &&& 63)) >>> ((nI k).toInt64 &&& 63)) &&& 1) 1 = nI 0 ↔ k = q) := by decide +kernel
theorem us_0 : ∀ k, k < 64 → (lg_cmp (((0 : Int64) >>> ((nI k).toInt64 &&& 63)) &&& 1) 1 = nI 0 ↔ ∃ v, v < 0 ∧ ¬ kst s v = nI 0 ∧ kkk s v = nI k) := by
  intro k hk
  have e : ∀ k, k < 64 → ¬ lg_cmp (((0 : Int64) >>> ((nI k).toInt64 &&& 63)) &&& 1) 1 = nI 0 := by decide +kernel
  exact ⟨fun h => absurd h (e k hk), fun ⟨v, h, _⟩ => absurd h (Nat.not_lt_zero _)⟩
theorem us_add {us : Int64} {ky : Nat} (hky : ky < 64) (c : ¬ kst s i = nI 0) (eky : kkk s i = nI ky) (h : ∀ k, k < 64 → (lg_cmp ((us >>> ((nI k).toInt64 &&& 63)) &&& 1) 1 = nI 0 ↔ ∃ v, v < i ∧ ¬ kst s v = nI 0 ∧ kkk s v = nI k)) :
    ∀ k, k < 64 → (lg_cmp (((us ||| (1 <<< ((nI ky).toInt64 &&& 63))) >>> ((nI k).toInt64 &&& 63)) &&& 1) 1 = nI 0 ↔ ∃ v, v < i + 1 ∧ ¬ kst s v = nI 0 ∧ kkk s v = nI k) := by
  intro k hk
  rw [us_or us _ k hk, h k hk, us_bit ky hky k hk]
  constructor
  · rintro (⟨v, h1, h2⟩ | rfl)
    · exact ⟨v, by omega, h2⟩
    · exact ⟨i, by omega, c, eky⟩
  · rintro ⟨v, h1, h2, h3⟩
    rcases Nat.lt_or_ge v i with z | z
    · exact Or.inl ⟨v, z, h2, h3⟩
    · have : v = i := by omega
      subst this
      rw [eky] at h3
      exact Or.inr ((xI_inj (by omega) (by omega)).mp h3).symm
theorem us_skip {us : Int64} (c : kst s i = nI 0) (h : ∀ k, k < 64 → (lg_cmp ((us >>> ((nI k).toInt64 &&& 63)) &&& 1) 1 = nI 0 ↔ ∃ v, v < i ∧ ¬ kst s v = nI 0 ∧ kkk s v = nI k)) :
    ∀ k, k < 64 → (lg_cmp ((us >>> ((nI k).toInt64 &&& 63)) &&& 1) 1 = nI 0 ↔ ∃ v, v < i + 1 ∧ ¬ kst s v = nI 0 ∧ kkk s v = nI k) := by
  intro k hk
  rw [h k hk]
  constructor
  · rintro ⟨v, h1, h2⟩; exact ⟨v, by omega, h2⟩
  · rintro ⟨v, h1, h2, h3⟩
    rcases Nat.lt_or_ge v i with z | z
    · exact ⟨v, z, h2, h3⟩
    · have : v = i := by omega
      subst this; exact absurd c h2
theorem us_no {n B : Nat} {sus sos : Bool} {us : Int64} {ky : Nat} (hvi : VI V n B sus sos (kst s) (kkk s) (kve s) (ksi s) (kca s)) (hi : i < V) (c : ¬ kst s i = nI 0) (eky : kkk s i = nI ky) (hky : ky < 64) (h : ∀ k, k < 64 → (lg_cmp ((us >>> ((nI k).toInt64 &&& 63)) &&& 1) 1 = nI 0 ↔ ∃ v, v < i ∧ ¬ kst s v = nI 0 ∧ kkk s v = nI k)) : ¬ lg_cmp ((us >>> ((nI ky).toInt64 &&& 63)) &&& 1) 1 = nI 0 := by
  rw [h ky hky]
  rintro ⟨v, h1, h2, h3⟩
  have := hvi.2.2.1 v i h2 c (h3.trans eky.symm)
  omega
theorem findN_at {p : Nat → Bool} : ∀ (n i v : Nat), i ≤ v → v < i + n → p v = true → (∀ w, w < v → p w = false) → findN p i n = v
  | 0, i, v, h1, h2, _, _ => by omega
  | n + 1, i, v, h1, h2, h3, h4 => by
    show (if p i = true then i else findN p (i + 1) n) = v
    rcases Nat.eq_or_lt_of_le h1 with z | z
    · subst z; rw [if_pos h3]
    · rw [h4 i z, if_neg Bool.false_ne_true]
      exact findN_at n (i + 1) v z (by omega) h3 h4
theorem wkP_iff {st kk : Nat → Int32} {key : Int32} {v : Nat} : wkP st kk key v = true ↔ ¬ st v = nI 0 ∧ kk v = key := by
  unfold wkP
  by_cases e : st v = nI 0
  · rw [if_pos e]; exact ⟨fun h => (by cases h), fun h => absurd e h.1⟩
  · rw [if_neg e]
    by_cases e2 : kk v = key
    · rw [if_pos e2]; exact ⟨fun _ => ⟨e, e2⟩, fun _ => rfl⟩
    · rw [if_neg e2]; exact ⟨fun h => (by cases h), fun h => absurd h.2 e2⟩
theorem vk_at {n B : Nat} {sus sos : Bool} {st kk ve si : Nat → Int32} {ca : Nat → Bool} {key : Int32} (hvi : VI V n B sus sos st kk ve si ca) {v : Nat} (c : ¬ st v = nI 0) (e : kk v = key) : findN (wkP st kk key) 0 V = v := by
  have hv := (hvi.2.1 v c).1
  refine findN_at V 0 v (Nat.zero_le _) (by omega) (wkP_iff.mpr ⟨c, e⟩) (fun w hw => ?_)
  cases q : wkP st kk key w
  · rfl
  · obtain ⟨q1, q2⟩ := wkP_iff.mp q
    have := hvi.2.2.1 w v q1 c (q2.trans e.symm)
    omega
theorem vk_find {n B : Nat} {sus sos : Bool} {ky : Nat} (hvi : VI V n B sus sos (kst s) (kkk s) (kve s) (ksi s) (kca s)) (hi : i < V) (c : ¬ kst s i = nI 0) (eky : kkk s i = nI ky) : rV (findN (wkP (kst s) (kkk s) (nI ky)) 0 V) V = nI i := by
  rw [vk_at hvi c eky, rV_some hi]
theorem vi_kept {n B : Nat} {P : Prop} {v : Nat} (hvi : VI V n B (kSus s) (kSos s) (kst s) (kkk s) (kve s) (ksi s) (kca s)) (c : kst s v = nI 2) (h1 : kSus s = false) (h2 : kca s v = false) : P := by
  have := (hvi.1.2 v c).2
  unfold kpB at this
  rw [h1, h2, if_neg Bool.false_ne_true] at this
  split at this <;> simp at this
end
/-! a tick as the law sees it -/
def kbeg (s : KSt) (k : Nat) : Int32 := if kph s k = nI 0 then nI 0 else kbg s k
def dueL (s : KSt) (R C k : Nat) : Int32 := if k / C = kT s % R then (if b2n (kG (tick1 s) k) = 1 then nI 2 else if b2n (kF (tick1 s) k) = 1 then (if kph s k = nI 0 then nI 1 else if kph s k = nI 2 then nI 3 else kph s k) else nI 0) else kph s k
def fromL (s : KSt) (R C k : Nat) : Int32 := if k / C = kT s % R then (if dueL s R C k = nI 0 then nI 0 else if kph s k = nI 0 then nI (kT s) else if kph s k = nI 2 then (if dueL s R C k = nI 3 then nI (kT s) else kbeg s k) else kbeg s k) else kbeg s k
def hitL (s : KSt) (R C k : Nat) : Nat := if k / C = kT s % R then (if dueL s R C k = nI 2 then (if kph s k = nI 2 then 0 else 1) else 0) else 0
def fb_s (f : Nat → Nat) : Nat → Nat
  | 0 => 0
  | n + 1 => fb_s f n + f n
theorem fb_s_le {f : Nat → Nat} (h : ∀ k, f k ≤ 1) : ∀ n, fb_s f n ≤ n
  | 0 => Nat.le_refl _
  | n + 1 => by
    have h1 := fb_s_le h n
    have h2 := h n
    show fb_s f n + f n ≤ n + 1
    omega
section
variable {p : Program} {l : Launch} {e : Env} {R : Room} {s : State} {m : MethodId} {args : Array Value} {below : List Frame} {meth : Method} {c : Code} {cells slots : Nat} {Q : State → Prop} {nL : Nat} {D : va_G} {A : Nat → Prop} {ws : va_W} {lv : List (Nat × Value)} {pc : Nat} {st : List Value}
theorem n20 : (nI 2 = nI 0) = False := eq_false (by decide)
theorem n10 : (nI 1 = nI 0) = False := eq_false (by decide)
theorem n30 : (nI 3 = nI 0) = False := eq_false (by decide)
theorem n12 : (nI 1 = nI 2) = False := eq_false (by decide)
theorem n32 : (nI 3 = nI 2) = False := eq_false (by decide)
theorem n02 : (nI 0 = nI 2) = False := eq_false (by decide)
theorem n23 : (nI 2 = nI 3) = False := eq_false (by decide)
theorem n13 : (nI 1 = nI 3) = False := eq_false (by decide)
theorem n03 : (nI 0 = nI 3) = False := eq_false (by decide)
theorem x_lve {lv2 : List (Nat × Value)} (h : lv = lv2) (kk : X p l e R s m args below meth c cells slots Q nL D A ws lv2 pc st) : X p l e R s m args below meth c cells slots Q nL D A ws lv pc st := by
  subst h; exact kk
end
section
variable {s : KSt} {R C V N i : Nat}
theorem hitL_le (k : Nat) : hitL s R C k ≤ 1 := by
  unfold hitL
  repeat' split
  all_goals omega
end
/-! the matrix as the law sees it -/
def dmQ (F : Nat → Bool) (C k x : Nat) : Bool := if F k = true then dmS F C k x else false
def dcP (F : Nat → Bool) (R C n : Nat) : Nat := lfor (fun k a => a + b2n (lany (dmQ F C k) 0 (R * C))) 0 n 0
def gh_f (F G : Nat → Bool) (pos : Nat → Nat) (k : Nat) : Bool := if b2n (F k) = 1 then (if pos k = 0 then true else (if b2n (G k) = 1 then (if pos k < 2 then true else false) else false)) else (if b2n (G k) = 1 then (if pos k < 2 then true else false) else false)
def dm_f (F : Nat → Bool) (C r c x : Nat) : Bool := if x / C = r then false else if x % C = c then false else if b2n (F (r * C + c)) = 1 then (if b2n (F x) = 1 then (if b2n (F (x / C * C + c)) = 1 then (if b2n (F (r * C + x % C)) = 1 then true else false) else false) else false) else false
theorem b2n_iff (b : Bool) : b2n b = 1 ↔ b = true := by cases b <;> decide
theorem b2n_le (b : Bool) : b2n b ≤ 1 := by cases b <;> decide
theorem ghm_of {F G : Nat → Bool} {pos : Nat → Nat} {k : Nat} {v : Bool} (h : gh_f F G pos k = v) : ghM F G pos k = v := by
  unfold gh_f at h
  simp only [b2n_iff] at h
  exact h
theorem dmq_of {F : Nat → Bool} {C r c x : Nat} {v : Bool} (hc : c < C) (h : dm_f F C r c x = v) : dmQ F C (r * C + c) x = v := by
  rw [← h]
  unfold dmQ dmS dm_f
  simp only [b2n_iff, rc_div hc, rc_mod hc]
  by_cases e : F (r * C + c) = true
  · simp only [e, if_true]
  · simp only [e]; repeat' split
    all_goals rfl
theorem lany_last1 {p : Nat → Bool} {x : Nat} (h : p x = true) : lany p 0 (x + 1) = true := (lany_iff p (x + 1) 0).mpr ⟨x, Nat.zero_le _, by omega, h⟩
theorem lany_last0 {p : Nat → Bool} {x : Nat} (h : p x = false) : lany p 0 (x + 1) = lany p 0 x := by
  apply Bool.eq_iff_iff.mpr
  rw [lany_iff, lany_iff]
  constructor
  · rintro ⟨k, h1, h2, h3⟩
    refine ⟨k, h1, ?_, h3⟩
    rcases Nat.lt_or_ge k x with z | z
    · omega
    · have : k = x := by omega
      subst this; rw [h] at h3; cases h3
  · rintro ⟨k, h1, h2, h3⟩; exact ⟨k, h1, by omega, h3⟩
theorem gcM_succ (F G : Nat → Bool) (pos : Nat → Nat) (n : Nat) : gcM F G pos (n + 1) = gcM F G pos n + (if ghM F G pos n = true then 1 else 0) := lfor_last _ n 0
theorem dcP_succ (F : Nat → Bool) (R C n : Nat) : dcP F R C (n + 1) = dcP F R C n + b2n (lany (dmQ F C n) 0 (R * C)) := lfor_last _ n 0
theorem prM_succ (pos : Nat → Nat) (n : Nat) : prM pos (n + 1) = prM pos n + (if 0 < pos n then 1 else 0) := lfor_last _ n 0
theorem dcP_le (F : Nat → Bool) (R C : Nat) : ∀ n, dcP F R C n ≤ n
  | 0 => Nat.le_refl _
  | n + 1 => by
    have h1 := dcP_le F R C n
    have h2 := b2n_le (lany (dmQ F C n) 0 (R * C))
    rw [dcP_succ]; omega
theorem prM_le (pos : Nat → Nat) : ∀ n, prM pos n ≤ n
  | 0 => Nat.le_refl _
  | n + 1 => by
    have h1 := prM_le pos n
    rw [prM_succ]
    split <;> omega
theorem rc_le {r c R C : Nat} (hr : r < R) (hc : c ≤ C) : r * C + c ≤ R * C := by
  have : r * C + C ≤ R * C := by rw [← Nat.succ_mul]; exact Nat.mul_le_mul_right C hr
  omega
theorem shr_lt {a : Nat} (h : a < 65536) : a >>> 8 < 2 ^ 31 := by rw [Nat.shiftRight_eq_div_pow]; exact Nat.lt_of_le_of_lt (Nat.div_le_self _ _) (by omega)
section
variable {s : KSt} {R C V N r c : Nat}
end
