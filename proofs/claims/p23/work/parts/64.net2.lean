/-! the matrix: what the law asks of it -/
section
variable {s : KSt} {R C V N r c : Nat}
theorem INV.nt (h : INV s R C V N) : NT (kpos s) R C (kcl s) (kjn s) (kdl s) (kdn s) := h.2.2.2.2.2.2.2.1
theorem INV.rR (h : INV s R C V N) : (1 ≤ R ∧ R ≤ 8) ∧ (1 ≤ C ∧ C ≤ 8) ∧ (1 ≤ V ∧ V ≤ 8) ∧ (∀ k, kpos s k ≤ 2) := ⟨h.2.2.2.1, h.2.2.2.2.1, h.2.2.2.2.2.1, h.2.2.2.2.2.2.1⟩
theorem INV.ji (h : INV s R C V N) : JI (kcl s) 8 (kjn s) := by
  have hN := h.nt
  have e := JI_join (hN.1.hi h.rR.1.2)
  rw [← hN.2.2.1] at e
  exact e
theorem INV.gf (h : INV s R C V N) : ∀ k, k < R * C → kG s k = true → kF s k = true := by
  intro k hk hg
  obtain ⟨hR, hC, hV, hp⟩ := h.rR
  have e1 := ap1_eq (dio := kdio s) h.nt hR.2 hC hp hk
  have e2 := ap2_eq (dio := kdio s) h.nt hR.2 hC hp hk
  have h2 : kC s = C := h.2.1
  have hg' : fsB (seenN (kdio s) (kdl s) (kdn s)) C k = true := by rw [← h2]; exact hg
  show fsB (seenN (kdio s) (kcl s) (kjn s)) (kC s) k = true
  rw [h2, ← e1]
  rw [← e2] at hg'
  unfold ap1
  rw [if_pos hg']
theorem INV.hin (h : INV s R C V N) : ∀ r c, (seenN (kdio s) (kcl s) (kjn s) r).testBit c = true → r < R ∧ c < C := by
  intro r c hb
  obtain ⟨hR, hC, hV, hp⟩ := h.rR
  rw [h.nt.2.2.1] at hb
  exact seen_in h.nt.1 hR.2 hC.2 hb
theorem rjw_lt {jn : Nat → Nat} {r : Nat} (hr : r < 8) : rjwN jn r < 256 := by
  refine Nat.lt_of_not_ge (fun hg => ?_)
  obtain ⟨i, hi, hb⟩ := Nat.exists_ge_and_testBit_of_ge_two_pow (n := 8) hg
  rcases (rjw_bit _ _ _).mp hb with h | h <;> omega
theorem con_row {q : Nat} (hq : q < 8) : (kcon s r).testBit q = (rjwN (kjn s) r).testBit q := by
  unfold kcon
  rw [Nat.testBit_or, Nat.testBit_shiftLeft, decide_eq_false (by omega)]
  simp
theorem con_shr (hr : r < 8) : kcon s r >>> 8 = kjn s r := by
  apply Nat.eq_of_testBit_eq
  intro i
  unfold kcon
  have h0 : (rjwN (kjn s) r).testBit (8 + i) = false := Nat.testBit_lt_two_pow (Nat.lt_of_lt_of_le (rjw_lt hr) (show 256 ≤ 2 ^ (8 + i) from Nat.pow_le_pow_right (n := 2) (i := 8) (by decide) (by omega)))
  rw [Nat.testBit_shiftRight, Nat.testBit_or, Nat.testBit_shiftLeft, h0, decide_eq_true (by omega)]
  simp
theorem con_col (hr : r < 8) : (kcon s r).testBit (8 + c) = (kjn s r).testBit c := by
  rw [← Nat.testBit_shiftRight, con_shr hr]
theorem bit1_1 {a i : Nat} : (a >>> i) &&& 1 = 1 ↔ a.testBit i = true := ⟨tb_t, fun h => by rw [bit1, if_pos h]⟩
theorem bit1_0 {a i : Nat} : (a >>> i) &&& 1 = 0 ↔ a.testBit i = false := by
  rw [bit1]
  cases a.testBit i <;> simp
theorem rjw_iff {q : Nat} {cl jn : Nat → Nat} (h : JI cl 8 jn) (hq : q < 8) (hr : r < 8) : (rjwN jn r).testBit q = true ↔ q = r ∨ ∃ x, (jn r).testBit x = true ∧ (jn q).testBit x = true := by
  rw [rjw_bit, and_ne]
  constructor
  · rintro (h | ⟨_, x, h1, h2⟩)
    · exact Or.inl h
    · exact Or.inr ⟨x, h2, h1⟩
  · rintro (h | ⟨x, h1, h2⟩)
    · exact Or.inl h
    · exact Or.inr ⟨hq, x, h2, h1⟩
end
section
variable {s : KSt} {R C V N r c : Nat}
theorem INV.join_eq (h : INV s R C V N) {q x : Nat} (h1 : (kjn s r).testBit x = true) (h2 : (kjn s q).testBit x = true) : kjn s q = kjn s r := by
  obtain ⟨hR, hC, hV, hp⟩ := h.rR
  have hx : x < 8 := by
    have hb := h1
    rw [h.nt.2.2.1] at hb
    have := (join_in h.nt.1 hR.2 hC.2 hb).2
    omega
  exact h.ji.2.2.1 q r x hx h2 h1
theorem INV.rjw_eq (h : INV s R C V N) {q x : Nat} (hr : r < 8) (hq : q < 8) (h1 : (kjn s r).testBit x = true) (h2 : (kjn s q).testBit x = true) : rjwN (kjn s) q = rjwN (kjn s) r := by
  have e := h.join_eq h1 h2
  apply Nat.eq_of_testBit_eq
  intro i
  apply Bool.eq_iff_iff.mpr
  rw [rjw_bit, rjw_bit, e]
  constructor
  · rintro (rfl | g)
    · exact Or.inr ⟨hq, and_ne.mpr ⟨x, h2, h1⟩⟩
    · exact Or.inr g
  · rintro (rfl | g)
    · exact Or.inr ⟨hr, and_ne.mpr ⟨x, h1, h1⟩⟩
    · exact Or.inr g
theorem INV.pos_first (h : INV s R C V N) (hr : r < R) (hc : c < C) (hp : 0 < kpos s (r * C + c)) : (kcl s r).testBit c = true ∧ (kjn s r).testBit c = true := by
  have h1 := (h.nt.1 r c).mpr ⟨hr, hc, hp⟩
  exact ⟨h1, h.ji.1 r c h1⟩
theorem INV.fs_at (h : INV s R C V N) (hr : r < R) (hc : c < C) : kF s (r * C + c) = (seenN (kdio s) (kcl s) (kjn s) r).testBit c := by
  have h2 : kC s = C := h.2.1
  show (seenN (kdio s) (kcl s) (kjn s) ((r * C + c) / kC s)).testBit ((r * C + c) % kC s) = _
  rw [h2, rc_div hc, rc_mod hc]
theorem INV.gs_at (h : INV s R C V N) (hr : r < R) (hc : c < C) : kG s (r * C + c) = (seenN (kdio s) (kdl s) (kdn s) r).testBit c := by
  have h2 : kC s = C := h.2.1
  show (seenN (kdio s) (kdl s) (kdn s) ((r * C + c) / kC s)).testBit ((r * C + c) % kC s) = _
  rw [h2, rc_div hc, rc_mod hc]
theorem INV.mx (h : INV s R C V N) : (∀ r, r < R → ¬ (kcon s r >>> r) &&& 1 = 0) ∧ (∀ r q, r < R → q < R → (kcon s r >>> q) &&& 1 = 1 → kcon s q = kcon s r) ∧ (∀ r q, r < R → q < R → ¬ (kcon s r >>> q) &&& 1 = 1 → ¬ (kcon s q >>> r) &&& 1 = 1) ∧ (∀ r q, r < R → q < R → ¬ (kcon s r >>> q) &&& 1 = 1 → (kcon s r >>> 8) &&& (kcon s q >>> 8) = 0) ∧ (∀ r c, r < R → c < C → 0 < kpos s (r * C + c) → ¬ (kcon s r >>> (8 + c)) &&& 1 = 0) ∧ (∀ r c, r < R → c < C → 0 < kpos s (r * C + c) → ¬ b2n (kF s (r * C + c)) = 0) ∧ ∀ r c, r < R → c < C → kpos s (r * C + c) = 2 → ¬ b2n (kG s (r * C + c)) = 0 := by
  obtain ⟨hR, hC, hV, hp⟩ := h.rR
  have row : ∀ r q, r < R → q < R → ((kcon s r >>> q) &&& 1 = 1 ↔ q = r ∨ ∃ x, (kjn s r).testBit x = true ∧ (kjn s q).testBit x = true) := fun r q hr hq => by
    rw [bit1_1, con_row (by omega), rjw_iff h.ji (by omega) (by omega)]
  refine ⟨fun r hr e => ?_, fun r q hr hq e => ?_, fun r q hr hq e e2 => ?_, fun r q hr hq e => ?_, fun r c hr hc e e2 => ?_, fun r c hr hc e e2 => ?_, fun r c hr hc e e2 => ?_⟩
  · have := (row r r hr hr).mpr (Or.inl rfl)
    omega
  · rcases (row r q hr hq).mp e with rfl | ⟨x, h1, h2⟩
    · rfl
    · unfold kcon
      rw [h.rjw_eq (by omega) (by omega) h1 h2, h.join_eq h1 h2]
  · refine e ((row r q hr hq).mpr ?_)
    rcases (row q r hq hr).mp e2 with rfl | ⟨x, h1, h2⟩
    · exact Or.inl rfl
    · exact Or.inr ⟨x, h2, h1⟩
  · rw [con_shr (by omega), con_shr (by omega)]
    refine Decidable.byContradiction (fun z => e ((row r q hr hq).mpr (Or.inr ?_)))
    obtain ⟨x, h1, h2⟩ := and_ne.mp z
    exact ⟨x, h1, h2⟩
  · have := bit1_0.mp e2
    rw [con_col (by omega), (h.pos_first hr hc e).2] at this
    cases this
  · have := b2n_0 e2
    rw [h.fs_at hr hc] at this
    have h3 := h.pos_first hr hc e
    unfold seenN at this
    split at this
    · rw [h3.1] at this; cases this
    · rw [h3.2] at this; cases this
  · have := b2n_0 e2
    rw [h.gs_at hr hc] at this
    have h3 := (h.nt.2.1 r c).mpr ⟨hr, hc, by omega⟩
    have h4 : JI (kdl s) 8 (kdn s) := by
      have e := JI_join (h.nt.2.1.hi hR.2)
      rw [← h.nt.2.2.2] at e
      exact e
    unfold seenN at this
    split at this
    · rw [h3] at this; cases this
    · rw [h4.1 r c h3] at this; cases this
theorem INV.dio_f (h : INV s R C V N) (d : kdio s = true) (hr : r < R) (hc : c < C) : kF s (r * C + c) = decide (1 ≤ kpos s (r * C + c)) := by
  rw [h.fs_at hr hc]
  unfold seenN
  rw [if_pos d]
  apply Bool.eq_iff_iff.mpr
  rw [h.nt.1 r c, decide_eq_true_iff]
  exact ⟨fun g => g.2.2, fun g => ⟨hr, hc, g⟩⟩
theorem INV.dio_s (h : INV s R C V N) (d : kdio s = true) (hr : r < R) (hc : c < C) : kG s (r * C + c) = decide (2 ≤ kpos s (r * C + c)) := by
  rw [h.gs_at hr hc]
  unfold seenN
  rw [if_pos d]
  apply Bool.eq_iff_iff.mpr
  rw [h.nt.2.1 r c, decide_eq_true_iff]
  exact ⟨fun g => g.2.2, fun g => ⟨hr, hc, g⟩⟩
theorem INV.dio_f1 (h : INV s R C V N) (d : kdio s = true) (hr : r < R) (hc : c < C) (hp : 0 < kpos s (r * C + c)) : b2n (kF s (r * C + c)) = 1 := by
  rw [h.dio_f d hr hc, decide_eq_true (by omega)]; rfl
theorem INV.dio_f0 (h : INV s R C V N) (d : kdio s = true) (hr : r < R) (hc : c < C) (hp : ¬ 0 < kpos s (r * C + c)) : b2n (kF s (r * C + c)) = 0 := by
  rw [h.dio_f d hr hc, decide_eq_false (by omega)]; rfl
theorem INV.dio_s1 (h : INV s R C V N) (d : kdio s = true) (hr : r < R) (hc : c < C) (hp : kpos s (r * C + c) = 2) : b2n (kG s (r * C + c)) = 1 := by
  rw [h.dio_s d hr hc, decide_eq_true (by omega)]; rfl
theorem INV.dio_s0 (h : INV s R C V N) (d : kdio s = true) (hr : r < R) (hc : c < C) (hp : ¬ kpos s (r * C + c) = 2) : b2n (kG s (r * C + c)) = 0 := by
  have := h.rR.2.2.2 (r * C + c)
  rw [h.dio_s d hr hc, decide_eq_false (by omega)]; rfl
theorem INV.nod_f (h : INV s R C V N) (d : kdio s = false) (hr : r < R) (hc : c < C) : (kcon s r >>> (8 + c)) &&& 1 = 1 ↔ kF s (r * C + c) = true := by
  obtain ⟨hR, hC, hV, hp⟩ := h.rR
  rw [bit1_1, con_col (by omega), h.fs_at hr hc]
  unfold seenN
  rw [if_neg (by rw [d]; decide)]
theorem INV.nod_1 (h : INV s R C V N) (d : kdio s = false) (hr : r < R) (hc : c < C) (hp : (kcon s r >>> (8 + c)) &&& 1 = 1 ∨ b2n (kG s (r * C + c)) = 1) : b2n (kF s (r * C + c)) = 1 := by
  rw [b2n_iff]
  rcases hp with g | g
  · exact (h.nod_f d hr hc).mp g
  · exact h.gf _ (rc_lt hr hc) (b2n_1 g)
theorem INV.nod_0 (h : INV s R C V N) (d : kdio s = false) (hr : r < R) (hc : c < C) (hp : ¬ (kcon s r >>> (8 + c)) &&& 1 = 1) (hq : ¬ b2n (kG s (r * C + c)) = 1) : b2n (kF s (r * C + c)) = 0 := by
  cases e : kF s (r * C + c)
  · rfl
  · exact absurd ((h.nod_f d hr hc).mpr e) hp
theorem INV.gh_at (h : INV s R C V N) {k : Nat} (hk : k < R * C) : kH s k = ghM (kF s) (kG s) (kpos s) k := by
  obtain ⟨h1, h2, h3⟩ := h
  subst h1; subst h2
  have h' : INV s (kR s) (kC s) V N := ⟨rfl, rfl, h3⟩
  exact gh_bit (dio := kdio s) h'.nt h'.rR.2.1 hk
theorem INV.gh_key (h : INV s R C V N) (hr : r < R) (hc : c < C) : b2n (kH s (r * C + c)) = b2n (ghM (kF s) (kG s) (kpos s) (r * C + c)) := congrArg b2n (h.gh_at (rc_lt hr hc))
theorem lany_ff {p : Nat → Bool} (h : ∀ k, p k = false) : ∀ (n i : Nat), lany p i n = false
  | 0, _ => rfl
  | n + 1, i => by
    show (if p i = true then true else lany p (i + 1) n) = false
    rw [h i, if_neg (by decide)]; exact lany_ff h n (i + 1)
theorem dmq_all (F : Nat → Bool) (R C k : Nat) : lany (dmQ F C k) 0 (R * C) = dmM F R C k := by
  unfold dmM dmQ
  by_cases e : F k = true
  · rw [if_pos e]; simp only [e, if_true]
  · rw [if_neg e]; exact lany_ff (fun x => if_neg e) _ _
theorem INV.db_at (h : INV s R C V N) {k : Nat} (hk : k < R * C) : kD s k = lany (dmQ (kF s) C k) 0 (R * C) := by
  rw [dmq_all]
  obtain ⟨h1, h2, h3⟩ := h
  subst h1; subst h2
  have h' : INV s (kR s) (kC s) V N := ⟨rfl, rfl, h3⟩
  exact db_eq h'.rR.2.1.1 hk h'.hin
theorem INV.db_key (h : INV s R C V N) (hr : r < R) (hc : c < C) : b2n (kD s (r * C + c)) = b2n (lany (dmQ (kF s) C (r * C + c)) 0 (R * C)) := congrArg b2n (h.db_at (rc_lt hr hc))
theorem INV.gc_all (h : INV s R C V N) : kgc s = gcM (kF s) (kG s) (kpos s) (R * C) := by
  obtain ⟨h1, h2, h3⟩ := h
  subst h1; subst h2
  have h' : INV s (kR s) (kC s) V N := ⟨rfl, rfl, h3⟩
  exact gc_eq h'.nt h'.rR.1.2 h'.rR.2.1
theorem INV.dc_all (h : INV s R C V N) : dcN (seenN (kdio s) (kcl s) (kjn s)) R C = dcP (kF s) R C (R * C) := by
  unfold dcN dcP
  refine lfor_ext _ 0 0 (fun k t _ hk => ?_)
  have := h.db_at (k := k) (by omega)
  obtain ⟨h1, h2, h3⟩ := h
  subst h1; subst h2
  rw [← this]
theorem INV.gc_dio (h : INV s R C V N) (d : kdio s = true) : gcM (kF s) (kG s) (kpos s) (R * C) = 0 := by
  have key : ∀ n, n ≤ R * C → gcM (kF s) (kG s) (kpos s) n = 0 := by
    intro n
    induction n with
    | zero => intro _; rfl
    | succ n ih =>
      intro hn
      rw [gcM_succ, ih (by omega)]
      obtain ⟨hR, hC, hV, hp⟩ := h.rR
      have hk := kqr (show n < R * C by omega) hC.1
      have e1 := h.dio_f d hk.1 hk.2
      have e2 := h.dio_s d hk.1 hk.2
      rw [kdm] at e1 e2
      have : ghM (kF s) (kG s) (kpos s) n = false := by
        unfold ghM
        rw [e1, e2]
        have hp9 := hp n
        rcases (show kpos s n = 0 ∨ kpos s n = 1 ∨ kpos s n = 2 by omega) with q | q | q <;> rw [q] <;> decide
      rw [this]; rfl
  exact key _ (Nat.le_refl _)
end
