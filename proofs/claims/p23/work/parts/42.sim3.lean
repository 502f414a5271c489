/-! appearances -/
theorem lfor_add {σ : Type} (f : Nat → σ → σ) : ∀ (m n i : Nat) (s : σ), lfor f i (m + n) s = lfor f (i + m) n (lfor f i m s)
  | 0, n, i, s => by rw [Nat.zero_add]; rfl
  | m + 1, n, i, s => by
    rw [show m + 1 + n = (m + n) + 1 by omega, show i + (m + 1) = i + 1 + m by omega]
    exact lfor_add f m n (i + 1) (f i s)
theorem lfor_shift {σ : Type} (f : Nat → σ → σ) (a : Nat) : ∀ (n i : Nat) (s : σ), lfor f (a + i) n s = lfor (fun c s => f (a + c) s) i n s
  | 0, _, _ => rfl
  | n + 1, i, s => lfor_shift f a n (i + 1) (f (a + i) s)
theorem lfor_rows {σ : Type} (f : Nat → σ → σ) (C : Nat) : ∀ (n i : Nat) (s : σ), lfor f (i * C) (n * C) s = lfor (fun r s => lfor (fun c s => f (r * C + c) s) 0 C s) i n s
  | 0, i, s => by rw [Nat.zero_mul]; rfl
  | n + 1, i, s => by
    rw [show (n + 1) * C = C + n * C by rw [Nat.add_mul, Nat.one_mul, Nat.add_comm], lfor_add]
    rw [show i * C + C = (i + 1) * C by rw [Nat.add_mul, Nat.one_mul], lfor_rows f C n (i + 1)]
    rw [show lfor f (i * C) C s = lfor (fun c s => f (i * C + c) s) 0 C s from lfor_shift f (i * C) C 0 s]
    rfl
theorem lfor_last {σ : Type} (f : Nat → σ → σ) (n : Nat) (s : σ) : lfor f 0 (n + 1) s = f n (lfor f 0 n s) := by
  rw [lfor_add f n 1 0 s, Nat.zero_add]; rfl
theorem lfor_ct (p : Nat → Bool) : ∀ (n a : Nat), lfor (fun c a => a + (if p c = true then 1 else 0)) 0 n a = a + fb_ct p n
  | 0, _ => rfl
  | n + 1, a => by rw [lfor_last, lfor_ct p n a, fb_ct_succ, Nat.add_assoc]
theorem ap_cols (dio : Bool) (pos : Nat → Nat) (R C r : Nat) (s : AS) : ∀ (n i : Nat), lfor (apC dio pos R C r) i n (fa_fill (ap1 dio pos R C) s.1 (r * C + i), fa_fill (ap2 dio pos R C) s.2 (r * C + i)) = (fa_fill (ap1 dio pos R C) s.1 (r * C + i + n), fa_fill (ap2 dio pos R C) s.2 (r * C + i + n))
  | 0, _ => rfl
  | n + 1, i => by
    show lfor _ (i + 1) n (updB (fa_fill (ap1 dio pos R C) s.1 (r * C + i)) (r * C + i) (ap1 dio pos R C (r * C + i)), updB (fa_fill (ap2 dio pos R C) s.2 (r * C + i)) (r * C + i) (ap2 dio pos R C (r * C + i))) = _
    rw [fillB_succ, fillB_succ, show r * C + i + (n + 1) = r * C + (i + 1) + n by omega]
    exact ap_cols dio pos R C r s n (i + 1)
theorem ap_rows (dio : Bool) (pos : Nat → Nat) (R C : Nat) (s : AS) : ∀ (n i : Nat), lfor (apR dio pos R C) i n (fa_fill (ap1 dio pos R C) s.1 (i * C), fa_fill (ap2 dio pos R C) s.2 (i * C)) = (fa_fill (ap1 dio pos R C) s.1 ((i + n) * C), fa_fill (ap2 dio pos R C) s.2 ((i + n) * C))
  | 0, _ => rfl
  | n + 1, i => by
    show lfor _ (i + 1) n (lfor (apC dio pos R C i) 0 C (fa_fill (ap1 dio pos R C) s.1 (i * C), fa_fill (ap2 dio pos R C) s.2 (i * C))) = _
    have h := ap_cols dio pos R C i s C 0
    rw [Nat.add_zero] at h
    rw [h, show i * C + C = (i + 1) * C by rw [Nat.add_mul, Nat.one_mul], show i + (n + 1) = i + 1 + n by omega]
    exact ap_rows dio pos R C s n (i + 1)
theorem fill_0 {α : Type} (f g : Nat → α) : fa_fill f g 0 = g := by
  funext j
  exact if_neg (Nat.not_lt_zero _)
theorem apA_eq (dio : Bool) (pos : Nat → Nat) (R C : Nat) (s : AS) : apA dio pos R C s = (fa_fill (ap1 dio pos R C) s.1 (R * C), fa_fill (ap2 dio pos R C) s.2 (R * C)) := by
  have h := ap_rows dio pos R C s R 0
  rw [Nat.zero_mul, fill_0, fill_0, Nat.zero_add] at h
  exact h
theorem apA_1 {dio : Bool} {pos : Nat → Nat} {R C : Nat} {s : AS} {k : Nat} (h : k < R * C) : (apA dio pos R C s).1 k = ap1 dio pos R C k := by
  rw [apA_eq]; exact if_pos h
theorem apA_2 {dio : Bool} {pos : Nat → Nat} {R C : Nat} {s : AS} {k : Nat} (h : k < R * C) : (apA dio pos R C s).2 k = ap2 dio pos R C k := by
  rw [apA_eq]; exact if_pos h
/-! the class's nets and the reference's positions -/
def NT (pos : Nat → Nat) (R C : Nat) (cl jn dl dn : Nat → Nat) : Prop := NetR pos R C 1 cl ∧ NetR pos R C 2 dl ∧ jn = joinN cl (fun _ => 0) ∧ dn = joinN dl (fun _ => 0)
theorem kdm {k C : Nat} : k / C * C + k % C = k := by rw [Nat.mul_comm]; exact Nat.div_add_mod k C
theorem kqr {k R C : Nat} (hk : k < R * C) (hC : 1 ≤ C) : k / C < R ∧ k % C < C := ⟨Nat.div_lt_of_lt_mul (by rw [Nat.mul_comm]; exact hk), Nat.mod_lt _ (by omega)⟩
theorem net_k {pos : Nat → Nat} {R C x k : Nat} {cl : Nat → Nat} (h : NetR pos R C x cl) (hC : 1 ≤ C) (hk : k < R * C) : (cl (k / C)).testBit (k % C) = decide (x ≤ pos k) := by
  apply Bool.eq_iff_iff.mpr
  rw [h, kdm, decide_eq_true_iff]
  have := kqr hk hC
  exact ⟨fun g => g.2.2, fun g => ⟨this.1, this.2, g⟩⟩
theorem join_in {pos : Nat → Nat} {R C x r c : Nat} {cl : Nat → Nat} (h : NetR pos R C x cl) (hR : R ≤ 8) (hC : C ≤ 8) (hb : (joinN cl (fun _ => 0) r).testBit c = true) : r < R ∧ c < C := by
  have g := (J_iff (h.lt hC) (h.hi hR) r c).mp hb
  have g1 := g (fun r => r < R) (fun _ => True) (fun r c hb => ⟨fun _ => trivial, fun _ => ((h r c).mp hb).1⟩)
  have g2 := g (fun _ => True) (fun c => c < C) (fun r c hb => ⟨fun _ => ((h r c).mp hb).2.1, fun _ => trivial⟩)
  exact ⟨g1.mpr trivial, g2.mp trivial⟩
theorem seen_in {dio : Bool} {pos : Nat → Nat} {R C x r c : Nat} {cl : Nat → Nat} (h : NetR pos R C x cl) (hR : R ≤ 8) (hC : C ≤ 8) (hb : (seenN dio cl (joinN cl (fun _ => 0)) r).testBit c = true) : r < R ∧ c < C := by
  cases dio
  · exact join_in h hR hC hb
  · have := (h r c).mp hb; exact ⟨this.1, this.2.1⟩
theorem ap2_eq {dio : Bool} {pos : Nat → Nat} {R C k : Nat} {cl jn dl dn : Nat → Nat} (h : NT pos R C cl jn dl dn) (hR : R ≤ 8) (hC : 1 ≤ C ∧ C ≤ 8) (hp : ∀ k, pos k ≤ 2) (hk : k < R * C) : ap2 dio pos R C k = fsB (seenN dio dl dn) C k := by
  obtain ⟨h1, h2, h3, h4⟩ := h
  cases dio
  · show (cnF pos R C 2 (k / C)).2.testBit (k % C) = (dn (k / C)).testBit (k % C)
    rw [net_cols h2 hR hC, h4]
  · show (if pos k = 2 then true else false) = (dl (k / C)).testBit (k % C)
    rw [net_k h2 hC.1 hk]
    have := hp k
    by_cases e : pos k = 2
    · rw [if_pos e, e]; rfl
    · rw [if_neg e, decide_eq_false (by omega)]
theorem ap1_eq {dio : Bool} {pos : Nat → Nat} {R C k : Nat} {cl jn dl dn : Nat → Nat} (h : NT pos R C cl jn dl dn) (hR : R ≤ 8) (hC : 1 ≤ C ∧ C ≤ 8) (hp : ∀ k, pos k ≤ 2) (hk : k < R * C) : ap1 dio pos R C k = fsB (seenN dio cl jn) C k := by
  unfold ap1
  cases dio
  · rw [if_neg (show ¬ (false : Bool) = true by decide)]
    have e1 : (cnF pos R C 1 (k / C)).2.testBit (k % C) = fsB (seenN false cl jn) C k := by
      show _ = (jn (k / C)).testBit (k % C)
      rw [net_cols h.1 hR hC, h.2.2.1]
    rw [e1]
    by_cases e : ap2 false pos R C k = true
    · rw [if_pos e, ← e1]
      have e' : (cnF pos R C 2 (k / C)).2.testBit (k % C) = true := e
      refine ((cnF_cols hR hC _).mpr (fun P Q hc => ?_)).symm
      exact (cnF_cols hR hC _).mp e' P Q (fun k hk hx => hc k hk (by omega))
    · rw [if_neg e]
  · rw [if_pos rfl]
    show _ = (cl (k / C)).testBit (k % C)
    rw [net_k h.1 hC.1 hk]
    show (if (if pos k = 2 then true else false) = true then true else if 0 < pos k then true else false) = _
    by_cases e : pos k = 2
    · rw [if_pos e, e]; rfl
    · rw [if_neg e, if_neg (by decide)]
      by_cases e2 : 0 < pos k
      · rw [if_pos e2, decide_eq_true (by omega)]
      · rw [if_neg e2, decide_eq_false (by omega)]
theorem an8_bit {a b i : Nat} (ha : a < 256) : (an8 a b).testBit i = (a.testBit i && !b.testBit i) := by
  unfold an8
  rw [Nat.testBit_and, Nat.testBit_xor, show (255 : Nat) = 2 ^ 8 - 1 from rfl, Nat.testBit_two_pow_sub_one]
  by_cases h : i < 8
  · simp [h]
  · have h1 : a.testBit i = false := Nat.testBit_lt_two_pow (Nat.lt_of_lt_of_le ha (show 256 ≤ 2 ^ i from Nat.pow_le_pow_right (n := 2) (i := 8) (by decide) (by omega)))
    rw [h1]; rfl
theorem NT.lts {pos : Nat → Nat} {R C : Nat} {cl jn dl dn : Nat → Nat} (h : NT pos R C cl jn dl dn) (hC : C ≤ 8) : (∀ r, cl r < 256) ∧ (∀ r, jn r < 256) ∧ (∀ r, dl r < 256) ∧ ∀ r, dn r < 256 := by
  obtain ⟨h1, h2, h3, h4⟩ := h
  refine ⟨h1.lt hC, ?_, h2.lt hC, ?_⟩
  · rw [h3]; exact joinN_lt (h1.lt hC) (fun _ => by decide)
  · rw [h4]; exact joinN_lt (h2.lt hC) (fun _ => by decide)
theorem gh_bit {dio : Bool} {pos : Nat → Nat} {R C k : Nat} {cl jn dl dn : Nat → Nat} (h : NT pos R C cl jn dl dn) (hC : 1 ≤ C ∧ C ≤ 8) (hk : k < R * C) : (ghN dio cl jn dl dn (k / C)).testBit (k % C) = ghM (fsB (seenN dio cl jn) C) (fsB (seenN dio dl dn) C) pos k := by
  obtain ⟨l1, l2, l3, l4⟩ := h.lts hC.2
  unfold ghN
  rw [Nat.testBit_or, an8_bit (seenN_lt l1 l2 _), an8_bit (seenN_lt l3 l4 _), net_k h.1 hC.1 hk, net_k h.2.1 hC.1 hk]
  unfold ghM
  rw [show fsB (seenN dio cl jn) C k = (seenN dio cl jn (k / C)).testBit (k % C) from rfl, show fsB (seenN dio dl dn) C k = (seenN dio dl dn (k / C)).testBit (k % C) from rfl]
  generalize (seenN dio cl jn (k / C)).testBit (k % C) = a
  generalize (seenN dio dl dn (k / C)).testBit (k % C) = b
  rcases Nat.lt_trichotomy (pos k) 1 with e | e | e
  · have e : pos k = 0 := by omega
    rw [e]; revert a b; decide
  · rw [e]; revert a b; decide
  · have e1 : decide (1 ≤ pos k) = true := decide_eq_true (by omega)
    have e2 : decide (2 ≤ pos k) = true := decide_eq_true (by omega)
    rw [e1, e2, if_neg (show ¬ pos k = 0 by omega), if_neg (show ¬ pos k < 2 by omega)]
    revert a b; decide
theorem gh_in {dio : Bool} {pos : Nat → Nat} {R C r c : Nat} {cl jn dl dn : Nat → Nat} (h : NT pos R C cl jn dl dn) (hR : R ≤ 8) (hC : C ≤ 8) (hb : (ghN dio cl jn dl dn r).testBit c = true) : r < R ∧ c < C := by
  obtain ⟨l1, l2, l3, l4⟩ := h.lts hC
  unfold ghN at hb
  rw [Nat.testBit_or, an8_bit (seenN_lt l1 l2 _), an8_bit (seenN_lt l3 l4 _), Bool.or_eq_true, Bool.and_eq_true, Bool.and_eq_true] at hb
  obtain ⟨h1, h2, h3, h4⟩ := h
  rw [h3, h4] at hb
  rcases hb with g | g
  · exact seen_in h1 hR hC g.1
  · exact seen_in h2 hR hC g.1
theorem gcM_ext {fs gs fs' gs' : Nat → Bool} {pos : Nat → Nat} {n : Nat} (h1 : ∀ k, k < n → fs k = fs' k) (h2 : ∀ k, k < n → gs k = gs' k) : gcM fs gs pos n = gcM fs' gs' pos n := by
  unfold gcM
  refine lfor_ext n 0 0 (fun k a _ hk => ?_)
  unfold ghM
  rw [h1 k (by omega), h2 k (by omega)]
theorem pop_low {x C : Nat} (hC : C ≤ 8) (h : ∀ c, C ≤ c → x.testBit c = false) : pop8 x = fb_ct (fun c => x.testBit c) C := by
  unfold pop8
  have e := fb_ct_split (fun c => x.testBit c) C (8 - C)
  rw [show C + (8 - C) = 8 by omega] at e
  rw [e, fb_ct_zero.mpr (fun k _ => h (C + k) (by omega))]
  rfl
theorem gc_eq {dio : Bool} {pos : Nat → Nat} {R C : Nat} {cl jn dl dn : Nat → Nat} (h : NT pos R C cl jn dl dn) (hR : R ≤ 8) (hC : 1 ≤ C ∧ C ≤ 8) : gcN dio cl jn dl dn R = gcM (fsB (seenN dio cl jn) C) (fsB (seenN dio dl dn) C) pos (R * C) := by
  unfold gcN gcM
  have g := lfor_rows (fun k a => a + (if ghM (fsB (seenN dio cl jn) C) (fsB (seenN dio dl dn) C) pos k = true then 1 else 0)) C R 0 0
  rw [Nat.zero_mul] at g
  rw [g]
  refine lfor_ext R 0 0 (fun r a _ hr => ?_)
  show a + pop8 (ghN dio cl jn dl dn r) = lfor (fun c a => a + (if ghM (fsB (seenN dio cl jn) C) (fsB (seenN dio dl dn) C) pos (r * C + c) = true then 1 else 0)) 0 C a
  rw [lfor_ct (fun c => ghM (fsB (seenN dio cl jn) C) (fsB (seenN dio dl dn) C) pos (r * C + c)), pop_low hC.2 (x := ghN dio cl jn dl dn r) (fun c hc => ?_)]
  · congr 1
    refine fb_ct_cong (fun c hc => ?_)
    have := gh_bit (dio := dio) h hC (rc_lt (show r < R by omega) hc)
    rw [rc_div hc, rc_mod hc] at this
    exact this
  · cases e : (ghN dio cl jn dl dn r).testBit c
    · rfl
    · have := (gh_in h hR hC.2 e).2; omega
/-! doubtful keys -/
theorem lany_iff (p : Nat → Bool) : ∀ (n i : Nat), lany p i n = true ↔ ∃ k, i ≤ k ∧ k < i + n ∧ p k = true
  | 0, i => ⟨fun h => (by cases h), fun ⟨k, h1, h2, _⟩ => by omega⟩
  | n + 1, i => by
    show (if p i = true then true else lany p (i + 1) n) = true ↔ _
    by_cases e : p i = true
    · rw [if_pos e]; exact ⟨fun _ => ⟨i, Nat.le_refl _, by omega, e⟩, fun _ => rfl⟩
    · rw [if_neg e, lany_iff p n (i + 1)]
      refine ⟨fun ⟨k, h1, h2, h3⟩ => ⟨k, by omega, by omega, h3⟩, fun ⟨k, h1, h2, h3⟩ => ⟨k, ?_, by omega, h3⟩⟩
      rcases Nat.eq_or_lt_of_le h1 with z | z
      · subst z; exact absurd h3 e
      · exact z
theorem dbS_iff {sn : Nat → Nat} {r c o : Nat} : dbS sn r (1 <<< c) o = true ↔ o ≠ r ∧ (sn r).testBit c = true ∧ (sn o).testBit c = true ∧ ∃ q, q ≠ c ∧ (sn r).testBit q = true ∧ (sn o).testBit q = true := by
  have ab : ((sn r &&& sn o) &&& 1 <<< c = 0) ↔ ¬ ((sn r).testBit c = true ∧ (sn o).testBit c = true) := by
    rw [← Bool.and_eq_true, ← Nat.testBit_and]
    refine ⟨fun h e => ?_, fun h => ?_⟩
    · have : ((sn r &&& sn o) &&& 1 <<< c).testBit c = true := by
        rw [Nat.testBit_and, e, Nat.shiftLeft_eq, Nat.one_mul, Nat.testBit_two_pow]; simp
      rw [h, Nat.zero_testBit] at this; cases this
    · apply Nat.eq_of_testBit_eq
      intro i
      rw [Nat.zero_testBit, Nat.testBit_and, Nat.shiftLeft_eq, Nat.one_mul, Nat.testBit_two_pow]
      by_cases e : c = i
      · subst e; cases w : (sn r &&& sn o).testBit c
        · rfl
        · exact absurd w h
      · simp [e]
  unfold dbS
  by_cases h1 : o = r
  · rw [if_pos h1]; exact ⟨fun h => (by cases h), fun h => absurd h1 h.1⟩
  · rw [if_neg h1]
    by_cases h2 : (sn r &&& sn o) &&& 1 <<< c = 0
    · rw [if_pos h2]; exact ⟨fun h => (by cases h), fun h => absurd ⟨h.2.1, h.2.2.1⟩ (ab.mp h2)⟩
    · rw [if_neg h2]
      have h3 : (sn r).testBit c = true ∧ (sn o).testBit c = true := Decidable.of_not_not (fun q => h2 (ab.mpr q))
      by_cases h4 : sn r &&& sn o = 1 <<< c
      · rw [if_pos h4]
        refine ⟨fun h => (by cases h), fun ⟨_, _, _, q, g1, g2, g3⟩ => ?_⟩
        have : (sn r &&& sn o).testBit q = true := by rw [Nat.testBit_and, g2, g3]; rfl
        rw [h4, Nat.shiftLeft_eq, Nat.one_mul, Nat.testBit_two_pow] at this
        exact absurd (of_decide_eq_true this).symm g1
      · rw [if_neg h4]
        refine ⟨fun _ => ⟨h1, h3.1, h3.2, ?_⟩, fun _ => rfl⟩
        refine Classical.byContradiction (fun hn => h4 ?_)
        apply Nat.eq_of_testBit_eq
        intro i
        rw [Nat.testBit_and, Nat.shiftLeft_eq, Nat.one_mul, Nat.testBit_two_pow]
        by_cases e : c = i
        · subst e; rw [h3.1, h3.2]; simp
        · rw [decide_eq_false e]
          cases w1 : (sn r).testBit i
          · rfl
          · cases w2 : (sn o).testBit i
            · rfl
            · exact absurd ⟨i, fun q => e q.symm, w1, w2⟩ hn
theorem db_eq {sn : Nat → Nat} {R C k : Nat} (hC : 1 ≤ C) (hk : k < R * C) (hin : ∀ r c, (sn r).testBit c = true → r < R ∧ c < C) : dbN sn R C k = dmM (fsB sn C) R C k := by
  have hkk := kqr hk hC
  apply Bool.eq_iff_iff.mpr
  unfold dbN
  rw [lany_iff]
  unfold dmM
  constructor
  · rintro ⟨o, _, h2, h3⟩
    obtain ⟨g1, g2, g3, q, g4, g5, g6⟩ := dbS_iff.mp h3
    have hq := (hin _ _ g5).2
    rw [if_pos (show fsB sn C k = true from g2), lany_iff]
    refine ⟨o * C + q, Nat.zero_le _, by rw [Nat.zero_add]; exact rc_lt (by omega) hq, ?_⟩
    unfold dmS
    rw [rc_div hq, rc_mod hq, if_neg g1, if_neg g4]
    have f1 : fsB sn C (o * C + q) = true := by unfold fsB; rw [rc_div hq, rc_mod hq]; exact g6
    have f2 : fsB sn C (o * C + k % C) = true := by unfold fsB; rw [rc_div hkk.2, rc_mod hkk.2]; exact g3
    have f3 : fsB sn C (k / C * C + q) = true := by unfold fsB; rw [rc_div hq, rc_mod hq]; exact g5
    rw [if_pos f1, if_pos f2, if_pos f3]
  · intro h
    by_cases e : fsB sn C k = true
    · rw [if_pos e, lany_iff] at h
      obtain ⟨x, _, h2, h3⟩ := h
      rw [Nat.zero_add] at h2
      have hx := kqr h2 hC
      unfold dmS at h3
      by_cases w1 : x / C = k / C
      · rw [if_pos w1] at h3; cases h3
      · by_cases w2 : x % C = k % C
        · rw [if_neg w1, if_pos w2] at h3; cases h3
        · rw [if_neg w1, if_neg w2] at h3
          by_cases f1 : fsB sn C x = true
          · by_cases f2 : fsB sn C (x / C * C + k % C) = true
            · by_cases f3 : fsB sn C (k / C * C + x % C) = true
              · refine ⟨x / C, Nat.zero_le _, by rw [Nat.zero_add]; exact hx.1, dbS_iff.mpr ⟨w1, e, ?_, x % C, w2, ?_, f1⟩⟩
                · unfold fsB at f2; rw [rc_div hkk.2, rc_mod hkk.2] at f2; exact f2
                · unfold fsB at f3; rw [rc_div hx.2, rc_mod hx.2] at f3; exact f3
              · rw [if_pos f1, if_pos f2, if_neg f3] at h3; cases h3
            · rw [if_pos f1, if_neg f2] at h3; cases h3
          · rw [if_neg f1] at h3; cases h3
    · rw [if_neg e] at h; cases h
theorem lany_ext {p q : Nat → Bool} : ∀ (n i : Nat), (∀ k, i ≤ k → k < i + n → p k = q k) → lany p i n = lany q i n
  | 0, _, _ => rfl
  | n + 1, i, h => by
    show (if p i = true then true else lany p (i + 1) n) = (if q i = true then true else lany q (i + 1) n)
    rw [h i (Nat.le_refl _) (by omega), lany_ext n (i + 1) (fun k h1 h2 => h k (by omega) (by omega))]
theorem dm_ext {fs fs' : Nat → Bool} {R C k : Nat} (hC : 1 ≤ C) (hk : k < R * C) (h : ∀ k, k < R * C → fs k = fs' k) : dmM fs R C k = dmM fs' R C k := by
  have hkk := kqr hk hC
  unfold dmM
  rw [h k hk]
  congr 1
  refine lany_ext (R * C) 0 (fun x _ hx => ?_)
  have hxx := kqr (show x < R * C by omega) hC
  unfold dmS
  rw [h x (by omega), h _ (rc_lt hxx.1 hkk.2), h _ (rc_lt hkk.1 hxx.2)]
theorem dc_eq {sn : Nat → Nat} {fs : Nat → Bool} {R C : Nat} (hC : 1 ≤ C) (hin : ∀ r c, (sn r).testBit c = true → r < R ∧ c < C) (h : ∀ k, k < R * C → fs k = fsB sn C k) : dcN sn R C = dcM fs R C := by
  unfold dcN dcM
  refine lfor_ext (R * C) 0 0 (fun k a _ hk => ?_)
  rw [dm_ext hC (show k < R * C by omega) h, db_eq hC (by omega) hin]
  rfl
theorem pr_eq (pos : Nat → Nat) (n : Nat) : prN pos n = prM pos n := by
  unfold prN prM
  refine lfor_ext n 0 0 (fun k a _ _ => ?_)
  by_cases e : pos k = 0
  · rw [if_pos e, if_neg (by omega)]
  · rw [if_neg e, if_pos (by omega)]
/-! moves -/
theorem putC_bit {cl : Nat → Nat} {r c : Nat} {b : Bool} (h : cl r < 256) (s d : Nat) : (putC cl r c b s).testBit d = if s = r ∧ d = c then b else (cl s).testBit d := by
  unfold putC updN
  by_cases e : s = r
  · subst e
    rw [if_pos rfl]
    cases b
    · rw [if_neg (by decide), an8_bit h, Nat.shiftLeft_eq, Nat.one_mul, Nat.testBit_two_pow]
      by_cases q : d = c
      · subst q; rw [if_pos ⟨rfl, rfl⟩]; simp
      · rw [if_neg (fun z => q z.2), decide_eq_false (fun z => q z.symm)]; simp
    · rw [if_pos rfl, orb]
      by_cases q : d = c
      · subst q; rw [if_pos ⟨rfl, rfl⟩]; simp
      · rw [if_neg (fun z => q z.2)]; simp; intro z; exact absurd z (by first | exact q | exact fun z => q z.symm)
  · rw [if_neg e, if_neg (fun z => e z.1)]
theorem net_put {pos : Nat → Nat} {R C x k q : Nat} {cl : Nat → Nat} (h : NetR pos R C x cl) (hC : 1 ≤ C ∧ C ≤ 8) (hk : k < R * C) {b : Bool} (hb : b = decide (x ≤ q)) : NetR (updN pos k q) R C x (putC cl (k / C) (k % C) b) := by
  have hkk := kqr hk hC.1
  intro r c
  rw [putC_bit (h.lt hC.2 _)]
  by_cases e : r = k / C ∧ c = k % C
  · rw [if_pos e, hb, decide_eq_true_iff, e.1, e.2, kdm]
    unfold updN
    rw [if_pos rfl]
    exact ⟨fun g => ⟨hkk.1, hkk.2, g⟩, fun g => g.2.2⟩
  · rw [if_neg e, h r c]
    have key : c < C → updN pos k q (r * C + c) = pos (r * C + c) := fun hc => if_neg (fun g => e ⟨by rw [← g, rc_div hc], by rw [← g, rc_mod hc]⟩)
    exact ⟨fun g => ⟨g.1, g.2.1, by rw [key g.2.1]; exact g.2.2⟩, fun g => ⟨g.1, g.2.1, by have := g.2.2; rw [key g.2.1] at this; exact this⟩⟩
theorem NT_move {pos : Nat → Nat} {R C k q : Nat} {cl jn dl dn : Nat → Nat} (h : NT pos R C cl jn dl dn) (hC : 1 ≤ C ∧ C ≤ 8) (hk : k < R * C) (hq : q ≤ 2) : NT (updN pos k q) R C (putC cl (k / C) (k % C) (decide (1 ≤ q))) (putJ cl jn (k / C) (k % C) (decide (1 ≤ q))) (putC dl (k / C) (k % C) (decide (q = 2))) (putJ dl dn (k / C) (k % C) (decide (q = 2))) := by
  obtain ⟨h1, h2, h3, h4⟩ := h
  refine ⟨net_put h1 hC hk rfl, net_put h2 hC hk (by congr 1; exact propext ⟨fun _ => by omega, fun _ => by omega⟩), ?_, ?_⟩
  · rw [h3]; exact joinN_of (fun q hq => joinN_hi hq)
  · rw [h4]; exact joinN_of (fun q hq => joinN_hi hq)
theorem net_zero {pos : Nat → Nat} {R C x : Nat} {cl : Nat → Nat} (hx : 1 ≤ x) (hp : ∀ k, k < R * C → pos k = 0) (hz : ∀ r, cl r = 0) : NetR pos R C x cl := by
  intro r c
  rw [hz, Nat.zero_testBit]
  refine ⟨fun h => (by cases h), fun h => ?_⟩
  have := hp _ (rc_lt h.1 h.2.1)
  omega
theorem joinN_zero {cl : Nat → Nat} (hz : ∀ r, cl r = 0) (r : Nat) : joinN cl (fun _ => 0) r = 0 := by
  apply Nat.eq_of_testBit_eq
  intro i
  rw [Nat.zero_testBit]
  cases e : (joinN cl (fun _ => 0) r).testBit i
  · rfl
  · have := (J_iff (cl := cl) (fun r => by rw [hz]; decide) (fun r _ => hz r) r i).mp e (fun _ => True) (fun _ => False) (fun r c hb => by rw [hz, Nat.zero_testBit] at hb; cases hb)
    exact absurd trivial this.mp
/-- closed contacts beyond the eighth row there are none -/
theorem zeroN_all {f : Nat → Nat} {n : Nat} (h : ∀ r, n ≤ r → f r = 0) (r : Nat) : zeroN f n r = 0 := by
  unfold zeroN fa_fill
  by_cases e : r < n
  · rw [if_pos e]
  · rw [if_neg e]; exact h r (by omega)
theorem NT_lift {pos pos' : Nat → Nat} {R C R' C' : Nat} {cl jn dl dn : Nat → Nat} (h : NT pos R C cl jn dl dn) (hR : R ≤ 8) (hp : ∀ k, k < R' * C' → pos' k = 0) : NT pos' R' C' (zeroN cl 8) (zeroN jn 8) (zeroN dl 8) (zeroN dn 8) := by
  obtain ⟨h1, h2, h3, h4⟩ := h
  have z1 := zeroN_all (h1.hi hR)
  have z2 := zeroN_all (h2.hi hR)
  refine ⟨net_zero (by decide) hp z1, net_zero (by decide) hp z2, ?_, ?_⟩
  · funext r
    rw [joinN_zero z1]
    exact zeroN_all (fun r hr => by rw [h3]; exact joinN_hi hr) r
  · funext r
    rw [joinN_zero z2]
    exact zeroN_all (fun r hr => by rw [h4]; exact joinN_hi hr) r
/-! connected -/
theorem con_eq {pos : Nat → Nat} {R C r : Nat} {cl jn dl dn : Nat → Nat} (h : NT pos R C cl jn dl dn) (hR : R ≤ 8) (hC : 1 ≤ C ∧ C ≤ 8) (hr : r < R) : rjwN jn r ||| (jn r <<< 8) = (cnF pos R C 1 r).1 + 256 * (cnF pos R C 1 r).2 := by
  have hl := cnF_lt (pos := pos) (x := 1) hR hC.2 hr
  rw [net_cols h.1 hR hC, net_rows h.1 hR hC, ← h.2.2.1] at hl ⊢
  rw [Nat.or_comm, Nat.shiftLeft_eq, show jn r * 2 ^ 8 = 2 ^ 8 * jn r from Nat.mul_comm _ _, ← Nat.two_pow_add_eq_or_of_lt hl.1, Nat.add_comm]
