/-! both nets -/
theorem orb (a c i : Nat) : (a ||| 1 <<< c).testBit i = (a.testBit i || decide (i = c)) := by
  rw [Nat.shiftLeft_eq, Nat.one_mul, fb_bit_set]
theorem andb (a c : Nat) : a &&& 1 <<< c = 0 ↔ a.testBit c = false := by
  rw [Nat.shiftLeft_eq, Nat.one_mul]; exact fb_bit_nat a c
theorem bit_lt {a i : Nat} (h : a < 256) (hb : a.testBit i = true) : i < 8 := by
  rcases Nat.lt_or_ge i 8 with q | q
  · exact q
  · have : a.testBit i = false := Nat.testBit_lt_two_pow (Nat.lt_of_lt_of_le h (show 256 ≤ 2 ^ i from Nat.pow_le_pow_right (n := 2) (i := 8) (by decide) q))
    rw [this] at hb; cases hb
theorem uni_bit (j : Nat → Nat) (c q : Nat) : ∀ (n i u : Nat), (lfor (fun r u => if j r &&& 1 <<< c = 0 then u else u ||| j r) i n u).testBit q = true ↔ u.testBit q = true ∨ ∃ r, i ≤ r ∧ r < i + n ∧ (j r).testBit c = true ∧ (j r).testBit q = true
  | 0, i, u => by
    refine ⟨Or.inl, fun h => ?_⟩
    rcases h with h | ⟨r, h1, h2, _⟩
    · exact h
    · omega
  | n + 1, i, u => by
    have ih := uni_bit j c q n (i + 1) (if j i &&& 1 <<< c = 0 then u else u ||| j i)
    show (lfor _ (i + 1) n (if j i &&& 1 <<< c = 0 then u else u ||| j i)).testBit q = true ↔ _
    rw [ih]
    by_cases e : j i &&& 1 <<< c = 0
    · rw [if_pos e]
      have e' := (andb _ _).mp e
      refine ⟨fun h => ?_, fun h => ?_⟩
      · rcases h with h | ⟨r, h1, h2, h3⟩
        · exact Or.inl h
        · exact Or.inr ⟨r, by omega, by omega, h3⟩
      · rcases h with h | ⟨r, h1, h2, h3, h4⟩
        · exact Or.inl h
        · refine Or.inr ⟨r, ?_, by omega, h3, h4⟩
          rcases Nat.eq_or_lt_of_le h1 with z | z
          · subst z; rw [e'] at h3; cases h3
          · exact z
    · rw [if_neg e, Nat.testBit_or, Bool.or_eq_true]
      have e' : (j i).testBit c = true := by
        cases z : (j i).testBit c
        · exact absurd ((andb _ _).mpr z) e
        · rfl
      refine ⟨fun h => ?_, fun h => ?_⟩
      · rcases h with (h | h) | ⟨r, h1, h2, h3⟩
        · exact Or.inl h
        · exact Or.inr ⟨i, Nat.le_refl _, by omega, e', h⟩
        · exact Or.inr ⟨r, by omega, by omega, h3⟩
      · rcases h with h | ⟨r, h1, h2, h3, h4⟩
        · exact Or.inl (Or.inl h)
        · rcases Nat.eq_or_lt_of_le h1 with z | z
          · subst z; exact Or.inl (Or.inr h4)
          · exact Or.inr ⟨r, by omega, by omega, h3, h4⟩
theorem uniN_bit (j : Nat → Nat) (c q : Nat) : (uniN j (1 <<< c)).testBit q = true ↔ ∃ r, r < 8 ∧ (j r).testBit c = true ∧ (j r).testBit q = true := by
  have h := uni_bit j c q 8 0 0
  unfold uniN
  rw [h]
  refine ⟨fun h => ?_, fun ⟨r, h1, h2⟩ => Or.inr ⟨r, Nat.zero_le _, by omega, h2⟩⟩
  rcases h with h | ⟨r, _, h1, h2⟩
  · rw [Nat.zero_testBit] at h; cases h
  · exact ⟨r, by omega, h2⟩
theorem jthru_at (j : Nat → Nat) (c : Nat) {r : Nat} (hr : r < 8) : jthru j (1 <<< c) r = if (j r).testBit c = true then uniN j (1 <<< c) else j r := by
  have key : ∀ (n i : Nat) (s : Nat → Nat), (∀ q, i ≤ q → s q = j q) → i + n = 8 → (lfor (fun r j' => if j' r &&& 1 <<< c = 0 then j' else updN j' r (uniN j (1 <<< c))) i n s) r = if i ≤ r then (if (j r).testBit c = true then uniN j (1 <<< c) else j r) else s r := by
    intro n
    induction n with
    | zero => intro i s _ hi; rw [if_neg (by omega)]; rfl
    | succ n ih =>
      intro i s hs hi
      show (lfor _ (i + 1) n (if s i &&& 1 <<< c = 0 then s else updN s i (uniN j (1 <<< c)))) r = _
      rw [ih (i + 1) _ ?_ (by omega)]
      · by_cases e : i + 1 ≤ r
        · rw [if_pos e]; exact (if_pos (show i ≤ r by omega)).symm
        · rw [if_neg e]
          by_cases e2 : i ≤ r
          · have : r = i := by omega
            subst this
            rw [if_pos e2, hs r (Nat.le_refl _)]
            by_cases e3 : j r &&& 1 <<< c = 0
            · rw [if_pos e3, (andb _ _).mp e3, if_neg (by decide)]; exact hs r (Nat.le_refl _)
            · have e4 : (j r).testBit c = true := by
                cases z : (j r).testBit c
                · exact absurd ((andb _ _).mpr z) e3
                · rfl
              rw [if_neg e3, if_pos e4]; exact if_pos rfl
          · rw [if_neg e2]
            by_cases e3 : s i &&& 1 <<< c = 0
            · rw [if_pos e3]
            · rw [if_neg e3]; exact if_neg (by omega)
      · intro q hq
        by_cases e3 : s i &&& 1 <<< c = 0
        · rw [if_pos e3]; exact hs q (by omega)
        · rw [if_neg e3]; exact (if_neg (by omega)).trans (hs q (by omega))
  exact (key 8 0 j (fun _ _ => rfl) rfl).trans (if_pos (Nat.zero_le _))
def Cc (cl : Nat → Nat) (P Q : Nat → Prop) : Prop := ∀ r c, (cl r).testBit c = true → (P r ↔ Q c)
/-- what holds of the joins behind c columns -/
def JI (cl : Nat → Nat) (c : Nat) (j : Nat → Nat) : Prop :=
  (∀ r q, (cl r).testBit q = true → (j r).testBit q = true) ∧ (∀ r q, (j r).testBit q = true → ∀ P Q, Cc cl P Q → (P r ↔ Q q)) ∧ (∀ r s q, q < c → (j r).testBit q = true → (j s).testBit q = true → j r = j s) ∧ ∀ r, 8 ≤ r → j r = 0
theorem JI_step {cl j : Nat → Nat} {c : Nat} (h : JI cl c j) : JI cl (c + 1) (jthru j (1 <<< c)) := by
  obtain ⟨h1, h2, h3, h4⟩ := h
  have hz : ∀ r q, (j r).testBit q = true → r < 8 := fun r q hb => by
    rcases Nat.lt_or_ge r 8 with z | z
    · exact z
    · rw [h4 r z, Nat.zero_testBit] at hb; cases hb
  have at' : ∀ r, jthru j (1 <<< c) r = if (j r).testBit c = true then uniN j (1 <<< c) else j r := fun r => by
    rcases Nat.lt_or_ge r 8 with z | z
    · exact jthru_at j c z
    · rw [jthru_hi z, h4 r z, Nat.zero_testBit, if_neg (by decide)]
  refine ⟨fun r q hb => ?_, fun r q hb P Q hC => ?_, fun r s q hq hr hs => ?_, fun r hr => (jthru_hi hr).trans (h4 r hr)⟩
  · rw [at']
    by_cases e : (j r).testBit c = true
    · rw [if_pos e]; exact (uniN_bit j c q).mpr ⟨r, hz r c e, e, h1 r q hb⟩
    · rw [if_neg e]; exact h1 r q hb
  · rw [at'] at hb
    by_cases e : (j r).testBit c = true
    · rw [if_pos e] at hb
      obtain ⟨t, _, t1, t2⟩ := (uniN_bit j c q).mp hb
      exact (h2 r c e P Q hC).trans ((h2 t c t1 P Q hC).symm.trans (h2 t q t2 P Q hC))
    · rw [if_neg e] at hb; exact h2 r q hb P Q hC
  · rw [at'] at hr hs
    rw [at', at']
    have cross : ∀ a b, (j a).testBit c = true → ¬ (j b).testBit c = true → (uniN j (1 <<< c)).testBit q = true → (j b).testBit q = true → False := by
      intro a b ea eb ua ub
      have hqc : q < c := by
        rcases Nat.lt_or_ge q c with z | z
        · exact z
        · have : q = c := by omega
          subst this; exact absurd ub eb
      obtain ⟨t, _, t1, t2⟩ := (uniN_bit j c q).mp ua
      exact eb (by rw [← h3 t b q hqc t2 ub]; exact t1)
    by_cases e : (j r).testBit c = true
    · rw [if_pos e] at hr ⊢
      by_cases e2 : (j s).testBit c = true
      · rw [if_pos e2]
      · rw [if_neg e2] at hs; exact (cross r s e e2 hr hs).elim
    · rw [if_neg e] at hr ⊢
      by_cases e2 : (j s).testBit c = true
      · rw [if_pos e2] at hs; exact (cross s r e2 e hs hr).elim
      · rw [if_neg e2] at hs ⊢
        rcases Nat.lt_or_ge q c with z | z
        · exact h3 r s q z hr hs
        · have : q = c := by omega
          subst this; exact absurd hr e
theorem JI_join {cl : Nat → Nat} (hz : ∀ r, 8 ≤ r → cl r = 0) : JI cl 8 (joinN cl (fun _ => 0)) := by
  have e0 : fa_fill cl (fun _ => 0) 8 = cl := by
    funext r
    unfold fa_fill
    by_cases e : r < 8
    · rw [if_pos e]
    · rw [if_neg e]; exact (hz r (by omega)).symm
  have key : ∀ (n i : Nat) (j : Nat → Nat), JI cl i j → JI cl (i + n) (lfor (fun c j => jthru j (1 <<< c)) i n j) := by
    intro n
    induction n with
    | zero => intro i j h; exact h
    | succ n ih =>
      intro i j h
      have := ih (i + 1) _ (JI_step h)
      rw [show i + (n + 1) = i + 1 + n by omega]
      exact this
  have start : JI cl 0 cl := ⟨fun _ _ h => h, fun r q h P Q hC => hC r q h, fun _ _ _ h => absurd h (Nat.not_lt_zero _), hz⟩
  have := key 8 0 cl start
  unfold joinN
  rw [e0]
  exact this
theorem J_iff {cl : Nat → Nat} (hl : ∀ r, cl r < 256) (hz : ∀ r, 8 ≤ r → cl r = 0) (r c : Nat) : (joinN cl (fun _ => 0) r).testBit c = true ↔ ∀ P Q, Cc cl P Q → (P r ↔ Q c) := by
  obtain ⟨h1, h2, h3, h4⟩ := JI_join hz
  refine ⟨fun h P Q hC => h2 r c h P Q hC, fun h => ?_⟩
  have := h (fun s => s = r ∨ ∃ q, (joinN cl (fun _ => 0) r).testBit q = true ∧ (joinN cl (fun _ => 0) s).testBit q = true) (fun q => (joinN cl (fun _ => 0) r).testBit q = true) (fun s q hb => by
    have hq := bit_lt (hl s) hb
    have hb' := h1 s q hb
    refine ⟨fun g => ?_, fun g => Or.inr ⟨q, g, hb'⟩⟩
    rcases g with g | ⟨z, g1, g2⟩
    · rw [← g]; exact hb'
    · have hz8 : z < 8 := bit_lt (joinN_lt hl (fun _ => by decide) r) g1
      rw [h3 r s z hz8 g1 g2]; exact hb')
  exact this.mp (Or.inl rfl)
/-- the rows joined with r -/
theorem J_rows {cl : Nat → Nat} (hl : ∀ r, cl r < 256) (hz : ∀ r, 8 ≤ r → cl r = 0) (r s : Nat) : (s = r ∨ ∃ q, (joinN cl (fun _ => 0) r).testBit q = true ∧ (joinN cl (fun _ => 0) s).testBit q = true) ↔ ∀ P Q, Cc cl P Q → (P r ↔ P s) := by
  obtain ⟨h1, h2, h3, h4⟩ := JI_join hz
  refine ⟨fun h P Q hC => ?_, fun h => ?_⟩
  · rcases h with rfl | ⟨q, g1, g2⟩
    · exact Iff.rfl
    · exact (h2 r q g1 P Q hC).trans (h2 s q g2 P Q hC).symm
  · have := h (fun s => s = r ∨ ∃ q, (joinN cl (fun _ => 0) r).testBit q = true ∧ (joinN cl (fun _ => 0) s).testBit q = true) (fun q => (joinN cl (fun _ => 0) r).testBit q = true) (fun s q hb => by
      have hb' := h1 s q hb
      refine ⟨fun g => ?_, fun g => Or.inr ⟨q, g, hb'⟩⟩
      rcases g with g | ⟨z, g1, g2⟩
      · rw [← g]; exact hb'
      · have hz8 : z < 8 := bit_lt (joinN_lt hl (fun _ => by decide) r) g1
        rw [h3 r s z hz8 g1 g2]; exact hb')
    exact this.mp (Or.inl rfl)
/-! the reference's nets -/
def Cl (pos : Nat → Nat) (R C x : Nat) (P Q : Nat → Prop) : Prop := ∀ k, k < R * C → x ≤ pos k → (P (k / C) ↔ Q (k % C))
def CG (pos : Nat → Nat) (R C x r : Nat) (s : Nat × Nat) : Prop := s.1.testBit r = true ∧ ∀ P Q, Cl pos R C x P Q → (∀ q, s.1.testBit q = true → (P r ↔ P q)) ∧ ∀ q, s.2.testBit q = true → (P r ↔ Q q)
theorem cnS_good {pos : Nat → Nat} {R C x r k : Nat} (hk : k < R * C) {s : Nat × Nat × Bool} (h : CG pos R C x r (s.1, s.2.1)) : CG pos R C x r ((cnS pos C x k s).1, (cnS pos C x k s).2.1) := by
  unfold cnS
  by_cases e : pos k < x
  · rw [if_pos e]; exact h
  · rw [if_neg e]
    by_cases e2 : s.1.testBit (k / C) = s.2.1.testBit (k % C)
    · rw [if_pos e2]; exact h
    · rw [if_neg e2]
      obtain ⟨h1, h2⟩ := h
      refine ⟨?_, fun P Q hC => ?_⟩
      · show (s.1 ||| 1 <<< (k / C)).testBit r = true
        rw [orb, h1]; rfl
      · obtain ⟨g1, g2⟩ := h2 P Q hC
        have hc := hC k hk (by omega)
        have both : (P r ↔ P (k / C)) ∧ (P r ↔ Q (k % C)) := by
          cases z : s.1.testBit (k / C)
          · have z2 : s.2.1.testBit (k % C) = true := by
              cases w : s.2.1.testBit (k % C)
              · rw [z, w] at e2; exact absurd rfl e2
              · rfl
            have := g2 _ z2
            exact ⟨this.trans hc.symm, this⟩
          · have := g1 _ z
            exact ⟨this, this.trans hc⟩
        refine ⟨fun q hq => ?_, fun q hq => ?_⟩
        · have hq' : (s.1 ||| 1 <<< (k / C)).testBit q = true := hq
          rw [orb, Bool.or_eq_true] at hq'
          rcases hq' with w | w
          · exact g1 q w
          · rw [of_decide_eq_true w]; exact both.1
        · have hq' : (s.2.1 ||| 1 <<< (k % C)).testBit q = true := hq
          rw [orb, Bool.or_eq_true] at hq'
          rcases hq' with w | w
          · exact g2 q w
          · rw [of_decide_eq_true w]; exact both.2
theorem cnI_good {pos : Nat → Nat} {R C x r : Nat} {s : Nat × Nat} (h : CG pos R C x r s) : CG pos R C x r ((cnI pos R C x s).1, (cnI pos R C x s).2.1) := by
  have key : ∀ (n i : Nat) (t : Nat × Nat × Bool), i + n = R * C → CG pos R C x r (t.1, t.2.1) → CG pos R C x r ((lfor (cnS pos C x) i n t).1, (lfor (cnS pos C x) i n t).2.1) := by
    intro n
    induction n with
    | zero => intro i t _ h; exact h
    | succ n ih => intro i t hi h; exact ih (i + 1) _ (by omega) (cnS_good (by omega) h)
  exact key _ 0 (s.1, s.2, false) (Nat.zero_add _) h
/-- a round: it changes nothing, and all is closed, or the sets have grown -/
theorem cnI_or {pos : Nat → Nat} {R C x : Nat} (hR : R ≤ 8) (hC : 1 ≤ C ∧ C ≤ 8) (s : Nat × Nat) : ((cnI pos R C x s).2.2 = false ∧ ((cnI pos R C x s).1, (cnI pos R C x s).2.1) = s ∧ ∀ k, k < R * C → x ≤ pos k → s.1.testBit (k / C) = s.2.testBit (k % C)) ∨ ((cnI pos R C x s).2.2 = true ∧ pop8 s.1 + pop8 s.2 + 1 ≤ pop8 (cnI pos R C x s).1 + pop8 (cnI pos R C x s).2.1) := by
  have key : ∀ (n i : Nat) (t : Nat × Nat × Bool), i + n = R * C → ((t.2.2 = false ∧ (t.1, t.2.1) = s ∧ ∀ k, k < i → x ≤ pos k → s.1.testBit (k / C) = s.2.testBit (k % C)) ∨ (t.2.2 = true ∧ pop8 s.1 + pop8 s.2 + 1 ≤ pop8 t.1 + pop8 t.2.1)) → (((lfor (cnS pos C x) i n t).2.2 = false ∧ ((lfor (cnS pos C x) i n t).1, (lfor (cnS pos C x) i n t).2.1) = s ∧ ∀ k, k < R * C → x ≤ pos k → s.1.testBit (k / C) = s.2.testBit (k % C)) ∨ ((lfor (cnS pos C x) i n t).2.2 = true ∧ pop8 s.1 + pop8 s.2 + 1 ≤ pop8 (lfor (cnS pos C x) i n t).1 + pop8 (lfor (cnS pos C x) i n t).2.1)) := by
    intro n
    induction n with
    | zero =>
      intro i t hi h
      rcases h with ⟨a, b, c⟩ | h
      · exact Or.inl ⟨a, b, fun k hk => c k (by omega)⟩
      · exact Or.inr h
    | succ n ih =>
      intro i t hi h
      refine ih (i + 1) (cnS pos C x i t) (by omega) ?_
      have hq : i / C < R := Nat.div_lt_of_lt_mul (by rw [Nat.mul_comm]; omega)
      have hm : i % C < C := Nat.mod_lt _ (by omega)
      unfold cnS
      by_cases e : pos i < x
      · rw [if_pos e]
        rcases h with ⟨a, b, c⟩ | h
        · refine Or.inl ⟨a, b, fun k hk hx => ?_⟩
          rcases Nat.lt_or_ge k i with z | z
          · exact c k z hx
          · have : k = i := by omega
            subst this; omega
        · exact Or.inr h
      · rw [if_neg e]
        by_cases e2 : t.1.testBit (i / C) = t.2.1.testBit (i % C)
        · rw [if_pos e2]
          rcases h with ⟨a, b, c⟩ | h
          · refine Or.inl ⟨a, b, fun k hk hx => ?_⟩
            rcases Nat.lt_or_ge k i with z | z
            · exact c k z hx
            · have : k = i := by omega
              subst this; rw [← b]; exact e2
          · exact Or.inr h
        · rw [if_neg e2]
          refine Or.inr ⟨rfl, ?_⟩
          have g := pop8_two (show i / C < 8 by omega) (show i % C < 8 by omega) e2
          show _ ≤ pop8 (t.1 ||| 1 <<< (i / C)) + pop8 (t.2.1 ||| 1 <<< (i % C))
          rcases h with ⟨a, b, c⟩ | ⟨a, b⟩
          · have b1 : t.1 = s.1 := congrArg Prod.fst b
            have b2 : t.2.1 = s.2 := congrArg Prod.snd b
            rw [← b1, ← b2]; exact g
          · omega
  exact key (R * C) 0 (s.1, s.2, false) (Nat.zero_add _) (Or.inl ⟨rfl, rfl, fun k hk => absurd hk (Nat.not_lt_zero _)⟩)
theorem cnO_spec {pos : Nat → Nat} {R C x r : Nat} (hR : R ≤ 8) (hC : 1 ≤ C ∧ C ≤ 8) : ∀ (n : Nat) (s : Nat × Nat), CG pos R C x r s → 17 ≤ pop8 s.1 + pop8 s.2 + n → CG pos R C x r (cnO pos R C x n s) ∧ ∀ k, k < R * C → x ≤ pos k → (cnO pos R C x n s).1.testBit (k / C) = (cnO pos R C x n s).2.testBit (k % C)
  | 0, s, _, h => by
    have h1 := pop8_le s.1
    have h2 := pop8_le s.2
    omega
  | n + 1, s, hg, h => by
    have hg' := cnI_good hg
    have e0 : cnO pos R C x (n + 1) s = if (cnI pos R C x s).2.2 = true then cnO pos R C x n ((cnI pos R C x s).1, (cnI pos R C x s).2.1) else ((cnI pos R C x s).1, (cnI pos R C x s).2.1) := rfl
    rcases cnI_or (pos := pos) (x := x) hR hC s with ⟨a, b, c⟩ | ⟨a, b⟩
    · rw [e0, a, if_neg (by decide), b]
      exact ⟨hg, c⟩
    · rw [e0, a, if_pos rfl]
      exact cnO_spec hR hC n _ hg' (by show 17 ≤ pop8 (cnI pos R C x s).1 + pop8 (cnI pos R C x s).2.1 + n; omega)
theorem cnF_spec {pos : Nat → Nat} {R C x r : Nat} (hR : R ≤ 8) (hC : 1 ≤ C ∧ C ≤ 8) : CG pos R C x r (cnF pos R C x r) ∧ ∀ k, k < R * C → x ≤ pos k → (cnF pos R C x r).1.testBit (k / C) = (cnF pos R C x r).2.testBit (k % C) := by
  refine cnO_spec hR hC 17 (1 <<< r, 0) ⟨?_, fun P Q _ => ⟨fun q hq => ?_, fun q hq => ?_⟩⟩ (by omega)
  · show (1 <<< r).testBit r = true
    rw [Nat.shiftLeft_eq, Nat.one_mul, Nat.testBit_two_pow]; simp
  · have hq' : (1 <<< r).testBit q = true := hq
    rw [Nat.shiftLeft_eq, Nat.one_mul, Nat.testBit_two_pow] at hq'
    rw [of_decide_eq_true hq']
  · have hq' : (0 : Nat).testBit q = true := hq
    rw [Nat.zero_testBit] at hq'; cases hq'
theorem cnF_cols {pos : Nat → Nat} {R C x r : Nat} (hR : R ≤ 8) (hC : 1 ≤ C ∧ C ≤ 8) (c : Nat) : (cnF pos R C x r).2.testBit c = true ↔ ∀ P Q, Cl pos R C x P Q → (P r ↔ Q c) := by
  obtain ⟨⟨h1, h2⟩, h3⟩ := cnF_spec (pos := pos) (x := x) (r := r) hR hC
  refine ⟨fun h P Q hC' => (h2 P Q hC').2 c h, fun h => ?_⟩
  exact (h (fun q => (cnF pos R C x r).1.testBit q = true) (fun q => (cnF pos R C x r).2.testBit q = true) (fun k hk hx => by simp only [h3 k hk hx])).mp h1
theorem cnF_rows {pos : Nat → Nat} {R C x r : Nat} (hR : R ≤ 8) (hC : 1 ≤ C ∧ C ≤ 8) (s : Nat) : (cnF pos R C x r).1.testBit s = true ↔ ∀ P Q, Cl pos R C x P Q → (P r ↔ P s) := by
  obtain ⟨⟨h1, h2⟩, h3⟩ := cnF_spec (pos := pos) (x := x) (r := r) hR hC
  refine ⟨fun h P Q hC' => (h2 P Q hC').1 s h, fun h => ?_⟩
  exact (h (fun q => (cnF pos R C x r).1.testBit q = true) (fun q => (cnF pos R C x r).2.testBit q = true) (fun k hk hx => by simp only [h3 k hk hx])).mp h1
/-! both are one -/
def NetR (pos : Nat → Nat) (R C x : Nat) (cl : Nat → Nat) : Prop := ∀ r c, (cl r).testBit c = true ↔ r < R ∧ c < C ∧ x ≤ pos (r * C + c)
theorem NetR.hi {pos : Nat → Nat} {R C x : Nat} {cl : Nat → Nat} (h : NetR pos R C x cl) (hR : R ≤ 8) : ∀ r, 8 ≤ r → cl r = 0 := by
  intro r hr
  apply Nat.eq_of_testBit_eq
  intro i
  rw [Nat.zero_testBit]
  cases e : (cl r).testBit i
  · rfl
  · have := (h r i).mp e; omega
theorem NetR.lt {pos : Nat → Nat} {R C x : Nat} {cl : Nat → Nat} (h : NetR pos R C x cl) (hC : C ≤ 8) : ∀ r, cl r < 256 := by
  intro r
  refine Nat.lt_of_not_ge (fun hg => ?_)
  obtain ⟨i, hi, hb⟩ := Nat.exists_ge_and_testBit_of_ge_two_pow (n := 8) hg
  have := (h r i).mp hb
  omega
theorem NetR.cc {pos : Nat → Nat} {R C x : Nat} {cl : Nat → Nat} (h : NetR pos R C x cl) (hC : 1 ≤ C) (P Q : Nat → Prop) : Cc cl P Q ↔ Cl pos R C x P Q := by
  refine ⟨fun g k hk hx => ?_, fun g r c hb => ?_⟩
  · have hq : k / C < R := Nat.div_lt_of_lt_mul (by rw [Nat.mul_comm]; exact hk)
    have hm : k % C < C := Nat.mod_lt _ (by omega)
    refine g _ _ ((h _ _).mpr ⟨hq, hm, ?_⟩)
    have : k / C * C + k % C = k := by rw [Nat.mul_comm]; exact Nat.div_add_mod k C
    rw [this]; exact hx
  · obtain ⟨h1, h2, h3⟩ := (h r c).mp hb
    have := g (r * C + c) (rc_lt h1 h2) h3
    rw [rc_div h2, rc_mod h2] at this
    exact this
theorem net_cols {pos : Nat → Nat} {R C x : Nat} {cl : Nat → Nat} (h : NetR pos R C x cl) (hR : R ≤ 8) (hC : 1 ≤ C ∧ C ≤ 8) (r : Nat) : (cnF pos R C x r).2 = joinN cl (fun _ => 0) r := by
  apply Nat.eq_of_testBit_eq
  intro i
  apply Bool.eq_iff_iff.mpr
  rw [cnF_cols hR hC, J_iff (h.lt hC.2) (h.hi hR)]
  exact ⟨fun g P Q hc => g P Q ((h.cc hC.1 P Q).mp hc), fun g P Q hc => g P Q ((h.cc hC.1 P Q).mpr hc)⟩
theorem rjw_bit (jn : Nat → Nat) (r s : Nat) : (rjwN jn r).testBit s = true ↔ s = r ∨ (s < 8 ∧ ¬ jn s &&& jn r = 0) := by
  have key : ∀ (n i a : Nat), (lfor (fun o a => if jn o &&& jn r = 0 then a else a ||| 1 <<< o) i n a).testBit s = true ↔ a.testBit s = true ∨ (i ≤ s ∧ s < i + n ∧ ¬ jn s &&& jn r = 0) := by
    intro n
    induction n with
    | zero => intro i a; exact ⟨Or.inl, fun h => h.elim id (fun h => by omega)⟩
    | succ n ih =>
      intro i a
      show (lfor _ (i + 1) n (if jn i &&& jn r = 0 then a else a ||| 1 <<< i)).testBit s = true ↔ _
      rw [ih]
      by_cases e : jn i &&& jn r = 0
      · rw [if_pos e]
        refine ⟨fun h => h.elim Or.inl (fun h => Or.inr ⟨by omega, by omega, h.2.2⟩), fun h => h.elim Or.inl (fun h => Or.inr ⟨?_, by omega, h.2.2⟩)⟩
        rcases Nat.eq_or_lt_of_le h.1 with z | z
        · subst z; exact absurd e h.2.2
        · exact z
      · rw [if_neg e, orb, Bool.or_eq_true]
        refine ⟨fun h => ?_, fun h => ?_⟩
        · rcases h with (h | h) | h
          · exact Or.inl h
          · have := of_decide_eq_true h
            subst this; exact Or.inr ⟨Nat.le_refl _, by omega, e⟩
          · exact Or.inr ⟨by omega, by omega, h.2.2⟩
        · rcases h with h | h
          · exact Or.inl (Or.inl h)
          · rcases Nat.eq_or_lt_of_le h.1 with z | z
            · exact Or.inl (Or.inr (decide_eq_true z.symm))
            · exact Or.inr ⟨z, by omega, h.2.2⟩
  unfold rjwN
  rw [key]
  rw [Nat.shiftLeft_eq, Nat.one_mul, Nat.testBit_two_pow]
  refine ⟨fun h => h.elim (fun h => Or.inl (of_decide_eq_true h).symm) (fun h => Or.inr ⟨by omega, h.2.2⟩), fun h => h.elim (fun h => Or.inl (decide_eq_true h.symm)) (fun h => Or.inr ⟨Nat.zero_le _, by omega, h.2⟩)⟩
theorem and_ne {a b : Nat} : ¬ a &&& b = 0 ↔ ∃ q, a.testBit q = true ∧ b.testBit q = true := by
  refine ⟨fun h => ?_, fun ⟨q, h1, h2⟩ e => ?_⟩
  · obtain ⟨q, hq⟩ := Nat.exists_testBit_of_ne_zero h
    rw [Nat.testBit_and, Bool.and_eq_true] at hq
    exact ⟨q, hq⟩
  · have : (a &&& b).testBit q = true := by rw [Nat.testBit_and, h1, h2]; rfl
    rw [e, Nat.zero_testBit] at this; cases this
theorem net_rows {pos : Nat → Nat} {R C x : Nat} {cl : Nat → Nat} (h : NetR pos R C x cl) (hR : R ≤ 8) (hC : 1 ≤ C ∧ C ≤ 8) (r : Nat) : (cnF pos R C x r).1 = rjwN (joinN cl (fun _ => 0)) r := by
  apply Nat.eq_of_testBit_eq
  intro i
  apply Bool.eq_iff_iff.mpr
  rw [cnF_rows hR hC, rjw_bit]
  have g := J_rows (h.lt hC.2) (h.hi hR) r i
  have e : (∀ P Q, Cl pos R C x P Q → (P r ↔ P i)) ↔ ∀ P Q, Cc cl P Q → (P r ↔ P i) := ⟨fun g P Q hc => g P Q ((h.cc hC.1 P Q).mp hc), fun g P Q hc => g P Q ((h.cc hC.1 P Q).mpr hc)⟩
  rw [e, ← g]
  refine ⟨fun z => z.elim Or.inl (fun ⟨q, q1, q2⟩ => Or.inr ⟨?_, and_ne.mpr ⟨q, q2, q1⟩⟩), fun z => z.elim Or.inl (fun ⟨_, q⟩ => Or.inr ?_)⟩
  · rcases Nat.lt_or_ge i 8 with w | w
    · exact w
    · have : joinN cl (fun _ => 0) i = 0 := joinN_hi w
      rw [this, Nat.zero_testBit] at q2; cases q2
  · obtain ⟨q, q1, q2⟩ := and_ne.mp q
    exact ⟨q, q2, q1⟩
