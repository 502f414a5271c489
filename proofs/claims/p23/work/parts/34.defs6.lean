/-! answers -/
theorem sel5_mid {w : Int32} {a0 x a4 : Int32} (h : wiB w (nI 1) (nI 3) = true) : selN w 4 (sel5 a0 x x x a4) = x := by
  obtain ⟨n, h1, h2, e⟩ := wi_nat (by decide) (by decide) h
  rw [selN_in e (by omega) (by decide)]
  have : n = 1 ∨ n = 2 ∨ n = 3 := by omega
  rcases this with rfl | rfl | rfl <;> rfl
def cvS (st : Nat → Int32) (v : Nat) (s : Nat × Nat) : Nat × Nat := (s.1 + (if st v = nI 0 then 0 else 1), s.2 + (if st v = nI 2 then 1 else 0))
def cvM (st : Nat → Int32) (V : Nat) : Nat × Nat := lfor (cvS st) 0 V (0, 0)
theorem lt_min16 {en : Int32} {mk : Nat} (h1 : en < nI 16) (h2 : en < nI mk) : en < nI (min mk 16) := by
  rcases Nat.le_total mk 16 with h | h
  · rw [Nat.min_eq_left h]; exact h2
  · rw [Nat.min_eq_right h]; exact h1
theorem updN_back (pos : Nat → Nat) (k x : Nat) : updN (updN pos k x) k (pos k) = pos := by
  funext j
  unfold updN
  by_cases h : j = k
  · rw [if_pos h, h]
  · rw [if_neg h, if_neg h]
theorem gcM_le (fs gs : Nat → Bool) (pos : Nat → Nat) (n : Nat) : gcM fs gs pos n ≤ n := by
  have key : ∀ (n i u : Nat), lfor (fun k a => a + (if ghM fs gs pos k = true then 1 else 0)) i n u ≤ u + n := by
    intro n
    induction n with
    | zero => intro i u; exact Nat.le_refl _
    | succ n ih =>
      intro i u
      show lfor _ (i + 1) n (u + (if ghM fs gs pos i = true then 1 else 0)) ≤ _
      have h := ih (i + 1) (u + (if ghM fs gs pos i = true then 1 else 0))
      by_cases e : ghM fs gs pos i = true
      · rw [if_pos e] at h ⊢; omega
      · rw [if_neg e] at h ⊢; omega
  have := key n 0 0
  unfold gcM
  omega
abbrev WS : Type := Int32 × Nat × (Nat → Bool) × (Nat → Bool)
/-- the reference's look for the worst key -/
def wmS (dio : Bool) (pos : Nat → Nat) (R C k : Nat) (s : WS) : WS :=
  if 0 < pos k then
    (if gcM (apA dio (updN pos k 0) R C (s.2.2.1, s.2.2.2)).1 (apA dio (updN pos k 0) R C (s.2.2.1, s.2.2.2)).2 (updN pos k 0) (R * C) < s.2.1 then
      (nI k, gcM (apA dio (updN pos k 0) R C (s.2.2.1, s.2.2.2)).1 (apA dio (updN pos k 0) R C (s.2.2.1, s.2.2.2)).2 (updN pos k 0) (R * C), (apA dio (updN pos k 0) R C (s.2.2.1, s.2.2.2)).1, (apA dio (updN pos k 0) R C (s.2.2.1, s.2.2.2)).2)
    else (s.1, s.2.1, (apA dio (updN pos k 0) R C (s.2.2.1, s.2.2.2)).1, (apA dio (updN pos k 0) R C (s.2.2.1, s.2.2.2)).2))
  else s
def wmN (dio : Bool) (pos : Nat → Nat) (R C : Nat) (fs gs : Nat → Bool) : WS := lfor (wmS dio pos R C) 0 (R * C) ((-3), gcM fs gs pos (R * C), fs, gs)
/-! the class's look for the worst key -/
def gwN (dio : Bool) (cl jn dl dn : Nat → Nat) (R C k : Nat) : Nat := gcN dio (putC cl (k / C) (k % C) (decide (1 ≤ 0))) (putJ cl jn (k / C) (k % C) (decide (1 ≤ 0))) (putC dl (k / C) (k % C) (decide (0 = 2))) (putJ dl dn (k / C) (k % C) (decide (0 = 2))) R
def wxL (pos : Nat → Nat) (gw : Nat → Nat) : Nat → Nat → Int32 × Nat → Int32
  | _, 0, s => s.1
  | i, n + 1, s => if 0 < s.2 then wxL pos gw (i + 1) n (if pos i = 0 then s else if gw i < s.2 then (nI i, gw i) else s) else s.1
theorem put_back {cl : Nat → Nat} {r c : Nat} (h : cl r < 256) (hc : c < 8) {b : Bool} (hb : (cl r).testBit c = b) : putC (putC cl r c false) r c b = cl := by
  funext j
  unfold putC updN
  by_cases e : j = r
  · rw [if_pos e, if_pos rfl, e]
    subst hb
    apply Nat.eq_of_testBit_eq
    intro i
    have h255 : (255 : Nat).testBit i = decide (i < 8) := by rw [show (255 : Nat) = 2 ^ 8 - 1 from rfl, Nat.testBit_two_pow_sub_one]
    have hbig : ¬ i < 8 → (cl r).testBit i = false := fun q => Nat.testBit_lt_two_pow (Nat.lt_of_lt_of_le h (show 256 ≤ 2 ^ i from Nat.pow_le_pow_right (n := 2) (i := 8) (by decide) (by omega)))
    have han : ∀ a : Nat, (an8 a (1 <<< c)).testBit i = (a.testBit i && (decide (i < 8) ^^ decide (i = c))) := by
      intro a
      unfold an8
      rw [Nat.testBit_and, Nat.testBit_xor, h255, Nat.shiftLeft_eq, Nat.one_mul, Nat.testBit_two_pow]
      congr 2
      by_cases q : c = i <;> simp [q, eq_comm]
    by_cases q : i = c
    · subst q
      cases hq : (cl r).testBit i
      · rw [if_neg (by decide), han, if_neg (by decide), han, hq]; rfl
      · rw [if_pos rfl, Nat.shiftLeft_eq, Nat.one_mul, fb_bit_set]; simp
    · have : (if (cl r).testBit c = true then (if (false : Bool) = true then cl r ||| 1 <<< c else an8 (cl r) (1 <<< c)) ||| 1 <<< c else an8 (if (false : Bool) = true then cl r ||| 1 <<< c else an8 (cl r) (1 <<< c)) (1 <<< c)).testBit i = (cl r).testBit i := by
        rw [if_neg (show ¬ (false : Bool) = true by decide)]
        by_cases w : (cl r).testBit c = true
        · rw [if_pos w, Nat.shiftLeft_eq, Nat.one_mul, fb_bit_set, ← Nat.one_mul (2 ^ c), ← Nat.shiftLeft_eq, han]
          by_cases z : i < 8
          · simp [z, q]
          · simp [hbig z, q]
        · rw [if_neg w, han, han]
          by_cases z : i < 8
          · simp [z, q]
          · simp [hbig z]
      exact this
  · rw [if_neg e, if_neg e]
theorem lfor_keep {f : Nat → (Nat → Nat) → (Nat → Nat)} {j : Nat} (h : ∀ i s, (f i s) j = s j) : ∀ (n i : Nat) (s : Nat → Nat), (lfor f i n s) j = s j
  | 0, _, _ => rfl
  | n + 1, i, s => (lfor_keep h n (i + 1) (f i s)).trans (h i s)
theorem lfor_ext {σ : Type} {f g : Nat → σ → σ} : ∀ (n i : Nat) (s : σ), (∀ k t, i ≤ k → k < i + n → f k t = g k t) → lfor f i n s = lfor g i n s
  | 0, _, _, _ => rfl
  | n + 1, i, s, h => by
    show lfor f (i + 1) n (f i s) = lfor g (i + 1) n (g i s)
    rw [h i s (Nat.le_refl _) (by omega)]
    exact lfor_ext n (i + 1) (g i s) (fun k t h1 h2 => h k t (by omega) (by omega))
theorem jthru_hi {j : Nat → Nat} {b q : Nat} (hq : 8 ≤ q) : jthru j b q = j q := by
  have key : ∀ (n i : Nat) (s : Nat → Nat), i + n ≤ 8 → (lfor (fun r j' => if j' r &&& b = 0 then j' else updN j' r (uniN j b)) i n s) q = s q := by
    intro n
    induction n with
    | zero => intro i s _; rfl
    | succ n ih =>
      intro i s hi
      refine (ih (i + 1) _ (by omega)).trans ?_
      show (if s i &&& b = 0 then s else updN s i (uniN j b)) q = s q
      by_cases e : s i &&& b = 0
      · rw [if_pos e]
      · rw [if_neg e]; exact if_neg (by omega)
  exact key 8 0 j (by decide)
theorem joinN_hi {cl jn : Nat → Nat} {q : Nat} (hq : 8 ≤ q) : joinN cl jn q = jn q := by
  have h := lfor_keep (f := fun c j => jthru j (1 <<< c)) (j := q) (fun i s => jthru_hi hq) 8 0 (fa_fill cl jn 8)
  refine h.trans ?_
  exact if_neg (by omega)
/-- the joins depend on the closed contacts alone -/
theorem joinN_of {cl jn jm : Nat → Nat} (h : ∀ q, 8 ≤ q → jn q = jm q) : joinN cl jn = joinN cl jm := by
  have : fa_fill cl jn 8 = fa_fill cl jm 8 := by
    funext q
    unfold fa_fill
    by_cases e : q < 8
    · rw [if_pos e, if_pos e]
    · rw [if_neg e, if_neg e]; exact h q (by omega)
  unfold joinN
  rw [this]
theorem putJ_back {cl jn : Nat → Nat} {r c : Nat} (h : cl r < 256) (hc : c < 8) {b : Bool} (hb : (cl r).testBit c = b) (hj : jn = joinN cl (fun _ => 0)) : putJ (putC cl r c false) (putJ cl jn r c false) r c b = jn := by
  have hz : ∀ q, 8 ≤ q → jn q = 0 := fun q hq => by rw [hj]; exact joinN_hi hq
  unfold putJ
  rw [put_back h hc hb, hj]
  refine joinN_of (fun q hq => ?_)
  rw [joinN_hi hq]
  exact joinN_hi hq
theorem gcN_le (dio : Bool) (cl jn dl dn : Nat → Nat) (R : Nat) : gcN dio cl jn dl dn R ≤ R * 8 := by
  have key : ∀ (n i u : Nat), lfor (fun r a => a + pop8 (ghN dio cl jn dl dn r)) i n u ≤ u + n * 8 := by
    intro n
    induction n with
    | zero => intro i u; exact Nat.le_add_right _ _
    | succ n ih =>
      intro i u
      show lfor _ (i + 1) n (u + pop8 (ghN dio cl jn dl dn i)) ≤ _
      have h := ih (i + 1) (u + pop8 (ghN dio cl jn dl dn i))
      have := pop8_le (ghN dio cl jn dl dn i)
      omega
  have := key R 0 0
  unfold gcN
  omega
