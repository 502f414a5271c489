/-! rest, and what the pedals tell -/
theorem raN_or (p : Nat → Bool) : ∀ (n i : Nat), (raN p i n = (-3) ∧ ∀ m, i ≤ m → m < i + n → p m = false) ∨ ∃ d, i ≤ d ∧ d < i + n ∧ raN p i n = nI d ∧ p d = true ∧ ∀ m, i ≤ m → m < d → p m = false
  | 0, i => Or.inl ⟨rfl, fun m h1 h2 => by omega⟩
  | n + 1, i => by
    by_cases e : p i = true
    · exact Or.inr ⟨i, Nat.le_refl _, by omega, if_pos e, e, fun m h1 h2 => by omega⟩
    · have e1 : raN p i (n + 1) = raN p (i + 1) n := if_neg e
      have e2 : p i = false := by simpa using e
      rw [e1]
      rcases raN_or p n (i + 1) with ⟨h1, h2⟩ | ⟨d, h1, h2, h3, h4, h5⟩
      · refine Or.inl ⟨h1, fun m g1 g2 => ?_⟩
        rcases Nat.eq_or_lt_of_le g1 with z | z
        · rw [← z]; exact e2
        · exact h2 m z (by omega)
      · refine Or.inr ⟨d, by omega, by omega, h3, h4, fun m g1 g2 => ?_⟩
        rcases Nat.eq_or_lt_of_le g1 with z | z
        · rw [← z]; exact e2
        · exact h5 m z g2
section
variable {s : KSt} {R C V N : Nat}
theorem tickN_kT (s : KSt) : ∀ n, kT (tickN n s) = kT s + n
  | 0 => rfl
  | n + 1 => by
    show kT (tickN n s) + 1 = kT s + (n + 1)
    rw [tickN_kT s n]; omega
theorem tickN_FG (s : KSt) : ∀ n, kF (tickN n s) = kF s ∧ kG (tickN n s) = kG s
  | 0 => ⟨rfl, rfl⟩
  | n + 1 => tickN_FG s n
theorem tickN_ph (h : INV s R C V N) (hN : N ≤ 3000) : ∀ n, n ≤ 900 → kph (tickN n s) = passP (kF s) (kG s) (kT s) R C (min n R) (kph s)
  | 0, _ => by rw [Nat.zero_min]; exact pass_0.symm
  | n + 1, hn => by
    have ih := tickN_ph h hN n (by omega)
    obtain ⟨hR, hC, hV, hp⟩ := h.rR
    have hn' := h.tkN n (by omega)
    have e := (hn'.trow (by omega)).1
    rw [(tickN_FG s n).1, (tickN_FG s n).2, tickN_kT, ih] at e
    show kph (tick1 (tickN n s)) = _
    rw [e]
    rcases Nat.lt_or_ge n R with z | z
    · rw [Nat.min_eq_left (by omega), Nat.min_eq_left (by omega)]
      exact pass_step hR hC.1 z
    · rw [Nat.min_eq_right (by omega), Nat.min_eq_right (by omega)]
      funext j
      unfold rowP
      by_cases q : (kT s + n) % R * C ≤ j ∧ j < (kT s + n) % R * C + C
      · rw [if_pos q]
        have hr : (kT s + n) % R < R := Nat.mod_lt _ (by omega)
        have hj : j < R * C := by
          have : (kT s + n) % R * C + C ≤ R * C := by rw [← Nat.succ_mul]; exact Nat.mul_le_mul_right C hr
          omega
        exact sett_fix (pass_sett hR hC.1 h.gf h.ph hj)
      · rw [if_neg q]
theorem rest_or (h : INV s R C V N) (hN : N ≤ 3000) {t : Nat} (ht : 1 ≤ t ∧ t ≤ 20) : ∃ N9, N9 ≤ t ∧ ((raN (arN (kph s) (seenN (kdio s) (kcl s) (kjn s)) (kT s) R C) 0 (min t R + 1) < nI 0 ∧ N9 = t) ∨ (¬ raN (arN (kph s) (seenN (kdio s) (kcl s) (kjn s)) (kT s) R C) 0 (min t R + 1) < nI 0 ∧ raN (arN (kph s) (seenN (kdio s) (kcl s) (kjn s)) (kT s) R C) 0 (min t R + 1) = nI N9)) ∧ ∀ n, n ≤ N9 → (nI n = raN (arN (kph s) (seenN (kdio s) (kcl s) (kjn s)) (kT s) R C) 0 (min t R + 1) ↔ ∀ k, k < R * C → kph (tickN n s) k = nI 0) := by
  obtain ⟨hR, hC, hV, hp⟩ := h.rR
  have hF : ∀ k, k < R * C → kF s k = fsB (seenN (kdio s) (kcl s) (kjn s)) C k := fun k _ => by
    have h2 : kC s = C := h.2.1
    show fsB _ (kC s) k = _
    rw [h2]
  have har : ∀ n, n ≤ R → (arN (kph s) (seenN (kdio s) (kcl s) (kjn s)) (kT s) R C n = true ↔ ∀ k, k < R * C → kph (tickN n s) k = nI 0) := fun n hn => by
    rw [tickN_ph h hN n (by omega), Nat.min_eq_left hn]
    exact ar_iff (F := kF s) (G := kG s) hC.1 h.ph h.gf hF (fun r c hb => (h.hin r c hb).2)
  rcases raN_or (arN (kph s) (seenN (kdio s) (kcl s) (kjn s)) (kT s) R C) (min t R + 1) 0 with ⟨h1, h2⟩ | ⟨d, h1, h2, h3, h4, h5⟩
  · rw [h1]
    refine ⟨t, Nat.le_refl _, Or.inl ⟨by decide, rfl⟩, fun n hn => ⟨fun e => absurd e (nI_m3 (by omega)), fun e => ?_⟩⟩
    exfalso
    have hm : min n R ≤ min t R := by omega
    have h6 := h2 (min n R) (Nat.zero_le _) (by omega)
    have h7 := (har (min n R) (Nat.min_le_right _ _)).mpr (by
      intro k hk
      have := e k hk
      rw [tickN_ph h hN n (by omega)] at this
      rw [tickN_ph h hN (min n R) (by omega), Nat.min_eq_left (Nat.min_le_right _ _)]
      exact this)
    rw [h6] at h7; cases h7
  · rw [h3]
    refine ⟨d, by omega, Or.inr ⟨fun q => absurd ((xI_lt (by omega) (by decide)).mp q) (Nat.not_lt_zero _), rfl⟩, fun n hn => ?_⟩
    rw [xI_inj (by omega) (by omega), ← har n (by omega)]
    constructor
    · rintro rfl; exact h4
    · intro e
      rcases Nat.lt_or_ge n d with z | z
      · rw [h5 n (Nat.zero_le _) z] at e; cases e
      · omega
/-! pedals -/
theorem fk_VI {n B : Nat} {sus0 sos0 sus sos : Bool} {kk ve si : Nat → Int32} {now : Int32} {s : VJ} (h : VI V n B sus0 sos0 s.1 kk ve si s.2.1) (hc1 : ∀ v, s.2.1 v = true → sos = true) : VI V n B sus sos (fkV kk now sus sos V s).1.1 kk ve si (fkV kk now sus sos V s).1.2.1 := by
  obtain ⟨h1, h2, _, _⟩ := fk_at kk now sus sos s V
  unfold fkV
  generalize lfor (fkS kk now sus sos) 0 V (s, 0) = X at h1 h2
  have hst : ∀ v, X.1.1 v = nI 0 ∨ X.1.1 v = s.1 v := fun v => by
    rw [h1]
    split
    · exact Or.inl rfl
    · exact Or.inr rfl
  have hlt : ∀ v, ¬ X.1.1 v = nI 0 → v < V := fun v hv => by
    have e := (hst v).resolve_left hv
    rw [e] at hv
    exact (h.2.1 v hv).1
  refine h.free hst hlt (fun v hv => ?_) (fun v hv => ?_) (fun v hv => ?_)
  · have hv0 := hlt v (by rw [hv]; decide)
    have e := (hst v).resolve_left (by rw [hv]; decide)
    have hP : ¬ (v < V ∧ fkP sus sos s.1 s.2.1 v = true) := fun q => by
      rw [h1, if_pos q] at hv; exact absurd hv (by decide)
    have hca : X.1.2.1 v = s.2.1 v := by rw [h2, if_neg hP]
    have hkp : fkP sus sos s.1 s.2.1 v = false := by
      cases q : fkP sus sos s.1 s.2.1 v
      · rfl
      · exact absurd ⟨hv0, q⟩ hP
    unfold fkP at hkp
    rw [decide_eq_true (e ▸ hv)] at hkp
    have : kpB sus sos s.2.1 v = true := by simpa using hkp
    unfold kpB at this ⊢
    rw [hca]; exact this
  · rw [h2]
    split
    · rfl
    · rename_i q
      rw [h1, if_neg q] at hv
      exact h.2.2.2.1 v hv
  · rw [h2] at hv
    split at hv
    · cases hv
    · exact hc1 v hv
theorem isN_eq_ct (st : Nat → Int32) (V : Nat) : isN st (nI 1) V = fb_ct (fun v => decide (st v = nI 1)) V := isN_ct _ _ _
theorem INV.su_told (h : INV s R C V N) (dn : Bool) : (msuV (kkk s) (nI (kT s)) (kSus s) (kSos s) dn V (vjOf s)).2 = fsu s V dn ∧ kmk (suS s dn) = kmk s + fsu s V dn ∧ isN (kst (suS s dn)) (nI 2) V = isN (kst s) (nI 2) V - fsu s V dn ∧ isN (kst (suS s dn)) (nI 0) V = isN (kst s) (nI 0) V + fsu s V dn ∧ fsu s V dn ≤ isN (kst s) (nI 2) V := by
  have h3 : kV s = V := h.2.2.1
  have key : (msuV (kkk s) (nI (kT s)) (kSus s) (kSos s) dn V (vjOf s)).2 = fsu s V dn ∧ (msuV (kkk s) (nI (kT s)) (kSus s) (kSos s) dn V (vjOf s)).1.2.2.2.2.2 = kmk s + fsu s V dn ∧ isN (msuV (kkk s) (nI (kT s)) (kSus s) (kSos s) dn V (vjOf s)).1.1 (nI 2) V = isN (kst s) (nI 2) V - fsu s V dn ∧ isN (msuV (kkk s) (nI (kT s)) (kSus s) (kSos s) dn V (vjOf s)).1.1 (nI 0) V = isN (kst s) (nI 0) V + fsu s V dn ∧ fsu s V dn ≤ isN (kst s) (nI 2) V := by
    unfold msuV fsu
    by_cases e : dn = kSus s
    · rw [if_pos e]
      have z : (if kSus s = true then (if dn = true then 0 else if kSos s = true then isN (kst s) (nI 2) V - fb_ct (fun v => decide (kst s v = nI 2) && kca s v) V else isN (kst s) (nI 2) V) else 0) = 0 := by
        by_cases q : kSus s = true
        · rw [if_pos q, if_pos (e.trans q)]
        · rw [if_neg q]
      rw [z]
      exact ⟨rfl, rfl, rfl, rfl, Nat.zero_le _⟩
    · rw [if_neg e]
      by_cases e2 : dn = true
      · rw [if_pos e2]
        have q : kSus s = false := by cases w : kSus s <;> first | rfl | exact absurd (e2.trans w.symm) e
        rw [q, if_neg Bool.false_ne_true]
        exact ⟨rfl, rfl, rfl, rfl, Nat.zero_le _⟩
      · rw [if_neg e2]
        have q0 : dn = false := by simpa using e2
        have q : kSus s = true := by cases w : kSus s <;> first | rfl | exact absurd (q0.trans w.symm) e
        rw [q, if_pos rfl, if_neg e2, q0]
        obtain ⟨g1, g2, g3, g4, g5⟩ := fk_counts (kkk s) (nI (kT s)) false (kSos s) (vjOf s) V
        have hc : (fkV (kkk s) (nI (kT s)) false (kSos s) V (vjOf s)).2 = (if kSos s = true then isN (kst s) (nI 2) V - fb_ct (fun v => decide (kst s v = nI 2) && kca s v) V else isN (kst s) (nI 2) V) := by
          rw [g4]
          by_cases w : kSos s = true
          · rw [if_pos w, isN_ct]
            have e5 : fb_ct (fun v => decide (kst s v = nI 2)) V = fb_ct (fkP false (kSos s) (vjOf s).1 (vjOf s).2.1) V + fb_ct (fun v => decide (kst s v = nI 2) && kca s v) V := by
              rw [← fb_ct_or (fun k hk => by
                rintro ⟨a, b⟩
                unfold fkP kpB at a
                rw [w] at a
                revert a b
                show (decide (kst s k = nI 2) && !(if false = true then true else if true = true then (if kca s k = true then true else false) else false)) = true → (decide (kst s k = nI 2) && kca s k) = true → False
                cases kca s k <;> cases decide (kst s k = nI 2) <;> decide)]
              refine fb_ct_cong (fun k hk => ?_)
              unfold fkP kpB
              rw [w]
              show decide (kst s k = nI 2) = ((decide (kst s k = nI 2) && !(if false = true then true else if true = true then (if kca s k = true then true else false) else false)) || (decide (kst s k = nI 2) && kca s k))
              cases kca s k <;> cases decide (kst s k = nI 2) <;> decide
            omega
          · rw [if_neg w, isN_ct]
            refine fb_ct_cong (fun k hk => ?_)
            have w' : kSos s = false := by simpa using w
            unfold fkP kpB
            rw [w']
            simp
        rw [hc] at g1 g2 g3 g5
        exact ⟨hc, g5, g1, g2, g3⟩
  unfold suS
  simp only [h3]
  exact key
theorem INV.so_told (h : INV s R C V N) (dn : Bool) : (msoV (kkk s) (nI (kT s)) (kSus s) (kSos s) dn V (vjOf s)).2 = (if dn = true then (if kSos s = true then fso s V dn else isN (kst s) (nI 1) V) else fso s V dn) ∧ kmk (soS s dn) = kmk s + fso s V dn ∧ isN (kst (soS s dn)) (nI 2) V = isN (kst s) (nI 2) V - fso s V dn ∧ (isN (kst (soS s dn)) (nI 0) V = isN (kst s) (nI 0) V + fso s V dn ∧ fso s V dn ≤ isN (kst s) (nI 2) V) ∧ (dn = true → kSos s = true → fb_ct (kca (soS s dn)) V = fb_ct (kca s) V) ∧ (dn = true → kSos s = false → fb_ct (kca (soS s dn)) V = isN (kst s) (nI 1) V) ∧ (dn = false → fb_ct (kca (soS s dn)) V = 0) := by
  have h3 : kV s = V := h.2.2.1
  have hca := h.vi.2.2.2.2
  have key : (msoV (kkk s) (nI (kT s)) (kSus s) (kSos s) dn V (vjOf s)).2 = (if dn = true then (if kSos s = true then fso s V dn else isN (kst s) (nI 1) V) else fso s V dn) ∧ (msoV (kkk s) (nI (kT s)) (kSus s) (kSos s) dn V (vjOf s)).1.2.2.2.2.2 = kmk s + fso s V dn ∧ isN (msoV (kkk s) (nI (kT s)) (kSus s) (kSos s) dn V (vjOf s)).1.1 (nI 2) V = isN (kst s) (nI 2) V - fso s V dn ∧ (isN (msoV (kkk s) (nI (kT s)) (kSus s) (kSos s) dn V (vjOf s)).1.1 (nI 0) V = isN (kst s) (nI 0) V + fso s V dn ∧ fso s V dn ≤ isN (kst s) (nI 2) V) ∧ (dn = true → kSos s = true → fb_ct (msoV (kkk s) (nI (kT s)) (kSus s) (kSos s) dn V (vjOf s)).1.2.1 V = fb_ct (kca s) V) ∧ (dn = true → kSos s = false → fb_ct (msoV (kkk s) (nI (kT s)) (kSus s) (kSos s) dn V (vjOf s)).1.2.1 V = isN (kst s) (nI 1) V) ∧ (dn = false → fb_ct (msoV (kkk s) (nI (kT s)) (kSus s) (kSos s) dn V (vjOf s)).1.2.1 V = 0) := by
    unfold msoV fso
    by_cases e : dn = kSos s
    · rw [if_pos e]
      have z : (if kSos s = true then (if dn = true then 0 else if kSus s = true then 0 else isN (kst s) (nI 2) V) else 0) = 0 := by
        by_cases q : kSos s = true
        · rw [if_pos q, if_pos (e.trans q)]
        · rw [if_neg q]
      rw [z]
      refine ⟨?_, rfl, rfl, ⟨rfl, Nat.zero_le _⟩, fun _ _ => rfl, fun a b => ?_, fun a => ?_⟩
      · by_cases q : dn = true
        · rw [if_pos q, if_pos (e.symm.trans q)]
        · rw [if_neg q]
      · rw [← e, a] at b; cases b
      · have hs : kSos s = false := e.symm.trans a
        exact fb_ct_zero.mpr (fun k _ => by
          cases w : kca s k
          · exact w
          · have := hca k w; rw [hs] at this; cases this)
    · rw [if_neg e]
      by_cases e2 : dn = true
      · rw [if_pos e2]
        have q : kSos s = false := by cases w : kSos s <;> first | rfl | exact absurd (e2.trans w.symm) e
        rw [q, if_neg Bool.false_ne_true, if_pos e2, if_neg Bool.false_ne_true]
        refine ⟨rfl, rfl, rfl, ⟨rfl, Nat.zero_le _⟩, fun _ b => (by cases b), fun _ _ => ?_, fun a => by rw [e2] at a; cases a⟩
        rw [isN_ct]
        refine fb_ct_cong (fun k hk => ?_)
        show lfor (capS (kst s) dn) 0 V (kca s) k = _
        rw [cap_at, if_pos hk, if_pos e2]
      · rw [if_neg e2]
        have q0 : dn = false := by simpa using e2
        have q : kSos s = true := by cases w : kSos s <;> first | rfl | exact absurd (q0.trans w.symm) e
        rw [q, if_pos rfl, if_neg e2, if_neg e2]
        obtain ⟨g1, g2, g3, g4, g5⟩ := fk_counts (kkk s) (nI (kT s)) (kSus s) dn (kst s, capV (kst s) dn V (kca s), kjt s, kjk s, kjy s, kmk s) V
        have hc : (fkV (kkk s) (nI (kT s)) (kSus s) dn V (kst s, capV (kst s) dn V (kca s), kjt s, kjk s, kjy s, kmk s)).2 = (if kSus s = true then 0 else isN (kst s) (nI 2) V) := by
          rw [g4]
          by_cases w : kSus s = true
          · rw [if_pos w]
            refine fb_ct_zero.mpr (fun k _ => ?_)
            unfold fkP kpB
            rw [w]; simp
          · rw [if_neg w, isN_ct]
            have w' : kSus s = false := by simpa using w
            refine fb_ct_cong (fun k hk => ?_)
            unfold fkP kpB
            rw [w', q0]; simp
        rw [hc] at g1 g2 g3 g5
        refine ⟨hc, g5, g1, ⟨g2, g3⟩, fun a => absurd a e2, fun a => absurd a e2, fun _ => fb_ct_zero.mpr (fun k hk => ?_)⟩
        have h2 := (fk_at (kkk s) (nI (kT s)) (kSus s) dn (kst s, capV (kst s) dn V (kca s), kjt s, kjk s, kjy s, kmk s) V).2.1 k
        show (lfor (fkS (kkk s) (nI (kT s)) (kSus s) dn) 0 V ((kst s, capV (kst s) dn V (kca s), kjt s, kjk s, kjy s, kmk s), 0)).1.2.1 k = false
        rw [h2]
        split
        · rfl
        · show lfor (capS (kst s) dn) 0 V (kca s) k = false
          rw [cap_at, if_pos hk, if_neg e2]
  unfold soS
  simp only [h3]
  exact key
theorem INV.su (h : INV s R C V N) (dn : Bool) : INV (suS s dn) R C V (N + 1) := by
  have hm := (h.su_told dn).2.1
  have hf := (h.su_told dn).2.2.2.2
  have hi := isN_V (kst s) (nI 2) V
  have hvi := h.vi
  obtain ⟨h1, h2, h3, h4, h5, h6, h7, h8, h9, h10, h11, h12, h13⟩ := h
  refine ⟨h1, h2, h3, h4, h5, h6, h7, h8, h9, ?_, h11, by show kT s ≤ N + 1; omega, by omega⟩
  show VI V (R * C) (kT s) dn (kSos s) (msuV (kkk s) (nI (kT s)) (kSus s) (kSos s) dn (kV s) (vjOf s)).1.1 (kkk s) (kve s) (ksi s) (msuV (kkk s) (nI (kT s)) (kSus s) (kSos s) dn (kV s) (vjOf s)).1.2.1
  rw [h3]
  unfold msuV
  by_cases e : dn = kSus s
  · rw [if_pos e, e]; exact h10
  · rw [if_neg e]
    by_cases e2 : dn = true
    · rw [if_pos e2, e2]
      exact h10.free (fun v => Or.inr rfl) (fun v hv => (h10.2.1 v hv).1) (fun v _ => by unfold kpB; rw [if_pos rfl]) h10.2.2.2.1 h10.2.2.2.2
    · rw [if_neg e2]
      exact fk_VI (s := vjOf s) h10 h10.2.2.2.2
theorem INV.so (h : INV s R C V N) (dn : Bool) : INV (soS s dn) R C V (N + 1) := by
  have hm := (h.so_told dn).2.1
  have hf := (h.so_told dn).2.2.2.1.2
  have hi := isN_V (kst s) (nI 2) V
  obtain ⟨h1, h2, h3, h4, h5, h6, h7, h8, h9, h10, h11, h12, h13⟩ := h
  refine ⟨h1, h2, h3, h4, h5, h6, h7, h8, h9, ?_, h11, by show kT s ≤ N + 1; omega, by omega⟩
  show VI V (R * C) (kT s) (kSus s) dn (msoV (kkk s) (nI (kT s)) (kSus s) (kSos s) dn (kV s) (vjOf s)).1.1 (kkk s) (kve s) (ksi s) (msoV (kkk s) (nI (kT s)) (kSus s) (kSos s) dn (kV s) (vjOf s)).1.2.1
  rw [h3]
  unfold msoV
  by_cases e : dn = kSos s
  · rw [if_pos e, e]; exact h10
  · rw [if_neg e]
    have hcap : ∀ v, capV (kst s) dn V (kca s) v = if v < V then (if dn = true then decide (kst s v = nI 1) else false) else kca s v := fun v => cap_at (kst s) dn (kca s) V v
    have hbig : ∀ v, ¬ v < V → kst s v = nI 0 ∧ kca s v = false := fun v hv => by
      have e0 : kst s v = nI 0 := Decidable.of_not_not (fun q => hv (h10.2.1 v q).1)
      exact ⟨e0, h10.2.2.2.1 v e0⟩
    have hfree : ∀ v, kst s v = nI 0 → capV (kst s) dn V (kca s) v = false := fun v hv => by
      rw [hcap]
      by_cases z : v < V
      · rw [if_pos z, hv]; cases dn <;> rfl
      · rw [if_neg z]; exact (hbig v z).2
    by_cases e2 : dn = true
    · rw [if_pos e2]
      have q : kSos s = false := by cases w : kSos s <;> first | rfl | exact absurd (e2.trans w.symm) e
      refine h10.free (fun v => Or.inr rfl) (fun v hv => (h10.2.1 v hv).1) (fun v hv => ?_) hfree (fun v _ => e2)
      have := (h10.1.2 v hv).2
      unfold kpB at this ⊢
      rw [q, if_neg Bool.false_ne_true] at this
      by_cases z : kSus s = true
      · rw [if_pos z]
      · rw [if_neg z] at this; cases this
    · rw [if_neg e2]
      have q0 : dn = false := by simpa using e2
      have hV0 : VI V (R * C) (kT s) true true (kst s) (kkk s) (kve s) (ksi s) (capV (kst s) dn V (kca s)) := h10.free (fun v => Or.inr rfl) (fun v hv => (h10.2.1 v hv).1) (fun v _ => by unfold kpB; rw [if_pos rfl]) hfree (fun _ _ => rfl)
      refine fk_VI (s := (kst s, capV (kst s) dn V (kca s), kjt s, kjk s, kjy s, kmk s)) hV0 (fun v hv => ?_)
      have hv' : capV (kst s) dn V (kca s) v = true := hv
      rw [hcap] at hv'
      by_cases z : v < V
      · rw [if_pos z, if_neg e2] at hv'; cases hv'
      · rw [if_neg z, (hbig v z).2] at hv'; cases hv'
end
