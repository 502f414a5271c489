/-! settings and pedals of both -/
theorem lim_keep {V q : Nat} {sus sos : Bool} {kk : Nat → Int32} {now : Int32} {s : VJ} (h : SI V sus sos s.1 s.2.1) : ∀ n, (SI V sus sos (lfor (limS kk now) q n s).1 (lfor (limS kk now) q n s).2.1) ∧ ∀ v, q ≤ v → v < q + n → (lfor (limS kk now) q n s).1 v = nI 0 := by
  have key : ∀ (n i : Nat) (s : VJ), q ≤ i → SI V sus sos s.1 s.2.1 → (∀ v, q ≤ v → v < i → s.1 v = nI 0) → SI V sus sos (lfor (limS kk now) i n s).1 (lfor (limS kk now) i n s).2.1 ∧ ∀ v, q ≤ v → v < i + n → (lfor (limS kk now) i n s).1 v = nI 0 := by
    intro n
    induction n with
    | zero => intro i s _ h h2; exact ⟨h, fun v h3 h4 => h2 v h3 h4⟩
    | succ n ih =>
      intro i s hqi h h2
      show SI V sus sos (lfor (limS kk now) (i + 1) n (limS kk now i s)).1 (lfor (limS kk now) (i + 1) n (limS kk now i s)).2.1 ∧ _
      have e0 : lfor (limS kk now) i (n + 1) s = lfor (limS kk now) (i + 1) n (limS kk now i s) := rfl
      rw [e0, show i + (n + 1) = i + 1 + n by omega]
      refine ih (i + 1) _ (by omega) ?_ (fun v h3 h4 => ?_)
      · unfold limS
        by_cases e : s.1 i = nI 0
        · rw [if_pos e]; exact h
        · rw [if_neg e]; exact SI_set h (Or.inl rfl)
      · unfold limS
        by_cases e : s.1 i = nI 0
        · rw [if_pos e]
          rcases Nat.lt_or_ge v i with z | z
          · exact h2 v h3 z
          · rw [show v = i by omega]; exact e
        · rw [if_neg e]
          show upd s.1 i (nI 0) v = nI 0
          unfold upd
          by_cases z : v = i
          · rw [if_pos z]
          · rw [if_neg z]; exact h2 v h3 (by omega)
  intro n
  exact key n q s (Nat.le_refl _) h (fun v h1 h2 => by omega)
theorem lim_SI {V q : Nat} {sus sos : Bool} {kk : Nat → Int32} {now : Int32} {s : VJ} (h : SI V sus sos s.1 s.2.1) : SI q sus sos (limV kk now q V s).1 (limV kk now q V s).2.1 := by
  obtain ⟨h1, h2⟩ := lim_keep (q := q) (kk := kk) (now := now) h (V - q)
  unfold limV
  refine ⟨h1.1, fun v hv => ⟨?_, (h1.2 v hv).2⟩⟩
  have hV := (h1.2 v hv).1
  rcases Nat.lt_or_ge v q with z | z
  · exact z
  · have := h2 v z (by omega)
    rw [this] at hv
    exact absurd hv (by decide)
theorem fk_SI {V : Nat} {sus sos : Bool} {kk : Nat → Int32} {now : Int32} {s : VJ} (h1 : ∀ v, s.1 v = nI 0 ∨ s.1 v = nI 1 ∨ s.1 v = nI 2) (h2 : ∀ v, s.1 v = nI 2 → v < V) : SI V sus sos (fkV kk now sus sos V s).1.1 (fkV kk now sus sos V s).1.2.1 := by
  have key : ∀ (n i : Nat) (s : VJ × Nat), i + n = V → (∀ v, s.1.1 v = nI 0 ∨ s.1.1 v = nI 1 ∨ s.1.1 v = nI 2) → (∀ v, s.1.1 v = nI 2 → v < V ∧ (v < i → kpB sus sos s.1.2.1 v = true)) → SI V sus sos (lfor (fkS kk now sus sos) i n s).1.1 (lfor (fkS kk now sus sos) i n s).1.2.1 := by
    intro n
    induction n with
    | zero => intro i s hi h1 h2; exact ⟨h1, fun v hv => ⟨(h2 v hv).1, (h2 v hv).2 (by have := (h2 v hv).1; omega)⟩⟩
    | succ n ih =>
      intro i s hi h1 h2
      refine ih (i + 1) (fkS kk now sus sos i s) (by omega) ?_ ?_
      · unfold fkS
        by_cases e : s.1.1 i = nI 2
        · rw [if_pos e]
          by_cases k : kpB sus sos s.1.2.1 i = true
          · rw [if_pos k]; exact h1
          · rw [if_neg k]
            intro v
            show upd s.1.1 i (nI 0) v = nI 0 ∨ _
            unfold upd
            by_cases z : v = i
            · rw [if_pos z]; exact Or.inl rfl
            · show _ ∨ upd s.1.1 i (nI 0) v = nI 1 ∨ upd s.1.1 i (nI 0) v = nI 2
              unfold upd
              rw [if_neg z]; exact h1 v
        · rw [if_neg e]; exact h1
      · unfold fkS
        by_cases e : s.1.1 i = nI 2
        · rw [if_pos e]
          by_cases k : kpB sus sos s.1.2.1 i = true
          · rw [if_pos k]
            intro v hv
            refine ⟨(h2 v hv).1, fun hvi => ?_⟩
            rcases Nat.lt_or_ge v i with z | z
            · exact (h2 v hv).2 z
            · rw [show v = i by omega]; exact k
          · rw [if_neg k]
            intro v hv
            have hv' : upd s.1.1 i (nI 0) v = nI 2 := hv
            by_cases z : v = i
            · rw [z, updI_at] at hv'; exact absurd hv' (by decide)
            · rw [show upd s.1.1 i (nI 0) v = s.1.1 v from if_neg z] at hv'
              refine ⟨(h2 v hv').1, fun hvi => ?_⟩
              have := (h2 v hv').2 (by omega)
              show kpB sus sos (updB s.1.2.1 i false) v = true
              unfold kpB at this ⊢
              rw [show updB s.1.2.1 i false v = s.1.2.1 v from if_neg z]; exact this
        · rw [if_neg e]
          intro v hv
          refine ⟨(h2 v hv).1, fun hvi => ?_⟩
          rcases Nat.lt_or_ge v i with z | z
          · exact (h2 v hv).2 z
          · rw [show v = i by omega] at hv; exact absurd hv e
  exact key V 0 (s, 0) (Nat.zero_add _) h1 (fun v hv => ⟨h2 v hv, fun h => absurd h (Nat.not_lt_zero _)⟩)
theorem bb {a b : Bool} (h : ¬ a = b) (ha : ¬ a = true) : a = false ∧ b = true := by
  cases a <;> cases b <;> first | exact ⟨rfl, rfl⟩ | exact absurd rfl h | exact absurd rfl ha
theorem su_sim {V T : Nat} {sus sos on : Bool} {kk : Nat → Int32} {s : VJ} {t : VM} (hS : SI V sus sos s.1 s.2.1) (h : VR s t) :
    VR (msuV kk (nI T) sus sos on V s).1 (dkM kk T on sos V t).1 ∧ (msuV kk (nI T) sus sos on V s).2 = (dkM kk T on sos V t).2 ∧ SI V on sos (msuV kk (nI T) sus sos on V s).1.1 (msuV kk (nI T) sus sos on V s).1.2.1 := by
  unfold msuV
  by_cases e : on = sus
  · rw [if_pos e, dk_same (fun v hv hk => by rw [← h.1] at hk; rw [← h.2.1, e]; exact (hS.2 v hk).2)]
    exact ⟨h, rfl, by rw [e]; exact hS⟩
  · rw [if_neg e]
    by_cases e2 : on = true
    · rw [if_pos e2, e2, dk_same (fun v hv hk => by unfold kpB; rw [if_pos rfl])]
      exact ⟨h, rfl, hS.1, fun v hv => ⟨(hS.2 v hv).1, by unfold kpB; rw [if_pos rfl]⟩⟩
    · rw [if_neg e2]
      exact ⟨(fk_sim h).1, (fk_sim h).2, fk_SI hS.1 (fun v hv => (hS.2 v hv).1)⟩
theorem so_sim {V T : Nat} {sus sos on : Bool} {kk : Nat → Int32} {s : VJ} {t : VM} (hS : SI V sus sos s.1 s.2.1) (h : VR s t) :
    VR (msoV kk (nI T) sus sos on V s).1 (soM kk T sus sos on V t).1 ∧ (msoV kk (nI T) sus sos on V s).2 = (soM kk T sus sos on V t).2 ∧ SI V sus on (msoV kk (nI T) sus sos on V s).1.1 (msoV kk (nI T) sus sos on V s).1.2.1 := by
  obtain ⟨c1, c2⟩ := cap_sim s.1 on s.2.1 V
  have hst : t.1 = s.1 := h.1.symm
  have hca : t.2.1 = s.2.1 := h.2.1.symm
  unfold msoV soM
  by_cases e : on = sos
  · rw [if_pos e, if_pos e.symm]
    exact ⟨h, rfl, by rw [e]; exact hS⟩
  · rw [if_neg e, if_neg (show ¬ sos = on from fun q => e q.symm), hst, hca]
    by_cases e2 : on = true
    · rw [if_pos e2, if_pos e2, c1]
      refine ⟨⟨rfl, rfl, h.2.2.1, h.2.2.2⟩, (c2 e2).symm, hS.1, fun v hv => ⟨(hS.2 v hv).1, ?_⟩⟩
      have e3 : sos = false := by cases sos <;> first | rfl | exact absurd e2 e
      have := (hS.2 v hv).2
      unfold kpB at this ⊢
      rw [e3, if_neg Bool.false_ne_true] at this
      by_cases z : sus = true
      · rw [if_pos z]
      · rw [if_neg z] at this; cases this
    · rw [if_neg e2, if_neg e2, c1]
      have hv : VR (s.1, capV s.1 on V s.2.1, s.2.2) (s.1, capV s.1 on V s.2.1, t.2.2) := ⟨rfl, rfl, h.2.2.1, h.2.2.2⟩
      exact ⟨(fk_sim hv).1, (fk_sim hv).2, fk_SI hS.1 (fun v hv => (hS.2 v hv).1)⟩
/-! entries are few -/
theorem limV_mk (kk : Nat → Int32) (now : Int32) : ∀ (n i : Nat) (s : VJ), (lfor (limS kk now) i n s).2.2.2.2.2 ≤ s.2.2.2.2.2 + n
  | 0, _, _ => Nat.le_refl _
  | n + 1, i, s => by
    have h := limV_mk kk now n (i + 1) (limS kk now i s)
    have g : (limS kk now i s).2.2.2.2.2 ≤ s.2.2.2.2.2 + 1 := by
      unfold limS
      by_cases e : s.1 i = nI 0
      · rw [if_pos e]; exact Nat.le_add_right _ _
      · rw [if_neg e]; exact Nat.le_refl _
    show (lfor (limS kk now) (i + 1) n (limS kk now i s)).2.2.2.2.2 ≤ _
    omega
theorem fkV_mk (kk : Nat → Int32) (now : Int32) (sus sos : Bool) : ∀ (n i : Nat) (s : VJ × Nat), (lfor (fkS kk now sus sos) i n s).1.2.2.2.2.2 ≤ s.1.2.2.2.2.2 + n ∧ (lfor (fkS kk now sus sos) i n s).2 ≤ s.2 + n
  | 0, _, _ => ⟨Nat.le_refl _, Nat.le_refl _⟩
  | n + 1, i, s => by
    have h := fkV_mk kk now sus sos n (i + 1) (fkS kk now sus sos i s)
    have g : (fkS kk now sus sos i s).1.2.2.2.2.2 ≤ s.1.2.2.2.2.2 + 1 ∧ (fkS kk now sus sos i s).2 ≤ s.2 + 1 := by
      unfold fkS
      by_cases e : s.1.1 i = nI 2
      · rw [if_pos e]
        by_cases k : kpB sus sos s.1.2.1 i = true
        · rw [if_pos k]; exact ⟨Nat.le_add_right _ _, Nat.le_add_right _ _⟩
        · rw [if_neg k]; exact ⟨Nat.le_refl _, Nat.le_refl _⟩
      · rw [if_neg e]; exact ⟨Nat.le_add_right _ _, Nat.le_add_right _ _⟩
    show (lfor (fkS kk now sus sos) (i + 1) n (fkS kk now sus sos i s)).1.2.2.2.2.2 ≤ _ ∧ (lfor (fkS kk now sus sos) (i + 1) n (fkS kk now sus sos i s)).2 ≤ _
    omega
theorem limV_mkV (kk : Nat → Int32) (now : Int32) (q V : Nat) (s : VJ) : (limV kk now q V s).2.2.2.2.2 ≤ s.2.2.2.2.2 + V := by
  have := limV_mk kk now (V - q) q s
  unfold limV
  omega
theorem msuV_mk (kk : Nat → Int32) (now : Int32) (sus sos on : Bool) (V : Nat) (s : VJ) : (msuV kk now sus sos on V s).1.2.2.2.2.2 ≤ s.2.2.2.2.2 + V := by
  unfold msuV
  repeat' split
  · exact Nat.le_add_right _ _
  · exact Nat.le_add_right _ _
  · exact (fkV_mk kk now on sos V 0 (s, 0)).1
theorem msoV_mk (kk : Nat → Int32) (now : Int32) (sus sos on : Bool) (V : Nat) (s : VJ) : (msoV kk now sus sos on V s).1.2.2.2.2.2 ≤ s.2.2.2.2.2 + V := by
  unfold msoV
  repeat' split
  · exact Nat.le_add_right _ _
  · exact Nat.le_add_right _ _
  · exact (fkV_mk kk now sus on V 0 _).1
/-! answers of both -/
theorem nt_eq {V : Nat} {sus sos : Bool} {st kk ve si : Nat → Int32} {ca : Nat → Bool} {ru : Int32} (hV : 1 ≤ V) (h : SI V sus sos st ca) : ntF st ve si ru V = ntM st ve si ru V := by
  unfold ntF ntM
  by_cases e : findN (ffP st) 0 V < V
  · rw [if_pos e, if_pos e]
  · rw [if_neg e, if_neg e, rV_some (tkN_lt hV)]
    congr 1
    refine vic_eq hV (fun v hv => ?_)
    have := findN_none (p := ffP st) V 0 (by rw [Nat.zero_add]; exact e) v (Nat.zero_le _) (by omega)
    unfold ffP at this
    rcases h.1 v with q | q
    · rw [if_pos q] at this; cases this
    · exact q
theorem cv_eq (st : Nat → Int32) (V : Nat) : (cvM st V).1 = V - isN st (nI 0) V ∧ (cvM st V).2 = isN st (nI 2) V := by
  have key : ∀ n, (lfor (cvS st) 0 n (0, 0)).1 + lfor (fun v a => if st v = nI 0 then a + 1 else a) 0 n 0 = n ∧ (lfor (cvS st) 0 n (0, 0)).2 = lfor (fun v a => if st v = nI 2 then a + 1 else a) 0 n 0 := by
    intro n
    induction n with
    | zero => exact ⟨rfl, rfl⟩
    | succ n ih =>
      rw [lfor_last, lfor_last, lfor_last]
      obtain ⟨h1, h2⟩ := ih
      unfold cvS
      unfold cvS at h1 h2
      constructor
      · by_cases e : st n = nI 0
        · simp only [e, if_true]; omega
        · simp only [e, if_false]; omega
      · by_cases e : st n = nI 2
        · simp only [e, if_true]; omega
        · simp only [e, if_false]; omega
  have h := key V
  unfold cvM isN
  omega
theorem wi_has (v : Int32) {n : Nat} (h1 : 1 ≤ n) (h2 : n < 2 ^ 31) : wiB v (nI 0) (nI (n - 1)) = hasN v n := by
  cases h : hasN v n
  · cases h' : wiB v (nI 0) (nI (n - 1))
    · rfl
    · obtain ⟨m, _, g2, rfl⟩ := wi_nat (by omega) (by omega) h'
      rw [has_ok (show m < n by omega) h2] at h; cases h
  · obtain ⟨m, g, rfl⟩ := has_nat h2 h
    exact wi_ok (Nat.zero_le _) (by omega) (by omega)
theorem nk_has (k : Int32) {n : Nat} (h1 : 1 ≤ n) (h2 : n < 2 ^ 31) : nkB k n = !hasN k n := by
  unfold nkB
  rw [wi_has k h1 h2]
  cases hasN k n <;> rfl
theorem lg_eq {jt jk jy : Nat → Int32} {m en : Nat} {lg : Nat → Int32} (h : JR jt jk jy m lg) (he : en < min m 16) {j : Nat} (hj : j ≤ 2) : sel3 (jt ((m - 1 - en) % 16)) (jk ((m - 1 - en) % 16)) (jy ((m - 1 - en) % 16)) (nI j) = lg (3 * en + j) := by
  obtain ⟨h1, h2, h3⟩ := h en (by omega) (by omega)
  unfold sel3
  have : j = 0 ∨ j = 1 ∨ j = 2 := by omega
  rcases this with rfl | rfl | rfl
  · rw [if_pos rfl, Nat.add_zero, h1]
  · rw [if_neg (by decide), if_pos rfl, h2]
  · rw [if_neg (by decide), if_neg (by decide), h3]
