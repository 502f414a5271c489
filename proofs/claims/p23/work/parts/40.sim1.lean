/-! both logs, both voices -/
theorem lfor_sim {σ τ : Type} {f : Nat → σ → σ} {g : Nat → τ → τ} (Rl : σ → τ → Prop) : ∀ (n i : Nat) (s : σ) (t : τ), (∀ k s t, i ≤ k → k < i + n → Rl s t → Rl (f k s) (g k t)) → Rl s t → Rl (lfor f i n s) (lfor g i n t)
  | 0, _, _, _, _, h => h
  | n + 1, i, s, t, hs, h => lfor_sim Rl n (i + 1) (f i s) (g i t) (fun k s t h1 h2 => hs k s t (by omega) (by omega)) (hs i s t (Nat.le_refl _) (by omega) h)
def JR (jt jk jy : Nat → Int32) (m : Nat) (lg : Nat → Int32) : Prop := ∀ e, e < 16 → e < m → lg (3 * e) = jt ((m - 1 - e) % 16) ∧ lg (3 * e + 1) = jk ((m - 1 - e) % 16) ∧ lg (3 * e + 2) = jy ((m - 1 - e) % 16)
theorem entL_0 (t k y : Int32) (lg : Nat → Int32) : entL t k y lg 0 = t := by simp [entL, upd]
theorem entL_1 (t k y : Int32) (lg : Nat → Int32) : entL t k y lg 1 = k := by simp [entL, upd]
theorem entL_2 (t k y : Int32) (lg : Nat → Int32) : entL t k y lg 2 = y := by simp [entL, upd]
theorem entL_3 (t k y : Int32) (lg : Nat → Int32) {j : Nat} (h : j < 45) : entL t k y lg (j + 3) = lg j := by
  unfold entL upd shL
  rw [if_neg (by omega), if_neg (by omega), if_neg (by omega), if_pos (by omega)]
  rfl
theorem JR_enter {jt jk jy : Nat → Int32} {m : Nat} {lg : Nat → Int32} (h : JR jt jk jy m lg) (t k y : Int32) : JR (upd jt (m % 16) t) (upd jk (m % 16) k) (upd jy (m % 16) y) (m + 1) (entL t k y lg) := by
  intro e h1 h2
  cases e with
  | zero =>
    have e1 : (m + 1 - 1 - 0) % 16 = m % 16 := by congr 1
    rw [e1]
    exact ⟨by rw [entL_0]; exact (if_pos rfl).symm, by rw [entL_1]; exact (if_pos rfl).symm, by rw [entL_2]; exact (if_pos rfl).symm⟩
  | succ e =>
    obtain ⟨a, b, c⟩ := h e (by omega) (by omega)
    have e1 : (m + 1 - 1 - (e + 1)) % 16 = (m - 1 - e) % 16 := by congr 1; omega
    have e2 : ¬ (m - 1 - e) % 16 = m % 16 := by omega
    rw [e1]
    refine ⟨?_, ?_, ?_⟩
    · rw [show 3 * (e + 1) = 3 * e + 3 by omega, entL_3 _ _ _ _ (by omega), a]; exact (if_neg e2).symm
    · rw [show 3 * (e + 1) + 1 = 3 * e + 1 + 3 by omega, entL_3 _ _ _ _ (by omega), b]; exact (if_neg e2).symm
    · rw [show 3 * (e + 1) + 2 = 3 * e + 2 + 3 by omega, entL_3 _ _ _ _ (by omega), c]; exact (if_neg e2).symm
def VR (s : VJ) (t : VM) : Prop := s.1 = t.1 ∧ s.2.1 = t.2.1 ∧ s.2.2.2.2.2 = t.2.2.2 ∧ JR s.2.2.1 s.2.2.2.1 s.2.2.2.2.1 s.2.2.2.2.2 t.2.2.1
theorem free_sim {kk : Nat → Int32} {T v : Nat} {s : VJ} {t : VM} (h : VR s t) : VR (freeV kk (nI T) v s) (freeM kk T v t) := by
  obtain ⟨h1, h2, h3, h4⟩ := h
  refine ⟨?_, ?_, ?_, ?_⟩
  · show upd s.1 v (nI 0) = upd t.1 v (nI 0); rw [h1]
  · show updB s.2.1 v false = updB t.2.1 v false; rw [h2]
  · show s.2.2.2.2.2 + 1 = t.2.2.2 + 1; rw [h3]
  · exact JR_enter h4 _ _ _
theorem lim_sim {kk : Nat → Int32} {T v : Nat} {s : VJ} {t : VM} (h : VR s t) : VR (limS kk (nI T) v s) (limM kk T v t) := by
  unfold limS limM
  rw [← h.1]
  by_cases e : s.1 v = nI 0
  · rw [if_pos e, if_pos e]; exact h
  · rw [if_neg e, if_neg e]; exact free_sim h
theorem limV_sim {kk : Nat → Int32} {T q V : Nat} {s : VJ} {t : VM} (h : VR s t) : VR (limV kk (nI T) q V s) (lmV kk T q V t) :=
  lfor_sim VR _ _ _ _ (fun _ _ _ _ _ h => lim_sim h) h
theorem rel_sim {kk : Nat → Int32} {sus sos : Bool} {key : Int32} {T V : Nat} {s : VJ} {t : VM} (h : VR s t) : VR (relV kk sus sos key (nI T) V s) (relM kk sus sos key T V t) := by
  unfold relV relM
  rw [← h.1, ← h.2.1]
  by_cases e : findN (wkP s.1 kk key) 0 V < V
  · rw [if_pos e, if_pos e]
    by_cases e2 : s.1 (findN (wkP s.1 kk key) 0 V) = nI 1
    · rw [if_pos e2, if_pos e2]
      by_cases e3 : kpB sus sos s.2.1 (findN (wkP s.1 kk key) 0 V) = true
      · rw [if_pos e3, if_pos e3]
        exact ⟨rfl, h.2.1, h.2.2.1, h.2.2.2⟩
      · rw [if_neg e3, if_neg e3]
        have e4 : limM kk T (findN (wkP s.1 kk key) 0 V) t = freeM kk T (findN (wkP s.1 kk key) 0 V) t := by
          unfold limM
          rw [if_neg]
          rw [← h.1, e2]; decide
        rw [e4]; exact free_sim h
    · rw [if_neg e2, if_neg e2]; exact h
  · rw [if_neg e, if_neg e]; exact h
theorem fk_sim {kk : Nat → Int32} {T V : Nat} {sus sos : Bool} {s : VJ} {t : VM} (h : VR s t) : VR (fkV kk (nI T) sus sos V s).1 (dkM kk T sus sos V t).1 ∧ (fkV kk (nI T) sus sos V s).2 = (dkM kk T sus sos V t).2 := by
  refine lfor_sim (fun (s : VJ × Nat) (t : VM × Nat) => VR s.1 t.1 ∧ s.2 = t.2) _ _ _ _ ?_ ⟨h, rfl⟩
  intro v s t _ _ h
  obtain ⟨h1, h2⟩ := h
  unfold fkS fkM
  rw [← h1.1, ← h1.2.1]
  by_cases e : s.1.1 v = nI 2
  · rw [if_pos e, if_pos e]
    by_cases e3 : kpB sus sos s.1.2.1 v = true
    · rw [if_pos e3, if_pos e3]; exact ⟨h1, h2⟩
    · rw [if_neg e3, if_neg e3]
      have e5 : ¬ s.1.1 v = nI 0 := by rw [e]; decide
      have e4 : limM kk T v t.1 = freeM kk T v t.1 := by
        unfold limM
        rw [if_neg]
        rw [← h1.1]; exact e5
      refine ⟨?_, ?_⟩
      · show VR _ (limM kk T v t.1)
        rw [e4]; exact free_sim h1
      · show s.2 + 1 = t.2 + (if s.1.1 v = nI 0 then 0 else 1)
        rw [if_neg e5, h2]
  · rw [if_neg e, if_neg e]; exact ⟨h1, h2⟩
/-- with every kept voice kept by a pedal, nothing is dropped -/
theorem dk_same {kk : Nat → Int32} {T V : Nat} {sus sos : Bool} {t : VM} (h : ∀ v, v < V → t.1 v = nI 2 → kpB sus sos t.2.1 v = true) : dkM kk T sus sos V t = (t, 0) := by
  have key : ∀ (n i : Nat), i + n = V → lfor (fkM kk T sus sos) i n (t, 0) = (t, 0) := by
    intro n
    induction n with
    | zero => intro i _; rfl
    | succ n ih =>
      intro i hi
      show lfor _ (i + 1) n (fkM kk T sus sos i (t, 0)) = _
      have e : fkM kk T sus sos i (t, 0) = (t, 0) := by
        unfold fkM
        by_cases e : t.1 i = nI 2
        · rw [if_pos e, if_pos (h i (by omega) e)]
        · rw [if_neg e]
      rw [e]; exact ih (i + 1) (by omega)
  exact key V 0 (Nat.zero_add _)
/-! captures -/
theorem cap_sim (st : Nat → Int32) (dn : Bool) (ca : Nat → Bool) (V : Nat) : (lfor (cpM st dn) 0 V (ca, 0)).1 = capV st dn V ca ∧ (dn = true → (lfor (cpM st dn) 0 V (ca, 0)).2 = isN st (nI 1) V) := by
  have key := lfor_sim (f := cpM st dn) (g := fun v (s : (Nat → Bool) × Nat) => (capS st dn v s.1, if st v = nI 1 then s.2 + 1 else s.2)) (fun s t => s.1 = t.1 ∧ (dn = true → s.2 = t.2)) V 0 (ca, 0) (ca, 0) (fun v s t _ _ h => by
    unfold cpM
    by_cases e : (if dn = true then (if st v = nI 1 then true else false) else false) = true
    · rw [if_pos e]
      refine ⟨?_, fun hd => ?_⟩
      · show updB s.1 v true = capS st dn v t.1
        unfold capS; rw [e, h.1]
      · show s.2 + 1 = if st v = nI 1 then t.2 + 1 else t.2
        rw [if_pos hd] at e
        by_cases q : st v = nI 1
        · rw [if_pos q, h.2 hd]
        · rw [if_neg q] at e; cases e
    · rw [if_neg e]
      have e' : (if dn = true then (if st v = nI 1 then true else false) else false) = false := by simpa using e
      refine ⟨?_, fun hd => ?_⟩
      · show updB s.1 v false = capS st dn v t.1
        unfold capS; rw [e', h.1]
      · show s.2 + 0 = if st v = nI 1 then t.2 + 1 else t.2
        rw [if_pos hd] at e
        by_cases q : st v = nI 1
        · rw [if_pos q] at e; exact absurd rfl e
        · rw [if_neg q, h.2 hd]; rfl) ⟨rfl, fun _ => rfl⟩
  have pr : ∀ (n i : Nat) (c : Nat → Bool) (u : Nat), lfor (fun v (s : (Nat → Bool) × Nat) => (capS st dn v s.1, if st v = nI 1 then s.2 + 1 else s.2)) i n (c, u) = (lfor (capS st dn) i n c, lfor (fun v a => if st v = nI 1 then a + 1 else a) i n u) := by
    intro n
    induction n with
    | zero => intro i c u; rfl
    | succ n ih => intro i c u; exact ih (i + 1) _ _
  rw [pr] at key
  exact key
/-! velocities -/
theorem va_eq (sl n : Int32) : vaI sl n = vaM sl n := by
  unfold vaI vaM
  generalize nI 128 - sl * n = x
  by_cases h1 : x < nI 127
  · rw [if_pos h1]
    have h2 : ¬ nI 127 < x := fun q => by rw [Int32.lt_iff_toInt_lt] at q h1; omega
    rw [if_neg h2]
    by_cases h3 : nI 1 < x
    · rw [if_pos h3, if_neg (fun q => by rw [Int32.lt_iff_toInt_lt] at q h3; omega)]
    · rw [if_neg h3]
      by_cases h4 : x < nI 1
      · rw [if_pos h4]
      · rw [if_neg h4]
        rw [Int32.lt_iff_toInt_lt] at h3 h4
        exact Int32.toInt_inj.mp (by omega)
  · rw [if_neg h1, if_pos (by decide)]
    by_cases h2 : nI 127 < x
    · rw [if_pos h2]
    · rw [if_neg h2, if_neg (fun q => by rw [Int32.lt_iff_toInt_lt] at q; rw [Int32.lt_iff_toInt_lt] at h1; rw [show (nI 1).toInt = 1 from by decide] at q; rw [show (nI 127).toInt = 127 from by decide] at h1; omega)]
      rw [Int32.lt_iff_toInt_lt] at h1 h2
      exact Int32.toInt_inj.mp (by omega)
/-! who is taken away -/
theorem findN_le (p : Nat → Bool) : ∀ (n i : Nat), findN p i n ≤ i + n
  | 0, _ => Nat.le_refl _
  | n + 1, i => by
    show (if p i = true then i else findN p (i + 1) n) ≤ _
    by_cases e : p i = true
    · rw [if_pos e]; omega
    · rw [if_neg e]; have := findN_le p n (i + 1); omega
theorem findN_none {p : Nat → Bool} : ∀ (n i : Nat), ¬ findN p i n < i + n → ∀ v, i ≤ v → v < i + n → p v = false
  | 0, _, _, _, _, _ => by omega
  | n + 1, i, h, v, h1, h2 => by
    have h' : ¬ (if p i = true then i else findN p (i + 1) n) < i + (n + 1) := h
    by_cases e : p i = true
    · rw [if_pos e] at h'; omega
    · rw [if_neg e] at h'
      rcases Nat.eq_or_lt_of_le h1 with q | q
      · subst q; simpa using e
      · exact findN_none n (i + 1) (by omega) v (by omega) (by omega)
theorem gb_wk {st ve si : Nat → Int32} {ru : Int32} {v o : Nat} (h : ¬ ru = nI 2) : gbB st ve si ru v o = wkB ve si ru v o := by
  unfold gbB wkB
  rw [if_neg h]
theorem vic_eq {st ve si : Nat → Int32} {ru : Int32} {V : Nat} (hV : 1 ≤ V) (h : ∀ v, v < V → st v = nI 1 ∨ st v = nI 2) : vicN st ve si ru V = tkN st ve si ru V := by
  -- the reference's first step
  have first : wkN false st ve si ru V = lfor (fun v b => if wkB ve si ru v b = true then v else b) 1 (V - 1) 0 := by
    unfold wkN
    obtain ⟨m, rfl⟩ : ∃ m, V = m + 1 := ⟨V - 1, by omega⟩
    have key : ∀ (n i b : Nat), b < m + 1 → i + n = m + 1 → lfor (wkS false st ve si ru (m + 1)) i n b = lfor (fun v b => if wkB ve si ru v b = true then v else b) i n b := by
      intro n
      induction n with
      | zero => intro i b _ _; rfl
      | succ n ih =>
        intro i b hb hi
        show lfor _ (i + 1) n (wkS false st ve si ru (m + 1) i b) = lfor _ (i + 1) n (if wkB ve si ru i b = true then i else b)
        have e : wkS false st ve si ru (m + 1) i b = (if wkB ve si ru i b = true then i else b) := by
          unfold wkS; rw [if_neg (by decide), if_pos hb]
        rw [e]
        refine ih (i + 1) _ ?_ (by omega)
        split <;> omega
    show lfor _ (0 + 1) m (wkS false st ve si ru (m + 1) 0 (m + 1)) = _
    have e : wkS false st ve si ru (m + 1) 0 (m + 1) = 0 := by
      unfold wkS; rw [if_neg (by decide), if_neg (by omega)]
    rw [e]
    exact key m 1 0 (by omega) (by omega)
  by_cases e : ru = nI 2
  · subst e
    have gb1 : ∀ v o, gbB st ve si (nI 2) v o = if st v = st o then wkB ve si (nI 2) v o else if st v = nI 2 then true else false := by
      intro v o
      unfold gbB wkB
      rw [if_pos rfl]
    -- all three at once
    have key : ∀ (n i b k a : Nat), i + n = V → 1 ≤ i → a < i → ((k = V ∧ b = a ∧ ∀ v, v < i → st v = nI 1) ∨ (k < i ∧ b = k ∧ st k = nI 2)) →
        (lfor (wkS true st ve si (nI 2) V) i n k < V ∧ lfor (fun v b => if gbB st ve si (nI 2) v b = true then v else b) i n b = lfor (wkS true st ve si (nI 2) V) i n k) ∨ (¬ lfor (wkS true st ve si (nI 2) V) i n k < V ∧ lfor (fun v b => if gbB st ve si (nI 2) v b = true then v else b) i n b = lfor (fun v b => if wkB ve si (nI 2) v b = true then v else b) i n a) := by
      intro n
      induction n with
      | zero =>
        intro i b k a hi h1 ha hk
        rcases hk with ⟨h2, h3, h4⟩ | ⟨h2, h3, h4⟩
        · exact Or.inr ⟨by show ¬ k < V; omega, h3⟩
        · exact Or.inl ⟨by show k < V; omega, h3⟩
      | succ n ih =>
        intro i b k a hi h1 ha hk
        show (lfor _ (i + 1) n (wkS true st ve si (nI 2) V i k) < V ∧ lfor _ (i + 1) n (if gbB st ve si (nI 2) i b = true then i else b) = lfor _ (i + 1) n (wkS true st ve si (nI 2) V i k)) ∨ (¬ lfor _ (i + 1) n (wkS true st ve si (nI 2) V i k) < V ∧ lfor _ (i + 1) n (if gbB st ve si (nI 2) i b = true then i else b) = lfor _ (i + 1) n (if wkB ve si (nI 2) i a = true then i else a))
        have ha' : (if wkB ve si (nI 2) i a = true then i else a) < i + 1 := by split <;> omega
        refine ih (i + 1) _ _ _ (by omega) (by omega) ha' ?_
        rcases hk with ⟨h2, h3, h4⟩ | ⟨h2, h3, h4⟩
        · subst h3
          rcases h i (by omega) with q | q
          · refine Or.inl ⟨?_, ?_, ?_⟩
            · unfold wkS; rw [if_pos rfl, if_neg (by rw [q]; decide)]; exact h2
            · have g : gbB st ve si (nI 2) i b = wkB ve si (nI 2) i b := by
                rw [gb1]; exact if_pos (by rw [q, h4 b ha])
              rw [g]
            · intro v hv
              rcases Nat.lt_or_ge v i with z | z
              · exact h4 v z
              · rw [show v = i by omega]; exact q
          · refine Or.inr ⟨?_, ?_, ?_⟩
            · unfold wkS; rw [if_pos rfl, if_pos q, if_neg (by omega)]; omega
            · have g : gbB st ve si (nI 2) i b = true := by
                rw [gb1, if_neg (show ¬ st i = st b by rw [q, h4 b ha]; decide)]; exact if_pos q
              rw [g, if_pos rfl]
              unfold wkS; rw [if_pos rfl, if_pos q, if_neg (by omega)]
            · unfold wkS; rw [if_pos rfl, if_pos q, if_neg (by omega)]; exact q
        · subst h3
          rcases h i (by omega) with q | q
          · refine Or.inr ⟨?_, ?_, ?_⟩
            · unfold wkS; rw [if_pos rfl, if_neg (by rw [q]; decide)]; omega
            · have g : gbB st ve si (nI 2) i b = false := by
                rw [gb1, if_neg (show ¬ st i = st b by rw [q, h4]; decide)]; exact if_neg (by rw [q]; decide)
              rw [g, if_neg (by decide)]
              unfold wkS; rw [if_pos rfl, if_neg (by rw [q]; decide)]
            · unfold wkS; rw [if_pos rfl, if_neg (by rw [q]; decide)]; exact h4
          · have e5 : wkS true st ve si (nI 2) V i b = if wkB ve si (nI 2) i b = true then i else b := by
              unfold wkS; rw [if_pos rfl, if_pos q, if_pos (by omega)]
            refine Or.inr ⟨?_, ?_, ?_⟩
            · rw [e5]; split <;> omega
            · have g : gbB st ve si (nI 2) i b = wkB ve si (nI 2) i b := by
                rw [gb1]; exact if_pos (by rw [q, h4])
              rw [g, e5]
            · rw [e5]; split
              · exact q
              · exact h4
    unfold tkN
    rw [if_pos rfl]
    have start : wkN true st ve si (nI 2) V = lfor (wkS true st ve si (nI 2) V) 1 (V - 1) (wkS true st ve si (nI 2) V 0 V) := by
      unfold wkN
      obtain ⟨m, rfl⟩ : ∃ m, V = m + 1 := ⟨V - 1, by omega⟩
      rfl
    have s0 : (wkS true st ve si (nI 2) V 0 V = V ∧ (0 : Nat) = 0 ∧ ∀ v, v < 1 → st v = nI 1) ∨ (wkS true st ve si (nI 2) V 0 V < 1 ∧ 0 = wkS true st ve si (nI 2) V 0 V ∧ st (wkS true st ve si (nI 2) V 0 V) = nI 2) := by
      rcases h 0 (by omega) with q | q
      · refine Or.inl ⟨?_, rfl, fun v hv => by rw [show v = 0 by omega]; exact q⟩
        unfold wkS; rw [if_pos rfl, if_neg (by rw [q]; decide)]
      · have e5 : wkS true st ve si (nI 2) V 0 V = 0 := by unfold wkS; rw [if_pos rfl, if_pos q, if_neg (by omega)]
        exact Or.inr ⟨by rw [e5]; omega, e5.symm, by rw [e5]; exact q⟩
    have r := key (V - 1) 1 0 (wkS true st ve si (nI 2) V 0 V) 0 (by omega) (Nat.le_refl _) (by omega) s0
    rw [← start, ← first] at r
    rcases r with ⟨r1, r2⟩ | ⟨r1, r2⟩
    · rw [if_pos r1]; exact r2
    · rw [if_neg r1]; exact r2
  · unfold tkN vicN
    rw [if_neg e, first]
    congr 1
    funext v b
    rw [gb_wk e]
