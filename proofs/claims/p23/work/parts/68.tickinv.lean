/-! a row of scans -/
def RLS (V n B : Nat) (sus sos : Bool) (k : Nat) (y y2 : VS) : Prop := VIy V n B sus sos y2 ∧ skrf y2 = skrf y ∧ y2.2.1 = y.2.1 ∧ y2.2.2.1 = y.2.2.1 ∧ y2.2.2.2.1 = y.2.2.2.1 ∧ ∀ v, ¬ (¬ y.1 v = nI 0 ∧ y.2.1 v = nI k) → y2.1 v = y.1 v
theorem RLS.rfl' {V n B : Nat} {sus sos : Bool} {k : Nat} {y : VS} (h : VIy V n B sus sos y) : RLS V n B sus sos k y y := ⟨h, rfl, rfl, rfl, rfl, fun _ _ => rfl⟩
theorem RLS.rls {T R V n B : Nat} {sl ru : Int32} {bk lt sus sos : Bool} {k : Nat} {y y2 : VS} (h : RLS V n B sus sos k y y2) : RLS V n B sus sos k y (rlsV (T, sl, ru, R, V, bk, lt, sus, sos) k y2) := by
  obtain ⟨h1, h2, h3, h4, h5, h6⟩ := h
  obtain ⟨g1, g2, g3, g4, g5, g6⟩ := rls_or (T := T) (R := R) (sl := sl) (ru := ru) (bk := bk) (lt := lt) k h1
  refine ⟨g1, g2.trans h2, g3.trans h3, g4.trans h4, g5.trans h5, fun v hv => ?_⟩
  have e := h6 v hv
  rw [g6 v (by rw [e, h3]; exact hv), e]
def htN (G : Nat → Bool) (ph : Nat → Int32) (j : Nat) : Nat := if G j = true then (if ph j = nI 2 then 0 else 1) else 0
theorem nph_PH {f g : Bool} {x : Int32} (hg : g = true → f = true) (hx : x = nI 0 ∨ x = nI 1 ∨ x = nI 2 ∨ x = nI 3) : nph f g x = nI 0 ∨ nph f g x = nI 1 ∨ nph f g x = nI 2 ∨ nph f g x = nI 3 := sett_PH (nph_sett hg hx)
theorem rowP_PH {F G : Nat → Bool} {a n : Nat} {ph : Nat → Int32} (hg : ∀ j, a ≤ j → j < a + n → G j = true → F j = true) (hp : PH ph) : PH (rowP F G a n ph) := by
  intro j
  unfold rowP
  by_cases e : a ≤ j ∧ j < a + n
  · rw [if_pos e]; exact nph_PH (hg j e.1 e.2) (hp j)
  · rw [if_neg e]; exact hp j
theorem rowP_step {F G : Nat → Bool} {a i : Nat} {ph : Nat → Int32} : upd (rowP F G a i ph) (a + i) (nph (F (a + i)) (G (a + i)) (ph (a + i))) = rowP F G a (i + 1) ph := by
  funext j
  unfold upd rowP
  by_cases e : j = a + i
  · subst e; rw [if_pos rfl, if_pos ⟨by omega, by omega⟩]
  · rw [if_neg e]
    by_cases e2 : a ≤ j ∧ j < a + i
    · rw [if_pos e2, if_pos ⟨e2.1, by omega⟩]
    · rw [if_neg e2, if_neg (by omega)]
theorem fb_s_succ (f : Nat → Nat) (n : Nat) : fb_s f (n + 1) = fb_s f n + f n := rfl
theorem row_inv {T R V n : Nat} {sl ru : Int32} {bk lt sus sos : Bool} {F G Dd : Nat → Bool} {C a : Nat} {x0 : XS} (hp : PH x0.1) (hg : ∀ j, a ≤ j → j < a + C → G j = true → F j = true) (hV : 1 ≤ V) (hn : a + C ≤ n) (hn9 : n < 2 ^ 31) (hTT : T < 2 ^ 31) (hv : VIy V n T sus sos x0.2.2) : ∀ i, i ≤ C →
    (lfor (fun c s => scnS (T, sl, ru, R, V, bk, lt, sus, sos) F G Dd (a + c) s) 0 i x0).1 = rowP F G a i x0.1 ∧
    (∀ j, (lfor (fun c s => scnS (T, sl, ru, R, V, bk, lt, sus, sos) F G Dd (a + c) s) 0 i x0).2.1 j = if (a ≤ j ∧ j < a + i) ∧ bgE (F j) (G j) (x0.1 j) = true then nI T else x0.2.1 j) ∧
    VIy V n (T + 1) sus sos (lfor (fun c s => scnS (T, sl, ru, R, V, bk, lt, sus, sos) F G Dd (a + c) s) 0 i x0).2.2 ∧
    skrf (lfor (fun c s => scnS (T, sl, ru, R, V, bk, lt, sus, sos) F G Dd (a + c) s) 0 i x0).2.2 = skrf x0.2.2 + nI (fb_s (fun c => htN G x0.1 (a + c)) i) ∧
    ∀ v, ¬ (lfor (fun c s => scnS (T, sl, ru, R, V, bk, lt, sus, sos) F G Dd (a + c) s) 0 i x0).2.2.1 v = nI 0 → (lfor (fun c s => scnS (T, sl, ru, R, V, bk, lt, sus, sos) F G Dd (a + c) s) 0 i x0).2.2.2.2.2.1 v = nI T → (lfor (fun c s => scnS (T, sl, ru, R, V, bk, lt, sus, sos) F G Dd (a + c) s) 0 i x0).2.2.1 v = nI 1 ∧ ∃ c, c < i ∧ (lfor (fun c s => scnS (T, sl, ru, R, V, bk, lt, sus, sos) F G Dd (a + c) s) 0 i x0).2.2.2.1 v = nI (a + c) ∧ (lfor (fun c s => scnS (T, sl, ru, R, V, bk, lt, sus, sos) F G Dd (a + c) s) 0 i x0).2.2.2.2.1 v = vaI sl ((nI T - (lfor (fun c s => scnS (T, sl, ru, R, V, bk, lt, sus, sos) F G Dd (a + c) s) 0 i x0).2.1 (a + c)) / nI R)
  | 0, _ => by
    refine ⟨?_, fun j => ?_, hv.mono (Nat.le_succ _), ?_, fun v h1 h2 => ?_⟩
    · funext j
      exact (if_neg (by omega)).symm
    · exact (if_neg (fun q => by omega)).symm
    · show skrf x0.2.2 = skrf x0.2.2 + nI 0
      exact (Int32.add_zero _).symm
    · obtain ⟨_, _, _, t, ht, et⟩ := hv.2.1 v h1
      have h2' : x0.2.2.2.2.2.1 v = nI T := h2
      have et' : x0.2.2.2.2.2.1 v = nI t := et
      rw [et'] at h2'
      have := (xI_inj (by omega) (by omega)).mp h2'
      omega
  | i + 1, hi => by
    obtain ⟨h1, h2, h3, h4, h5⟩ := row_inv (ru := ru) (bk := bk) (lt := lt) (Dd := Dd) (R := R) (sl := sl) hp hg hV hn hn9 hTT hv i (by omega)
    rw [lfor_last]
    generalize lfor (fun c s => scnS (T, sl, ru, R, V, bk, lt, sus, sos) F G Dd (a + c) s) 0 i x0 = X at h1 h2 h3 h4 h5
    have hpX : PH X.1 := by rw [h1]; exact rowP_PH (fun j a1 a2 => hg j a1 (by omega)) hp
    have e1 : X.1 (a + i) = x0.1 (a + i) := by rw [h1]; exact if_neg (by omega)
    have e2 : X.2.1 (a + i) = x0.2.1 (a + i) := by rw [h2]; exact if_neg (by omega)
    have hgk : G (a + i) = true → F (a + i) = true := hg (a + i) (by omega) (by omega)
    rw [scn_all _ F G Dd (a + i) X hgk hpX, e1, e2, fb_s_succ]
    have hbg : ∀ j, (if bgE (F (a + i)) (G (a + i)) (x0.1 (a + i)) = true then upd X.2.1 (a + i) (nI T) else X.2.1) j = if (a ≤ j ∧ j < a + (i + 1)) ∧ bgE (F j) (G j) (x0.1 j) = true then nI T else x0.2.1 j := by
      intro j
      by_cases z : j = a + i
      · subst z
        by_cases b : bgE (F (a + i)) (G (a + i)) (x0.1 (a + i)) = true
        · rw [if_pos b, if_pos ⟨⟨by omega, by omega⟩, b⟩]; exact if_pos rfl
        · rw [if_neg b, if_neg (fun q => b q.2)]; exact e2
      · have o : (if bgE (F (a + i)) (G (a + i)) (x0.1 (a + i)) = true then upd X.2.1 (a + i) (nI T) else X.2.1) j = X.2.1 j := by
          by_cases b : bgE (F (a + i)) (G (a + i)) (x0.1 (a + i)) = true
          · rw [if_pos b]; exact if_neg z
          · rw [if_neg b]
        rw [o, h2]
        by_cases q : (a ≤ j ∧ j < a + i) ∧ bgE (F j) (G j) (x0.1 j) = true
        · rw [if_pos q, if_pos ⟨⟨q.1.1, by omega⟩, q.2⟩]
        · rw [if_neg q, if_neg (fun w => q ⟨⟨w.1.1, by omega⟩, w.2⟩)]
    have hold : ∀ j, ¬ j = a + i → (if bgE (F (a + i)) (G (a + i)) (x0.1 (a + i)) = true then upd X.2.1 (a + i) (nI T) else X.2.1) j = X.2.1 j := by
      intro j z
      by_cases b : bgE (F (a + i)) (G (a + i)) (x0.1 (a + i)) = true
      · rw [if_pos b]; exact if_neg z
      · rw [if_neg b]
    refine ⟨by rw [h1]; exact rowP_step, hbg, ?_⟩
    -- the voices
    generalize hB : (if bgE (F (a + i)) (G (a + i)) (x0.1 (a + i)) = true then upd X.2.1 (a + i) (nI T) else X.2.1) = Bg at hbg hold
    show VIy V n (T + 1) sus sos (vsE (T, sl, ru, R, V, bk, lt, sus, sos) (F (a + i)) (G (a + i)) (Dd (a + i)) (a + i) (x0.1 (a + i)) (x0.2.1 (a + i)) X.2.2) ∧ skrf (vsE (T, sl, ru, R, V, bk, lt, sus, sos) (F (a + i)) (G (a + i)) (Dd (a + i)) (a + i) (x0.1 (a + i)) (x0.2.1 (a + i)) X.2.2) = _ ∧ _
    by_cases hs : G (a + i) = true ∧ ¬ x0.1 (a + i) = nI 2
    · -- a strike
      have ev : vsE (T, sl, ru, R, V, bk, lt, sus, sos) (F (a + i)) (G (a + i)) (Dd (a + i)) (a + i) (x0.1 (a + i)) (x0.2.1 (a + i)) X.2.2 = strV (T, sl, ru, R, V, bk, lt, sus, sos) (Dd (a + i)) (a + i) (if x0.1 (a + i) = nI 0 then nI T else x0.2.1 (a + i)) X.2.2 := by
        unfold vsE
        rw [if_pos hs.1, if_neg hs.2]
      have eb : (if x0.1 (a + i) = nI 0 then nI T else x0.2.1 (a + i)) = Bg (a + i) := by
        rw [hbg]
        by_cases z : x0.1 (a + i) = nI 0
        · rw [if_pos z, if_pos]
          refine ⟨⟨by omega, by omega⟩, ?_⟩
          unfold bgE
          rw [hgk hs.1, z]; simp
        · rw [if_neg z, if_neg]
          intro q
          have q2 := q.2
          unfold bgE at q2
          rw [decide_eq_false z, decide_eq_false hs.2] at q2
          simp at q2
      rw [ev, eb]
      obtain ⟨g1, g2, g3⟩ := str_or (T := T) (sl := sl) (ru := ru) (R := R) (bk := bk) (lt := lt) (d := Dd (a + i)) (k := a + i) (b := Bg (a + i)) hV (show a + i < n by omega) (Nat.lt_succ_self T) h3
      generalize strV (T, sl, ru, R, V, bk, lt, sus, sos) (Dd (a + i)) (a + i) (Bg (a + i)) X.2.2 = Y at g1 g2 g3
      refine ⟨g1, ?_, fun v hv1 hv2 => ?_⟩
      · rw [g2, h4]
        have : htN G x0.1 (a + i) = 1 := by unfold htN; rw [if_pos hs.1, if_neg hs.2]
        rw [this, Int32.add_assoc, nI_add]
      · rcases g3 with ⟨a1, a2, a3, a4⟩ | ⟨w, a1, a2, a3, a4⟩
        · have hv1' : ¬ Y.1 v = nI 0 := hv1
          have hv2' : Y.2.2.2.1 v = nI T := hv2
          rw [a1] at hv1'
          rw [a4] at hv2'
          obtain ⟨b1, c, b2, b3, b4⟩ := h5 v hv1' hv2'
          refine ⟨by show Y.1 v = _; rw [a1]; exact b1, c, by omega, by show Y.2.1 v = _; rw [a2]; exact b3, ?_⟩
          show Y.2.2.1 v = vaI sl ((nI T - Bg (a + c)) / nI R)
          rw [a3, hold (a + c) (by omega)]; exact b4
        · by_cases z : v = w
          · refine ⟨by show Y.1 v = _; rw [a1, z]; exact if_pos rfl, i, by omega, by show Y.2.1 v = _; rw [a2, z]; exact if_pos rfl, ?_⟩
            show Y.2.2.1 v = vaI sl ((nI T - Bg (a + i)) / nI R)
            rw [a3, z]; exact if_pos rfl
          · have hv1' : ¬ Y.1 v = nI 0 := hv1
            have hv2' : Y.2.2.2.1 v = nI T := hv2
            rw [a1, show upd X.2.2.1 w (nI 1) v = X.2.2.1 v from if_neg z] at hv1'
            rw [a4, show upd X.2.2.2.2.2.1 w (nI T) v = X.2.2.2.2.2.1 v from if_neg z] at hv2'
            obtain ⟨b1, c, b2, b3, b4⟩ := h5 v hv1' hv2'
            refine ⟨by show Y.1 v = _; rw [a1]; exact (if_neg z).trans b1, c, by omega, by show Y.2.1 v = _; rw [a2]; exact (if_neg z).trans b3, ?_⟩
            show Y.2.2.1 v = vaI sl ((nI T - Bg (a + c)) / nI R)
            rw [a3, hold (a + c) (by omega)]; exact (if_neg z).trans b4
    · -- no strike
      have hr : RLS V n (T + 1) sus sos (a + i) X.2.2 (vsE (T, sl, ru, R, V, bk, lt, sus, sos) (F (a + i)) (G (a + i)) (Dd (a + i)) (a + i) (x0.1 (a + i)) (x0.2.1 (a + i)) X.2.2) := by
        have r0 : RLS V n (T + 1) sus sos (a + i) X.2.2 X.2.2 := RLS.rfl' h3
        have r1 := r0.rls (T := T) (R := R) (sl := sl) (ru := ru) (bk := bk) (lt := lt)
        have r2 := r1.rls (T := T) (R := R) (sl := sl) (ru := ru) (bk := bk) (lt := lt)
        unfold vsE
        by_cases q1 : G (a + i) = true
        · have q2 : x0.1 (a + i) = nI 2 := Decidable.of_not_not (fun w => hs ⟨q1, w⟩)
          rw [if_pos q1, if_pos q2]; exact r0
        · rw [if_neg q1]
          repeat' split
          all_goals first | exact r0 | exact r1 | exact r2
      have eh : htN G x0.1 (a + i) = 0 := by
        unfold htN
        by_cases q1 : G (a + i) = true
        · have q2 : x0.1 (a + i) = nI 2 := Decidable.of_not_not (fun w => hs ⟨q1, w⟩)
          rw [if_pos q1, if_pos q2]
        · rw [if_neg q1]
      generalize vsE (T, sl, ru, R, V, bk, lt, sus, sos) (F (a + i)) (G (a + i)) (Dd (a + i)) (a + i) (x0.1 (a + i)) (x0.2.1 (a + i)) X.2.2 = Y at hr
      obtain ⟨g1, g2, g3, g4, g5, g6⟩ := hr
      refine ⟨g1, by rw [g2, h4, eh, Nat.add_zero], fun v hv1 hv2 => ?_⟩
      have hv1' : ¬ Y.1 v = nI 0 := hv1
      have hv2' : Y.2.2.2.1 v = nI T := hv2
      rw [g5] at hv2'
      have hx1 : ¬ X.2.2.1 v = nI 0 := fun q => by
        rw [g6 v (fun w => w.1 q)] at hv1'
        exact hv1' q
      obtain ⟨b1, c, b2, b3, b4⟩ := h5 v hx1 hv2'
      have ne : ¬ (¬ X.2.2.1 v = nI 0 ∧ X.2.2.2.1 v = nI (a + i)) := fun w => by
        have := (xI_inj (by omega) (by omega)).mp (b3.symm.trans w.2)
        omega
      refine ⟨by show Y.1 v = _; rw [g6 v ne]; exact b1, c, by omega, by show Y.2.1 v = _; rw [g3]; exact b3, ?_⟩
      show Y.2.2.1 v = vaI sl ((nI T - Bg (a + c)) / nI R)
      rw [g4, hold (a + c) (by omega)]; exact b4
/-! a tick -/
theorem row_iff {i r C : Nat} (hC : 1 ≤ C) : i / C = r ↔ r * C ≤ i ∧ i < r * C + C := by
  constructor
  · intro h
    have h1 := @kdm i C
    have h2 := Nat.mod_lt i (show 0 < C by omega)
    rw [h] at h1
    omega
  · rintro ⟨h1, h2⟩
    obtain ⟨c, rfl⟩ : ∃ c, i = r * C + c := ⟨i - r * C, by omega⟩
    exact rc_div (by omega)
theorem nph_law {f g : Bool} {x : Int32} (hg : g = true → f = true) (hx : x = nI 0 ∨ x = nI 1 ∨ x = nI 2 ∨ x = nI 3) : nph f g x = if b2n g = 1 then nI 2 else if b2n f = 1 then (if x = nI 0 then nI 1 else if x = nI 2 then nI 3 else x) else nI 0 := by
  rcases hx with rfl | rfl | rfl | rfl <;> cases f <;> cases g <;> first | exact absurd (hg rfl) (by decide) | decide
section
variable {s : KSt} {R C V N i : Nat}
theorem INV.bg (h : INV s R C V N) : ∀ k, ¬ kph s k = nI 0 → ∃ b, b ≤ kT s ∧ kbg s k = nI b := h.2.2.2.2.2.2.2.2.2.2.1
theorem INV.TN (h : INV s R C V N) : kT s ≤ N ∧ kmk s ≤ 64 * N := h.2.2.2.2.2.2.2.2.2.2.2
theorem INV.rowC (h : INV s R C V N) : kT s % R < R ∧ kT s % R * C + C ≤ R * C := by
  have hr : kT s % R < R := Nat.mod_lt _ (by have := h.rR.1; omega)
  exact ⟨hr, by rw [← Nat.succ_mul]; exact Nat.mul_le_mul_right C hr⟩
theorem INV.trow (h : INV s R C V N) (hN : N ≤ 4000) : kph (tick1 s) = rowP (kF s) (kG s) (kT s % R * C) C (kph s) ∧
    (∀ j, kbg (tick1 s) j = if (kT s % R * C ≤ j ∧ j < kT s % R * C + C) ∧ bgE (kF s j) (kG s j) (kph s j) = true then nI (kT s) else kbg s j) ∧
    VI V (R * C) (kT s + 1) (kSus s) (kSos s) (kst (tick1 s)) (kkk (tick1 s)) (kve (tick1 s)) (ksi (tick1 s)) (kca (tick1 s)) ∧
    ksk (tick1 s) + krf (tick1 s) = ksk s + krf s + nI (fb_s (fun c => htN (kG s) (kph s) (kT s % R * C + c)) C) ∧
    ∀ v, ¬ kst (tick1 s) v = nI 0 → ksi (tick1 s) v = nI (kT s) → kst (tick1 s) v = nI 1 ∧ ∃ c, c < C ∧ kkk (tick1 s) v = nI (kT s % R * C + c) ∧ kve (tick1 s) v = vaI (kSl s) ((nI (kT s) - kbg (tick1 s) (kT s % R * C + c)) / nI R) := by
  have hrc := h.rc
  have hrow := h.rowC
  have hgf := h.gf
  have hph := h.ph
  have hvi := h.vi
  have hTN := h.TN
  obtain ⟨hR, hC, hV, hp⟩ := h.rR
  obtain ⟨h1, h2, h3, _⟩ := h
  obtain ⟨⟨T, sl, ru, R0, V0, bk, lt, sus, sos⟩, x0, pos, C0, dio, cl, jn, dl, dn⟩ := s
  have h1' : R0 = R := h1
  have h2' : C0 = C := h2
  have h3' : V0 = V := h3
  subst h1'; subst h2'; subst h3'
  exact row_inv (T := T) (R := R0) (V := V0) (n := R0 * C0) (sl := sl) (ru := ru) (bk := bk) (lt := lt) (sus := sus) (sos := sos) (Dd := kD ((T, sl, ru, R0, V0, bk, lt, sus, sos), x0, pos, C0, dio, cl, jn, dl, dn)) (a := T % R0 * C0) (x0 := x0) hph (fun j a1 a2 => hgf j (Nat.lt_of_lt_of_le a2 hrow.2)) hV.1 hrow.2 (by omega) (by have : T ≤ N := hTN.1; omega) hvi C0 (Nat.le_refl _)
theorem INV.tick_due (h : INV s R C V N) (hN : N ≤ 4000) (hi : i < R * C) : kph (tick1 s) i = dueL s R C i := by
  rw [(h.trow hN).1]
  unfold rowP dueL
  have hC := h.rR.2.1
  by_cases e : i / C = kT s % R
  · rw [if_pos ((row_iff hC.1).mp e), if_pos e]
    exact nph_law (h.gf i hi) (h.ph i)
  · rw [if_neg (fun q => e ((row_iff hC.1).mpr q)), if_neg e]
theorem INV.tick_from (h : INV s R C V N) (hN : N ≤ 4000) (hi : i < R * C) : (if kph (tick1 s) i = nI 0 then nI 0 else kbg (tick1 s) i) = fromL s R C i := by
  have hd := h.tick_due hN hi
  have hC := h.rR.2.1
  have e1 := congrFun (h.trow hN).1 i
  have e2 := (h.trow hN).2.1 i
  unfold fromL
  rw [← hd, e2]
  by_cases e : i / C = kT s % R
  · have hin := (row_iff hC.1).mp e
    have e3 : kph (tick1 s) i = nph (kF s i) (kG s i) (kph s i) := by rw [e1]; exact if_pos hin
    rw [if_pos e]
    by_cases z : kph (tick1 s) i = nI 0
    · rw [if_pos z, if_pos z]
    · rw [if_neg z, if_neg z]
      rw [e3] at z ⊢
      unfold kbeg
      have hg := h.gf i hi
      have hx := h.ph i
      generalize kF s i = f at *
      generalize kG s i = g at *
      generalize kph s i = x at *
      have hb : ((kT s % R * C ≤ i ∧ i < kT s % R * C + C) ∧ bgE f g x = true) ↔ bgE f g x = true := ⟨fun q => q.2, fun q => ⟨hin, q⟩⟩
      simp only [hb]
      rcases hx with rfl | rfl | rfl | rfl <;> cases f <;> cases g <;> first | exact absurd (hg rfl) (by decide) | exact absurd (by decide) z | rfl
  · have hin : ¬ (kT s % R * C ≤ i ∧ i < kT s % R * C + C) := fun q => e ((row_iff hC.1).mpr q)
    have e3 : kph (tick1 s) i = kph s i := by rw [e1]; exact if_neg hin
    have hq : ¬ ((kT s % R * C ≤ i ∧ i < kT s % R * C + C) ∧ bgE (kF s i) (kG s i) (kph s i) = true) := fun q => hin q.1
    rw [if_neg e, if_neg hq, e3]; rfl
theorem INV.from_nat (h : INV s R C V N) : ∃ b, b ≤ kT s ∧ fromL s R C i = nI b := by
  have hk : ∃ b, b ≤ kT s ∧ kbeg s i = nI b := by
    unfold kbeg
    by_cases z : kph s i = nI 0
    · rw [if_pos z]; exact ⟨0, Nat.zero_le _, rfl⟩
    · rw [if_neg z]; exact h.bg i z
  unfold fromL
  repeat' split
  all_goals first | exact hk | exact ⟨0, Nat.zero_le _, rfl⟩ | exact ⟨kT s, Nat.le_refl _, rfl⟩
theorem INV.hit_voice (h : INV s R C V N) (hN : N ≤ 4000) (hi : i < R * C) (c : dueL s R C i = nI 2) (hw : findN (wkP (kst (tick1 s)) (kkk (tick1 s)) (nI i)) 0 V < V) (c3 : ksi (tick1 s) (findN (wkP (kst (tick1 s)) (kkk (tick1 s)) (nI i)) 0 V) = nI (kT s)) {b : Nat} (hb : b ≤ kT s) (eb : fromL s R C i = nI b) : kst (tick1 s) (findN (wkP (kst (tick1 s)) (kkk (tick1 s)) (nI i)) 0 V) = nI 1 ∧ kve (tick1 s) (findN (wkP (kst (tick1 s)) (kkk (tick1 s)) (nI i)) 0 V) = vaI (kSl (tick1 s)) (nI ((kT s - b) / R)) := by
  obtain ⟨hw1, hw2⟩ := vo_snd hw
  have hrc := h.rc
  have hrow := h.rowC
  have hR := h.rR.1
  have hTN := h.TN.1
  obtain ⟨g1, cc, g2, g3, g4⟩ := (h.trow hN).2.2.2.2 _ hw1 c3
  refine ⟨g1, ?_⟩
  have ei : kT s % R * C + cc = i := ((xI_inj (by omega) (by omega)).mp (g3.symm.trans hw2))
  have e := h.tick_from hN hi
  rw [h.tick_due hN hi, c, if_neg (by decide), eb] at e
  rw [ei, e, xI_sub hb, xI_div (by omega) (by omega) (by omega)] at g4
  exact g4
theorem fb_s_split (f : Nat → Nat) (m : Nat) : ∀ n, fb_s f (m + n) = fb_s f m + fb_s (fun k => f (m + k)) n
  | 0 => rfl
  | n + 1 => by
    have ih := fb_s_split f m n
    show fb_s f (m + n) + f (m + n) = fb_s f m + (fb_s (fun k => f (m + k)) n + f (m + n))
    omega
theorem fb_s_zero {f : Nat → Nat} : ∀ n, (∀ k, k < n → f k = 0) → fb_s f n = 0
  | 0, _ => rfl
  | n + 1, h => by
    show fb_s f n + f n = 0
    rw [fb_s_zero n (fun k hk => h k (by omega)), h n (by omega)]
theorem fb_s_cong {f g : Nat → Nat} : ∀ n, (∀ k, k < n → f k = g k) → fb_s f n = fb_s g n
  | 0, _ => rfl
  | n + 1, h => by
    show fb_s f n + f n = fb_s g n + g n
    rw [fb_s_cong n (fun k hk => h k (by omega)), h n (by omega)]
theorem INV.tick_hits (h : INV s R C V N) (hN : N ≤ 4000) : ksk (tick1 s) + krf (tick1 s) = ksk s + krf s + nI (fb_s (hitL s R C) (R * C)) := by
  rw [(h.trow hN).2.2.2.1]
  congr 2
  have hrow := h.rowC
  have hC := h.rR.2.1
  obtain ⟨d, hd⟩ : ∃ d, R * C = kT s % R * C + (C + d) := ⟨R * C - (kT s % R * C + C), by omega⟩
  rw [hd, fb_s_split, fb_s_split]
  have z1 : fb_s (hitL s R C) (kT s % R * C) = 0 := fb_s_zero _ (fun k hk => by
    unfold hitL
    rw [if_neg (fun q => by have := (row_iff hC.1).mp q; omega)])
  have z2 : fb_s (fun k => hitL s R C (kT s % R * C + (C + k))) d = 0 := fb_s_zero _ (fun k hk => by
    unfold hitL
    rw [if_neg (fun q => by have := (row_iff hC.1).mp q; omega)])
  have z3 : fb_s (fun k => hitL s R C (kT s % R * C + k)) C = fb_s (fun c => htN (kG s) (kph s) (kT s % R * C + c)) C := fb_s_cong _ (fun k hk => by
    unfold hitL dueL htN
    have e : (kT s % R * C + k) / C = kT s % R := rc_div hk
    have hx := h.ph (kT s % R * C + k)
    rw [if_pos e, if_pos e]
    show (if (if b2n (kG s _) = 1 then nI 2 else if b2n (kF s _) = 1 then _ else _) = nI 2 then _ else _) = _
    have hg := h.gf (kT s % R * C + k) (by omega)
    generalize kF s (kT s % R * C + k) = f at *
    generalize kG s (kT s % R * C + k) = g at *
    generalize kph s (kT s % R * C + k) = x at *
    rcases hx with rfl | rfl | rfl | rfl <;> cases f <;> cases g <;> first | exact absurd (hg rfl) (by decide) | decide)
  omega
theorem INV.tk1 (h : INV s R C V N) (hN : N ≤ 4000) : INV (tick1 s) R C V (N + 1) := by
  have ht := h.trow hN
  have hgf := h.gf
  have hrow := h.rowC
  have hTN := h.TN
  have hbg := h.bg
  have hC8 := h.rR.2.1.2
  have hm : kmk (tick1 s) ≤ kmk s + 1 * (kC s * 5) := tckS_mk s.1 (kF s) (kG s) (kD s) (kC s) 1 s.2.1
  obtain ⟨h1, h2, h3, h4, h5, h6, h7, h8, h9, h10, h11, h12⟩ := h
  refine ⟨h1, h2, h3, h4, h5, h6, h7, h8, ?_, ht.2.2.1, fun k hk => ?_, by show kT s + 1 ≤ N + 1; omega, ?_⟩
  · rw [ht.1]; exact rowP_PH (fun j a1 a2 => hgf j (by omega)) h9
  · rw [ht.2.1 k]
    by_cases q : (kT s % R * C ≤ k ∧ k < kT s % R * C + C) ∧ bgE (kF s k) (kG s k) (kph s k) = true
    · rw [if_pos q]; exact ⟨kT s, by show kT s ≤ kT s + 1; omega, rfl⟩
    · rw [if_neg q]
      have hne : ¬ kph s k = nI 0 := fun z => by
        rw [ht.1] at hk
        unfold rowP at hk
        by_cases w : kT s % R * C ≤ k ∧ k < kT s % R * C + C
        · rw [if_pos w] at hk
          have hb : ¬ bgE (kF s k) (kG s k) (kph s k) = true := fun y => q ⟨w, y⟩
          have hg := hgf k (by omega)
          rw [z] at hk hb
          revert hk hb hg
          generalize kF s k = f
          generalize kG s k = g
          cases f <;> cases g <;> decide
        · rw [if_neg w] at hk; exact hk z
      obtain ⟨b, hb, eb⟩ := hbg k hne
      exact ⟨b, by show b ≤ kT s + 1; omega, eb⟩
  · have : kC s * 5 ≤ 40 := by rw [h2]; omega
    omega
theorem INV.tkN (h : INV s R C V N) : ∀ n, N + n ≤ 4001 → INV (tickN n s) R C V (N + n)
  | 0, _ => h
  | n + 1, hn => (INV.tkN h n (by omega)).tk1 (by omega)
end
