/-! both states -/
def SI (V : Nat) (sus sos : Bool) (st : Nat → Int32) (ca : Nat → Bool) : Prop := (∀ v, st v = nI 0 ∨ st v = nI 1 ∨ st v = nI 2) ∧ ∀ v, st v = nI 2 → v < V ∧ kpB sus sos ca v = true
def PH (ph : Nat → Int32) : Prop := ∀ k, ph k = nI 0 ∨ ph k = nI 1 ∨ ph k = nI 2 ∨ ph k = nI 3
def XR (V : Nat) (sus sos : Bool) (s : XS) (t : MS) : Prop := match s, t with
  | (ph, bg, st, kk, ve, si, ca, tk, jt, jk, jy, mj, sk, rf), (ph', bg', st', kk', ve', si', ca', tk', lg, mj', sk', rf') => ph = ph' ∧ st = st' ∧ kk = kk' ∧ ve = ve' ∧ si = si' ∧ ca = ca' ∧ tk = tk' ∧ mj = mj' ∧ sk = sk' ∧ rf = rf' ∧ (∀ k, ¬ ph k = nI 0 → bg k = bg' k) ∧ JR jt jk jy mj lg ∧ SI V sus sos st ca ∧ PH ph
theorem XR_mk {V : Nat} {sus sos : Bool} {ph bg st kk ve si : Nat → Int32} {ca : Nat → Bool} {tk : Int32} {jt jk jy : Nat → Int32} {mj : Nat} {sk rf : Int32} {ph' bg' st' kk' ve' si' : Nat → Int32} {ca' : Nat → Bool} {tk' : Int32} {lg : Nat → Int32} {mj' : Nat} {sk' rf' : Int32}
    (h1 : ph = ph') (h2 : st = st') (h3 : kk = kk') (h4 : ve = ve') (h5 : si = si') (h6 : ca = ca') (h7 : tk = tk') (h8 : mj = mj') (h9 : sk = sk') (h10 : rf = rf') (h11 : ∀ k, ¬ ph k = nI 0 → bg k = bg' k) (h12 : JR jt jk jy mj lg) (h13 : SI V sus sos st ca) (h14 : PH ph) : XR V sus sos (ph, bg, st, kk, ve, si, ca, tk, jt, jk, jy, mj, sk, rf) (ph', bg', st', kk', ve', si', ca', tk', lg, mj', sk', rf') := ⟨h1, h2, h3, h4, h5, h6, h7, h8, h9, h10, h11, h12, h13, h14⟩
theorem SI_set {V : Nat} {sus sos : Bool} {st : Nat → Int32} {ca : Nat → Bool} {x : Int32} {w : Nat} (h : SI V sus sos st ca) (hx : x = nI 0 ∨ x = nI 1) : SI V sus sos (upd st w x) (updB ca w false) := by
  refine ⟨fun v => ?_, fun v => ?_⟩
  · unfold upd
    by_cases e : v = w
    · rw [if_pos e]; rcases hx with q | q
      · exact Or.inl q
      · exact Or.inr (Or.inl q)
    · rw [if_neg e]; exact h.1 v
  · unfold upd
    by_cases e : v = w
    · rw [if_pos e]; intro q; rcases hx with z | z <;> rw [z] at q <;> exact absurd q (by decide)
    · rw [if_neg e]; intro q
      have := h.2 v q
      refine ⟨this.1, ?_⟩
      have := this.2
      unfold kpB at this ⊢
      rw [show updB ca w false v = ca v from if_neg e]; exact this
theorem SI_keep {V : Nat} {sus sos : Bool} {st : Nat → Int32} {ca : Nat → Bool} {w : Nat} (h : SI V sus sos st ca) (hw : w < V) (hk : kpB sus sos ca w = true) : SI V sus sos (upd st w (nI 2)) ca := by
  refine ⟨fun v => ?_, fun v => ?_⟩
  · unfold upd
    by_cases e : v = w
    · rw [if_pos e]; exact Or.inr (Or.inr rfl)
    · rw [if_neg e]; exact h.1 v
  · unfold upd
    by_cases e : v = w
    · rw [e]; intro _; exact ⟨hw, hk⟩
    · rw [if_neg e]; exact h.2 v
theorem rel_SI {kk : Nat → Int32} {sus sos : Bool} {key now : Int32} {V : Nat} {s : VJ} (h : SI V sus sos s.1 s.2.1) : SI V sus sos (relV kk sus sos key now V s).1 (relV kk sus sos key now V s).2.1 := by
  unfold relV
  by_cases e : findN (wkP s.1 kk key) 0 V < V
  · rw [if_pos e]
    by_cases e2 : s.1 (findN (wkP s.1 kk key) 0 V) = nI 1
    · rw [if_pos e2]
      by_cases e3 : kpB sus sos s.2.1 (findN (wkP s.1 kk key) 0 V) = true
      · rw [if_pos e3]; exact SI_keep h e e3
      · rw [if_neg e3]; exact SI_set h (Or.inl rfl)
    · rw [if_neg e2]; exact h
  · rw [if_neg e]; exact h
theorem snd_eq {st kk ve si : Nat → Int32} {ru key : Int32} {V : Nat} (hV : 1 ≤ V) (h : ∀ v, st v = nI 0 ∨ st v = nI 1 ∨ st v = nI 2) : sndW st kk ve si ru key V = snM st kk ve si ru key V := by
  unfold sndW snM
  by_cases e : findN (wkP st kk key) 0 V < V
  · rw [if_pos e, if_pos e]
  · rw [if_neg e, if_neg e]
    by_cases e2 : findN (ffP st) 0 V < V
    · rw [if_pos e2, if_pos e2]
    · rw [if_neg e2, if_neg e2]
      refine vic_eq hV (fun v hv => ?_)
      have := findN_none (p := ffP st) V 0 (by rw [Nat.zero_add]; exact e2) v (Nat.zero_le _) (by omega)
      unfold ffP at this
      rcases h v with q | q
      · rw [if_pos q] at this; cases this
      · exact q
theorem sndJ_sim {st kk ve si : Nat → Int32} {ru key now : Int32} {V : Nat} {jt jk jy : Nat → Int32} {mj : Nat} {lg : Nat → Int32} (e : sndW st kk ve si ru key V = snM st kk ve si ru key V) (hj : JR jt jk jy mj lg) :
    JR (sndJ st kk ve si ru key now V (jt, jk, jy, mj)).1 (sndJ st kk ve si ru key now V (jt, jk, jy, mj)).2.1 (sndJ st kk ve si ru key now V (jt, jk, jy, mj)).2.2.1 (sndJ st kk ve si ru key now V (jt, jk, jy, mj)).2.2.2 (snJ st kk ve si ru key now V (lg, mj)).1 ∧ (sndJ st kk ve si ru key now V (jt, jk, jy, mj)).2.2.2 = (snJ st kk ve si ru key now V (lg, mj)).2 := by
  unfold sndJ snJ
  rw [e]
  by_cases h : sndT st kk key V = true
  · rw [if_pos h, if_pos h]
    exact ⟨JR_enter (JR_enter hj _ _ _) _ _ _, rfl⟩
  · rw [if_neg h, if_neg h]
    exact ⟨JR_enter hj _ _ _, rfl⟩
theorem PH_upd {ph : Nat → Int32} {k : Nat} {x : Int32} (h : PH ph) (hx : x = nI 0 ∨ x = nI 1 ∨ x = nI 2 ∨ x = nI 3) : PH (upd ph k x) := by
  intro j
  unfold upd
  by_cases e : j = k
  · rw [if_pos e]; exact hx
  · rw [if_neg e]; exact h j
theorem bg_upd {ph bg bg' : Nat → Int32} {k : Nat} {x : Int32} (h : ∀ k, ¬ ph k = nI 0 → bg k = bg' k) (hx : x = nI 0 ∨ bg k = bg' k) : ∀ j, ¬ upd ph k x j = nI 0 → bg j = bg' j := by
  intro j
  unfold upd
  by_cases e : j = k
  · rw [if_pos e]
    intro q
    rcases hx with z | z
    · exact absurd z q
    · rw [e]; exact z
  · rw [if_neg e]; exact h j
/-! one key -/
theorem XR_ph {V : Nat} {sus sos : Bool} {s : XS} {t : MS} {k : Nat} {x : Int32} (h : XR V sus sos s t) (hx : x = nI 0 ∨ (x = nI 2 ∧ ¬ s.1 k = nI 0)) : XR V sus sos (upd s.1 k x, s.2) (upd t.1 k x, t.2) := by
  obtain ⟨ph, bg, st, kk, ve, si, ca, tk, jt, jk, jy, mj, sk, rf⟩ := s
  obtain ⟨ph', bg', st', kk', ve', si', ca', tk', lg, mj', sk', rf'⟩ := t
  obtain ⟨rfl, rfl, rfl, rfl, rfl, rfl, rfl, rfl, rfl, rfl, hb, hj, hs, hp⟩ := h
  refine XR_mk rfl rfl rfl rfl rfl rfl rfl rfl rfl rfl (bg_upd hb ?_) hj hs (PH_upd hp ?_)
  · rcases hx with q | q
    · exact Or.inl q
    · exact Or.inr (hb k q.2)
  · rcases hx with q | q
    · exact Or.inl q
    · exact Or.inr (Or.inr (Or.inl q.1))
theorem XR_ent {V : Nat} {sus sos : Bool} {pr : PR} {s : XS} {t : MS} {k : Nat} {x : Int32} (h : XR V sus sos s t) (hx : x = nI 0 ∨ x = nI 1 ∨ x = nI 2 ∨ x = nI 3) : XR V sus sos (entS pr k x s) (enM pr k x t) := by
  obtain ⟨ph, bg, st, kk, ve, si, ca, tk, jt, jk, jy, mj, sk, rf⟩ := s
  obtain ⟨ph', bg', st', kk', ve', si', ca', tk', lg, mj', sk', rf'⟩ := t
  obtain ⟨rfl, rfl, rfl, rfl, rfl, rfl, rfl, rfl, rfl, rfl, hb, hj, hs, hp⟩ := h
  refine XR_mk rfl rfl rfl rfl rfl rfl rfl rfl rfl rfl ?_ hj hs (PH_upd hp hx)
  intro j
  unfold upd
  by_cases e : j = k
  · rw [if_pos e, if_pos e, if_pos e]; intro _; rfl
  · rw [if_neg e, if_neg e, if_neg e]; exact hb j
theorem XR_rls {pr : PR} {s : XS} {t : MS} {k : Nat} (h : XR pr.2.2.2.2.1 pr.2.2.2.2.2.2.2.1 pr.2.2.2.2.2.2.2.2 s t) : XR pr.2.2.2.2.1 pr.2.2.2.2.2.2.2.1 pr.2.2.2.2.2.2.2.2 (rlsS pr k s) (rlM pr k t) := by
  obtain ⟨ph, bg, st, kk, ve, si, ca, tk, jt, jk, jy, mj, sk, rf⟩ := s
  obtain ⟨ph', bg', st', kk', ve', si', ca', tk', lg, mj', sk', rf'⟩ := t
  obtain ⟨rfl, rfl, rfl, rfl, rfl, rfl, rfl, rfl, rfl, rfl, hb, hj, hs, hp⟩ := h
  have hv := rel_sim (kk := kk) (sus := pr.2.2.2.2.2.2.2.1) (sos := pr.2.2.2.2.2.2.2.2) (key := nI k) (T := pr.1) (V := pr.2.2.2.2.1) (s := (st, ca, jt, jk, jy, mj)) (t := (st, ca, lg, mj)) ⟨rfl, rfl, rfl, hj⟩
  have hs' := rel_SI (kk := kk) (key := nI k) (now := nI pr.1) (V := pr.2.2.2.2.1) (s := (st, ca, jt, jk, jy, mj)) hs
  exact XR_mk rfl hv.1 rfl rfl rfl hv.2.1 rfl hv.2.2.1 rfl rfl hb hv.2.2.2 hs' hp
theorem XR_str {V : Nat} {pr : PR} {sus sos d : Bool} {s : XS} {t : MS} {k : Nat} (hV : 1 ≤ pr.2.2.2.2.1) (h : XR V sus sos s t) (hk : ¬ s.1 k = nI 0) : XR V sus sos (strS pr d k s) (hsM pr d k t) := by
  obtain ⟨ph, bg, st, kk, ve, si, ca, tk, jt, jk, jy, mj, sk, rf⟩ := s
  obtain ⟨ph', bg', st', kk', ve', si', ca', tk', lg, mj', sk', rf'⟩ := t
  obtain ⟨rfl, rfl, rfl, rfl, rfl, rfl, rfl, rfl, rfl, rfl, hb, hj, hs, hp⟩ := h
  have hbk := hb k hk
  have e := snd_eq (kk := kk) (ve := ve) (si := si) (ru := pr.2.2.1) (key := nI k) hV hs.1
  have hJ := sndJ_sim (now := nI pr.1) e hj
  have hit : XR V sus sos (hitS pr k (ph, bg, st, kk, ve, si, ca, tk, jt, jk, jy, mj, sk, rf)) (upd (hiM pr k (ph, bg', st, kk, ve, si, ca, tk, lg, mj, sk, rf)).1 k (nI 2), (hiM pr k (ph, bg', st, kk, ve, si, ca, tk, lg, mj, sk, rf)).2) := by
    refine XR_mk rfl ?_ ?_ ?_ ?_ ?_ rfl hJ.2 rfl rfl (bg_upd hb (Or.inr hbk)) hJ.1 (SI_set hs (Or.inr rfl)) (PH_upd hp (Or.inr (Or.inr (Or.inl rfl))))
    · rw [e]
    · rw [e]
    · rw [e, va_eq, hbk]
    · rw [e]
    · rw [e]
  have ref : XR V sus sos (refS pr k (ph, bg, st, kk, ve, si, ca, tk, jt, jk, jy, mj, sk, rf)) (upd (reM pr k (ph, bg', st, kk, ve, si, ca, tk, lg, mj, sk, rf)).1 k (nI 2), (reM pr k (ph, bg', st, kk, ve, si, ca, tk, lg, mj, sk, rf)).2) :=
    XR_mk rfl rfl rfl rfl rfl rfl rfl rfl rfl rfl (bg_upd hb (Or.inr hbk)) (JR_enter hj _ _ _) hs (PH_upd hp (Or.inr (Or.inr (Or.inl rfl))))
  unfold strS hsM stM
  by_cases b1 : pr.2.2.2.2.2.1 = true
  · rw [if_pos b1, if_pos b1]
    by_cases b2 : d = true
    · rw [if_pos b2, if_pos b2]; exact ref
    · rw [if_neg b2, if_neg b2]; exact hit
  · rw [if_neg b1, if_neg b1]; exact hit
theorem XR.ph {V : Nat} {sus sos : Bool} {s : XS} {t : MS} (h : XR V sus sos s t) : s.1 = t.1 := by
  obtain ⟨ph, bg, st, kk, ve, si, ca, tk, jt, jk, jy, mj, sk, rf⟩ := s
  obtain ⟨ph', bg', st', kk', ve', si', ca', tk', lg, mj', sk', rf'⟩ := t
  exact h.1
theorem XR.PH {V : Nat} {sus sos : Bool} {s : XS} {t : MS} (h : XR V sus sos s t) : PH t.1 := by
  have e := h.ph
  obtain ⟨ph, bg, st, kk, ve, si, ca, tk, jt, jk, jy, mj, sk, rf⟩ := s
  obtain ⟨ph', bg', st', kk', ve', si', ca', tk', lg, mj', sk', rf'⟩ := t
  have : ph = ph' := e
  subst this
  exact h.2.2.2.2.2.2.2.2.2.2.2.2.2
theorem sc1_sim {V : Nat} {sus sos f : Bool} {pr : PR} {s : XS} {t : MS} {k : Nat} (h : XR V sus sos s t) : XR V sus sos (sc1 pr f k s) (m1 pr f k t) := by
  unfold sc1 m1
  rw [← h.ph]
  by_cases e : s.1 k = nI 0
  · rw [if_pos e, if_pos e]
    cases f
    · exact h
    · exact XR_ent h (Or.inr (Or.inl rfl))
  · rw [if_neg e, if_neg e]; exact h
theorem sc2_sim {V : Nat} {sus sos f g d : Bool} {pr : PR} {s : XS} {t : MS} {k : Nat} (hV : 1 ≤ pr.2.2.2.2.1) (h : XR V sus sos s t) : XR V sus sos (sc2 pr f g d k s) (m2 pr f g d k t) := by
  have hph := XR_ph (k := k) h (Or.inl rfl)
  unfold sc2 m2
  rw [show t.1 k = s.1 k by rw [h.ph]]
  by_cases e : s.1 k = nI 1
  · rw [if_pos e, if_pos e]
    cases g
    · cases f
      · exact hph
      · exact h
    · exact XR_str hV h (by rw [e]; decide)
  · rw [if_neg e, if_neg e]; exact h
theorem sc3_sim {g was : Bool} {w9 : Int32} {pr : PR} {s : XS} {t : MS} {k : Nat} (hw : was = true ↔ w9 = nI 2) (h : XR pr.2.2.2.2.1 pr.2.2.2.2.2.2.2.1 pr.2.2.2.2.2.2.2.2 s t) : XR pr.2.2.2.2.1 pr.2.2.2.2.2.2.2.1 pr.2.2.2.2.2.2.2.2 (sc3 pr g was k s) (m3 pr g w9 k t) := by
  unfold sc3 m3
  by_cases e : w9 = nI 2
  · rw [if_pos e, if_pos (hw.mpr e)]
    cases g
    · rw [if_neg (show ¬ (false : Bool) = true by decide), if_neg (show ¬ (false : Bool) = true by decide)]
      by_cases b : pr.2.2.2.2.2.2.1 = true
      · rw [if_pos b, if_pos b]; exact XR_ent h (Or.inr (Or.inr (Or.inr rfl)))
      · rw [if_neg b, if_neg b]; exact XR_ent (XR_rls h) (Or.inr (Or.inr (Or.inr rfl)))
    · exact h
  · rw [if_neg e, if_neg (fun q => e (hw.mp q))]; exact h
theorem sc4_sim {f g d : Bool} {pr : PR} {s : XS} {t : MS} {k : Nat} (hV : 1 ≤ pr.2.2.2.2.1) (h : XR pr.2.2.2.2.1 pr.2.2.2.2.2.2.2.1 pr.2.2.2.2.2.2.2.2 s t) : XR pr.2.2.2.2.1 pr.2.2.2.2.2.2.2.1 pr.2.2.2.2.2.2.2.2 (sc4 pr f g d k s) (m4 pr f g d k t) := by
  unfold sc4 m4
  rw [show t.1 k = s.1 k by rw [h.ph]]
  by_cases e : s.1 k = nI 3
  · rw [if_pos e, if_pos e]
    cases g
    · cases f
      · exact XR_ph (XR_rls h) (Or.inl rfl)
      · exact h
    · exact XR_str hV h (by rw [e]; decide)
  · rw [if_neg e, if_neg e]; exact h
theorem scn_sim {pr : PR} {F G D F' G' D' : Nat → Bool} {s : XS} {t : MS} {k : Nat} (hV : 1 ≤ pr.2.2.2.2.1) (hF : F k = F' k) (hG : G k = G' k) (hD : D k = D' k) (h : XR pr.2.2.2.2.1 pr.2.2.2.2.2.2.2.1 pr.2.2.2.2.2.2.2.2 s t) : XR pr.2.2.2.2.1 pr.2.2.2.2.2.2.2.1 pr.2.2.2.2.2.2.2.2 (scnS pr F G D k s) (mscn pr F' G' D' k t) := by
  unfold scnS mscn
  rw [← hF, ← hG, ← hD]
  refine sc4_sim hV (sc3_sim ?_ (sc2_sim hV (sc1_sim h)))
  unfold wasB
  rw [h.ph]
  by_cases e : t.1 k = nI 2
  · rw [if_pos e]; exact ⟨fun _ => e, fun _ => rfl⟩
  · rw [if_neg e]; exact ⟨fun q => (by cases q), fun q => absurd q e⟩
theorem row_sim {pr : PR} {F G D F' G' D' : Nat → Bool} {R C row : Nat} {s : XS} {t : MS} (hV : 1 ≤ pr.2.2.2.2.1) (hrow : row < R) (hF : ∀ k, k < R * C → F k = F' k) (hG : ∀ k, k < R * C → G k = G' k) (hD : ∀ k, k < R * C → D k = D' k) (h : XR pr.2.2.2.2.1 pr.2.2.2.2.2.2.2.1 pr.2.2.2.2.2.2.2.2 s t) : XR pr.2.2.2.2.1 pr.2.2.2.2.2.2.2.1 pr.2.2.2.2.2.2.2.2 (rowS pr F G D C row s) (mrow pr F' G' D' C row t) :=
  lfor_sim (XR pr.2.2.2.2.1 pr.2.2.2.2.2.2.2.1 pr.2.2.2.2.2.2.2.2) C 0 s t (fun c s t _ hc h => have hk : row * C + c < R * C := rc_lt hrow (by omega)
    scn_sim hV (hF _ hk) (hG _ hk) (hD _ hk) h) h
theorem tck_sim {pr : PR} {F G D F' G' D' : Nat → Bool} {C n : Nat} {s : XS} {t : MS} (hV : 1 ≤ pr.2.2.2.2.1) (hR : 1 ≤ pr.2.2.2.1) (hF : ∀ k, k < pr.2.2.2.1 * C → F k = F' k) (hG : ∀ k, k < pr.2.2.2.1 * C → G k = G' k) (hD : ∀ k, k < pr.2.2.2.1 * C → D k = D' k) (h : XR pr.2.2.2.2.1 pr.2.2.2.2.2.2.2.1 pr.2.2.2.2.2.2.2.2 s t) : XR pr.2.2.2.2.1 pr.2.2.2.2.2.2.2.1 pr.2.2.2.2.2.2.2.2 (tckS pr F G D C n s) (mtck pr F' G' D' C n t) :=
  lfor_sim (XR pr.2.2.2.2.1 pr.2.2.2.2.2.2.2.1 pr.2.2.2.2.2.2.2.2) n 0 s t (fun i s t _ _ h => row_sim (pr := prT pr i) hV (Nat.mod_lt _ hR) hF hG hD h) h
