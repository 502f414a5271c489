/-! the voices' invariant -/
section
variable {V n B : Nat} {sus sos : Bool} {st kk ve si : Nat → Int32} {ca : Nat → Bool}
theorem VI.mono (h : VI V n B sus sos st kk ve si ca) {B2 : Nat} (hb : B ≤ B2) : VI V n B2 sus sos st kk ve si ca := by
  obtain ⟨h1, h2, h3, h4, h5⟩ := h
  refine ⟨h1, fun v hv => ?_, h3, h4, h5⟩
  obtain ⟨a, b, c, t, d, e⟩ := h2 v hv
  exact ⟨a, b, c, t, by omega, e⟩
/-- voices that get free, flags that may change -/
theorem VI.free (h : VI V n B sus sos st kk ve si ca) {V2 : Nat} {sus2 sos2 : Bool} {st2 : Nat → Int32} {ca2 : Nat → Bool} (hs : ∀ v, st2 v = nI 0 ∨ st2 v = st v) (hV : ∀ v, ¬ st2 v = nI 0 → v < V2) (hk : ∀ v, st2 v = nI 2 → kpB sus2 sos2 ca2 v = true) (hc0 : ∀ v, st2 v = nI 0 → ca2 v = false) (hc1 : ∀ v, ca2 v = true → sos2 = true) : VI V2 n B sus2 sos2 st2 kk ve si ca2 := by
  obtain ⟨h1, h2, h3, h4, h5⟩ := h
  have live : ∀ v, ¬ st2 v = nI 0 → ¬ st v = nI 0 := fun v hv => by rw [← (hs v).resolve_left hv]; exact hv
  refine ⟨⟨fun v => ?_, fun v hv => ⟨hV v (by rw [hv]; decide), hk v hv⟩⟩, fun v hv => ?_, fun v w hv hw => h3 v w (live v hv) (live w hw), hc0, hc1⟩
  · rcases hs v with e | e
    · exact Or.inl e
    · rw [e]; exact h1.1 v
  · obtain ⟨a, b⟩ := h2 v (live v hv)
    exact ⟨hV v hv, b⟩
theorem VI.set0 (h : VI V n B sus sos st kk ve si ca) (w : Nat) : VI V n B sus sos (upd st w (nI 0)) kk ve si (updB ca w false) := by
  have h' := h
  obtain ⟨h1, h2, h3, h4, h5⟩ := h
  have at' : ∀ v, ¬ v = w → upd st w (nI 0) v = st v ∧ updB ca w false v = ca v := fun v z => ⟨if_neg z, if_neg z⟩
  have live : ∀ v, ¬ upd st w (nI 0) v = nI 0 → ¬ v = w := fun v hv z => hv (by rw [z]; exact if_pos rfl)
  refine h'.free (fun v => ?_) (fun v hv => ?_) (fun v hv => ?_) (fun v hv => ?_) (fun v hv => ?_)
  · by_cases z : v = w
    · rw [z]; exact Or.inl (if_pos rfl)
    · exact Or.inr (at' v z).1
  · have z := live v hv
    rw [(at' v z).1] at hv
    exact (h2 v hv).1
  · have z := live v (by rw [hv]; decide)
    rw [(at' v z).1] at hv
    have := (h1.2 v hv).2
    unfold kpB at this ⊢
    rw [(at' v z).2]; exact this
  · by_cases z : v = w
    · rw [z]; exact if_pos rfl
    · rw [(at' v z).1] at hv
      rw [(at' v z).2]; exact h4 v hv
  · by_cases z : v = w
    · rw [z, show updB ca w false w = false from if_pos rfl] at hv; cases hv
    · rw [(at' v z).2] at hv; exact h5 v hv
theorem VI.set2 (h : VI V n B sus sos st kk ve si ca) {w : Nat} (hw : ¬ st w = nI 0) (hkp : kpB sus sos ca w = true) : VI V n B sus sos (upd st w (nI 2)) kk ve si ca := by
  obtain ⟨h1, h2, h3, h4, h5⟩ := h
  have at' : ∀ v, ¬ v = w → upd st w (nI 2) v = st v := fun v z => if_neg z
  have at2 : upd st w (nI 2) w = nI 2 := if_pos rfl
  have live : ∀ v, ¬ upd st w (nI 2) v = nI 0 → ¬ st v = nI 0 := fun v hv => by
    by_cases z : v = w
    · rw [z]; exact hw
    · rw [at' v z] at hv; exact hv
  refine ⟨⟨fun v => ?_, fun v hv => ?_⟩, fun v hv => h2 v (live v hv), fun v x hv hx => h3 v x (live v hv) (live x hx), fun v hv => ?_, h5⟩
  · by_cases z : v = w
    · rw [z, at2]; exact Or.inr (Or.inr rfl)
    · rw [at' v z]; exact h1.1 v
  · by_cases z : v = w
    · rw [z]; exact ⟨(h2 w hw).1, hkp⟩
    · rw [at' v z] at hv; exact h1.2 v hv
  · by_cases z : v = w
    · rw [z, at2] at hv; exact absurd hv (by decide)
    · rw [at' v z] at hv; exact h4 v hv
theorem VI.hit (h : VI V n B sus sos st kk ve si ca) {w k t x : Nat} (hw : w < V) (hu : ∀ v, ¬ st v = nI 0 → kk v = nI k → v = w) (hk : k < n) (hx : 1 ≤ x ∧ x ≤ 127) (ht : t < B) : VI V n B sus sos (upd st w (nI 1)) (upd kk w (nI k)) (upd ve w (nI x)) (upd si w (nI t)) (updB ca w false) := by
  obtain ⟨h1, h2, h3, h4, h5⟩ := h
  have at' : ∀ v, ¬ v = w → upd st w (nI 1) v = st v ∧ upd kk w (nI k) v = kk v ∧ upd ve w (nI x) v = ve v ∧ upd si w (nI t) v = si v ∧ updB ca w false v = ca v := fun v z => ⟨if_neg z, if_neg z, if_neg z, if_neg z, if_neg z⟩
  have e1 : upd st w (nI 1) w = nI 1 := if_pos rfl
  have e2 : upd kk w (nI k) w = nI k := if_pos rfl
  have e3 : upd ve w (nI x) w = nI x := if_pos rfl
  have e4 : upd si w (nI t) w = nI t := if_pos rfl
  have e5 : updB ca w false w = false := if_pos rfl
  refine ⟨⟨fun v => ?_, fun v hv => ?_⟩, fun v hv => ?_, fun v y hv hy he => ?_, fun v hv => ?_, fun v hv => ?_⟩
  · by_cases z : v = w
    · rw [z, e1]; exact Or.inr (Or.inl rfl)
    · rw [(at' v z).1]; exact h1.1 v
  · by_cases z : v = w
    · rw [z, e1] at hv; exact absurd hv (by decide)
    · rw [(at' v z).1] at hv
      have := h1.2 v hv
      refine ⟨this.1, ?_⟩
      have := this.2
      unfold kpB at this ⊢
      rw [(at' v z).2.2.2.2]; exact this
  · by_cases z : v = w
    · rw [z, e2, e3, e4]; exact ⟨hw, ⟨k, hk, rfl⟩, ⟨x, hx.1, hx.2, rfl⟩, t, ht, rfl⟩
    · obtain ⟨a1, a2, a3, a4, a5⟩ := at' v z
      rw [a1] at hv
      rw [a2, a3, a4]; exact h2 v hv
  · by_cases z : v = w
    · by_cases z2 : y = w
      · rw [z, z2]
      · rw [(at' y z2).1] at hy
        rw [z, e2, (at' y z2).2.1] at he
        rw [z]; exact (hu y hy he.symm).symm
    · rw [(at' v z).1] at hv
      by_cases z2 : y = w
      · rw [(at' v z).2.1, z2, e2] at he
        rw [z2]; exact hu v hv he
      · rw [(at' y z2).1] at hy
        rw [(at' v z).2.1, (at' y z2).2.1] at he
        exact h3 v y hv hy he
  · by_cases z : v = w
    · rw [z]; exact e5
    · rw [(at' v z).1] at hv
      rw [(at' v z).2.2.2.2]; exact h4 v hv
  · by_cases z : v = w
    · rw [z, e5] at hv; cases hv
    · rw [(at' v z).2.2.2.2] at hv; exact h5 v hv
end
/-- a velocity is 1 to 127 -/
theorem va_nat (sl n : Int32) : ∃ x, 1 ≤ x ∧ x ≤ 127 ∧ vaI sl n = nI x := by
  unfold vaI
  generalize nI 128 - sl * n = u
  by_cases h1 : u < nI 127
  · rw [if_pos h1]
    by_cases h2 : nI 1 < u
    · rw [if_pos h2]
      rw [Int32.lt_iff_toInt_lt, nI_toInt (by decide)] at h1 h2
      refine ⟨u.toInt.toNat, by omega, by omega, ?_⟩
      rw [← Int32.toInt_inj, nI_toInt (by omega)]
      omega
    · rw [if_neg h2]; exact ⟨1, by decide, by decide, rfl⟩
  · rw [if_neg h1, if_pos (by decide)]; exact ⟨127, by decide, by decide, rfl⟩
/-- the voice that a strike takes -/
theorem sndW_lt {st kk ve si : Nat → Int32} {ru key : Int32} {V : Nat} (hV : 1 ≤ V) : sndW st kk ve si ru key V < V := by
  unfold sndW
  by_cases h1 : findN (wkP st kk key) 0 V < V
  · rw [if_pos h1]; exact h1
  · rw [if_neg h1]
    by_cases h2 : findN (ffP st) 0 V < V
    · rw [if_pos h2]; exact h2
    · rw [if_neg h2]; exact vicN_lt hV
theorem sndW_un {V n B : Nat} {sus sos : Bool} {st kk ve si : Nat → Int32} {ca : Nat → Bool} {ru key : Int32} (h : VI V n B sus sos st kk ve si ca) : ∀ v, ¬ st v = nI 0 → kk v = key → v = sndW st kk ve si ru key V := by
  intro v hv hk
  have e := vk_at h hv hk
  unfold sndW
  rw [e, if_pos (h.2.1 v hv).1]
/-! one scan's effect on the voices -/
abbrev VIy (V n B : Nat) (sus sos : Bool) (y : VS) : Prop := VI V n B sus sos y.1 y.2.1 y.2.2.1 y.2.2.2.1 y.2.2.2.2.1
abbrev skrf (y : VS) : Int32 := y.2.2.2.2.2.2.2.2.2.2.1 + y.2.2.2.2.2.2.2.2.2.2.2
/-- a release: nothing, or the voice with the key kept or free -/
theorem rls_or {T R V n B : Nat} {sl ru : Int32} {bk lt sus sos : Bool} (k : Nat) {y : VS} (h : VIy V n B sus sos y) :
    let y2 := rlsV (T, sl, ru, R, V, bk, lt, sus, sos) k y
    VIy V n B sus sos y2 ∧ skrf y2 = skrf y ∧ y2.2.1 = y.2.1 ∧ y2.2.2.1 = y.2.2.1 ∧ y2.2.2.2.1 = y.2.2.2.1 ∧ ∀ v, ¬ (¬ y.1 v = nI 0 ∧ y.2.1 v = nI k) → y2.1 v = y.1 v := by
  obtain ⟨st, kk, ve, si, ca, tk, jt, jk, jy, mj, sk, rf⟩ := y
  have e : (rlsV (T, sl, ru, R, V, bk, lt, sus, sos) k (st, kk, ve, si, ca, tk, jt, jk, jy, mj, sk, rf)) = ((relV kk sus sos (nI k) (nI T) V (st, ca, jt, jk, jy, mj)).1, kk, ve, si, (relV kk sus sos (nI k) (nI T) V (st, ca, jt, jk, jy, mj)).2.1, tk, (relV kk sus sos (nI k) (nI T) V (st, ca, jt, jk, jy, mj)).2.2.1, (relV kk sus sos (nI k) (nI T) V (st, ca, jt, jk, jy, mj)).2.2.2.1, (relV kk sus sos (nI k) (nI T) V (st, ca, jt, jk, jy, mj)).2.2.2.2.1, (relV kk sus sos (nI k) (nI T) V (st, ca, jt, jk, jy, mj)).2.2.2.2.2, sk, rf) := rfl
  intro y2
  have e2 : y2 = _ := e
  rw [e2]
  have h' : VI V n B sus sos st kk ve si ca := h
  refine ⟨?_, rfl, rfl, rfl, rfl, ?_⟩
  · show VI V n B sus sos (relV kk sus sos (nI k) (nI T) V (st, ca, jt, jk, jy, mj)).1 kk ve si (relV kk sus sos (nI k) (nI T) V (st, ca, jt, jk, jy, mj)).2.1
    unfold relV
    by_cases c1 : findN (wkP st kk (nI k)) 0 V < V
    · rw [if_pos c1]
      by_cases c2 : st (findN (wkP st kk (nI k)) 0 V) = nI 1
      · rw [if_pos c2]
        by_cases c3 : kpB sus sos ca (findN (wkP st kk (nI k)) 0 V) = true
        · rw [if_pos c3]; exact h'.set2 (vo_snd c1).1 c3
        · rw [if_neg c3]; exact h'.set0 _
      · rw [if_neg c2]; exact h'
    · rw [if_neg c1]; exact h'
  · intro v hv
    show (relV kk sus sos (nI k) (nI T) V (st, ca, jt, jk, jy, mj)).1 v = st v
    have hv' : ¬ (¬ st v = nI 0 ∧ kk v = nI k) := hv
    unfold relV
    by_cases c1 : findN (wkP st kk (nI k)) 0 V < V
    · have ne : ¬ v = findN (wkP st kk (nI k)) 0 V := fun z => hv' (by rw [z]; exact vo_snd c1)
      rw [if_pos c1]
      by_cases c2 : st (findN (wkP st kk (nI k)) 0 V) = nI 1
      · rw [if_pos c2]
        by_cases c3 : kpB sus sos ca (findN (wkP st kk (nI k)) 0 V) = true
        · rw [if_pos c3]; exact if_neg ne
        · rw [if_neg c3]; exact if_neg ne
      · rw [if_neg c2]
    · rw [if_neg c1]
/-- a strike: refused, or a voice begins -/
theorem str_or {T R V n B : Nat} {sl ru : Int32} {bk lt sus sos d : Bool} {k : Nat} {b : Int32} {y : VS} (hV : 1 ≤ V) (hk : k < n) (hT : T < B) (h : VIy V n B sus sos y) :
    let y2 := strV (T, sl, ru, R, V, bk, lt, sus, sos) d k b y
    VIy V n B sus sos y2 ∧ skrf y2 = skrf y + nI 1 ∧ ((y2.1 = y.1 ∧ y2.2.1 = y.2.1 ∧ y2.2.2.1 = y.2.2.1 ∧ y2.2.2.2.1 = y.2.2.2.1) ∨ ∃ w, y2.1 = upd y.1 w (nI 1) ∧ y2.2.1 = upd y.2.1 w (nI k) ∧ y2.2.2.1 = upd y.2.2.1 w (vaI sl ((nI T - b) / nI R)) ∧ y2.2.2.2.1 = upd y.2.2.2.1 w (nI T)) := by
  obtain ⟨st, kk, ve, si, ca, tk, jt, jk, jy, mj, sk, rf⟩ := y
  have h' : VI V n B sus sos st kk ve si ca := h
  have hh : strV (T, sl, ru, R, V, bk, lt, sus, sos) d k b (st, kk, ve, si, ca, tk, jt, jk, jy, mj, sk, rf) = (if bk = true then (if d = true then (refS (T, sl, ru, R, V, bk, lt, sus, sos) k (fun _ => nI 0, fun _ => b, st, kk, ve, si, ca, tk, jt, jk, jy, mj, sk, rf)).2.2 else (hitS (T, sl, ru, R, V, bk, lt, sus, sos) k (fun _ => nI 0, fun _ => b, st, kk, ve, si, ca, tk, jt, jk, jy, mj, sk, rf)).2.2) else (hitS (T, sl, ru, R, V, bk, lt, sus, sos) k (fun _ => nI 0, fun _ => b, st, kk, ve, si, ca, tk, jt, jk, jy, mj, sk, rf)).2.2) := by
    unfold strV strS
    show (if bk = true then _ else _ : XS).2.2 = _
    by_cases c1 : bk = true
    · rw [if_pos c1, if_pos c1]
      by_cases c2 : d = true
      · rw [if_pos c2, if_pos c2]
      · rw [if_neg c2, if_neg c2]
    · rw [if_neg c1, if_neg c1]
  obtain ⟨x, hx1, hx2, hx⟩ := va_nat sl ((nI T - b) / nI R)
  have hhit : VIy V n B sus sos (hitS (T, sl, ru, R, V, bk, lt, sus, sos) k (fun _ => nI 0, fun _ => b, st, kk, ve, si, ca, tk, jt, jk, jy, mj, sk, rf)).2.2 := by
    show VI V n B sus sos (upd st (sndW st kk ve si ru (nI k) V) (nI 1)) (upd kk (sndW st kk ve si ru (nI k) V) (nI k)) (upd ve (sndW st kk ve si ru (nI k) V) (vaI sl ((nI T - b) / nI R))) (upd si (sndW st kk ve si ru (nI k) V) (nI T)) (updB ca (sndW st kk ve si ru (nI k) V) false)
    rw [hx]
    exact h'.hit (sndW_lt hV) (sndW_un h') hk ⟨hx1, hx2⟩ hT
  have hs : skrf (hitS (T, sl, ru, R, V, bk, lt, sus, sos) k (fun _ => nI 0, fun _ => b, st, kk, ve, si, ca, tk, jt, jk, jy, mj, sk, rf)).2.2 = sk + rf + nI 1 := by
    show (sk + nI 1) + rf = sk + rf + nI 1
    rw [Int32.add_assoc, Int32.add_comm (nI 1) rf, ← Int32.add_assoc]
  have hr : skrf (refS (T, sl, ru, R, V, bk, lt, sus, sos) k (fun _ => nI 0, fun _ => b, st, kk, ve, si, ca, tk, jt, jk, jy, mj, sk, rf)).2.2 = sk + rf + nI 1 := by
    show sk + (rf + nI 1) = sk + rf + nI 1
    rw [Int32.add_assoc]
  intro y2
  have e2 : y2 = _ := hh
  rw [e2]
  by_cases c1 : bk = true
  · rw [if_pos c1]
    by_cases c2 : d = true
    · rw [if_pos c2]; exact ⟨h', hr, Or.inl ⟨rfl, rfl, rfl, rfl⟩⟩
    · rw [if_neg c2]; exact ⟨hhit, hs, Or.inr ⟨sndW st kk ve si ru (nI k) V, rfl, rfl, rfl, rfl⟩⟩
  · rw [if_neg c1]; exact ⟨hhit, hs, Or.inr ⟨sndW st kk ve si ru (nI k) V, rfl, rfl, rfl, rfl⟩⟩
