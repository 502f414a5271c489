/-! arguments -/
def wiB (v a b : Int32) : Bool := if v < a then false else if b < v then false else true
theorem wi_nat {v : Int32} {a b : Nat} (ha : a < 2 ^ 31) (hb : b < 2 ^ 31) (h : wiB v (nI a) (nI b) = true) : ∃ n, a ≤ n ∧ n ≤ b ∧ v = nI n := by
  unfold wiB at h
  by_cases h1 : v < nI a
  · rw [if_pos h1] at h; cases h
  · by_cases h2 : nI b < v
    · rw [if_neg h1, if_pos h2] at h; cases h
    · rw [Int32.lt_iff_toInt_lt, nI_toInt ha] at h1
      rw [Int32.lt_iff_toInt_lt, nI_toInt hb] at h2
      refine ⟨v.toInt.toNat, by omega, by omega, ?_⟩
      rw [← Int32.toInt_inj, nI_toInt (by omega)]
      omega
theorem wi_ok {n a b : Nat} (h1 : a ≤ n) (h2 : n ≤ b) (hb : b < 2 ^ 31) : wiB (nI n) (nI a) (nI b) = true := by
  unfold wiB
  rw [if_neg (fun q => absurd ((xI_lt (by omega) (by omega)).mp q) (by omega)), if_neg (fun q => absurd ((xI_lt (by omega) (by omega)).mp q) (by omega))]
theorem wi_or (v : Int32) (a b : Nat) (ha : a < 2 ^ 31) (hb : b < 2 ^ 31) : (∃ n, a ≤ n ∧ n ≤ b ∧ v = nI n) ∨ wiB v (nI a) (nI b) = false := by
  cases h : wiB v (nI a) (nI b)
  · exact Or.inr rfl
  · exact Or.inl (wi_nat ha hb h)
theorem has_nat {k : Int32} {n : Nat} (hn : n < 2 ^ 31) (h : hasN k n = true) : ∃ j, j < n ∧ k = nI j := by
  unfold hasN at h
  by_cases h1 : k < nI 0
  · rw [if_pos h1] at h; cases h
  · by_cases h2 : k < nI n
    · rw [Int32.lt_iff_toInt_lt, nI_toInt (by decide)] at h1
      rw [Int32.lt_iff_toInt_lt, nI_toInt hn] at h2
      refine ⟨k.toInt.toNat, by omega, ?_⟩
      rw [← Int32.toInt_inj, nI_toInt (by omega)]
      omega
    · rw [if_neg h1, if_neg h2] at h; cases h
theorem has_ok {j n : Nat} (h : j < n) (hn : n < 2 ^ 31) : hasN (nI j) n = true := by
  unfold hasN
  rw [if_neg (fun q => absurd ((xI_lt (by omega) (by omega)).mp q) (by omega)), if_pos ((xI_lt (by omega) (by omega)).mpr h)]
theorem has_or (k : Int32) (n : Nat) (hn : n < 2 ^ 31) : (∃ j, j < n ∧ k = nI j) ∨ hasN k n = false := by
  cases h : hasN k n
  · exact Or.inr rfl
  · exact Or.inl (has_nat hn h)
/-- an answer by a number of 0 to hi, else -2 -/
def selN (w : Int32) (hi : Nat) (f : Nat → Int32) : Int32 := if w.toInt < 0 ∨ (hi : Int) < w.toInt then (-2) else f w.toInt.toNat
theorem selN_in {w : Int32} {j hi : Nat} {f : Nat → Int32} (e : w = nI j) (h : j ≤ hi) (hh : hi < 1000) : selN w hi f = f j := by
  unfold selN
  rw [e, nI_toInt (by omega), if_neg (by omega)]
  rfl
theorem selN_out {w : Int32} {hi : Nat} {f : Nat → Int32} (h : w.toInt < 0 ∨ (hi : Int) < w.toInt) : selN w hi f = (-2) := if_pos h
def fsB (sn : Nat → Nat) (C k : Nat) : Bool := (sn (k / C)).testBit (k % C)
/-! velocities -/
def vaI (sl n : Int32) : Int32 := if nI 1 < (if nI 128 - sl * n < nI 127 then nI 128 - sl * n else nI 127) then (if nI 128 - sl * n < nI 127 then nI 128 - sl * n else nI 127) else nI 1
/-! scans -/
abbrev VS : Type := (Nat → Int32) × (Nat → Int32) × (Nat → Int32) × (Nat → Int32) × (Nat → Bool) × Int32 × (Nat → Int32) × (Nat → Int32) × (Nat → Int32) × Nat × Int32 × Int32
abbrev XS : Type := (Nat → Int32) × (Nat → Int32) × VS
/-- time, slope, rule, rows, voices, blocking, late release, the pedals -/
abbrev PR : Type := Nat × Int32 × Int32 × Nat × Nat × Bool × Bool × Bool × Bool
def hitS (pr : PR) (k : Nat) : XS → XS := fun (ph, bg, st, kk, ve, si, ca, tk, jt, jk, jy, mj, sk, rf) =>
  (upd ph k (nI 2), bg, upd st (sndW st kk ve si pr.2.2.1 (nI k) pr.2.2.2.2.1) (nI 1), upd kk (sndW st kk ve si pr.2.2.1 (nI k) pr.2.2.2.2.1) (nI k), upd ve (sndW st kk ve si pr.2.2.1 (nI k) pr.2.2.2.2.1) (vaI pr.2.1 ((nI pr.1 - bg k) / nI pr.2.2.2.1)), upd si (sndW st kk ve si pr.2.2.1 (nI k) pr.2.2.2.2.1) (nI pr.1), updB ca (sndW st kk ve si pr.2.2.1 (nI k) pr.2.2.2.2.1) false,
    (if sndT st kk (nI k) pr.2.2.2.2.1 = true then tk + nI 1 else tk), (sndJ st kk ve si pr.2.2.1 (nI k) (nI pr.1) pr.2.2.2.2.1 (jt, jk, jy, mj)).1, (sndJ st kk ve si pr.2.2.1 (nI k) (nI pr.1) pr.2.2.2.2.1 (jt, jk, jy, mj)).2.1, (sndJ st kk ve si pr.2.2.1 (nI k) (nI pr.1) pr.2.2.2.2.1 (jt, jk, jy, mj)).2.2.1, (sndJ st kk ve si pr.2.2.1 (nI k) (nI pr.1) pr.2.2.2.2.1 (jt, jk, jy, mj)).2.2.2, sk + nI 1, rf)
def refS (pr : PR) (k : Nat) : XS → XS := fun (ph, bg, st, kk, ve, si, ca, tk, jt, jk, jy, mj, sk, rf) =>
  (upd ph k (nI 2), bg, st, kk, ve, si, ca, tk, upd jt (mj % 16) (nI pr.1), upd jk (mj % 16) (nI 4), upd jy (mj % 16) (nI k), mj + 1, sk, rf + nI 1)
def strS (pr : PR) (d : Bool) (k : Nat) (s : XS) : XS := if pr.2.2.2.2.2.1 = true then (if d = true then refS pr k s else hitS pr k s) else hitS pr k s
def rlsS (pr : PR) (k : Nat) : XS → XS := fun (ph, bg, st, kk, ve, si, ca, tk, jt, jk, jy, mj, sk, rf) =>
  (ph, bg, (relV kk pr.2.2.2.2.2.2.2.1 pr.2.2.2.2.2.2.2.2 (nI k) (nI pr.1) pr.2.2.2.2.1 (st, ca, jt, jk, jy, mj)).1, kk, ve, si, (relV kk pr.2.2.2.2.2.2.2.1 pr.2.2.2.2.2.2.2.2 (nI k) (nI pr.1) pr.2.2.2.2.1 (st, ca, jt, jk, jy, mj)).2.1, tk, (relV kk pr.2.2.2.2.2.2.2.1 pr.2.2.2.2.2.2.2.2 (nI k) (nI pr.1) pr.2.2.2.2.1 (st, ca, jt, jk, jy, mj)).2.2.1, (relV kk pr.2.2.2.2.2.2.2.1 pr.2.2.2.2.2.2.2.2 (nI k) (nI pr.1) pr.2.2.2.2.1 (st, ca, jt, jk, jy, mj)).2.2.2.1, (relV kk pr.2.2.2.2.2.2.2.1 pr.2.2.2.2.2.2.2.2 (nI k) (nI pr.1) pr.2.2.2.2.1 (st, ca, jt, jk, jy, mj)).2.2.2.2.1, (relV kk pr.2.2.2.2.2.2.2.1 pr.2.2.2.2.2.2.2.2 (nI k) (nI pr.1) pr.2.2.2.2.1 (st, ca, jt, jk, jy, mj)).2.2.2.2.2, sk, rf)
def entS (pr : PR) (k : Nat) (x : Int32) (s : XS) : XS := (upd s.1 k x, upd s.2.1 k (nI pr.1), s.2.2)
def sc1 (pr : PR) (f : Bool) (k : Nat) (s : XS) : XS := if s.1 k = nI 0 then (if f = true then entS pr k (nI 1) s else s) else s
def sc2 (pr : PR) (f g d : Bool) (k : Nat) (s : XS) : XS := if s.1 k = nI 1 then (if g = true then strS pr d k s else if f = true then s else (upd s.1 k (nI 0), s.2)) else s
def sc3 (pr : PR) (g was : Bool) (k : Nat) (s : XS) : XS := if was = true then (if g = true then s else if pr.2.2.2.2.2.2.1 = true then entS pr k (nI 3) s else entS pr k (nI 3) (rlsS pr k s)) else s
def sc4 (pr : PR) (f g d : Bool) (k : Nat) (s : XS) : XS := if s.1 k = nI 3 then (if g = true then strS pr d k s else if f = true then s else (upd (rlsS pr k s).1 k (nI 0), (rlsS pr k s).2)) else s
def wasB (ph : Nat → Int32) (k : Nat) : Bool := if ph k = nI 2 then true else false
def scnS (pr : PR) (F G Dd : Nat → Bool) (k : Nat) (s : XS) : XS := sc4 pr (F k) (G k) (Dd k) k (sc3 pr (G k) (wasB s.1 k) k (sc2 pr (F k) (G k) (Dd k) k (sc1 pr (F k) k s)))
def rowS (pr : PR) (F G Dd : Nat → Bool) (C row : Nat) (s : XS) : XS := lfor (fun c s => scnS pr F G Dd (row * C + c) s) 0 C s
def prT (pr : PR) (i : Nat) : PR := (pr.1 + i, pr.2)
def tckS (pr : PR) (F G Dd : Nat → Bool) (C n : Nat) (s : XS) : XS := lfor (fun i s => rowS (prT pr i) F G Dd C ((pr.1 + i) % pr.2.2.2.1) s) 0 n s
/-! entries are few -/
abbrev mkS (s : XS) : Nat := s.2.2.2.2.2.2.2.2.2.2.2.1
theorem sndJ_mk (st kk ve si : Nat → Int32) (ru key now : Int32) (V : Nat) (j : JT) : (sndJ st kk ve si ru key now V j).2.2.2 ≤ j.2.2.2 + 2 := by
  unfold sndJ
  by_cases h : sndT st kk key V = true
  · rw [if_pos h]; simp only [wrJ]; omega
  · rw [if_neg h]; simp only [wrJ]; omega
theorem relV_mk (kk : Nat → Int32) (sus sos : Bool) (key now : Int32) (V : Nat) (s : VJ) : (relV kk sus sos key now V s).2.2.2.2.2 ≤ s.2.2.2.2.2 + 1 := by
  unfold relV
  repeat' split
  all_goals first | exact Nat.le_refl _ | exact Nat.le_add_right _ _
theorem strS_mk (pr : PR) (d : Bool) (k : Nat) (s : XS) : mkS (strS pr d k s) ≤ mkS s + 2 := by
  obtain ⟨ph, bg, st, kk, ve, si, ca, tk, jt, jk, jy, mj, sk, rf⟩ := s
  unfold strS
  have h := sndJ_mk st kk ve si pr.2.2.1 (nI k) (nI pr.1) pr.2.2.2.2.1 (jt, jk, jy, mj)
  repeat' split
  all_goals (simp only [mkS, hitS, refS] at h ⊢; omega)
theorem rlsS_mk (pr : PR) (k : Nat) (s : XS) : mkS (rlsS pr k s) ≤ mkS s + 1 := by
  obtain ⟨ph, bg, st, kk, ve, si, ca, tk, jt, jk, jy, mj, sk, rf⟩ := s
  exact relV_mk kk pr.2.2.2.2.2.2.2.1 pr.2.2.2.2.2.2.2.2 (nI k) (nI pr.1) pr.2.2.2.2.1 (st, ca, jt, jk, jy, mj)
theorem sc1_mk (pr : PR) (f : Bool) (k : Nat) (s : XS) : mkS (sc1 pr f k s) = mkS s := by
  unfold sc1
  repeat' split
  all_goals rfl
theorem sc2_mk (pr : PR) (f g d : Bool) (k : Nat) (s : XS) : mkS (sc2 pr f g d k s) ≤ mkS s + 2 := by
  unfold sc2
  repeat' split
  · exact strS_mk pr d k s
  · exact Nat.le_add_right _ _
  · exact Nat.le_add_right _ _
  · exact Nat.le_add_right _ _
theorem sc3_mk (pr : PR) (g was : Bool) (k : Nat) (s : XS) : mkS (sc3 pr g was k s) ≤ mkS s + 1 := by
  unfold sc3
  repeat' split
  · exact Nat.le_add_right _ _
  · exact Nat.le_add_right _ _
  · exact rlsS_mk pr k s
  · exact Nat.le_add_right _ _
theorem sc4_mk (pr : PR) (f g d : Bool) (k : Nat) (s : XS) : mkS (sc4 pr f g d k s) ≤ mkS s + 2 := by
  unfold sc4
  repeat' split
  · exact strS_mk pr d k s
  · exact Nat.le_add_right _ _
  · exact Nat.le_trans (rlsS_mk pr k s) (Nat.add_le_add_left (by decide) _)
  · exact Nat.le_add_right _ _
theorem scnS_mk (pr : PR) (F G Dd : Nat → Bool) (k : Nat) (s : XS) : mkS (scnS pr F G Dd k s) ≤ mkS s + 5 := by
  unfold scnS
  have h1 := sc1_mk pr (F k) k s
  have h2 := sc2_mk pr (F k) (G k) (Dd k) k (sc1 pr (F k) k s)
  have h3 := sc3_mk pr (G k) (wasB s.1 k) k (sc2 pr (F k) (G k) (Dd k) k (sc1 pr (F k) k s))
  have h4 := sc4_mk pr (F k) (G k) (Dd k) k (sc3 pr (G k) (wasB s.1 k) k (sc2 pr (F k) (G k) (Dd k) k (sc1 pr (F k) k s)))
  omega
theorem lfor_mk {f : Nat → XS → XS} {b : Nat} (h : ∀ i s, mkS (f i s) ≤ mkS s + b) : ∀ (n i : Nat) (s : XS), mkS (lfor f i n s) ≤ mkS s + n * b
  | 0, _, _ => by simp [lfor]
  | n + 1, i, s => by
    have h1 := lfor_mk h n (i + 1) (f i s)
    have h2 := h i s
    show mkS (lfor f (i + 1) n (f i s)) ≤ _
    rw [Nat.add_mul]; omega
theorem rowS_mk (pr : PR) (F G Dd : Nat → Bool) (C row : Nat) (s : XS) : mkS (rowS pr F G Dd C row s) ≤ mkS s + C * 5 := lfor_mk (fun i s => scnS_mk pr F G Dd (row * C + i) s) C 0 s
theorem tckS_mk (pr : PR) (F G Dd : Nat → Bool) (C n : Nat) (s : XS) : mkS (tckS pr F G Dd C n s) ≤ mkS s + n * (C * 5) := lfor_mk (fun i s => rowS_mk (prT pr i) F G Dd C _ s) n 0 s
