/-! a key's scan, in closed form -/
theorem n01 : (nI 0 = nI 1) = False := eq_false (by decide)
theorem n21 : (nI 2 = nI 1) = False := eq_false (by decide)
theorem n31 : (nI 3 = nI 1) = False := eq_false (by decide)
def strV (pr : PR) (d : Bool) (k : Nat) (b : Int32) (y : VS) : VS := (strS pr d k (fun _ => nI 0, fun _ => b, y)).2.2
def rlsV (pr : PR) (k : Nat) (y : VS) : VS := (rlsS pr k (fun _ => nI 0, fun _ => nI 0, y)).2.2
theorem strS_eq (pr : PR) (d : Bool) (k : Nat) (s : XS) : strS pr d k s = (upd s.1 k (nI 2), s.2.1, strV pr d k (s.2.1 k) s.2.2) := by
  obtain ⟨ph, bg, st, kk, ve, si, ca, tk, jt, jk, jy, mj, sk, rf⟩ := s
  unfold strV strS
  by_cases h : pr.2.2.2.2.2.1 = true
  · rw [if_pos h, if_pos h]
    by_cases h2 : d = true
    · rw [if_pos h2, if_pos h2]; rfl
    · rw [if_neg h2, if_neg h2]; rfl
  · rw [if_neg h, if_neg h]; rfl
theorem rlsS_eq (pr : PR) (k : Nat) (s : XS) : rlsS pr k s = (s.1, s.2.1, rlsV pr k s.2.2) := by
  obtain ⟨ph, bg, st, kk, ve, si, ca, tk, jt, jk, jy, mj, sk, rf⟩ := s
  rfl
theorem wasB_eq (ph : Nat → Int32) (k : Nat) : wasB ph k = decide (ph k = nI 2) := by
  unfold wasB
  by_cases h : ph k = nI 2
  · rw [if_pos h, decide_eq_true h]
  · rw [if_neg h, decide_eq_false h]
def bgE (f g : Bool) (x : Int32) : Bool := (decide (x = nI 0) && f) || (decide (x = nI 2) && !g)
def vsE (pr : PR) (f g d : Bool) (k : Nat) (x b : Int32) (y : VS) : VS :=
  if g = true then (if x = nI 2 then y else strV pr d k (if x = nI 0 then nI pr.1 else b) y)
  else if x = nI 2 then (if pr.2.2.2.2.2.2.1 = true then (if f = true then y else rlsV pr k y) else (if f = true then rlsV pr k y else rlsV pr k (rlsV pr k y)))
  else if x = nI 3 then (if f = true then y else rlsV pr k y) else y
theorem scn_core (pr : PR) (f g d : Bool) (k : Nat) (s : XS) (hg : g = true → f = true) (hp : s.1 k = nI 0 ∨ s.1 k = nI 1 ∨ s.1 k = nI 2 ∨ s.1 k = nI 3) :
    sc4 pr f g d k (sc3 pr g (wasB s.1 k) k (sc2 pr f g d k (sc1 pr f k s))) = (upd s.1 k (nph f g (s.1 k)), (if bgE f g (s.1 k) = true then upd s.2.1 k (nI pr.1) else s.2.1), vsE pr f g d k (s.1 k) (s.2.1 k) s.2.2) := by
  obtain ⟨ph, bg, y⟩ := s
  rw [wasB_eq]
  have hup : ∀ (q : Nat → Int32) (x : Int32), upd q k x k = x := fun q x => if_pos rfl
  have hp' : ph k = nI 0 ∨ ph k = nI 1 ∨ ph k = nI 2 ∨ ph k = nI 3 := hp
  have self : ∀ x, ph k = x → upd ph k x = ph := fun x e => by rw [← e]; exact updI_self ph k
  rcases hp' with h | h | h | h <;> cases f <;> cases g <;> first | exact absurd (hg rfl) (by decide) | skip
  all_goals by_cases hl : pr.2.2.2.2.2.2.1 = true
  all_goals simp [sc1, sc2, sc3, sc4, entS, strS_eq, rlsS_eq, h, hl, hup, nph, q1, q2, q3, q4, bgE, vsE, n01, n21, n31, n20, n10, n30, n12, n32, n02, n23, n13, n03, updI_two, self _ h]
theorem scn_all (pr : PR) (F G Dd : Nat → Bool) (k : Nat) (s : XS) (hg : G k = true → F k = true) (hp : PH s.1) : scnS pr F G Dd k s = (upd s.1 k (nph (F k) (G k) (s.1 k)), (if bgE (F k) (G k) (s.1 k) = true then upd s.2.1 k (nI pr.1) else s.2.1), vsE pr (F k) (G k) (Dd k) k (s.1 k) (s.2.1 k) s.2.2) := scn_core pr (F k) (G k) (Dd k) k s hg (hp k)
