/-! phases -/
def q1 (f : Bool) (x : Int32) : Int32 := if x = nI 0 then (if f = true then nI 1 else x) else x
def q2 (f g : Bool) (x : Int32) : Int32 := if x = nI 1 then (if g = true then nI 2 else if f = true then x else nI 0) else x
def q3 (g : Bool) (was x : Int32) : Int32 := if was = nI 2 then (if g = true then x else nI 3) else x
def q4 (f g : Bool) (x : Int32) : Int32 := if x = nI 3 then (if g = true then nI 2 else if f = true then x else nI 0) else x
def nph (f g : Bool) (x : Int32) : Int32 := q4 f g (q3 g x (q2 f g (q1 f x)))
def sett (f g : Bool) (x : Int32) : Prop := (f = false ∧ g = false ∧ x = nI 0) ∨ (f = true ∧ g = false ∧ x = nI 1) ∨ (f = true ∧ g = false ∧ x = nI 3) ∨ (f = true ∧ g = true ∧ x = nI 2)
theorem nph_sett {f g : Bool} {x : Int32} (hg : g = true → f = true) (hx : x = nI 0 ∨ x = nI 1 ∨ x = nI 2 ∨ x = nI 3) : sett f g (nph f g x) := by
  rcases hx with rfl | rfl | rfl | rfl <;> cases f <;> cases g <;> first | exact absurd (hg rfl) (by decide) | (unfold sett; decide)
theorem nph_0 {f g : Bool} {x : Int32} (hg : g = true → f = true) (hx : x = nI 0 ∨ x = nI 1 ∨ x = nI 2 ∨ x = nI 3) : nph f g x = nI 0 ↔ f = false := by
  rcases hx with rfl | rfl | rfl | rfl <;> cases f <;> cases g <;> first | exact absurd (hg rfl) (by decide) | decide
theorem sett_fix {f g : Bool} {x : Int32} (h : sett f g x) : nph f g x = x := by
  rcases h with ⟨rfl, rfl, rfl⟩ | ⟨rfl, rfl, rfl⟩ | ⟨rfl, rfl, rfl⟩ | ⟨rfl, rfl, rfl⟩ <;> decide
theorem sett_PH {f g : Bool} {x : Int32} (h : sett f g x) : x = nI 0 ∨ x = nI 1 ∨ x = nI 2 ∨ x = nI 3 := by
  rcases h with ⟨_, _, rfl⟩ | ⟨_, _, rfl⟩ | ⟨_, _, rfl⟩ | ⟨_, _, rfl⟩ <;> decide
theorem updI_self (f : Nat → Int32) (k : Nat) : upd f k (f k) = f := by
  funext j
  unfold upd
  by_cases e : j = k
  · rw [if_pos e, e]
  · rw [if_neg e]
theorem updI_two (f : Nat → Int32) (k : Nat) (x y : Int32) : upd (upd f k x) k y = upd f k y := by
  funext j
  unfold upd
  by_cases e : j = k
  · rw [if_pos e, if_pos e]
  · rw [if_neg e, if_neg e, if_neg e]
theorem updI_at (f : Nat → Int32) (k : Nat) (x : Int32) : upd f k x k = x := if_pos rfl
theorem m1_ph (pr : PR) (f : Bool) (k : Nat) (s : MS) : (m1 pr f k s).1 = upd s.1 k (q1 f (s.1 k)) := by
  unfold m1 q1
  by_cases e : s.1 k = nI 0
  · rw [if_pos e, if_pos e]
    cases f
    · exact (updI_self _ _).symm
    · rfl
  · rw [if_neg e, if_neg e]; exact (updI_self _ _).symm
theorem rl_ph (pr : PR) (k : Nat) (s : MS) : (rlM pr k s).1 = s.1 := by
  obtain ⟨ph', bg', st', kk', ve', si', ca', tk', lg, mj', sk', rf'⟩ := s
  rfl
theorem hs_ph (pr : PR) (d : Bool) (k : Nat) (s : MS) : (hsM pr d k s).1 = upd s.1 k (nI 2) := by
  have e : (stM pr d k s).1 = s.1 := by
    obtain ⟨ph', bg', st', kk', ve', si', ca', tk', lg, mj', sk', rf'⟩ := s
    unfold stM
    repeat' split
    all_goals rfl
  show upd (stM pr d k s).1 k (nI 2) = _
  rw [e]
theorem m2_ph (pr : PR) (f g d : Bool) (k : Nat) (s : MS) : (m2 pr f g d k s).1 = upd s.1 k (q2 f g (s.1 k)) := by
  unfold m2 q2
  by_cases e : s.1 k = nI 1
  · rw [if_pos e, if_pos e]
    cases g
    · cases f
      · rfl
      · exact (updI_self _ _).symm
    · exact hs_ph _ _ _ _
  · rw [if_neg e, if_neg e]; exact (updI_self _ _).symm
theorem m3_ph (pr : PR) (g : Bool) (was : Int32) (k : Nat) (s : MS) : (m3 pr g was k s).1 = upd s.1 k (q3 g was (s.1 k)) := by
  unfold m3 q3
  by_cases e : was = nI 2
  · rw [if_pos e, if_pos e]
    cases g
    · rw [if_neg (show ¬ (false : Bool) = true by decide), if_neg (show ¬ (false : Bool) = true by decide)]
      by_cases b : pr.2.2.2.2.2.2.1 = true
      · rw [if_pos b]; rfl
      · rw [if_neg b]; show upd (rlM pr k s).1 k (nI 3) = _; rw [rl_ph]
    · exact (updI_self _ _).symm
  · rw [if_neg e, if_neg e]; exact (updI_self _ _).symm
theorem m4_ph (pr : PR) (f g d : Bool) (k : Nat) (s : MS) : (m4 pr f g d k s).1 = upd s.1 k (q4 f g (s.1 k)) := by
  unfold m4 q4
  by_cases e : s.1 k = nI 3
  · rw [if_pos e, if_pos e]
    cases g
    · cases f
      · show upd (rlM pr k s).1 k (nI 0) = _; rw [rl_ph]; rfl
      · exact (updI_self _ _).symm
    · exact hs_ph _ _ _ _
  · rw [if_neg e, if_neg e]; exact (updI_self _ _).symm
theorem mscn_ph (pr : PR) (F G D : Nat → Bool) (k : Nat) (s : MS) : (mscn pr F G D k s).1 = upd s.1 k (nph (F k) (G k) (s.1 k)) := by
  unfold mscn nph
  rw [m4_ph, m3_ph, m2_ph, m1_ph]
  simp only [updI_at, updI_two]
theorem n1_ph (T : Nat) (f : Bool) (k : Nat) (s : NS) : (n1 T f k s).1 = upd s.1 k (q1 f (s.1 k)) := by
  unfold n1 q1
  by_cases e : s.1 k = nI 0
  · rw [if_pos e, if_pos e]
    cases f
    · exact (updI_self _ _).symm
    · rfl
  · rw [if_neg e, if_neg e]; exact (updI_self _ _).symm
theorem n2_ph (f g : Bool) (k : Nat) (s : NS) : (n2 f g k s).1 = upd s.1 k (q2 f g (s.1 k)) := by
  unfold n2 q2
  by_cases e : s.1 k = nI 1
  · rw [if_pos e, if_pos e]
    cases g
    · cases f
      · rfl
      · exact (updI_self _ _).symm
    · rfl
  · rw [if_neg e, if_neg e]; exact (updI_self _ _).symm
theorem n3_ph (T : Nat) (g : Bool) (was : Int32) (k : Nat) (s : NS) : (n3 T g was k s).1 = upd s.1 k (q3 g was (s.1 k)) := by
  unfold n3 q3
  by_cases e : was = nI 2
  · rw [if_pos e, if_pos e]
    cases g
    · rfl
    · exact (updI_self _ _).symm
  · rw [if_neg e, if_neg e]; exact (updI_self _ _).symm
theorem n4_ph (f g : Bool) (k : Nat) (s : NS) : (n4 f g k s).1 = upd s.1 k (q4 f g (s.1 k)) := by
  unfold n4 q4
  by_cases e : s.1 k = nI 3
  · rw [if_pos e, if_pos e]
    cases g
    · cases f
      · rfl
      · exact (updI_self _ _).symm
    · rfl
  · rw [if_neg e, if_neg e]; exact (updI_self _ _).symm
theorem nscn_ph (T : Nat) (F G : Nat → Bool) (k : Nat) (s : NS) : (nscn T F G k s).1 = upd s.1 k (nph (F k) (G k) (s.1 k)) := by
  unfold nscn nph
  rw [n4_ph, n3_ph, n2_ph, n1_ph]
  simp only [updI_at, updI_two]
/-! a key that has settled -/
theorem sett_4 {f g : Bool} {x : Int32} (h : sett f g x) : (x = nI 0 → f = false) ∧ (x = nI 1 → g = false ∧ f = true) ∧ (x = nI 2 → g = true) ∧ (x = nI 3 → g = false ∧ f = true) := by
  rcases h with ⟨rfl, rfl, rfl⟩ | ⟨rfl, rfl, rfl⟩ | ⟨rfl, rfl, rfl⟩ | ⟨rfl, rfl, rfl⟩ <;> decide
theorem m1_id {pr : PR} {f : Bool} {k : Nat} {s : MS} (h : s.1 k = nI 0 → f = false) : m1 pr f k s = s := by
  unfold m1
  by_cases e : s.1 k = nI 0
  · rw [if_pos e]; rw [h e]; rfl
  · rw [if_neg e]
theorem m2_id {pr : PR} {f g d : Bool} {k : Nat} {s : MS} (h : s.1 k = nI 1 → g = false ∧ f = true) : m2 pr f g d k s = s := by
  unfold m2
  by_cases e : s.1 k = nI 1
  · rw [if_pos e]; rw [(h e).1, (h e).2]; rfl
  · rw [if_neg e]
theorem m3_id {pr : PR} {g : Bool} {w9 : Int32} {k : Nat} {s : MS} (h : w9 = nI 2 → g = true) : m3 pr g w9 k s = s := by
  unfold m3
  by_cases e : w9 = nI 2
  · rw [if_pos e]; rw [h e]; rfl
  · rw [if_neg e]
theorem m4_id {pr : PR} {f g d : Bool} {k : Nat} {s : MS} (h : s.1 k = nI 3 → g = false ∧ f = true) : m4 pr f g d k s = s := by
  unfold m4
  by_cases e : s.1 k = nI 3
  · rw [if_pos e]; rw [(h e).1, (h e).2]; rfl
  · rw [if_neg e]
theorem n1_id {T : Nat} {f : Bool} {k : Nat} {s : NS} (h : s.1 k = nI 0 → f = false) : n1 T f k s = s := by
  unfold n1
  by_cases e : s.1 k = nI 0
  · rw [if_pos e]; rw [h e]; rfl
  · rw [if_neg e]
theorem n2_id {f g : Bool} {k : Nat} {s : NS} (h : s.1 k = nI 1 → g = false ∧ f = true) : n2 f g k s = s := by
  unfold n2
  by_cases e : s.1 k = nI 1
  · rw [if_pos e]; rw [(h e).1, (h e).2]; rfl
  · rw [if_neg e]
theorem n3_id {T : Nat} {g : Bool} {w9 : Int32} {k : Nat} {s : NS} (h : w9 = nI 2 → g = true) : n3 T g w9 k s = s := by
  unfold n3
  by_cases e : w9 = nI 2
  · rw [if_pos e]; rw [h e]; rfl
  · rw [if_neg e]
theorem n4_id {f g : Bool} {k : Nat} {s : NS} (h : s.1 k = nI 3 → g = false ∧ f = true) : n4 f g k s = s := by
  unfold n4
  by_cases e : s.1 k = nI 3
  · rw [if_pos e]; rw [(h e).1, (h e).2]; rfl
  · rw [if_neg e]
theorem mscn_id {pr : PR} {F G D : Nat → Bool} {k : Nat} {s : MS} (h : sett (F k) (G k) (s.1 k)) : mscn pr F G D k s = s := by
  obtain ⟨h1, h2, h3, h4⟩ := sett_4 h
  unfold mscn
  rw [m1_id h1, m2_id h2, m3_id h3, m4_id h4]
theorem nscn_id {T : Nat} {F G : Nat → Bool} {k : Nat} {s : NS} (h : sett (F k) (G k) (s.1 k)) : nscn T F G k s = s := by
  obtain ⟨h1, h2, h3, h4⟩ := sett_4 h
  unfold nscn
  rw [n1_id h1, n2_id h2, n3_id h3, n4_id h4]
theorem lfor_id {σ : Type} {f : Nat → σ → σ} {s : σ} : ∀ (n i : Nat), (∀ k, i ≤ k → k < i + n → f k s = s) → lfor f i n s = s
  | 0, _, _ => rfl
  | n + 1, i, h => by
    show lfor f (i + 1) n (f i s) = s
    rw [h i (Nat.le_refl _) (by omega)]
    exact lfor_id n (i + 1) (fun k h1 h2 => h k (by omega) (by omega))
/-! the phases after rows -/
def rowP (F G : Nat → Bool) (a n : Nat) (ph : Nat → Int32) : Nat → Int32 := fun j => if a ≤ j ∧ j < a + n then nph (F j) (G j) (ph j) else ph j
theorem row_ph {β : Type} {F G : Nat → Bool} {f : Nat → (Nat → Int32) × β → (Nat → Int32) × β} (hf : ∀ k s, (f k s).1 = upd s.1 k (nph (F k) (G k) (s.1 k))) (a : Nat) : ∀ (n i : Nat) (s : (Nat → Int32) × β), (lfor (fun c s => f (a + c) s) i n s).1 = rowP F G (a + i) n s.1
  | 0, i, s => by
    funext j
    exact (if_neg (by omega)).symm
  | n + 1, i, s => by
    show (lfor (fun c s => f (a + c) s) (i + 1) n (f (a + i) s)).1 = _
    rw [row_ph hf a n (i + 1), hf]
    funext j
    unfold rowP upd
    by_cases e : j = a + i
    · subst e
      rw [if_neg (by omega), if_pos rfl, if_pos (by omega)]
    · rw [if_neg e]
      by_cases e2 : a + i ≤ j ∧ j < a + i + (n + 1)
      · rw [if_pos e2, if_pos (by omega)]
      · rw [if_neg e2, if_neg (by omega)]
theorem fm_iff {q T R n : Nat} (hR : 1 ≤ R ∧ R ≤ 8) (hq : q < R) (hn : n < R) : fmN q T R = n ↔ (T + n) % R = q := by
  have h : R = 1 ∨ R = 2 ∨ R = 3 ∨ R = 4 ∨ R = 5 ∨ R = 6 ∨ R = 7 ∨ R = 8 := by omega
  unfold fmN
  by_cases e : T ≤ q
  · rw [if_pos e]
    rcases h with rfl | rfl | rfl | rfl | rfl | rfl | rfl | rfl <;> omega
  · rw [if_neg e]
    by_cases e2 : (T - q) % R = 0
    · rw [if_pos e2]
      rcases h with rfl | rfl | rfl | rfl | rfl | rfl | rfl | rfl <;> omega
    · rw [if_neg e2]
      rcases h with rfl | rfl | rfl | rfl | rfl | rfl | rfl | rfl <;> omega
def passP (F G : Nat → Bool) (T R C n : Nat) (ph : Nat → Int32) : Nat → Int32 := fun j => if j < R * C ∧ fmN (j / C) T R < n then nph (F j) (G j) (ph j) else ph j
theorem pass_step {F G : Nat → Bool} {T R C n : Nat} {ph : Nat → Int32} (hR : 1 ≤ R ∧ R ≤ 8) (hC : 1 ≤ C) (hn : n < R) : rowP F G ((T + n) % R * C) C (passP F G T R C n ph) = passP F G T R C (n + 1) ph := by
  have hr : (T + n) % R < R := Nat.mod_lt _ (by omega)
  funext j
  unfold rowP
  by_cases e : (T + n) % R * C ≤ j ∧ j < (T + n) % R * C + C
  · rw [if_pos e]
    obtain ⟨c, rfl⟩ : ∃ c, j = (T + n) % R * C + c := ⟨j - (T + n) % R * C, by omega⟩
    have hc : c < C := by omega
    have hf : fmN (((T + n) % R * C + c) / C) T R = n := by rw [rc_div hc]; exact (fm_iff hR hr hn).mpr rfl
    unfold passP
    rw [hf, if_neg (by omega), if_pos ⟨rc_lt hr hc, by omega⟩]
  · rw [if_neg e]
    unfold passP
    by_cases e2 : j < R * C
    · have hj := kqr e2 hC
      have hne : ¬ fmN (j / C) T R = n := fun q => by
        have := (fm_iff hR hj.1 hn).mp q
        apply e
        rw [this]
        have h1 := @kdm j C
        omega
      by_cases e3 : fmN (j / C) T R < n
      · rw [if_pos ⟨e2, e3⟩, if_pos ⟨e2, by omega⟩]
      · rw [if_neg (fun q => e3 q.2), if_neg (fun q => hne (by omega))]
    · rw [if_neg (fun q => e2 q.1), if_neg (fun q => e2 q.1)]
theorem pass_0 {F G : Nat → Bool} {T R C : Nat} {ph : Nat → Int32} : passP F G T R C 0 ph = ph := by
  funext j
  exact if_neg (by omega)
theorem mtck_ph {pr : PR} {F G D : Nat → Bool} {C : Nat} {s : MS} (hR : 1 ≤ pr.2.2.2.1 ∧ pr.2.2.2.1 ≤ 8) (hC : 1 ≤ C) : ∀ n, n ≤ pr.2.2.2.1 → (mtck pr F G D C n s).1 = passP F G pr.1 pr.2.2.2.1 C n s.1
  | 0, _ => pass_0.symm
  | n + 1, h => by
    unfold mtck
    rw [lfor_last]
    have ih := mtck_ph (pr := pr) (F := F) (G := G) (D := D) (s := s) hR hC n (by omega)
    unfold mtck at ih
    have g := row_ph (F := F) (G := G) (f := mscn (prT pr n) F G D) (mscn_ph _ F G D) ((pr.1 + n) % pr.2.2.2.1 * C) C 0 (lfor (fun i s => mrow (prT pr i) F G D C ((pr.1 + i) % pr.2.2.2.1) s) 0 n s)
    rw [Nat.add_zero, ih, pass_step hR hC (by omega)] at g
    exact g
theorem pass_sett {F G : Nat → Bool} {T R C k : Nat} {ph : Nat → Int32} (hR : 1 ≤ R ∧ R ≤ 8) (hC : 1 ≤ C) (hg : ∀ k, k < R * C → G k = true → F k = true) (hp : PH ph) (hk : k < R * C) : sett (F k) (G k) (passP F G T R C R ph k) := by
  unfold passP
  rw [if_pos ⟨hk, fmN_lt (by omega)⟩]
  exact nph_sett (hg k hk) (hp k)
theorem mrow_id {pr : PR} {F G D : Nat → Bool} {R C row : Nat} {s : MS} (hrow : row < R) (h : ∀ k, k < R * C → sett (F k) (G k) (s.1 k)) : mrow pr F G D C row s = s :=
  lfor_id C 0 (fun c _ hc => mscn_id (h _ (rc_lt hrow (by omega))))
theorem nrow_id {T : Nat} {F G : Nat → Bool} {R C row : Nat} {s : NS} (hrow : row < R) (h : ∀ k, k < R * C → sett (F k) (G k) (s.1 k)) : nrow T F G C row s = s :=
  lfor_id C 0 (fun c _ hc => nscn_id (h _ (rc_lt hrow (by omega))))
/-- after so many ticks as there are rows, nothing changes any more -/
theorem mtck_min {pr : PR} {F G D : Nat → Bool} {C t : Nat} {s : MS} (hR : 1 ≤ pr.2.2.2.1 ∧ pr.2.2.2.1 ≤ 8) (hC : 1 ≤ C) (hg : ∀ k, k < pr.2.2.2.1 * C → G k = true → F k = true) (hp : PH s.1) : mtck pr F G D C t s = mtck pr F G D C (min t pr.2.2.2.1) s := by
  rcases Nat.le_total t pr.2.2.2.1 with h | h
  · rw [Nat.min_eq_left h]
  · rw [Nat.min_eq_right h]
    obtain ⟨d, rfl⟩ : ∃ d, t = pr.2.2.2.1 + d := ⟨t - pr.2.2.2.1, by omega⟩
    have g := mtck_ph (pr := pr) (F := F) (G := G) (D := D) (s := s) hR hC pr.2.2.2.1 (Nat.le_refl _)
    unfold mtck at g ⊢
    rw [lfor_add]
    refine lfor_id d _ (fun i _ _ => mrow_id (R := pr.2.2.2.1) (Nat.mod_lt _ (by omega)) (fun k hk => ?_))
    rw [g]
    exact pass_sett hR hC hg hp hk
/-! rest -/
theorem lall_iff (p : Nat → Bool) : ∀ (n i : Nat), lall p i n = true ↔ ∀ k, i ≤ k → k < i + n → p k = true
  | 0, i => ⟨fun _ k h1 h2 => by omega, fun _ => rfl⟩
  | n + 1, i => by
    show (if p i = true then lall p (i + 1) n else false) = true ↔ _
    by_cases e : p i = true
    · rw [if_pos e, lall_iff p n (i + 1)]
      refine ⟨fun h k h1 h2 => ?_, fun h k h1 h2 => h k (by omega) (by omega)⟩
      rcases Nat.eq_or_lt_of_le h1 with z | z
      · rw [← z]; exact e
      · exact h k z (by omega)
    · rw [if_neg e]
      exact ⟨fun h => (by cases h), fun h => absurd (h i (Nat.le_refl _) (by omega)) e⟩
theorem at_iff (ph : Nat → Int32) (n : Nat) : atB ph n = true ↔ ∀ k, k < n → ph k = nI 0 := by
  have key : ∀ (n i : Nat) (a : Bool), lfor (fun k a => if a = true then (if ph k = nI 0 then true else false) else false) i n a = true ↔ a = true ∧ ∀ k, i ≤ k → k < i + n → ph k = nI 0 := by
    intro n
    induction n with
    | zero => intro i a; exact ⟨fun h => ⟨h, fun k h1 h2 => by omega⟩, fun h => h.1⟩
    | succ n ih =>
      intro i a
      show lfor _ (i + 1) n (if a = true then (if ph i = nI 0 then true else false) else false) = true ↔ _
      rw [ih]
      cases a
      · rw [if_neg Bool.false_ne_true]
        exact ⟨fun h => absurd h.1 Bool.false_ne_true, fun h => absurd h.1 Bool.false_ne_true⟩
      · rw [if_pos rfl]
        by_cases e : ph i = nI 0
        · rw [if_pos e]
          refine ⟨fun h => ⟨rfl, fun k h1 h2 => ?_⟩, fun h => ⟨rfl, fun k h1 h2 => h.2 k (by omega) (by omega)⟩⟩
          rcases Nat.eq_or_lt_of_le h1 with z | z
          · rw [← z]; exact e
          · exact h.2 k z (by omega)
        · rw [if_neg e]
          exact ⟨fun h => absurd h.1 (by decide), fun h => absurd (h.2 i (Nat.le_refl _) (by omega)) e⟩
  unfold atB
  rw [key]
  exact ⟨fun h k hk => h.2 k (Nat.zero_le _) (by omega), fun h => ⟨rfl, fun k _ hk => h k (by omega)⟩⟩
theorem rs_iff (ph : Nat → Int32) (C r : Nat) : rsN ph C r = true ↔ ∀ c, c < C → ph (r * C + c) = nI 0 := by
  unfold rsN
  rw [lall_iff]
  refine ⟨fun h c hc => ?_, fun h c _ hc => if_pos (h c (by omega))⟩
  have := h c (Nat.zero_le _) (by omega)
  by_cases e : ph (r * C + c) = nI 0
  · exact e
  · simp only [e, if_false] at this; cases this
theorem ar_iff {F G : Nat → Bool} {sn : Nat → Nat} {ph : Nat → Int32} {T R C n : Nat} (hC : 1 ≤ C) (hp : PH ph) (hg : ∀ k, k < R * C → G k = true → F k = true) (hF : ∀ k, k < R * C → F k = fsB sn C k) (hin : ∀ r c, (sn r).testBit c = true → c < C) : arN ph sn T R C n = true ↔ ∀ k, k < R * C → passP F G T R C n ph k = nI 0 := by
  unfold arN
  rw [lall_iff]
  refine ⟨fun h k hk => ?_, fun h r _ hr => ?_⟩
  · have hkk := kqr hk hC
    have g := h (k / C) (Nat.zero_le _) (by omega)
    unfold arS at g
    unfold passP
    by_cases e : fmN (k / C) T R < n
    · rw [if_pos e] at g
      rw [if_pos ⟨hk, e⟩, nph_0 (hg k hk) (hp k), hF k hk]
      by_cases z : sn (k / C) = 0
      · unfold fsB; rw [z, Nat.zero_testBit]
      · rw [if_neg z] at g; cases g
    · rw [if_neg e] at g
      rw [if_neg (fun q => e q.2)]
      have := (rs_iff ph C (k / C)).mp g (k % C) hkk.2
      rw [kdm] at this; exact this
  · have hr' : r < R := by omega
    unfold arS
    by_cases e : fmN r T R < n
    · rw [if_pos e, if_pos]
      apply Nat.eq_of_testBit_eq
      intro c
      rw [Nat.zero_testBit]
      cases w : (sn r).testBit c
      · rfl
      · have hc := hin r c w
        have hk := rc_lt hr' hc
        have g := h _ hk
        unfold passP at g
        rw [rc_div hc, if_pos ⟨hk, e⟩, nph_0 (hg _ hk) (hp _), hF _ hk] at g
        unfold fsB at g
        rw [rc_div hc, rc_mod hc, w] at g; cases g
    · rw [if_neg e, rs_iff]
      intro c hc
      have hk := rc_lt hr' hc
      have g := h _ hk
      unfold passP at g
      rw [rc_div hc, if_neg (fun q => e q.2)] at g
      exact g
theorem ra_stuck {F G : Nat → Bool} {R C T t : Nat} (hR : 1 ≤ R) {s : NS} (hs : ∀ k, k < R * C → sett (F k) (G k) (s.1 k)) (ha : ¬ atB s.1 (R * C) = true) : ∀ (m n : Nat), raM F G R C T t m n s = (-3)
  | 0, n => if_neg ha
  | m + 1, n => by
    show (if atB s.1 (R * C) = true then nI n else if n < t then raM F G R C T t m (n + 1) (nrow (T + n) F G C ((T + n) % R) s) else (-3)) = _
    rw [if_neg ha, nrow_id (R := R) (Nat.mod_lt _ hR) hs]
    by_cases e : n < t
    · rw [if_pos e]; exact ra_stuck hR hs ha m (n + 1)
    · rw [if_neg e]
theorem ra_eq {F G : Nat → Bool} {sn : Nat → Nat} {ph : Nat → Int32} {T R C t : Nat} (hR : 1 ≤ R ∧ R ≤ 8) (hC : 1 ≤ C) (hp : PH ph) (hg : ∀ k, k < R * C → G k = true → F k = true) (hF : ∀ k, k < R * C → F k = fsB sn C k) (hin : ∀ r c, (sn r).testBit c = true → c < C) : ∀ (m n : Nat) (s : NS), n + m = t → n ≤ R → s.1 = passP F G T R C n ph → raM F G R C T t m n s = raN (arN ph sn T R C) n (min t R + 1 - n) := by
  have hat : ∀ n (s : NS), s.1 = passP F G T R C n ph → (atB s.1 (R * C) = true ↔ arN ph sn T R C n = true) := fun n s h => by
    rw [at_iff, ar_iff hC hp hg hF hin, h]
  intro m
  induction m with
  | zero =>
    intro n s h1 h2 h3
    have : min t R + 1 - n = 1 := by omega
    rw [this]
    show (if atB s.1 (R * C) = true then nI n else (-3)) = (if arN ph sn T R C n = true then nI n else (-3))
    by_cases e : arN ph sn T R C n = true
    · rw [if_pos e, if_pos ((hat n s h3).mpr e)]
    · rw [if_neg e, if_neg (fun q => e ((hat n s h3).mp q))]
  | succ m ih =>
    intro n s h1 h2 h3
    obtain ⟨d, hd⟩ : ∃ d, min t R + 1 - n = d + 1 := ⟨min t R - n, by omega⟩
    rw [hd]
    show (if atB s.1 (R * C) = true then nI n else if n < t then raM F G R C T t m (n + 1) (nrow (T + n) F G C ((T + n) % R) s) else (-3)) = (if arN ph sn T R C n = true then nI n else raN (arN ph sn T R C) (n + 1) d)
    by_cases e : arN ph sn T R C n = true
    · rw [if_pos e, if_pos ((hat n s h3).mpr e)]
    · have e' : ¬ atB s.1 (R * C) = true := fun q => e ((hat n s h3).mp q)
      rw [if_neg e, if_neg e', if_pos (by omega)]
      rcases Nat.lt_or_ge n R with z | z
      · have g := row_ph (F := F) (G := G) (f := nscn (T + n) F G) (nscn_ph _ F G) ((T + n) % R * C) C 0 s
        rw [Nat.add_zero, h3, pass_step hR hC z] at g
        refine (ih (n + 1) _ (by omega) z g).trans ?_
        congr 1
        omega
      · have hnR : n = R := by omega
        subst hnR
        have hs : ∀ k, k < n * C → sett (F k) (G k) (s.1 k) := fun k hk => by rw [h3]; exact pass_sett hR hC hg hp hk
        rw [nrow_id (R := n) (Nat.mod_lt _ (by omega)) hs, ra_stuck hR.1 hs e']
        rw [show d = 0 by omega]
        rfl
theorem rest_eq {F G : Nat → Bool} {sn : Nat → Nat} {ph bg : Nat → Int32} {T R C t : Nat} (hR : 1 ≤ R ∧ R ≤ 8) (hC : 1 ≤ C) (hp : PH ph) (hg : ∀ k, k < R * C → G k = true → F k = true) (hF : ∀ k, k < R * C → F k = fsB sn C k) (hin : ∀ r c, (sn r).testBit c = true → c < C) : raN (arN ph sn T R C) 0 (min t R + 1) = raM F G R C T t t 0 (ph, bg) :=
  (ra_eq hR hC hp hg hF hin t 0 (ph, bg) (Nat.zero_add _) (Nat.zero_le _) pass_0.symm).symm
/-! what the look for rest leaves behind -/
theorem n_out {T : Nat} {F G : Nat → Bool} {k j : Nat} {s : NS} (h : ¬ j = k) : (nscn T F G k s).1 j = s.1 j ∧ (nscn T F G k s).2 j = s.2 j := by
  have hu : ∀ (f : Nat → Int32) (x : Int32), upd f k x j = f j := fun f x => if_neg h
  have h1 : ∀ (f : Bool) (s : NS), (n1 T f k s).2 j = s.2 j := fun f s => by
    unfold n1
    repeat' split
    all_goals first | rfl | exact hu _ _
  have h2 : ∀ (f g : Bool) (s : NS), (n2 f g k s).2 j = s.2 j := fun f g s => by
    unfold n2
    repeat' split
    all_goals rfl
  have h3 : ∀ (g : Bool) (was : Int32) (s : NS), (n3 T g was k s).2 j = s.2 j := fun g was s => by
    unfold n3
    repeat' split
    all_goals first | rfl | exact hu _ _
  have h4 : ∀ (f g : Bool) (s : NS), (n4 f g k s).2 j = s.2 j := fun f g s => by
    unfold n4
    repeat' split
    all_goals rfl
  refine ⟨by rw [nscn_ph]; exact hu _ _, ?_⟩
  unfold nscn
  rw [h4, h3, h2, h1]
theorem nrow_out {T : Nat} {F G : Nat → Bool} {R C row j : Nat} {s : NS} (hrow : row < R) (hj : R * C ≤ j) : (nrow T F G C row s).1 j = s.1 j ∧ (nrow T F G C row s).2 j = s.2 j := by
  have key : ∀ (n i : Nat) (s : NS), i + n ≤ C → (lfor (fun c s => nscn T F G (row * C + c) s) i n s).1 j = s.1 j ∧ (lfor (fun c s => nscn T F G (row * C + c) s) i n s).2 j = s.2 j := by
    intro n
    induction n with
    | zero => intro i s _; exact ⟨rfl, rfl⟩
    | succ n ih =>
      intro i s hi
      have hk := rc_lt hrow (show i < C by omega)
      have g := ih (i + 1) (nscn T F G (row * C + i) s) (by omega)
      have g2 := n_out (T := T) (F := F) (G := G) (s := s) (show ¬ j = row * C + i by omega)
      exact ⟨g.1.trans g2.1, g.2.trans g2.2⟩
  exact key C 0 s (by omega)
theorem ras_out {F G : Nat → Bool} {R C T t j : Nat} (hR : 1 ≤ R) (hj : R * C ≤ j) : ∀ (m n : Nat) (s : NS), (raS F G R C T t m n s).1 j = s.1 j ∧ (raS F G R C T t m n s).2 j = s.2 j
  | 0, _, _ => ⟨rfl, rfl⟩
  | m + 1, n, s => by
    have e : raS F G R C T t (m + 1) n s = if atB s.1 (R * C) = true then s else if n < t then raS F G R C T t m (n + 1) (nrow (T + n) F G C ((T + n) % R) s) else s := rfl
    rw [e]
    by_cases e1 : atB s.1 (R * C) = true
    · rw [if_pos e1]; exact ⟨rfl, rfl⟩
    · rw [if_neg e1]
      by_cases e2 : n < t
      · rw [if_pos e2]
        have g := ras_out (F := F) (G := G) (T := T) (t := t) hR hj m (n + 1) (nrow (T + n) F G C ((T + n) % R) s)
        have g2 := nrow_out (T := T + n) (F := F) (G := G) (s := s) (Nat.mod_lt (T + n) (show 0 < R by omega)) hj
        exact ⟨g.1.trans g2.1, g.2.trans g2.2⟩
      · rw [if_neg e2]; exact ⟨rfl, rfl⟩
theorem restore {f g h : Nat → Int32} (e : ∀ j, 64 ≤ j → g j = f j) : fa_fill (fa_fill f h 64) g 64 = f := by
  funext j
  unfold fa_fill
  by_cases q : j < 64
  · rw [if_pos q, if_pos q]
  · rw [if_neg q]; exact e j (by omega)
/-! the worst key -/
theorem wx_0 (pos gw : Nat → Nat) : ∀ (n i : Nat) (x : Int32), wxL pos gw i n (x, 0) = x
  | 0, _, _ => rfl
  | _ + 1, _, _ => if_neg (Nat.lt_irrefl 0)
theorem worst_eq {dio : Bool} {pos : Nat → Nat} {R C : Nat} {cl jn dl dn : Nat → Nat} {fs gs : Nat → Bool} (h : NT pos R C cl jn dl dn) (hR : R ≤ 8) (hC : 1 ≤ C ∧ C ≤ 8) (hp : ∀ k, pos k ≤ 2) :
    wxL pos (gwN dio cl jn dl dn R C) 0 (R * C) ((-3), gcM fs gs pos (R * C)) = (wmN dio pos R C fs gs).1 := by
  have hgw : ∀ k, k < R * C → ∀ a : AS, gcM (apA dio (updN pos k 0) R C a).1 (apA dio (updN pos k 0) R C a).2 (updN pos k 0) (R * C) = gwN dio cl jn dl dn R C k := by
    intro k hk a
    have hN := NT_move (q := 0) h hC hk (by decide)
    have hp0 : ∀ j, updN pos k 0 j ≤ 2 := fun j => by
      unfold updN
      split
      · exact Nat.zero_le _
      · exact hp j
    unfold gwN
    rw [gc_eq hN hR hC]
    refine gcM_ext (fun j hj => ?_) (fun j hj => ?_)
    · rw [apA_1 hj, ap1_eq hN hR hC hp0 hj]
    · rw [apA_2 hj, ap2_eq hN hR hC hp0 hj]
  have key : ∀ (n i : Nat) (b : Int32) (ls : Nat) (f g : Nat → Bool), i + n = R * C → wxL pos (gwN dio cl jn dl dn R C) i n (b, ls) = (lfor (wmS dio pos R C) i n (b, ls, f, g)).1 := by
    intro n
    induction n with
    | zero => intro i b ls f g _; rfl
    | succ n ih =>
      intro i b ls f g hi
      have hk : i < R * C := by omega
      show (if 0 < ls then wxL pos _ (i + 1) n (if pos i = 0 then (b, ls) else if gwN dio cl jn dl dn R C i < ls then (nI i, gwN dio cl jn dl dn R C i) else (b, ls)) else b) = (lfor (wmS dio pos R C) (i + 1) n (wmS dio pos R C i (b, ls, f, g))).1
      have e : wmS dio pos R C i (b, ls, f, g) = if 0 < pos i then (if gwN dio cl jn dl dn R C i < ls then (nI i, gwN dio cl jn dl dn R C i, (apA dio (updN pos i 0) R C (f, g)).1, (apA dio (updN pos i 0) R C (f, g)).2) else (b, ls, (apA dio (updN pos i 0) R C (f, g)).1, (apA dio (updN pos i 0) R C (f, g)).2)) else (b, ls, f, g) := by
        unfold wmS
        rw [hgw i hk (f, g)]
      rw [e]
      by_cases z : 0 < ls
      · rw [if_pos z]
        by_cases y : pos i = 0
        · rw [if_pos y, if_neg (by omega)]; exact ih (i + 1) b ls f g (by omega)
        · rw [if_neg y, if_pos (show 0 < pos i by omega)]
          by_cases x : gwN dio cl jn dl dn R C i < ls
          · rw [if_pos x, if_pos x]; exact ih (i + 1) _ _ _ _ (by omega)
          · rw [if_neg x, if_neg x]; exact ih (i + 1) _ _ _ _ (by omega)
      · have z0 : ls = 0 := by omega
        subst z0
        rw [if_neg z]
        by_cases y : 0 < pos i
        · rw [if_pos y, if_neg (Nat.not_lt_zero _), ← ih (i + 1) _ _ _ _ (by omega), wx_0]
        · rw [if_neg y, ← ih (i + 1) _ _ _ _ (by omega), wx_0]
  exact key (R * C) 0 _ _ _ _ (Nat.zero_add _)
