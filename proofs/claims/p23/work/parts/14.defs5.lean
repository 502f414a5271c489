/-! the reference: its log shifts -/
def shL (lg : Nat → Int32) (x : Nat) : Nat → Int32 := fun j => if x < j ∧ j < 48 then lg (j - 3) else lg j
theorem shL_47 (lg : Nat → Int32) : shL lg 47 = lg := by
  funext j
  exact if_neg (by omega)
theorem shL_step (lg : Nat → Int32) {x : Nat} (h : 3 ≤ x) (hx : x < 48) : upd (shL lg x) x (shL lg x (x - 3)) = shL lg (x - 1) := by
  funext j
  unfold upd shL
  by_cases e : j = x
  · subst e
    rw [if_pos rfl, if_neg (by omega), if_pos (by omega)]
  · rw [if_neg e]
    by_cases e2 : x < j ∧ j < 48
    · rw [if_pos e2, if_pos (by omega)]
    · rw [if_neg e2, if_neg (by omega)]
def entL (t k y : Int32) (lg : Nat → Int32) : Nat → Int32 := upd (upd (upd (shL lg 2) 0 t) 1 k) 2 y
abbrev VM : Type := (Nat → Int32) × (Nat → Bool) × (Nat → Int32) × Nat
def freeM (kk : Nat → Int32) (T v : Nat) (s : VM) : VM := (upd s.1 v (nI 0), updB s.2.1 v false, entL (nI T) (nI 2) (kk v) s.2.2.1, s.2.2.2 + 1)
def limM (kk : Nat → Int32) (T v : Nat) (s : VM) : VM := if s.1 v = nI 0 then s else freeM kk T v s
def lmV (kk : Nat → Int32) (T q V : Nat) (s : VM) : VM := lfor (limM kk T) q (V - q) s
def wkB (ve si : Nat → Int32) (ru : Int32) (v o : Nat) : Bool := if ru = nI 1 then (if ve v = ve o then (if si v < si o then true else false) else if ve v < ve o then true else false) else if si v < si o then true else false
/-- weakest's step; V stands for none -/
def wkS (kept : Bool) (st ve si : Nat → Int32) (ru : Int32) (V v b : Nat) : Nat :=
  if kept = true then (if st v = nI 2 then (if b < V then (if wkB ve si ru v b = true then v else b) else v) else b)
  else (if b < V then (if wkB ve si ru v b = true then v else b) else v)
def wkN (kept : Bool) (st ve si : Nat → Int32) (ru : Int32) (V : Nat) : Nat := lfor (wkS kept st ve si ru V) 0 V V
def tkN (st ve si : Nat → Int32) (ru : Int32) (V : Nat) : Nat := if ru = nI 2 then (if wkN true st ve si ru V < V then wkN true st ve si ru V else wkN false st ve si ru V) else wkN false st ve si ru V
theorem rV_neg {w V : Nat} (hV : V < 2 ^ 31) : rV w V < nI 0 ↔ ¬ w < V := by
  unfold rV
  by_cases h : w < V
  · rw [if_pos h, xI_lt (by omega) (by decide)]; omega
  · rw [if_neg h]; simp [h]; decide
theorem wkS_lt {kept : Bool} {st ve si : Nat → Int32} {ru : Int32} {V v b : Nat} (hv : v < V) : wkS kept st ve si ru V v b < V ∨ wkS kept st ve si ru V v b = b := by
  unfold wkS
  repeat' split
  all_goals first | exact Or.inl hv | exact Or.inr rfl
theorem wkF_lt {st ve si : Nat → Int32} {ru : Int32} {V v b : Nat} (hv : v < V) : wkS false st ve si ru V v b < V := by
  unfold wkS
  rw [if_neg (by decide)]
  repeat' split
  all_goals first | exact hv | assumption
theorem wkN_lt {st ve si : Nat → Int32} {ru : Int32} {V : Nat} (hV : 1 ≤ V) : wkN false st ve si ru V < V := by
  have key : ∀ (n i b : Nat), i + n = V → 1 ≤ n → lfor (wkS false st ve si ru V) i n b < V := by
    intro n
    induction n with
    | zero => intro i b h1 h2; omega
    | succ n ih =>
      intro i b h1 _
      show lfor _ (i + 1) n (wkS false st ve si ru V i b) < V
      cases n with
      | zero => exact wkF_lt (by omega)
      | succ n => exact ih (i + 1) _ (by omega) (by omega)
  exact key V 0 V (by omega) hV
theorem tkN_lt {st ve si : Nat → Int32} {ru : Int32} {V : Nat} (hV : 1 ≤ V) : tkN st ve si ru V < V := by
  unfold tkN
  have := wkN_lt (st := st) (ve := ve) (si := si) (ru := ru) hV
  repeat' split
  all_goals first | assumption
def ntM (st ve si : Nat → Int32) (ru : Int32) (V : Nat) : Int32 := if findN (ffP st) 0 V < V then (-3) else rV (tkN st ve si ru V) V
def vaM (sl n : Int32) : Int32 := if nI 127 < nI 128 - sl * n then nI 127 else if nI 128 - sl * n < nI 1 then nI 1 else nI 128 - sl * n
def snM (st kk ve si : Nat → Int32) (ru key : Int32) (V : Nat) : Nat := if findN (wkP st kk key) 0 V < V then findN (wkP st kk key) 0 V else if findN (ffP st) 0 V < V then findN (ffP st) 0 V else tkN st ve si ru V
abbrev LJ : Type := (Nat → Int32) × Nat
def enJ (t k y : Int32) (j : LJ) : LJ := (entL t k y j.1, j.2 + 1)
def snJ (st kk ve si : Nat → Int32) (ru key now : Int32) (V : Nat) (j : LJ) : LJ := enJ now (nI 1) key (if sndT st kk key V = true then enJ now (nI 3) (kk (snM st kk ve si ru key V)) j else j)
def relM (kk : Nat → Int32) (sus sos : Bool) (key : Int32) (T V : Nat) (s : VM) : VM :=
  if findN (wkP s.1 kk key) 0 V < V then
    (if s.1 (findN (wkP s.1 kk key) 0 V) = nI 1 then
      (if kpB sus sos s.2.1 (findN (wkP s.1 kk key) 0 V) = true then (upd s.1 (findN (wkP s.1 kk key) 0 V) (nI 2), s.2) else limM kk T (findN (wkP s.1 kk key) 0 V) s)
    else s)
  else s
def fkM (kk : Nat → Int32) (T : Nat) (sus sos : Bool) (v : Nat) (s : VM × Nat) : VM × Nat := if s.1.1 v = nI 2 then (if kpB sus sos s.1.2.1 v = true then s else (limM kk T v s.1, s.2 + (if s.1.1 v = nI 0 then 0 else 1))) else s
def dkM (kk : Nat → Int32) (T : Nat) (sus sos : Bool) (V : Nat) (s : VM) : VM × Nat := lfor (fkM kk T sus sos) 0 V (s, 0)
def cpM (st : Nat → Int32) (dn : Bool) (v : Nat) (s : (Nat → Bool) × Nat) : (Nat → Bool) × Nat := if (if dn = true then (if st v = nI 1 then true else false) else false) = true then (updB s.1 v true, s.2 + 1) else (updB s.1 v false, s.2 + 0)
def soM (kk : Nat → Int32) (T : Nat) (sus sos dn : Bool) (V : Nat) (s : VM) : VM × Nat :=
  if sos = dn then (s, 0) else if dn = true then ((s.1, (lfor (cpM s.1 dn) 0 V (s.2.1, 0)).1, s.2.2), (lfor (cpM s.1 dn) 0 V (s.2.1, 0)).2) else dkM kk T sus dn V (s.1, (lfor (cpM s.1 dn) 0 V (s.2.1, 0)).1, s.2.2)
/-! appearances -/
def cnS (pos : Nat → Nat) (C x k : Nat) (s : Nat × Nat × Bool) : Nat × Nat × Bool := if pos k < x then s else if s.1.testBit (k / C) = s.2.1.testBit (k % C) then s else (s.1 ||| 1 <<< (k / C), s.2.1 ||| 1 <<< (k % C), true)
def cnI (pos : Nat → Nat) (R C x : Nat) (s : Nat × Nat) : Nat × Nat × Bool := lfor (cnS pos C x) 0 (R * C) (s.1, s.2, false)
def cnO (pos : Nat → Nat) (R C x : Nat) : Nat → Nat × Nat → Nat × Nat
  | 0, s => s
  | n + 1, s => if (cnI pos R C x s).2.2 = true then cnO pos R C x n ((cnI pos R C x s).1, (cnI pos R C x s).2.1) else ((cnI pos R C x s).1, (cnI pos R C x s).2.1)
def cnF (pos : Nat → Nat) (R C x r : Nat) : Nat × Nat := cnO pos R C x 17 (1 <<< r, 0)
theorem pop8_le (x : Nat) : pop8 x ≤ 8 := fb_ct_le _ 8
theorem pop8_or {a c : Nat} (hc : c < 8) (h : a.testBit c = false) : pop8 (a ||| 1 <<< c) = pop8 a + 1 := by
  unfold pop8
  have e : (fun i => (a ||| 1 <<< c).testBit i) = fun i => if i = c then true else a.testBit i := by
    funext i
    rw [Nat.shiftLeft_eq, Nat.one_mul, fb_bit_set]
    by_cases q : i = c <;> simp [q]
  rw [e]
  have := fb_ct_upd (fun i => a.testBit i) true hc
  simp only [h] at this
  simpa using this
theorem pop8_or' {a c : Nat} (hc : c < 8) : pop8 a ≤ pop8 (a ||| 1 <<< c) := by
  by_cases h : a.testBit c = true
  · have e : a ||| 1 <<< c = a := by
      apply Nat.eq_of_testBit_eq
      intro i
      rw [Nat.shiftLeft_eq, Nat.one_mul, fb_bit_set]
      by_cases q : i = c
      · simp [q, h]
      · simp [q]
    rw [e]; exact Nat.le_refl _
  · rw [pop8_or hc (by simpa using h)]; exact Nat.le_add_right _ _
theorem pop8_two {a b r c : Nat} (hr : r < 8) (hc : c < 8) (h : ¬ a.testBit r = b.testBit c) : pop8 a + pop8 b + 1 ≤ pop8 (a ||| 1 <<< r) + pop8 (b ||| 1 <<< c) := by
  have h1 := pop8_or' (a := a) hr
  have h2 := pop8_or' (a := b) hc
  by_cases e : a.testBit r = true
  · have e2 : b.testBit c = false := by cases q : b.testBit c <;> simp_all
    rw [pop8_or hc e2]; omega
  · rw [pop8_or hr (by simpa using e)]; omega
def ap2 (dio : Bool) (pos : Nat → Nat) (R C k : Nat) : Bool := if dio = true then (if pos k = 2 then true else false) else (cnF pos R C 2 (k / C)).2.testBit (k % C)
def ap1 (dio : Bool) (pos : Nat → Nat) (R C k : Nat) : Bool := if ap2 dio pos R C k = true then true else if dio = true then (if 0 < pos k then true else false) else (cnF pos R C 1 (k / C)).2.testBit (k % C)
abbrev AS : Type := (Nat → Bool) × (Nat → Bool)
def apC (dio : Bool) (pos : Nat → Nat) (R C r c : Nat) (s : AS) : AS := (updB s.1 (r * C + c) (ap1 dio pos R C (r * C + c)), updB s.2 (r * C + c) (ap2 dio pos R C (r * C + c)))
def apR (dio : Bool) (pos : Nat → Nat) (R C r : Nat) (s : AS) : AS := lfor (apC dio pos R C r) 0 C s
def apA (dio : Bool) (pos : Nat → Nat) (R C : Nat) (s : AS) : AS := lfor (apR dio pos R C) 0 R s
theorem rc_lt {r c R C : Nat} (hr : r < R) (hc : c < C) : r * C + c < R * C := Nat.lt_of_lt_of_le (Nat.add_lt_add_left hc _) (by rw [← Nat.succ_mul]; exact Nat.mul_le_mul_right C hr)
theorem rc_div {r c C : Nat} (hc : c < C) : (r * C + c) / C = r := by
  rw [Nat.mul_comm, Nat.mul_add_div (by omega), Nat.div_eq_of_lt hc]; rfl
theorem rc_mod {r c C : Nat} (hc : c < C) : (r * C + c) % C = c := by
  rw [Nat.mul_comm, Nat.mul_add_mod, Nat.mod_eq_of_lt hc]
theorem bit1 (a c : Nat) : (a >>> c) &&& 1 = if a.testBit c = true then 1 else 0 := by
  rw [Nat.testBit, Nat.and_comm]
  have h : (a >>> c) &&& 1 = 0 ∨ (a >>> c) &&& 1 = 1 := by
    rw [Nat.and_one_is_mod]; omega
  rw [Nat.and_comm 1]
  rcases h with h | h <;> rw [h] <;> rfl
theorem tb_t {a c : Nat} (h : (a >>> c) &&& 1 = 1) : a.testBit c = true := by
  rw [bit1] at h
  by_cases e : a.testBit c = true
  · exact e
  · rw [if_neg e] at h; cases h
theorem tb_f {a c : Nat} (h : ¬ (a >>> c) &&& 1 = 1) : a.testBit c = false := by
  rw [bit1] at h
  cases e : a.testBit c
  · rfl
  · rw [e] at h; exact absurd rfl h
theorem updB_same (f : Nat → Bool) (k : Nat) (x : Bool) : updB f k x k = x := if_pos rfl
def ghM (fs gs : Nat → Bool) (pos : Nat → Nat) (k : Nat) : Bool := if fs k = true then (if pos k = 0 then true else (if gs k = true then (if pos k < 2 then true else false) else false)) else (if gs k = true then (if pos k < 2 then true else false) else false)
def gcM (fs gs : Nat → Bool) (pos : Nat → Nat) (n : Nat) : Nat := lfor (fun k a => a + (if ghM fs gs pos k = true then 1 else 0)) 0 n 0
def dmS (fs : Nat → Bool) (C k x : Nat) : Bool := if x / C = k / C then false else if x % C = k % C then false else if fs x = true then (if fs (x / C * C + k % C) = true then (if fs (k / C * C + x % C) = true then true else false) else false) else false
def dmM (fs : Nat → Bool) (R C k : Nat) : Bool := if fs k = true then lany (dmS fs C k) 0 (R * C) else false
def dcM (fs : Nat → Bool) (R C : Nat) : Nat := lfor (fun k a => a + (if dmM fs R C k = true then 1 else 0)) 0 (R * C) 0
def prM (pos : Nat → Nat) (n : Nat) : Nat := lfor (fun k a => a + (if 0 < pos k then 1 else 0)) 0 n 0
def nkB (k : Int32) (n : Nat) : Bool := if wiB k (nI 0) (nI (n - 1)) = true then false else true
/-! scans -/
abbrev MS : Type := (Nat → Int32) × (Nat → Int32) × (Nat → Int32) × (Nat → Int32) × (Nat → Int32) × (Nat → Int32) × (Nat → Bool) × Int32 × (Nat → Int32) × Nat × Int32 × Int32
def hiM (pr : PR) (k : Nat) : MS → MS := fun (ph, bg, st, kk, ve, si, ca, tk, lg, mj, sk, rf) =>
  (ph, bg, upd st (snM st kk ve si pr.2.2.1 (nI k) pr.2.2.2.2.1) (nI 1), upd kk (snM st kk ve si pr.2.2.1 (nI k) pr.2.2.2.2.1) (nI k), upd ve (snM st kk ve si pr.2.2.1 (nI k) pr.2.2.2.2.1) (vaM pr.2.1 ((nI pr.1 - bg k) / nI pr.2.2.2.1)), upd si (snM st kk ve si pr.2.2.1 (nI k) pr.2.2.2.2.1) (nI pr.1), updB ca (snM st kk ve si pr.2.2.1 (nI k) pr.2.2.2.2.1) false,
    (if sndT st kk (nI k) pr.2.2.2.2.1 = true then tk + nI 1 else tk), (snJ st kk ve si pr.2.2.1 (nI k) (nI pr.1) pr.2.2.2.2.1 (lg, mj)).1, (snJ st kk ve si pr.2.2.1 (nI k) (nI pr.1) pr.2.2.2.2.1 (lg, mj)).2, sk + nI 1, rf)
def reM (pr : PR) (k : Nat) : MS → MS := fun (ph, bg, st, kk, ve, si, ca, tk, lg, mj, sk, rf) => (ph, bg, st, kk, ve, si, ca, tk, entL (nI pr.1) (nI 4) (nI k) lg, mj + 1, sk, rf + nI 1)
def stM (pr : PR) (d : Bool) (k : Nat) (s : MS) : MS := if pr.2.2.2.2.2.1 = true then (if d = true then reM pr k s else hiM pr k s) else hiM pr k s
def rlM (pr : PR) (k : Nat) : MS → MS := fun (ph, bg, st, kk, ve, si, ca, tk, lg, mj, sk, rf) =>
  (ph, bg, (relM kk pr.2.2.2.2.2.2.2.1 pr.2.2.2.2.2.2.2.2 (nI k) pr.1 pr.2.2.2.2.1 (st, ca, lg, mj)).1, kk, ve, si, (relM kk pr.2.2.2.2.2.2.2.1 pr.2.2.2.2.2.2.2.2 (nI k) pr.1 pr.2.2.2.2.1 (st, ca, lg, mj)).2.1, tk, (relM kk pr.2.2.2.2.2.2.2.1 pr.2.2.2.2.2.2.2.2 (nI k) pr.1 pr.2.2.2.2.1 (st, ca, lg, mj)).2.2.1, (relM kk pr.2.2.2.2.2.2.2.1 pr.2.2.2.2.2.2.2.2 (nI k) pr.1 pr.2.2.2.2.1 (st, ca, lg, mj)).2.2.2, sk, rf)
def hsM (pr : PR) (d : Bool) (k : Nat) (s : MS) : MS := (upd (stM pr d k s).1 k (nI 2), (stM pr d k s).2)
def enM (pr : PR) (k : Nat) (x : Int32) (s : MS) : MS := (upd s.1 k x, upd s.2.1 k (nI pr.1), s.2.2)
def m1 (pr : PR) (f : Bool) (k : Nat) (s : MS) : MS := if s.1 k = nI 0 then (if f = true then enM pr k (nI 1) s else s) else s
def m2 (pr : PR) (f g d : Bool) (k : Nat) (s : MS) : MS := if s.1 k = nI 1 then (if g = true then hsM pr d k s else if f = true then s else (upd s.1 k (nI 0), s.2)) else s
def m3 (pr : PR) (g : Bool) (was : Int32) (k : Nat) (s : MS) : MS := if was = nI 2 then (if g = true then s else if pr.2.2.2.2.2.2.1 = true then enM pr k (nI 3) s else enM pr k (nI 3) (rlM pr k s)) else s
def m4 (pr : PR) (f g d : Bool) (k : Nat) (s : MS) : MS := if s.1 k = nI 3 then (if g = true then hsM pr d k s else if f = true then s else (upd (rlM pr k s).1 k (nI 0), (rlM pr k s).2)) else s
def mscn (pr : PR) (F G Dd : Nat → Bool) (k : Nat) (s : MS) : MS := m4 pr (F k) (G k) (Dd k) k (m3 pr (G k) (s.1 k) k (m2 pr (F k) (G k) (Dd k) k (m1 pr (F k) k s)))
def mrow (pr : PR) (F G Dd : Nat → Bool) (C row : Nat) (s : MS) : MS := lfor (fun c s => mscn pr F G Dd (row * C + c) s) 0 C s
def mtck (pr : PR) (F G Dd : Nat → Bool) (C n : Nat) (s : MS) : MS := lfor (fun i s => mrow (prT pr i) F G Dd C ((pr.1 + i) % pr.2.2.2.1) s) 0 n s
/-! scans that don't play -/
abbrev NS : Type := (Nat → Int32) × (Nat → Int32)
def n1 (T : Nat) (f : Bool) (k : Nat) (s : NS) : NS := if s.1 k = nI 0 then (if f = true then (upd s.1 k (nI 1), upd s.2 k (nI T)) else s) else s
def n2 (f g : Bool) (k : Nat) (s : NS) : NS := if s.1 k = nI 1 then (if g = true then (upd s.1 k (nI 2), s.2) else if f = true then s else (upd s.1 k (nI 0), s.2)) else s
def n3 (T : Nat) (g : Bool) (was : Int32) (k : Nat) (s : NS) : NS := if was = nI 2 then (if g = true then s else (upd s.1 k (nI 3), upd s.2 k (nI T))) else s
def n4 (f g : Bool) (k : Nat) (s : NS) : NS := if s.1 k = nI 3 then (if g = true then (upd s.1 k (nI 2), s.2) else if f = true then s else (upd s.1 k (nI 0), s.2)) else s
def nscn (T : Nat) (F G : Nat → Bool) (k : Nat) (s : NS) : NS := n4 (F k) (G k) k (n3 T (G k) (s.1 k) k (n2 (F k) (G k) k (n1 T (F k) k s)))
def nrow (T : Nat) (F G : Nat → Bool) (C row : Nat) (s : NS) : NS := lfor (fun c s => nscn T F G (row * C + c) s) 0 C s
def atB (ph : Nat → Int32) (n : Nat) : Bool := lfor (fun k a => if a = true then (if ph k = nI 0 then true else false) else false) 0 n true
/-- rest after so many passes: n made, at most t -/
def raM (F G : Nat → Bool) (R C T t : Nat) : Nat → Nat → NS → Int32
  | 0, n, s => if atB s.1 (R * C) = true then nI n else (-3)
  | m + 1, n, s => if atB s.1 (R * C) = true then nI n else if n < t then raM F G R C T t m (n + 1) (nrow (T + n) F G C ((T + n) % R) s) else (-3)
def raS (F G : Nat → Bool) (R C T t : Nat) : Nat → Nat → NS → NS
  | 0, _, s => s
  | m + 1, n, s => if atB s.1 (R * C) = true then s else if n < t then raS F G R C T t m (n + 1) (nrow (T + n) F G C ((T + n) % R) s) else s
theorem cnS_lt {pos : Nat → Nat} {R C x k : Nat} (hR : R ≤ 8) (hC : C ≤ 8) (hk : k < R * C) {s : Nat × Nat × Bool} (h : s.1 < 256 ∧ s.2.1 < 256) : (cnS pos C x k s).1 < 256 ∧ (cnS pos C x k s).2.1 < 256 := by
  have hC0 : 0 < C := by
    rcases Nat.eq_zero_or_pos C with e | e
    · rw [e, Nat.mul_zero] at hk; omega
    · exact e
  have hq : k / C < R := Nat.div_lt_of_lt_mul (by rw [Nat.mul_comm]; exact hk)
  have hm : k % C < C := Nat.mod_lt _ hC0
  unfold cnS
  repeat' split
  · exact h
  · exact h
  · exact ⟨or256 h.1 (shl256 (by omega)), or256 h.2 (shl256 (by omega))⟩
theorem cnI_lt {pos : Nat → Nat} {R C x : Nat} (hR : R ≤ 8) (hC : C ≤ 8) {s : Nat × Nat} (h : s.1 < 256 ∧ s.2 < 256) : (cnI pos R C x s).1 < 256 ∧ (cnI pos R C x s).2.1 < 256 := by
  have key : ∀ (n i : Nat) (t : Nat × Nat × Bool), i + n = R * C → t.1 < 256 ∧ t.2.1 < 256 → (lfor (cnS pos C x) i n t).1 < 256 ∧ (lfor (cnS pos C x) i n t).2.1 < 256 := by
    intro n
    induction n with
    | zero => intro i t _ ht; exact ht
    | succ n ih => intro i t hi ht; exact ih (i + 1) _ (by omega) (cnS_lt hR hC (by omega) ht)
  exact key (R * C) 0 _ (Nat.zero_add _) h
theorem cnO_lt {pos : Nat → Nat} {R C x : Nat} (hR : R ≤ 8) (hC : C ≤ 8) : ∀ (n : Nat) (s : Nat × Nat), s.1 < 256 ∧ s.2 < 256 → (cnO pos R C x n s).1 < 256 ∧ (cnO pos R C x n s).2 < 256
  | 0, s, h => h
  | n + 1, s, h => by
    have h1 := cnI_lt (pos := pos) (x := x) hR hC h
    show (if (cnI pos R C x s).2.2 = true then cnO pos R C x n ((cnI pos R C x s).1, (cnI pos R C x s).2.1) else ((cnI pos R C x s).1, (cnI pos R C x s).2.1)).1 < 256 ∧ _
    by_cases e : (cnI pos R C x s).2.2 = true
    · rw [if_pos e]
      have h2 := cnO_lt (pos := pos) (x := x) hR hC n ((cnI pos R C x s).1, (cnI pos R C x s).2.1) h1
      refine ⟨h2.1, ?_⟩
      show (if (cnI pos R C x s).2.2 = true then cnO pos R C x n ((cnI pos R C x s).1, (cnI pos R C x s).2.1) else ((cnI pos R C x s).1, (cnI pos R C x s).2.1)).2 < 256
      rw [if_pos e]; exact h2.2
    · rw [if_neg e]
      refine ⟨h1.1, ?_⟩
      show (if (cnI pos R C x s).2.2 = true then cnO pos R C x n ((cnI pos R C x s).1, (cnI pos R C x s).2.1) else ((cnI pos R C x s).1, (cnI pos R C x s).2.1)).2 < 256
      rw [if_neg e]; exact h1.2
theorem cnF_lt {pos : Nat → Nat} {R C x r : Nat} (hR : R ≤ 8) (hC : C ≤ 8) (hr : r < R) : (cnF pos R C x r).1 < 256 ∧ (cnF pos R C x r).2 < 256 := cnO_lt hR hC 17 _ ⟨shl256 (by omega), show 0 < 256 from by decide⟩
