/-! what holds of the class's one state all through -/
def VI (V n B : Nat) (sus sos : Bool) (st kk ve si : Nat → Int32) (ca : Nat → Bool) : Prop :=
  SI V sus sos st ca ∧ (∀ v, ¬ st v = nI 0 → v < V ∧ (∃ k, k < n ∧ kk v = nI k) ∧ (∃ x, 1 ≤ x ∧ x ≤ 127 ∧ ve v = nI x) ∧ ∃ t, t < B ∧ si v = nI t) ∧ (∀ v w, ¬ st v = nI 0 → ¬ st w = nI 0 → kk v = kk w → v = w) ∧ (∀ v, st v = nI 0 → ca v = false) ∧ ∀ v, ca v = true → sos = true
def INV (s : KSt) (R C V N : Nat) : Prop := kR s = R ∧ kC s = C ∧ kV s = V ∧ (1 ≤ R ∧ R ≤ 8) ∧ (1 ≤ C ∧ C ≤ 8) ∧ (1 ≤ V ∧ V ≤ 8) ∧ (∀ k, kpos s k ≤ 2) ∧ NT (kpos s) R C (kcl s) (kjn s) (kdl s) (kdn s) ∧ PH (kph s) ∧ VI V (R * C) (kT s) (kSus s) (kSos s) (kst s) (kkk s) (kve s) (ksi s) (kca s) ∧ (∀ k, ¬ kph s k = nI 0 → ∃ b, b ≤ kT s ∧ kbg s k = nI b) ∧ kT s ≤ N ∧ kmk s ≤ 64 * N
theorem b2n_lt (b : Bool) : b2n b < 2 ^ 31 := by cases b <;> decide
theorem b2n_1 {b : Bool} (h : b2n b = 1) : b = true := by cases b <;> first | rfl | exact absurd h (by decide)
theorem b2n_n1 {b : Bool} (h : ¬ b2n b = 1) : b = false := by cases b <;> first | rfl | exact absurd rfl h
theorem b2n_0 {b : Bool} (h : b2n b = 0) : b = false := by cases b <;> first | rfl | exact absurd h (by decide)
theorem b2n_n0 {b : Bool} (h : ¬ b2n b = 0) : b = true := by cases b <;> first | rfl | exact absurd rfl h
theorem bI_1 {b : Bool} (h : b = true) : nI 1 = bI b := by rw [h]; rfl
theorem bI_0 {b : Bool} (h : b = false) : nI 0 = bI b := by rw [h]; rfl
theorem bn_1 {b : Bool} (h : b = true) : nI 1 = nI (b2n b) := by rw [h]; rfl
theorem bn_0 {b : Bool} (h : b = false) : nI 0 = nI (b2n b) := by rw [h]; rfl
section
variable {s : KSt} {R C V N : Nat}
theorem INV.ok (h : INV s R C V N) (hN : N ≤ 4000) : KOK s R C V := by
  obtain ⟨h1, h2, h3, h4, h5, h6, h7, h8, h9, h10, h11, h12, h13⟩ := h
  obtain ⟨l1, l2, l3, l4⟩ := h8.lts h5.2
  exact ⟨h1, h2, h3, h4, h5, h6, h7, l1, l2, l3, l4, by omega, by omega⟩
theorem INV.le (h : INV s R C V N) {M : Nat} (hN : N ≤ M) : INV s R C V M := by
  obtain ⟨h1, h2, h3, h4, h5, h6, h7, h8, h9, h10, h11, h12, h13⟩ := h
  exact ⟨h1, h2, h3, h4, h5, h6, h7, h8, h9, h10, h11, by omega, by omega⟩
theorem INV.rc (h : INV s R C V N) : R * C ≤ 64 ∧ 1 ≤ R * C := ⟨Nat.mul_le_mul h.2.2.2.1.2 h.2.2.2.2.1.2, Nat.mul_le_mul h.2.2.2.1.1 h.2.2.2.2.1.1⟩
theorem KOK.mv (h : KOK s R C V) {k q : Nat} (hk : k < R * C) (hq : q ≤ 2) : KOK (mvS s k q) R C V := by
  obtain ⟨h1, h2, h3, h4, h5, h6, h7, l1, l2, l3, l4, h12, h13⟩ := h
  have hm : k % kC s < 8 := by rw [h2]; exact Nat.lt_of_lt_of_le (Nat.mod_lt _ (by omega)) h5.2
  refine ⟨h1, h2, h3, h4, h5, h6, fun j => ?_, putC_lt l1 _ hm _, putJ_lt l1 l2 _ hm _, putC_lt l3 _ hm _, putJ_lt l3 l4 _ hm _, h12, h13⟩
  show updN (kpos s) k q j ≤ 2
  unfold updN
  split
  · exact hq
  · exact h7 j
theorem kgc_le (h : KOK s R C V) : kgc s ≤ 64 := by
  obtain ⟨h1, h2, h3, h4, h5, h6, h7, l1, l2, l3, l4, h12, h13⟩ := h
  have := gcN_le (kdio s) (kcl s) (kjn s) (kdl s) (kdn s) (kR s)
  have h8 : kR s ≤ 8 := by rw [h1]; exact h4.2
  show gcN _ _ _ _ _ _ ≤ 64
  omega
theorem kpos_lt (h : KOK s R C V) (k : Nat) : kpos s k < 2 ^ 31 := Nat.lt_of_le_of_lt (h.2.2.2.2.2.2.1 k) (by decide)
theorem kcon_lt (h : KOK s R C V) {r : Nat} (hr : r < R) : kcon s r < 65536 := by
  obtain ⟨h1, h2, h3, h4, h5, h6, h7, l1, l2, l3, l4, h12, h13⟩ := h
  have h8 : rjwN (kjn s) r < 2 ^ 8 := by
    refine Nat.lt_of_not_ge (fun hg => ?_)
    obtain ⟨i, hi, hb⟩ := Nat.exists_ge_and_testBit_of_ge_two_pow (n := 8) hg
    rcases (rjw_bit _ _ _).mp hb with h | h <;> omega
  have h9 : kjn s r <<< 8 < 2 ^ 16 := by rw [Nat.shiftLeft_eq]; have := l2 r; omega
  exact Nat.or_lt_two_pow (n := 16) (Nat.lt_trans h8 (by decide)) h9
theorem mv_back (h : INV s R C V N) {k : Nat} (hk : k < R * C) : mvS (mvS s k 0) k (kpos s k) = s := by
  obtain ⟨h1, h2, h3, h4, h5, h6, h7, h8, h9, h10, h11, h12, h13⟩ := h
  obtain ⟨l1, l2, l3, l4⟩ := h8.lts h5.2
  have hbc := net_k h8.1 h5.1 hk
  have hbd := (net_k h8.2.1 h5.1 hk).trans (show decide (2 ≤ kpos s k) = decide (kpos s k = 2) from by have := h7 k; congr 1; exact propext ⟨fun _ => by omega, fun _ => by omega⟩)
  have hm : k % C < 8 := Nat.lt_of_lt_of_le (Nat.mod_lt _ (by omega)) h5.2
  have e1 := put_back (l1 (k / C)) hm hbc
  have e2 := putJ_back (l1 (k / C)) hm hbc h8.2.2.1
  have e3 := put_back (l3 (k / C)) hm hbd
  have e4 := putJ_back (l3 (k / C)) hm hbd h8.2.2.2
  obtain ⟨s1, s2, pos, C0, dio, cl, jn, dl, dn⟩ := s
  have h2' : C0 = C := h2
  subst h2'
  show (s1, s2, updN (updN pos k 0) k (pos k), C0, dio, putC (putC cl (k / C0) (k % C0) false) (k / C0) (k % C0) (decide (1 ≤ pos k)), putJ (putC cl (k / C0) (k % C0) false) (putJ cl jn (k / C0) (k % C0) false) (k / C0) (k % C0) (decide (1 ≤ pos k)), putC (putC dl (k / C0) (k % C0) false) (k / C0) (k % C0) (decide (pos k = 2)), putJ (putC dl (k / C0) (k % C0) false) (putJ dl dn (k / C0) (k % C0) false) (k / C0) (k % C0) (decide (pos k = 2))) = _
  rw [e1, e2, e3, e4, updN_back]
theorem wx_step (h : KOK s R C V) (i n : Nat) (b : Int32) (ls : Nat) : wxL (kpos s) (gwN (kdio s) (kcl s) (kjn s) (kdl s) (kdn s) R C) i (n + 1) (b, ls) = wxL (kpos s) (gwN (kdio s) (kcl s) (kjn s) (kdl s) (kdn s) R C) (i + 1) n (if kpos s i = 0 then (b, ls) else if kgc (mvS s i 0) < ls then (nI i, kgc (mvS s i 0)) else (b, ls)) := by
  obtain ⟨rfl, rfl, h3⟩ := h
  have e : gwN (kdio s) (kcl s) (kjn s) (kdl s) (kdn s) (kR s) (kC s) i = kgc (mvS s i 0) := rfl
  show (if 0 < ls then wxL _ _ (i + 1) n (if kpos s i = 0 then (b, ls) else if gwN (kdio s) (kcl s) (kjn s) (kdl s) (kdn s) (kR s) (kC s) i < ls then (nI i, gwN (kdio s) (kcl s) (kjn s) (kdl s) (kdn s) (kR s) (kC s) i) else (b, ls)) else b) = _
  rw [e]
  by_cases z : 0 < ls
  · rw [if_pos z]
  · have z0 : ls = 0 := by omega
    subst z0
    rw [if_neg z, if_neg (Nat.not_lt_zero _), ite_self, wx_0]
end
