def sel3 (a b c : Int32) (w : Int32) : Int32 := if w = nI 0 then a else if w = nI 1 then b else c
def sel5 (a0 a1 a2 a3 a4 : Int32) : Nat → Int32
  | 0 => a0 | 1 => a1 | 2 => a2 | 3 => a3 | _ => a4
def sel8 (a0 a1 a2 a3 a4 a5 a6 a7 : Int32) : Nat → Int32
  | 0 => a0 | 1 => a1 | 2 => a2 | 3 => a3 | 4 => a4 | 5 => a5 | 6 => a6 | _ => a7
def sel12 (a0 a1 a2 a3 a4 a5 a6 a7 a8 a9 a10 a11 : Int32) : Nat → Int32
  | 0 => a0 | 1 => a1 | 2 => a2 | 3 => a3 | 4 => a4 | 5 => a5 | 6 => a6 | 7 => a7 | 8 => a8 | 9 => a9 | 10 => a10 | _ => a11
theorem isN_le (st : Nat → Int32) (x : Int32) : ∀ (n i u : Nat), lfor (fun v a => if st v = x then a + 1 else a) i n u ≤ u + n
  | 0, _, _ => Nat.le_refl _
  | n + 1, i, u => by
    show lfor _ (i + 1) n (if st i = x then u + 1 else u) ≤ _
    have h := isN_le st x n (i + 1) (if st i = x then u + 1 else u)
    by_cases e : st i = x
    · rw [if_pos e] at h ⊢; omega
    · rw [if_neg e] at h ⊢; omega
theorem isN_V (st : Nat → Int32) (x : Int32) (V : Nat) : isN st x V ≤ V := by
  have h := isN_le st x V 0 0
  unfold isN
  omega
def ntF (st ve si : Nat → Int32) (ru : Int32) (V : Nat) : Int32 := if findN (ffP st) 0 V < V then (-3) else nI (vicN st ve si ru V)
/-- (r - t) floorMod y, where t may be greater -/
def fmN (r t y : Nat) : Nat := if t ≤ r then (r - t) % y else if (t - r) % y = 0 then 0 else y - (t - r) % y
theorem fmN_lt {r t y : Nat} (h : 0 < y) : fmN r t y < y := by
  unfold fmN
  repeat' split
  · exact Nat.mod_lt _ h
  · exact h
  · omega
def lall (p : Nat → Bool) : Nat → Nat → Bool
  | _, 0 => true
  | i, n + 1 => if p i = true then lall p (i + 1) n else false
def rsN (ph : Nat → Int32) (C r : Nat) : Bool := lall (fun c => if ph (r * C + c) = nI 0 then true else false) 0 C
def arS (ph : Nat → Int32) (sn : Nat → Nat) (T R C t r : Nat) : Bool := if fmN r T R < t then (if sn r = 0 then true else false) else rsN ph C r
def arN (ph : Nat → Int32) (sn : Nat → Nat) (T R C t : Nat) : Bool := lall (arS ph sn T R C t) 0 R
/-- the first number of ticks, up to last, else -3 -/
def raN (p : Nat → Bool) : Nat → Nat → Int32
  | _, 0 => (-3)
  | i, n + 1 => if p i = true then nI i else raN p (i + 1) n
/-! the remainder of a negative number -/
theorem xneg_toInt {d : Nat} (h : d < 2 ^ 31) : (-(nI d)).toInt = -(d : Int) := by
  rw [Int32.toInt_neg, nI_toInt h]
  exact Int.bmod_eq_of_le (by omega) (by omega)
theorem xneg_eq0 {d : Nat} (h : d < 2 ^ 31) (e : -(nI d) = nI 0) : d = 0 := by
  have h7 := congrArg Int32.toInt e
  rw [xneg_toInt h, show (nI 0).toInt = 0 from by decide] at h7
  omega
theorem xneg_div {d y : Nat} (hd : d < 2 ^ 31) (h0 : 0 < y) (hy : y < 2 ^ 31) : -(nI d) / nI y = -(nI (d / y)) := by
  have h1 : d / y < 2 ^ 31 := Nat.lt_of_le_of_lt (Nat.div_le_self d y) hd
  rw [← Int32.toInt_inj, Int32.toInt_div, xneg_toInt hd, nI_toInt hy, xneg_toInt h1, Int.neg_tdiv, show (d : Int).tdiv (y : Int) = ((d / y : Nat) : Int) from (Int.ofNat_tdiv d y).symm]
  generalize d / y = q at h1 ⊢
  exact Int.bmod_eq_of_le (by omega) (by omega)
theorem xneg_rem {d y : Nat} (hd : d < 2 ^ 31) (h0 : 0 < y) (hy : y < 2 ^ 31) : -(nI d) - -(nI d) / nI y * nI y = -(nI (d % y)) := by
  rw [xneg_div hd h0 hy, Int32.neg_mul, xI_mul]
  have h2 : d / y * y ≤ d := Nat.div_mul_le_self d y
  have h3 : d % y = d - d / y * y := by
    have := Nat.div_add_mod d y
    rw [Nat.mul_comm] at this
    omega
  rw [h3, ← xI_sub h2, Int32.sub_neg, Int32.neg_sub, Int32.sub_eq_add_neg, Int32.add_comm]
theorem xneg_xor {d y : Nat} (h0 : 0 < d) (hd : d < 2 ^ 31) (hy : y < 2 ^ 31) : -(nI d) ^^^ nI y < nI 0 := by
  rw [Int32.lt_iff_toInt_lt, show (nI 0).toInt = 0 from by decide]
  have h1 : (-(nI d)).toBitVec.msb = true := by
    rw [BitVec.msb_eq_toInt]
    have := xneg_toInt hd
    simp only [Int32.toInt] at this
    rw [this]; simp; omega
  have h2 : (nI y).toBitVec.msb = false := by
    rw [BitVec.msb_eq_toInt]
    have := nI_toInt hy
    simp only [Int32.toInt] at this
    rw [this]; simp
  have h3 : (-(nI d) ^^^ nI y).toBitVec.msb = true := by
    rw [Int32.toBitVec_xor, BitVec.msb_xor, h1, h2]; rfl
  have h4 := (BitVec.msb_eq_toInt (x := (-(nI d) ^^^ nI y).toBitVec)).symm.trans h3
  exact of_decide_eq_true h4
