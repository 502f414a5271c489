/-! the loops -/
def lfor {σ : Type} (f : Nat → σ → σ) : Nat → Nat → σ → σ
  | _, 0, s => s
  | i, n + 1, s => lfor f (i + 1) n (f i s)
def lany (p : Nat → Bool) : Nat → Nat → Bool
  | _, 0 => false
  | i, n + 1 => if p i = true then true else lany p (i + 1) n
/-- the first i with p i, else -3 -/
def lfind (p : Nat → Bool) : Nat → Nat → Int32
  | _, 0 => (-3)
  | i, n + 1 => if p i = true then nI i else lfind p (i + 1) n
def b2n (b : Bool) : Nat := if b = true then 1 else 0
/-! eight bits -/
def an8 (a b : Nat) : Nat := a &&& (255 ^^^ b)
theorem an8_ok {a b : Nat} (ha : a < 256) : nI a &&& (nI b ^^^ (-1)) = nI (an8 a b) := by
  rw [show ((-1 : Int32)) = nI (2 ^ 32 - 1) from by decide, fb_xorI, fa_and]
  congr 1
  unfold an8
  apply Nat.eq_of_testBit_eq
  intro i
  rw [Nat.testBit_and, Nat.testBit_and, Nat.testBit_xor, Nat.testBit_xor, Nat.testBit_two_pow_sub_one]
  by_cases h : i < 8
  · rw [show (255 : Nat) = 2 ^ 8 - 1 from rfl, Nat.testBit_two_pow_sub_one]
    simp [h, show i < 32 by omega]
  · have h1 : a.testBit i = false := Nat.testBit_lt_two_pow (Nat.lt_of_lt_of_le ha (show 256 ≤ 2 ^ i from Nat.pow_le_pow_right (n := 2) (i := 8) (by decide) (by omega)))
    rw [h1]; rfl
theorem an8_lt {a b : Nat} (ha : a < 256) : an8 a b < 256 := Nat.lt_of_le_of_lt Nat.and_le_left ha
theorem or256 {a b : Nat} (ha : a < 256) (hb : b < 256) : a ||| b < 256 := Nat.or_lt_two_pow (n := 8) ha hb
theorem and256 {a b : Nat} (ha : a < 256) : a &&& b < 256 := Nat.lt_of_le_of_lt Nat.and_le_left ha
theorem shl256 {c : Nat} (hc : c < 8) : 1 <<< c < 256 := (by decide : ∀ c, c < 8 → 1 <<< c < 256) c hc
def pop8 (x : Nat) : Nat := fb_ct (fun c => x.testBit c) 8
def bc1 (x : Int32) : Int32 := x - ((x.toUInt32 >>> ((nI 1).toUInt32 &&& Int32.toUInt32 31)).toInt32 &&& nI 1431655765)
def bc2 (x : Int32) : Int32 := (x &&& nI 858993459) + ((x.toUInt32 >>> ((nI 2).toUInt32 &&& Int32.toUInt32 31)).toInt32 &&& nI 858993459)
def bc3 (x : Int32) : Int32 := (x + (x.toUInt32 >>> ((nI 4).toUInt32 &&& Int32.toUInt32 31)).toInt32) &&& nI 252645135
def bc4 (x : Int32) : Int32 := x + (x.toUInt32 >>> ((nI 8).toUInt32 &&& Int32.toUInt32 31)).toInt32
def bc5 (x : Int32) : Int32 := x + (x.toUInt32 >>> ((nI 16).toUInt32 &&& Int32.toUInt32 31)).toInt32
theorem bc_ok : ∀ x, x < 256 → bc5 (bc4 (bc3 (bc2 (bc1 (nI x))))) &&& nI 63 = nI (pop8 x) := by decide +kernel
/-! a fill -/
theorem fillN_succ (f g : Nat → Nat) (i : Nat) : updN (fa_fill f g i) i (f i) = fa_fill f g (i + 1) := by
  funext j
  unfold updN fa_fill
  by_cases h : j = i
  · subst h; simp
  · by_cases h2 : j < i
    · simp [h, h2, show j < i + 1 by omega]
    · simp [h, h2, show ¬ j < i + 1 by omega]
theorem fillB_succ (f g : Nat → Bool) (i : Nat) : updB (fa_fill f g i) i (f i) = fa_fill f g (i + 1) := by
  funext j
  unfold updB fa_fill
  by_cases h : j = i
  · subst h; simp
  · by_cases h2 : j < i
    · simp [h, h2, show j < i + 1 by omega]
    · simp [h, h2, show ¬ j < i + 1 by omega]
theorem updN_lt {f : Nat → Nat} {b k x : Nat} (h : ∀ j, f j < b) (hx : x < b) (j : Nat) : updN f k x j < b := by
  unfold updN; by_cases e : j = k <;> simp [e, hx, h]
theorem fill_lt {f g : Nat → Nat} {b i : Nat} (hf : ∀ j, f j < b) (hg : ∀ j, g j < b) (j : Nat) : fa_fill f g i j < b := by
  unfold fa_fill; by_cases e : j < i <;> simp [e, hf, hg]
/-! the nets -/
def uniN (j : Nat → Nat) (b : Nat) : Nat := lfor (fun r u => if j r &&& b = 0 then u else u ||| j r) 0 8 0
def jthru (j : Nat → Nat) (b : Nat) : Nat → Nat := lfor (fun r j' => if j' r &&& b = 0 then j' else updN j' r (uniN j b)) 0 8 j
def joinN (cl jn : Nat → Nat) : Nat → Nat := lfor (fun c j => jthru j (1 <<< c)) 0 8 (fa_fill cl jn 8)
def putC (cl : Nat → Nat) (r c : Nat) (b : Bool) : Nat → Nat := updN cl r (if b = true then cl r ||| (1 <<< c) else an8 (cl r) (1 <<< c))
def putJ (cl jn : Nat → Nat) (r c : Nat) (b : Bool) : Nat → Nat := joinN (putC cl r c b) jn
def rjwN (jn : Nat → Nat) (r : Nat) : Nat := lfor (fun o a => if jn o &&& jn r = 0 then a else a ||| (1 <<< o)) 0 8 (1 <<< r)
theorem lfor_inv {σ : Type} {f : Nat → σ → σ} (P : σ → Prop) (h : ∀ i s, P s → P (f i s)) : ∀ (n i : Nat) (s : σ), P s → P (lfor f i n s)
  | 0, _, _, hs => hs
  | n + 1, i, s, hs => lfor_inv P h n (i + 1) (f i s) (h i s hs)
theorem uniN_lt {j : Nat → Nat} (h : ∀ r, j r < 256) (b : Nat) : uniN j b < 256 := by
  refine lfor_inv (fun u => u < 256) ?_ 8 0 0 (by decide)
  intro i u hu
  show (if j i &&& b = 0 then u else u ||| j i) < 256
  by_cases e : j i &&& b = 0
  · rw [if_pos e]; exact hu
  · rw [if_neg e]; exact or256 hu (h i)
theorem jthru_lt {j : Nat → Nat} (h : ∀ r, j r < 256) (b : Nat) : ∀ r, jthru j b r < 256 := by
  refine lfor_inv (fun j' : Nat → Nat => ∀ r, j' r < 256) ?_ 8 0 j h
  intro i j' hj'
  show ∀ r, (if j' i &&& b = 0 then j' else updN j' i (uniN j b)) r < 256
  by_cases e : j' i &&& b = 0
  · rw [if_pos e]; exact hj'
  · rw [if_neg e]; exact updN_lt hj' (uniN_lt h b)
theorem joinN_lt {cl jn : Nat → Nat} (h : ∀ r, cl r < 256) (hj : ∀ r, jn r < 256) : ∀ r, joinN cl jn r < 256 := by
  refine lfor_inv (fun j' : Nat → Nat => ∀ r, j' r < 256) ?_ 8 0 _ (fill_lt h hj)
  intro i j' hj'
  exact jthru_lt hj' _
theorem putC_lt {cl : Nat → Nat} (h : ∀ r, cl r < 256) (r : Nat) {c : Nat} (hc : c < 8) (b : Bool) : ∀ q, putC cl r c b q < 256 := by
  refine updN_lt h ?_
  cases b
  · exact an8_lt (h r)
  · exact or256 (h r) (shl256 hc)
theorem putJ_lt {cl jn : Nat → Nat} (h : ∀ r, cl r < 256) (hj : ∀ r, jn r < 256) (r : Nat) {c : Nat} (hc : c < 8) (b : Bool) : ∀ q, putJ cl jn r c b q < 256 := joinN_lt (putC_lt h r hc b) hj
/-! the matrix -/
def seenN (dio : Bool) (cl jn : Nat → Nat) (r : Nat) : Nat := if dio = true then cl r else jn r
theorem seenN_lt {dio : Bool} {cl jn : Nat → Nat} (h : ∀ r, cl r < 256) (hj : ∀ r, jn r < 256) (r : Nat) : seenN dio cl jn r < 256 := by
  cases dio
  · exact hj r
  · exact h r
def ghN (dio : Bool) (cl jn dl dn : Nat → Nat) (r : Nat) : Nat := an8 (seenN dio cl jn r) (cl r) ||| an8 (seenN dio dl dn r) (dl r)
theorem ghN_lt {dio : Bool} {cl jn dl dn : Nat → Nat} (h1 : ∀ r, cl r < 256) (h2 : ∀ r, jn r < 256) (h3 : ∀ r, dl r < 256) (h4 : ∀ r, dn r < 256) (r : Nat) : ghN dio cl jn dl dn r < 256 := or256 (an8_lt (seenN_lt h1 h2 r)) (an8_lt (seenN_lt h3 h4 r))
/-- the other row makes the key k doubtful -/
def dbS (sn : Nat → Nat) (r b o : Nat) : Bool := if o = r then false else if (sn r &&& sn o) &&& b = 0 then false else if sn r &&& sn o = b then false else true
def dbN (sn : Nat → Nat) (R C k : Nat) : Bool := lany (dbS sn (k / C) (1 <<< (k % C))) 0 R
def prN (pos : Nat → Nat) (n : Nat) : Nat := lfor (fun k a => a + (if pos k = 0 then 0 else 1)) 0 n 0
def dcN (sn : Nat → Nat) (R C : Nat) : Nat := lfor (fun k a => a + b2n (dbN sn R C k)) 0 (R * C) 0
def gcN (dio : Bool) (cl jn dl dn : Nat → Nat) (R : Nat) : Nat := lfor (fun r a => a + pop8 (ghN dio cl jn dl dn r)) 0 R 0
def hasN (k : Int32) (n : Nat) : Bool := if k < nI 0 then false else if k < nI n then true else false
def zeroN (f : Nat → Nat) (n : Nat) : Nat → Nat := fa_fill (fun _ => 0) f n
