/-! the voices -/
def findN (p : Nat → Bool) : Nat → Nat → Nat
  | i, 0 => i
  | i, n + 1 => if p i = true then i else findN p (i + 1) n
/-- an index as an answer: -3 for none -/
def rV (w V : Nat) : Int32 := if w < V then nI w else (-3)
theorem nI_m3 {n : Nat} (h : n < 2 ^ 31) : ¬ nI n = (-3) := fun e => by
  have h1 := congrArg Int32.toInt e
  rw [nI_toInt h] at h1
  rw [show ((-3 : Int32)).toInt = -3 from by decide] at h1
  omega
theorem rV_some {w V : Nat} (h : w < V) : rV w V = nI w := if_pos h
theorem rV_lt {w V : Nat} (h : ¬ rV w V = (-3)) : w < V := by
  by_cases e : w < V
  · exact e
  · exact absurd (if_neg e) h
theorem rV_none {w V : Nat} (hV : V < 2 ^ 31) (h : rV w V = (-3)) : ¬ w < V := fun e => by
  rw [rV_some e] at h
  exact nI_m3 (by omega) h
def wkP (st kk : Nat → Int32) (key : Int32) (v : Nat) : Bool := if st v = nI 0 then false else if kk v = key then true else false
def ffP (st : Nat → Int32) (v : Nat) : Bool := if st v = nI 0 then true else false
/-- the voice v goes before o -/
def gbB (st ve si : Nat → Int32) (ru : Int32) (v o : Nat) : Bool :=
  if ru = nI 2 then
    (if st v = st o then
      (if ru = nI 1 then (if ve v = ve o then (if si v < si o then true else false) else if ve v < ve o then true else false) else if si v < si o then true else false)
    else if st v = nI 2 then true else false)
  else
    (if ru = nI 1 then (if ve v = ve o then (if si v < si o then true else false) else if ve v < ve o then true else false) else if si v < si o then true else false)
def vicN (st ve si : Nat → Int32) (ru : Int32) (V : Nat) : Nat := lfor (fun v b => if gbB st ve si ru v b = true then v else b) 1 (V - 1) 0
def isN (st : Nat → Int32) (x : Int32) (V : Nat) : Nat := lfor (fun v a => if st v = x then a + 1 else a) 0 V 0
def kpB (sus sos : Bool) (ca : Nat → Bool) (v : Nat) : Bool := if sus = true then true else if sos = true then (if ca v = true then true else false) else false
abbrev VJ : Type := (Nat → Int32) × (Nat → Bool) × (Nat → Int32) × (Nat → Int32) × (Nat → Int32) × Nat
def freeV (kk : Nat → Int32) (now : Int32) (v : Nat) (s : VJ) : VJ := (upd s.1 v (nI 0), updB s.2.1 v false, upd s.2.2.1 (s.2.2.2.2.2 % 16) now, upd s.2.2.2.1 (s.2.2.2.2.2 % 16) (nI 2), upd s.2.2.2.2.1 (s.2.2.2.2.2 % 16) (kk v), s.2.2.2.2.2 + 1)
def limS (kk : Nat → Int32) (now : Int32) (v : Nat) (s : VJ) : VJ := if s.1 v = nI 0 then s else freeV kk now v s
def limV (kk : Nat → Int32) (now : Int32) (nV V : Nat) (s : VJ) : VJ := lfor (limS kk now) nV (V - nV) s
def relV (kk : Nat → Int32) (sus sos : Bool) (key now : Int32) (V : Nat) (s : VJ) : VJ :=
  if findN (wkP s.1 kk key) 0 V < V then
    (if s.1 (findN (wkP s.1 kk key) 0 V) = nI 1 then
      (if kpB sus sos s.2.1 (findN (wkP s.1 kk key) 0 V) = true then (upd s.1 (findN (wkP s.1 kk key) 0 V) (nI 2), s.2) else freeV kk now (findN (wkP s.1 kk key) 0 V) s)
    else s)
  else s
def fkS (kk : Nat → Int32) (now : Int32) (sus sos : Bool) (v : Nat) (s : VJ × Nat) : VJ × Nat := if s.1.1 v = nI 2 then (if kpB sus sos s.1.2.1 v = true then s else (freeV kk now v s.1, s.2 + 1)) else s
def fkV (kk : Nat → Int32) (now : Int32) (sus sos : Bool) (V : Nat) (s : VJ) : VJ × Nat := lfor (fkS kk now sus sos) 0 V (s, 0)
def msuV (kk : Nat → Int32) (now : Int32) (sus sos down : Bool) (V : Nat) (s : VJ) : VJ × Nat := if down = sus then (s, 0) else if down = true then (s, 0) else fkV kk now down sos V s
def capS (st : Nat → Int32) (down : Bool) (v : Nat) (c : Nat → Bool) : Nat → Bool := updB c v (if down = true then (if st v = nI 1 then true else false) else false)
def capV (st : Nat → Int32) (down : Bool) (V : Nat) (c : Nat → Bool) : Nat → Bool := lfor (capS st down) 0 V c
def msoV (kk : Nat → Int32) (now : Int32) (sus sos down : Bool) (V : Nat) (s : VJ) : VJ × Nat :=
  if down = sos then (s, 0) else if down = true then ((s.1, capV s.1 down V s.2.1, s.2.2), isN s.1 (nI 1) V) else fkV kk now sus down V (s.1, capV s.1 down V s.2.1, s.2.2)
def zeroI (f : Nat → Int32) (n : Nat) : Nat → Int32 := fa_fill (fun _ => nI 0) f n
def zeroB (f : Nat → Bool) (n : Nat) : Nat → Bool := fa_fill (fun _ => false) f n
/-- the voice that a strike takes, and whether it is taken away -/
def sndW (st kk ve si : Nat → Int32) (ru key : Int32) (V : Nat) : Nat := if findN (wkP st kk key) 0 V < V then findN (wkP st kk key) 0 V else if findN (ffP st) 0 V < V then findN (ffP st) 0 V else vicN st ve si ru V
def sndT (st kk : Nat → Int32) (key : Int32) (V : Nat) : Bool := if findN (wkP st kk key) 0 V < V then false else if findN (ffP st) 0 V < V then false else true
abbrev JT : Type := (Nat → Int32) × (Nat → Int32) × (Nat → Int32) × Nat
def wrJ (t k y : Int32) (j : JT) : JT := (upd j.1 (j.2.2.2 % 16) t, upd j.2.1 (j.2.2.2 % 16) k, upd j.2.2.1 (j.2.2.2 % 16) y, j.2.2.2 + 1)
def sndJ (st kk ve si : Nat → Int32) (ru key now : Int32) (V : Nat) (j : JT) : JT := wrJ now (nI 1) key (if sndT st kk key V = true then wrJ now (nI 3) (kk (sndW st kk ve si ru key V)) j else j)
theorem lfor_lt {P : Nat → Prop} {f : Nat → Nat → Nat} (h : ∀ i b, f i b = i ∨ f i b = b) : ∀ (n i b V : Nat), i + n ≤ V → b < V → lfor f i n b < V
  | 0, _, _, _, _, hb => hb
  | n + 1, i, b, V, hi, hb => by
    show lfor f (i + 1) n (f i b) < V
    refine lfor_lt (P := P) h n (i + 1) _ V (by omega) ?_
    rcases h i b with e | e <;> rw [e] <;> omega
theorem vicN_lt {st ve si : Nat → Int32} {ru : Int32} {V : Nat} (h : 1 ≤ V) : vicN st ve si ru V < V := by
  refine lfor_lt (P := fun _ => True) (fun i b => ?_) (V - 1) 1 0 V (by omega) (by omega)
  by_cases e : gbB st ve si ru i b = true
  · exact Or.inl (if_pos e)
  · exact Or.inr (if_neg e)
