/-! the class as one state -/
abbrev KNt : Type := (Nat → Nat) × Nat × Bool × (Nat → Nat) × (Nat → Nat) × (Nat → Nat) × (Nat → Nat)
abbrev KSt : Type := PR × XS × KNt
abbrev KAd : Type := Nat × Nat × Nat × Nat × Nat × Nat × Nat × Nat × Nat × Nat × Nat × Nat × Nat × Nat × Nat × Nat × Nat × Nat × Nat × Nat × Nat
abbrev kT (s : KSt) : Nat := s.1.1
abbrev kSl (s : KSt) : Int32 := s.1.2.1
abbrev kRu (s : KSt) : Int32 := s.1.2.2.1
abbrev kR (s : KSt) : Nat := s.1.2.2.2.1
abbrev kV (s : KSt) : Nat := s.1.2.2.2.2.1
abbrev kBk (s : KSt) : Bool := s.1.2.2.2.2.2.1
abbrev kLt (s : KSt) : Bool := s.1.2.2.2.2.2.2.1
abbrev kSus (s : KSt) : Bool := s.1.2.2.2.2.2.2.2.1
abbrev kSos (s : KSt) : Bool := s.1.2.2.2.2.2.2.2.2
abbrev kph (s : KSt) : Nat → Int32 := s.2.1.1
abbrev kbg (s : KSt) : Nat → Int32 := s.2.1.2.1
abbrev kst (s : KSt) : Nat → Int32 := s.2.1.2.2.1
abbrev kkk (s : KSt) : Nat → Int32 := s.2.1.2.2.2.1
abbrev kve (s : KSt) : Nat → Int32 := s.2.1.2.2.2.2.1
abbrev ksi (s : KSt) : Nat → Int32 := s.2.1.2.2.2.2.2.1
abbrev kca (s : KSt) : Nat → Bool := s.2.1.2.2.2.2.2.2.1
abbrev ktk (s : KSt) : Int32 := s.2.1.2.2.2.2.2.2.2.1
abbrev kjt (s : KSt) : Nat → Int32 := s.2.1.2.2.2.2.2.2.2.2.1
abbrev kjk (s : KSt) : Nat → Int32 := s.2.1.2.2.2.2.2.2.2.2.2.1
abbrev kjy (s : KSt) : Nat → Int32 := s.2.1.2.2.2.2.2.2.2.2.2.2.1
abbrev kmk (s : KSt) : Nat := s.2.1.2.2.2.2.2.2.2.2.2.2.2.1
abbrev ksk (s : KSt) : Int32 := s.2.1.2.2.2.2.2.2.2.2.2.2.2.2.1
abbrev krf (s : KSt) : Int32 := s.2.1.2.2.2.2.2.2.2.2.2.2.2.2.2
abbrev kpos (s : KSt) : Nat → Nat := s.2.2.1
abbrev kC (s : KSt) : Nat := s.2.2.2.1
abbrev kdio (s : KSt) : Bool := s.2.2.2.2.1
abbrev kcl (s : KSt) : Nat → Nat := s.2.2.2.2.2.1
abbrev kjn (s : KSt) : Nat → Nat := s.2.2.2.2.2.2.1
abbrev kdl (s : KSt) : Nat → Nat := s.2.2.2.2.2.2.2.1
abbrev kdn (s : KSt) : Nat → Nat := s.2.2.2.2.2.2.2.2
abbrev aH (a : KAd) : Nat := a.1
def kW (cI cZ : ClassId) (a : KAd) (s : KSt) : va_W := [(a.1, .inr (4, [.ref a.2.2.2.1, .ref a.2.2.2.2.2.2.2.2.2.2.2.2.2.2.2.2.2.1, .ref a.2.2.2.2.2.2.2.2.2.2.2.1, .ref a.2.1, .ref a.2.2.1, .int (nI (kT s)), .int (kSl s), .int (bI (kBk s)), .int (bI (kLt s)), .int (ksk s), .int (krf s)])), (a.2.1, .inl (cI, 64, .inl (kph s))), (a.2.2.1, .inl (cI, 64, .inl (kbg s))), (a.2.2.2.1, .inr (1, [.ref a.2.2.2.2.1, .ref a.2.2.2.2.2.1, .ref a.2.2.2.2.2.2.2.2.1, .int (nI (kR s)), .int (nI (kC s)), .int (bI (kdio s))])), (a.2.2.2.2.1, .inl (cI, 64, .inl (xN (kpos s)))), (a.2.2.2.2.2.1, .inr (2, [.ref a.2.2.2.2.2.2.1, .ref a.2.2.2.2.2.2.2.1])), (a.2.2.2.2.2.2.1, .inl (cI, 8, .inl (xN (kcl s)))), (a.2.2.2.2.2.2.2.1, .inl (cI, 8, .inl (xN (kjn s)))), (a.2.2.2.2.2.2.2.2.1, .inr (2, [.ref a.2.2.2.2.2.2.2.2.2.1, .ref a.2.2.2.2.2.2.2.2.2.2.1])), (a.2.2.2.2.2.2.2.2.2.1, .inl (cI, 8, .inl (xN (kdl s)))), (a.2.2.2.2.2.2.2.2.2.2.1, .inl (cI, 8, .inl (xN (kdn s)))), (a.2.2.2.2.2.2.2.2.2.2.2.1, .inr (3, [.ref a.2.2.2.2.2.2.2.2.2.2.2.2.1, .ref a.2.2.2.2.2.2.2.2.2.2.2.2.2.1, .ref a.2.2.2.2.2.2.2.2.2.2.2.2.2.2.1, .ref a.2.2.2.2.2.2.2.2.2.2.2.2.2.2.2.1, .ref a.2.2.2.2.2.2.2.2.2.2.2.2.2.2.2.2.1, .ref a.2.2.2.2.2.2.2.2.2.2.2.2.2.2.2.2.2.1, .int (nI (kV s)), .int (kRu s), .int (ktk s), .int (bI (kSus s)), .int (bI (kSos s))])), (a.2.2.2.2.2.2.2.2.2.2.2.2.1, .inl (cI, 8, .inl (kst s))), (a.2.2.2.2.2.2.2.2.2.2.2.2.2.1, .inl (cI, 8, .inl (kkk s))), (a.2.2.2.2.2.2.2.2.2.2.2.2.2.2.1, .inl (cI, 8, .inl (kve s))), (a.2.2.2.2.2.2.2.2.2.2.2.2.2.2.2.1, .inl (cI, 8, .inl (ksi s))), (a.2.2.2.2.2.2.2.2.2.2.2.2.2.2.2.2.1, .inl (cZ, 8, .inl (xB (kca s)))), (a.2.2.2.2.2.2.2.2.2.2.2.2.2.2.2.2.2.1, .inr (0, [.ref a.2.2.2.2.2.2.2.2.2.2.2.2.2.2.2.2.2.2.1, .ref a.2.2.2.2.2.2.2.2.2.2.2.2.2.2.2.2.2.2.2.1, .ref a.2.2.2.2.2.2.2.2.2.2.2.2.2.2.2.2.2.2.2.2, .int (nI (kmk s))])), (a.2.2.2.2.2.2.2.2.2.2.2.2.2.2.2.2.2.2.1, .inl (cI, 16, .inl (kjt s))), (a.2.2.2.2.2.2.2.2.2.2.2.2.2.2.2.2.2.2.2.1, .inl (cI, 16, .inl (kjk s))), (a.2.2.2.2.2.2.2.2.2.2.2.2.2.2.2.2.2.2.2.2, .inl (cI, 16, .inl (kjy s)))]
abbrev kF (s : KSt) : Nat → Bool := fsB (seenN (kdio s) (kcl s) (kjn s)) (kC s)
abbrev kG (s : KSt) : Nat → Bool := fsB (seenN (kdio s) (kdl s) (kdn s)) (kC s)
abbrev kD (s : KSt) : Nat → Bool := dbN (seenN (kdio s) (kcl s) (kjn s)) (kR s) (kC s)
abbrev kH (s : KSt) (k : Nat) : Bool := (ghN (kdio s) (kcl s) (kjn s) (kdl s) (kdn s) (k / kC s)).testBit (k % kC s)
def kcon (s : KSt) (r : Nat) : Nat := rjwN (kjn s) r ||| (kjn s r <<< 8)
abbrev kgc (s : KSt) : Nat := gcN (kdio s) (kcl s) (kjn s) (kdl s) (kdn s) (kR s)
abbrev vjOf (s : KSt) : VJ := (kst s, kca s, kjt s, kjk s, kjy s, kmk s)
abbrev putV (s : KSt) (m : VJ) : XS := (kph s, kbg s, m.1, kkk s, kve s, ksi s, m.2.1, ktk s, m.2.2.1, m.2.2.2.1, m.2.2.2.2.1, m.2.2.2.2.2, ksk s, krf s)
/-! what the calls make of it -/
def tick1 (s : KSt) : KSt := ((kT s + 1, s.1.2), tckS s.1 (kF s) (kG s) (kD s) (kC s) 1 s.2.1, s.2.2)
def mvS (s : KSt) (k q : Nat) : KSt := (s.1, s.2.1, updN (kpos s) k q, kC s, kdio s, putC (kcl s) (k / kC s) (k % kC s) (decide (1 ≤ q)), putJ (kcl s) (kjn s) (k / kC s) (k % kC s) (decide (1 ≤ q)), putC (kdl s) (k / kC s) (k % kC s) (decide (q = 2)), putJ (kdl s) (kdn s) (k / kC s) (k % kC s) (decide (q = 2)))
def suS (s : KSt) (on : Bool) : KSt := ((kT s, kSl s, kRu s, kR s, kV s, kBk s, kLt s, on, kSos s), putV s (msuV (kkk s) (nI (kT s)) (kSus s) (kSos s) on (kV s) (vjOf s)).1, s.2.2)
def soS (s : KSt) (on : Bool) : KSt := ((kT s, kSl s, kRu s, kR s, kV s, kBk s, kLt s, kSus s, on), putV s (msoV (kkk s) (nI (kT s)) (kSus s) (kSos s) on (kV s) (vjOf s)).1, s.2.2)
def voS (s : KSt) (q : Nat) (x : Int32) : KSt := ((kT s, kSl s, x, kR s, q, kBk s, kLt s, kSus s, kSos s), putV s (limV (kkk s) (nI (kT s)) q (kV s) (vjOf s)), s.2.2)
def rsS (s : KSt) (q u : Nat) : KSt := ((0, kSl s, kRu s, q, kV s, kBk s, kLt s, false, false), (zeroI (kph s) 64, kbg s, zeroI (kst s) 8, kkk s, kve s, ksi s, zeroB (kca s) 8, nI 0, kjt s, kjk s, kjy s, 0, nI 0, nI 0), (zeroN (kpos s) 64, u, kdio s, zeroN (kcl s) 8, zeroN (kjn s) 8, zeroN (kdl s) 8, zeroN (kdn s) 8))
def liS (s : KSt) : KSt := (s.1, s.2.1, (zeroN (kpos s) 64, kC s, kdio s, zeroN (kcl s) 8, zeroN (kjn s) 8, zeroN (kdl s) 8, zeroN (kdn s) 8))
def diS (s : KSt) (on : Bool) : KSt := (s.1, s.2.1, (kpos s, kC s, on, kcl s, kjn s, kdl s, kdn s))
def slS (s : KSt) (x : Int32) : KSt := ((kT s, x, kRu s, kR s, kV s, kBk s, kLt s, kSus s, kSos s), s.2)
def bkS (s : KSt) (on : Bool) : KSt := ((kT s, kSl s, kRu s, kR s, kV s, on, kLt s, kSus s, kSos s), s.2)
def ltS (s : KSt) (on : Bool) : KSt := ((kT s, kSl s, kRu s, kR s, kV s, kBk s, on, kSus s, kSos s), s.2)
def KOK (s : KSt) (R C V : Nat) : Prop := kR s = R ∧ kC s = C ∧ kV s = V ∧ (1 ≤ R ∧ R ≤ 8) ∧ (1 ≤ C ∧ C ≤ 8) ∧ (1 ≤ V ∧ V ≤ 8) ∧ (∀ k, kpos s k ≤ 2) ∧ (∀ r, kcl s r < 256) ∧ (∀ r, kjn s r < 256) ∧ (∀ r, kdl s r < 256) ∧ (∀ r, kdn s r < 256) ∧ kT s + 8 < 2 ^ 29 ∧ kmk s + 4096 < 2 ^ 29
section
variable {p : Program} {l : Launch} {e : Env} {R : Room} {s : State} {m : MethodId} {args : Array Value} {below : List Frame} {meth : Method} {c : Code} {cells slots : Nat} {Q : State → Prop} {cc : ByteArray} {own : String} {Ts : List Cond} {nL : Nat} {D : va_G} {cI cZ : ClassId} {A : Nat → Prop} {ws : va_W} {lv : List (Nat × Value)} {pc : Nat} {st : List Value}
theorem x_callK (hE : xE p s m args meth c cc own Ts nL D cI cZ A) {y : MethodName} {wsy ws2 : List Cond} {fr cs ss lo maxL : Nat} {T : Option Value → va_W → Prop} {bytes : ByteArray} {ret : Option FieldType} {index n : Nat} {stk : List Value} {a : KAd} {S : KSt} {As : List Value} (hM : xC l y wsy fr cs ss lo D cI cZ (.ref (aH a) :: As) (kW cI cZ a S) T) (hG : GoodIn Ts (wsV own index y.cls y wsy)) (hw : wsy = Cond.code y bytes maxL ret :: ws2) (hqn : RX4 = y.cls) (hd : y.cls ≠ "java/lang/invoke/MethodHandle" ∧ y.cls ≠ "java/lang/invoke/VarHandle" ∧ (parseMethodDescriptor y.desc).map (fun d => d.parameters.length) = some n) (hR : fr + 1 ≤ R.frames ∧ 8 + (maxL + 11) + lo ≤ R.locals) (hcs : cells + cs ≤ R.cells ∧ slots + ss ≤ R.slots) (hn : As.length = n) (hst : stk = As.reverse ++ .ref (aH a) :: st) (hcat : (st.map fun v => v.category).sum ≤ 8) (hdg : decode cc pc = .ok (.invokevirtual index, 3)) (kk : ∀ (v : Option Value) (w : va_W), T v w → X p l e R s m args below meth c (cells + cs) (slots + ss) Q nL D A w lv (pc + 3) (v.toList ++ st)) : X p l e R s m args below meth c cells slots Q nL D A (kW cI cZ a S) lv pc stk :=
  x_callV hE hM hG hw hd hR hcs hn [0, 1, 2, 3, 4, 5, 6, 7, 8, 9, 10, 11, 12, 13, 14, 15, 16, 17, 18, 19, 20] [] rfl (wr := []) rfl (by decide) (by decide) (by decide) 0 rfl (q := (RX4, TX4, 11)) rfl hqn hst hcat hdg kk
theorem x_callK2 (hE : xE p s m args meth c cc own Ts nL D cI cZ A) {y : MethodName} {wsy ws2 : List Cond} {fr cs ss lo maxL : Nat} {T : Option Value → va_W → Prop} {bytes : ByteArray} {ret : Option FieldType} {index n : Nat} {stk : List Value} {a : KAd} {S : KSt} {As : List Value} {c1 c2 : Nat × va_E} (hM : xC l y wsy fr cs ss lo D cI cZ (.ref (aH a) :: As) (kW cI cZ a S) T) (hG : GoodIn Ts (wsV own index y.cls y wsy)) (hw : wsy = Cond.code y bytes maxL ret :: ws2) (hqn : RX4 = y.cls) (hd : y.cls ≠ "java/lang/invoke/MethodHandle" ∧ y.cls ≠ "java/lang/invoke/VarHandle" ∧ (parseMethodDescriptor y.desc).map (fun d => d.parameters.length) = some n) (hR : fr + 1 ≤ R.frames ∧ 8 + (maxL + 11) + lo ≤ R.locals) (hcs : cells + cs ≤ R.cells ∧ slots + ss ≤ R.slots) (hn : As.length = n) (hst : stk = As.reverse ++ .ref (aH a) :: st) (hcat : (st.map fun v => v.category).sum ≤ 8) (hdg : decode cc pc = .ok (.invokevirtual index, 3)) (kk : ∀ (v : Option Value) (w : va_W), T v w → X p l e R s m args below meth c (cells + cs) (slots + ss) Q nL D A (c1 :: c2 :: w) lv (pc + 3) (v.toList ++ st)) : X p l e R s m args below meth c cells slots Q nL D A (c1 :: c2 :: kW cI cZ a S) lv pc stk :=
  x_callV hE hM hG hw hd hR hcs hn [2, 3, 4, 5, 6, 7, 8, 9, 10, 11, 12, 13, 14, 15, 16, 17, 18, 19, 20, 21, 22] [0, 1] rfl (wr := [c1, c2]) rfl (by decide) (by decide) (by decide) 0 rfl (q := (RX4, TX4, 11)) rfl hqn hst hcat hdg kk
theorem x_callSK (hE : xE p s m args meth c cc own Ts nL D cI cZ A) {y : MethodName} {wsy ws2 : List Cond} {fr cs ss lo maxL : Nat} {T : Option Value → va_W → Prop} {bytes : ByteArray} {ret : Option FieldType} {index n : Nat} {stk : List Value} {a : KAd} {S : KSt} {av : List Value} (hM : xC l y wsy fr cs ss lo D cI cZ av (kW cI cZ a S) T) (hG : GoodIn Ts (va_wsS own index y wsy)) (hw : wsy = Cond.code y bytes maxL ret :: ws2) (hd : y.cls ≠ "java/lang/invoke/MethodHandle" ∧ y.cls ≠ "java/lang/invoke/VarHandle" ∧ (parseMethodDescriptor y.desc).map (fun d => d.parameters.length) = some n) (hR : fr + 1 ≤ R.frames ∧ 8 + (maxL + 11) + lo ≤ R.locals) (hcs : cells + cs ≤ R.cells ∧ slots + ss ≤ R.slots) (hn : av.length = n) (hst : stk = av.reverse ++ st) (hcat : (st.map fun v => v.category).sum ≤ 8) (hdg : decode cc pc = .ok (.invokestatic index, 3)) (kk : ∀ (v : Option Value) (w : va_W), T v w → X p l e R s m args below meth c (cells + cs) (slots + ss) Q nL D A w lv (pc + 3) (v.toList ++ st)) : X p l e R s m args below meth c cells slots Q nL D A (kW cI cZ a S) lv pc stk :=
  x_callS hE hM hG hw hd hR hcs hn [0, 1, 2, 3, 4, 5, 6, 7, 8, 9, 10, 11, 12, 13, 14, 15, 16, 17, 18, 19, 20] [] rfl (wr := []) rfl (by decide) (by decide) (by decide) hst hcat hdg kk
theorem x_callS0 (hE : xE p s m args meth c cc own Ts nL D cI cZ A) {y : MethodName} {wsy ws2 : List Cond} {fr cs ss lo maxL : Nat} {T : Option Value → va_W → Prop} {bytes : ByteArray} {ret : Option FieldType} {index n : Nat} {stk : List Value} {a : KAd} {S : KSt} {av : List Value} (hM : xC l y wsy fr cs ss lo D cI cZ av [] T) (hT0 : ∀ v w, T v w → w = []) (hG : GoodIn Ts (va_wsS own index y wsy)) (hw : wsy = Cond.code y bytes maxL ret :: ws2) (hd : y.cls ≠ "java/lang/invoke/MethodHandle" ∧ y.cls ≠ "java/lang/invoke/VarHandle" ∧ (parseMethodDescriptor y.desc).map (fun d => d.parameters.length) = some n) (hR : fr + 1 ≤ R.frames ∧ 8 + (maxL + 11) + lo ≤ R.locals) (hcs : cells + cs ≤ R.cells ∧ slots + ss ≤ R.slots) (hn : av.length = n) (hst : stk = av.reverse ++ st) (hcat : (st.map fun v => v.category).sum ≤ 8) (hdg : decode cc pc = .ok (.invokestatic index, 3)) (kk : ∀ v : Option Value, T v [] → X p l e R s m args below meth c (cells + cs) (slots + ss) Q nL D A (kW cI cZ a S) lv (pc + 3) (v.toList ++ st)) : X p l e R s m args below meth c cells slots Q nL D A (kW cI cZ a S) lv pc stk := by
  refine x_callS hE hM hG hw hd hR hcs hn [] [0, 1, 2, 3, 4, 5, 6, 7, 8, 9, 10, 11, 12, 13, 14, 15, 16, 17, 18, 19, 20] rfl (wr := kW cI cZ a S) rfl (by decide) (by decide) (by decide) hst hcat hdg (fun v w hT => ?_)
  have e := hT0 v w hT
  subst e
  exact kk v hT
theorem x_widen (c2 s2 : Nat) (h1 : cells ≤ c2) (h2 : slots ≤ s2) (kk : X p l e R s m args below meth c c2 s2 Q nL D A ws lv pc st) : X p l e R s m args below meth c cells slots Q nL D A ws lv pc st := fun H locs ls hP hD hS hl => W.widen h1 h2 (kk H locs ls hP hD hS hl)
theorem x_lconst (hE : xE p s m args meth c cc own Ts nL D cI cZ A) {n : Fin 2} (v : Int64) (hv : Int64.ofNat (n : Nat) = v) (hdg : decode cc pc = .ok (.lconst n, 1)) (kk : X p l e R s m args below meth c cells slots Q nL D A ws lv (pc + 1) (.long v :: st)) : X p l e R s m args below meth c cells slots Q nL D A ws lv pc st := fun H locs ls hP hD hS hl => lv_lconst hE.1 hE.2.1 hdg hv (kk H locs ls hP hD hS hl)
theorem x_lload (hE : xE p s m args meth c cc own Ts nL D cI cZ A) {i : Nat} {x : Int64} (q : Nat) (h : lv[q]? = some (i, .long x)) (hdg : decode cc pc = .ok (.lload i, 2)) (kk : X p l e R s m args below meth c cells slots Q nL D A ws lv (pc + 2) (.long x :: st)) : X p l e R s m args below meth c cells slots Q nL D A ws lv pc st := fun H locs ls hP hD hS hl => lv_lload hE.1 hE.2.1 hdg (lv_at hl q h) (kk H locs ls hP hD hS hl)
theorem x_lstore (hE : xE p s m args meth c cc own Ts nL D cI cZ A) {i : Nat} {x : Int64} (lv2 : List (Nat × Value)) (hn : i + 1 < nL) (hlv : (i, Value.long x) :: lv.filter (fun q => !(q.1 == i) && (!(q.1 == i + 1) && !(q.1 + 1 == i && q.2.category == 2))) = lv2) (hdg : decode cc pc = .ok (.lstore i, 2)) (kk : X p l e R s m args below meth c cells slots Q nL D A ws lv2 (pc + 2) st) : X p l e R s m args below meth c cells slots Q nL D A ws lv pc (.long x :: st) := fun H locs ls hP hD hS hl => lv_lstore hE.1 hE.2.1 hdg hl hn hlv (fun ls' hl' => kk H locs ls' hP hD hS hl')
theorem x_land (hE : xE p s m args meth c cc own Ts nL D cI cZ A) {x y : Int64} (v : Int64) (hv : x &&& y = v) (hdg : decode cc pc = .ok (.land, 1)) (kk : X p l e R s m args below meth c cells slots Q nL D A ws lv (pc + 1) (.long v :: st)) : X p l e R s m args below meth c cells slots Q nL D A ws lv pc (.long y :: .long x :: st) := fun H locs ls hP hD hS hl => lv_land hE.1 hE.2.1 hdg (by rw [hv]; exact (kk H locs ls hP hD hS hl))
theorem x_lor (hE : xE p s m args meth c cc own Ts nL D cI cZ A) {x y : Int64} (v : Int64) (hv : x ||| y = v) (hdg : decode cc pc = .ok (.lor, 1)) (kk : X p l e R s m args below meth c cells slots Q nL D A ws lv (pc + 1) (.long v :: st)) : X p l e R s m args below meth c cells slots Q nL D A ws lv pc (.long y :: .long x :: st) := fun H locs ls hP hD hS hl => lv_lor hE.1 hE.2.1 hdg (by rw [hv]; exact (kk H locs ls hP hD hS hl))
theorem x_lshl (hE : xE p s m args meth c cc own Ts nL D cI cZ A) {x : Int64} {y : Int32} (v : Int64) (hv : x <<< (y.toInt64 &&& 63) = v) (hdg : decode cc pc = .ok (.lshl, 1)) (kk : X p l e R s m args below meth c cells slots Q nL D A ws lv (pc + 1) (.long v :: st)) : X p l e R s m args below meth c cells slots Q nL D A ws lv pc (.int y :: .long x :: st) := fun H locs ls hP hD hS hl => lv_lshl hE.1 hE.2.1 hdg hv (kk H locs ls hP hD hS hl)
theorem x_lshr (hE : xE p s m args meth c cc own Ts nL D cI cZ A) {x : Int64} {y : Int32} (v : Int64) (hv : x >>> (y.toInt64 &&& 63) = v) (hdg : decode cc pc = .ok (.lshr, 1)) (kk : X p l e R s m args below meth c cells slots Q nL D A ws lv (pc + 1) (.long v :: st)) : X p l e R s m args below meth c cells slots Q nL D A ws lv pc (.int y :: .long x :: st) := fun H locs ls hP hD hS hl => lv_lshr hE.1 hE.2.1 hdg hv (kk H locs ls hP hD hS hl)
theorem x_lcmp (hE : xE p s m args meth c cc own Ts nL D cI cZ A) {x y : Int64} (v : Int32) (hv : lg_cmp x y = v) (hdg : decode cc pc = .ok (.lcmp, 1)) (kk : X p l e R s m args below meth c cells slots Q nL D A ws lv (pc + 1) (.int v :: st)) : X p l e R s m args below meth c cells slots Q nL D A ws lv pc (.long y :: .long x :: st) := fun H locs ls hP hD hS hl => W.lcmp hE.1 hE.2.1 hdg (by rw [hv]; exact (kk H locs ls hP hD hS hl))
theorem x_ldc (hE : xE p s m args meth c cc own Ts nL D cI cZ A) {index : Nat} (v : Int32) (hm : Cond.constant own index v ∈ Ts) (hdg : decode cc pc = .ok (.ldc index, 2)) (kk : X p l e R s m args below meth c cells slots Q nL D A ws lv (pc + 2) (.int v :: st)) : X p l e R s m args below meth c cells slots Q nL D A ws lv pc st := fun H locs ls hP hD hS hl => lv_ldc hE.1 hE.2.1 hE.2.2.2.1 (hE.2.2.2.2.1 _ hm) hdg (kk H locs ls hP hD hS hl)
theorem x_sld (hE : xE p s m args meth c cc own Ts nL D cI cZ A) {b L : Nat} {xs : Nat → Int32} (hS9 : va_X b L xs s s.heap ∧ b < s.heap.size ∧ ¬ A b ∧ L ≤ 1536) (k : Nat) (v : Int32) (hk : k < L) (hv : xs k = v) (hdg : decode cc pc = .ok (.iaload, 1)) (kk : X p l e R s m args below meth c cells slots Q nL D A ws lv (pc + 1) (.int v :: st)) : X p l e R s m args below meth c cells slots Q nL D A ws lv pc (.int (nI k) :: .ref b :: st) := by
  have hL : L < 2 ^ 31 := by omega
  have h := xclamp (Nat.lt_trans hk hL)
  exact fun H locs ls hP hD hS hl => va_sld hE.1 hE.2.1 hS9.1 hS9.2.1 hS9.2.2.1 hS (xvpin hk hL) hdg (by rw [h, hv]; exact kk H locs ls hP hD hS hl)
theorem x_slen (hE : xE p s m args meth c cc own Ts nL D cI cZ A) {b L : Nat} {xs : Nat → Int32} (hS9 : va_X b L xs s s.heap ∧ b < s.heap.size ∧ ¬ A b ∧ L ≤ 1536) (hdg : decode cc pc = .ok (.arraylength, 1)) (kk : X p l e R s m args below meth c cells slots Q nL D A ws lv (pc + 1) (.int (nI L) :: st)) : X p l e R s m args below meth c cells slots Q nL D A ws lv pc (.ref b :: st) :=
  fun H locs ls hP hD hS hl => va_slen hE.1 hE.2.1 hS9.1 hS9.2.1 hS9.2.2.1 hS hdg (kk H locs ls hP hD hS hl)
end
/-- a contract of a method that reads the script, and no other world -/
def xCs (l : Launch) (y : MethodName) (wsy : List Cond) (fr cs ss lo : Nat) (D : va_G) (cI cZ : ClassId) (b L : Nat) (xs : Nat → Int32) (av : List Value) (T : Option Value → va_W → Prop) : Prop :=
  ∀ sz : Nat, Met l y wsy { frames := fr, cells := cs, slots := ss, locals := lo } (va_Pc av (fun U => (U.heap.size = sz ∧ va_P D vwCl [] U.heap ∧ va_K D vwCl (xTy cI cZ) U ∧ xNs U ∧ va_D (fun _ => True) []) ∧ va_X b L xs U U.heap ∧ b < U.heap.size)) (xQ D T (va_A [] sz)) cs ss (va_A [] sz)
theorem xCs.of {l : Launch} {y : MethodName} {wsy ws' : List Cond} {fr cs ss lo maxL : Nat} {D : va_G} {cI cZ : ClassId} {b L : Nat} {xs : Nat → Int32} {av : List Value} {T : Option Value → va_W → Prop} {bytes : ByteArray} {ret : Option FieldType} {own : String} (hL : L ≤ 1536) (hy : plainFor y = true) (hw : wsy = Cond.code y bytes maxL ret :: ws') (hsl : (lg_sl av).length ≤ maxL) (hC : y.cls = own)
    (body : ∀ (p : Program) (e : Env) (s : State) (m : MethodId) (args : Array Value) (below : List Frame) (meth : Method) (c : Code) (A : Nat → Prop), xE p s m args meth c bytes own wsy maxL D cI cZ A → meth.sig.returnType = ret → meth.name = y.name → (va_X b L xs s s.heap ∧ b < s.heap.size ∧ ¬ A b ∧ L ≤ 1536) → X p l e { frames := fr, cells := cs, slots := ss, locals := lo } s m args below meth c 0 0 (MQ below (xQ D T A) args s cs ss A) maxL D A [] (lv_args 0 av) 0 []) : xCs l y wsy fr cs ss lo D cI cZ b L xs av T := by
  intro sz
  refine Met_ofWF (cc := bytes) (maxL := maxL) (ret := ret) hy hw ?_
  intro p e s m args below meth c s₁ B hml hv
  obtain ⟨rfl, ⟨hsz, hP, hK, hN, hD0⟩, hX, hbl⟩ := hv
  have hts := atoms_spec (ws := wsy) B.pre
  have hown : s.vm.findClass own = some m.cls := by rw [← hC]; exact findClass_of_methodNamed B.named
  subst hsz
  have hD := hD0.self (sz := s.heap.size)
  have hA : ∀ q : Nat, s.heap.size ≤ q → va_A [] s.heap.size q := fun q h => Or.inr h
  have hnb : ¬ va_A [] s.heap.size b := fun h => by
    rcases h with ⟨k, e, h⟩ | h
    · simp at h
    · omega
  have hE : xE p s m av.toArray meth c bytes own wsy maxL D cI cZ (va_A [] s.heap.size) := ⟨B.exec, B.bytes, hml, hown, hts, hK, hN, hA, B.notSynchronized⟩
  have hb := body p e s m av.toArray below meth c (va_A [] s.heap.size) hE B.returns (name_of_methodNamed B.named B.method).1 ⟨hX, hbl, hnb, hL⟩
  rw [lg_entry_eq]
  exact hb s.heap [] _ hP hD va_S.rf (lv_entry av hsl)
theorem xCs_blind {av : List Value} {sz b L : Nat} {xs : Nat → Int32} {D : va_G} {cI cZ : ClassId} : FrameBlind (va_Pc av (fun U => (U.heap.size = sz ∧ va_P D vwCl [] U.heap ∧ va_K D vwCl (xTy cI cZ) U ∧ xNs U ∧ va_D (fun _ => True) []) ∧ va_X b L xs U U.heap ∧ b < U.heap.size)) :=
  fun a U g mk q => by
    obtain ⟨q0, ⟨q1, qP, qK, qN, qD⟩, qX, qb⟩ := q
    exact ⟨q0, ⟨q1, qP, va_K.moved (u := U) (U := U.calling g mk a) (Vm.Alike.refl U.vm) qK, xNs.same (u := U) (U := U.calling g mk a) rfl qN, qD⟩, va_X.moved (u := U) (U := U.calling g mk a) (Vm.Alike.refl U.vm) qX, qb⟩
section
variable {p : Program} {l : Launch} {e : Env} {R : Room} {s : State} {m : MethodId} {args : Array Value} {below : List Frame} {meth : Method} {c : Code} {cells slots : Nat} {Q : State → Prop} {cc : ByteArray} {own : String} {Ts : List Cond} {nL : Nat} {D : va_G} {cI cZ : ClassId} {A : Nat → Prop} {ws : va_W} {lv : List (Nat × Value)} {pc : Nat} {st : List Value}
theorem x_callCs (hE : xE p s m args meth c cc own Ts nL D cI cZ A) {b L : Nat} {xs : Nat → Int32} (hS9 : va_X b L xs s s.heap ∧ b < s.heap.size ∧ ¬ A b ∧ L ≤ 1536) {y : MethodName} {wsy ws2 : List Cond} {fr cs ss lo maxL : Nat} {T : Option Value → va_W → Prop} {bytes : ByteArray} {ret : Option FieldType} {index n : Nat} {stk : List Value} {a : KAd} {S : KSt} {av : List Value} (hM : xCs l y wsy fr cs ss lo D cI cZ b L xs av T) (hT0 : ∀ v w, T v w → w = []) (hG : GoodIn Ts (va_wsS own index y wsy)) (hw : wsy = Cond.code y bytes maxL ret :: ws2) (hd : y.cls ≠ "java/lang/invoke/MethodHandle" ∧ y.cls ≠ "java/lang/invoke/VarHandle" ∧ (parseMethodDescriptor y.desc).map (fun d => d.parameters.length) = some n) (hR : fr + 1 ≤ R.frames ∧ 8 + (maxL + 11) + lo ≤ R.locals) (hcs : cells + cs ≤ R.cells ∧ slots + ss ≤ R.slots) (hn : av.length = n) (hst : stk = av.reverse ++ st) (hcat : (st.map fun v => v.category).sum ≤ 8) (hdg : decode cc pc = .ok (.invokestatic index, 3)) (kk : ∀ v : Option Value, T v [] → X p l e R s m args below meth c (cells + cs) (slots + ss) Q nL D A (kW cI cZ a S) lv (pc + 3) (v.toList ++ st)) : X p l e R s m args below meth c cells slots Q nL D A (kW cI cZ a S) lv pc stk := by
  intro H locs ls hP hD hS hl
  obtain ⟨hPc, hpre⟩ := x_pre (W0 := []) (av := av) (isC := []) hE rfl (by decide) hP hD
  have hXH : va_X b L xs s H := hS9.1.kept (hS.2.1 b hS9.2.1 hS9.2.2.1)
  refine x_goon hE [] [0, 1, 2, 3, 4, 5, 6, 7, 8, 9, 10, 11, 12, 13, 14, 15, 16, 17, 18, 19, 20] rfl (wr := kW cI cZ a S) rfl (by decide) (by decide) hP hD hS hl (va_runS (As := av) (rest := st) ⟨hE.1, hE.2.1, hE.2.2.1, hE.2.2.2.1, hE.2.2.2.2.1⟩ (hM H.size) (va_cwS n hE.2.2.2.2.1 hG hw rfl rfl hd hR) ⟨xCs_blind, fun U hU hW => ?_⟩ rfl hn hl.1 hst (lv_room hcat) hdg hcs) (fun v w hT => ?_)
  · obtain ⟨q0, q1⟩ := hpre U hU hW
    exact ⟨q0, q1, by rw [hU]; exact va_X.moved hW.alike hXH, by rw [hU]; exact Nat.lt_of_lt_of_le hS9.2.1 hS.1⟩
  · have e := hT0 v w hT
    subst e
    exact kk v hT
end
