section
/-- a private method of a class that the tables say can be made, by its rows of tables_1 -/
def lw_okq (q : MethodName × Nat) : Prop := (q.1.cls ≠ "java/lang/invoke/MethodHandle" ∧ q.1.cls ≠ "java/lang/invoke/VarHandle") ∧ Cond.instantiable q.1.cls q.2 ∈ tables_1 ∧ Cond.privateMethod q.1 ∈ tables_1 ∧ Cond.instanceMethod q.1 ∈ tables_1
theorem lw_p0 : lw_okq (⟨"KeyScanner$Matrix", "ghostsIn", "(I)I"⟩, 6) := ⟨⟨by decide +kernel, by decide +kernel⟩, List.mem_of_getElem? (i := 18) (by decide +kernel), List.mem_of_getElem? (i := 210) (by decide +kernel), List.mem_of_getElem? (i := 211) (by decide +kernel)⟩
theorem lw_p1 : lw_okq (⟨"KeyScanner$Voices", "free", "(II)V"⟩, 11) := ⟨⟨by decide +kernel, by decide +kernel⟩, List.mem_of_getElem? (i := 88) (by decide +kernel), List.mem_of_getElem? (i := 247) (by decide +kernel), List.mem_of_getElem? (i := 248) (by decide +kernel)⟩
theorem lw_p2 : lw_okq (⟨"KeyScanner$Net", "join", "()V"⟩, 2) := ⟨⟨by decide +kernel, by decide +kernel⟩, List.mem_of_getElem? (i := 24) (by decide +kernel), List.mem_of_getElem? (i := 275) (by decide +kernel), List.mem_of_getElem? (i := 276) (by decide +kernel)⟩
theorem lw_p3 : lw_okq (⟨"KeyScanner$Net", "joinThrough", "(I)V"⟩, 2) := ⟨⟨by decide +kernel, by decide +kernel⟩, List.mem_of_getElem? (i := 24) (by decide +kernel), List.mem_of_getElem? (i := 279) (by decide +kernel), List.mem_of_getElem? (i := 280) (by decide +kernel)⟩
theorem lw_p4 : lw_okq (⟨"KeyScanner$Voices", "freeKept", "(I)I"⟩, 11) := ⟨⟨by decide +kernel, by decide +kernel⟩, List.mem_of_getElem? (i := 88) (by decide +kernel), List.mem_of_getElem? (i := 301) (by decide +kernel), List.mem_of_getElem? (i := 302) (by decide +kernel)⟩
theorem lw_p5 : lw_okq (⟨"KeyScanner$Voices", "isKeptByPedal", "(I)Z"⟩, 11) := ⟨⟨by decide +kernel, by decide +kernel⟩, List.mem_of_getElem? (i := 88) (by decide +kernel), List.mem_of_getElem? (i := 305) (by decide +kernel), List.mem_of_getElem? (i := 306) (by decide +kernel)⟩
theorem lw_p6 : lw_okq (⟨"KeyScanner", "scanRow", "(I)V"⟩, 11) := ⟨⟨by decide +kernel, by decide +kernel⟩, List.mem_of_getElem? (i := 10) (by decide +kernel), List.mem_of_getElem? (i := 329) (by decide +kernel), List.mem_of_getElem? (i := 330) (by decide +kernel)⟩
theorem lw_p7 : lw_okq (⟨"KeyScanner", "scanKey", "(I)V"⟩, 11) := ⟨⟨by decide +kernel, by decide +kernel⟩, List.mem_of_getElem? (i := 10) (by decide +kernel), List.mem_of_getElem? (i := 333) (by decide +kernel), List.mem_of_getElem? (i := 334) (by decide +kernel)⟩
theorem lw_p8 : lw_okq (⟨"KeyScanner", "enter", "(II)V"⟩, 11) := ⟨⟨by decide +kernel, by decide +kernel⟩, List.mem_of_getElem? (i := 10) (by decide +kernel), List.mem_of_getElem? (i := 348) (by decide +kernel), List.mem_of_getElem? (i := 349) (by decide +kernel)⟩
theorem lw_p9 : lw_okq (⟨"KeyScanner", "strike", "(I)V"⟩, 11) := ⟨⟨by decide +kernel, by decide +kernel⟩, List.mem_of_getElem? (i := 10) (by decide +kernel), List.mem_of_getElem? (i := 352) (by decide +kernel), List.mem_of_getElem? (i := 353) (by decide +kernel)⟩
theorem lw_p10 : lw_okq (⟨"KeyScanner", "velocityAfter", "(I)I"⟩, 11) := ⟨⟨by decide +kernel, by decide +kernel⟩, List.mem_of_getElem? (i := 10) (by decide +kernel), List.mem_of_getElem? (i := 361) (by decide +kernel), List.mem_of_getElem? (i := 362) (by decide +kernel)⟩
theorem lw_p11 : lw_okq (⟨"KeyScanner$Voices", "goesBefore", "(II)Z"⟩, 11) := ⟨⟨by decide +kernel, by decide +kernel⟩, List.mem_of_getElem? (i := 88) (by decide +kernel), List.mem_of_getElem? (i := 384) (by decide +kernel), List.mem_of_getElem? (i := 385) (by decide +kernel)⟩
theorem lw_p12 : lw_okq (⟨"KeyScanner", "allRestBehind", "(I)Z"⟩, 11) := ⟨⟨by decide +kernel, by decide +kernel⟩, List.mem_of_getElem? (i := 10) (by decide +kernel), List.mem_of_getElem? (i := 460) (by decide +kernel), List.mem_of_getElem? (i := 461) (by decide +kernel)⟩
theorem lw_p13 : lw_okq (⟨"KeyScanner", "rowRests", "(I)Z"⟩, 11) := ⟨⟨by decide +kernel, by decide +kernel⟩, List.mem_of_getElem? (i := 10) (by decide +kernel), List.mem_of_getElem? (i := 465) (by decide +kernel), List.mem_of_getElem? (i := 466) (by decide +kernel)⟩
theorem lw_p14 : lw_okq (⟨"KeyScannerModel", "begin", "(II)V"⟩, 30) := ⟨⟨by decide +kernel, by decide +kernel⟩, List.mem_of_getElem? (i := 469) (by decide +kernel), List.mem_of_getElem? (i := 475) (by decide +kernel), List.mem_of_getElem? (i := 476) (by decide +kernel)⟩
theorem lw_p15 : lw_okq (⟨"KeyScannerModel", "appear", "()V"⟩, 30) := ⟨⟨by decide +kernel, by decide +kernel⟩, List.mem_of_getElem? (i := 469) (by decide +kernel), List.mem_of_getElem? (i := 479) (by decide +kernel), List.mem_of_getElem? (i := 480) (by decide +kernel)⟩
def lw_privs_1 : List (MethodName × Nat) := [(⟨"KeyScanner$Matrix", "ghostsIn", "(I)I"⟩, 6), (⟨"KeyScanner$Voices", "free", "(II)V"⟩, 11), (⟨"KeyScanner$Net", "join", "()V"⟩, 2), (⟨"KeyScanner$Net", "joinThrough", "(I)V"⟩, 2), (⟨"KeyScanner$Voices", "freeKept", "(I)I"⟩, 11), (⟨"KeyScanner$Voices", "isKeptByPedal", "(I)Z"⟩, 11), (⟨"KeyScanner", "scanRow", "(I)V"⟩, 11), (⟨"KeyScanner", "scanKey", "(I)V"⟩, 11), (⟨"KeyScanner", "enter", "(II)V"⟩, 11), (⟨"KeyScanner", "strike", "(I)V"⟩, 11), (⟨"KeyScanner", "velocityAfter", "(I)I"⟩, 11), (⟨"KeyScanner$Voices", "goesBefore", "(II)Z"⟩, 11), (⟨"KeyScanner", "allRestBehind", "(I)Z"⟩, 11), (⟨"KeyScanner", "rowRests", "(I)Z"⟩, 11), (⟨"KeyScannerModel", "begin", "(II)V"⟩, 30), (⟨"KeyScannerModel", "appear", "()V"⟩, 30)]
theorem lw_r1 : ∀ q ∈ lw_privs_1, lw_okq q := List.forall_mem_cons.mpr ⟨lw_p0, List.forall_mem_cons.mpr ⟨lw_p1, List.forall_mem_cons.mpr ⟨lw_p2, List.forall_mem_cons.mpr ⟨lw_p3, List.forall_mem_cons.mpr ⟨lw_p4, List.forall_mem_cons.mpr ⟨lw_p5, List.forall_mem_cons.mpr ⟨lw_p6, List.forall_mem_cons.mpr ⟨lw_p7, List.forall_mem_cons.mpr ⟨lw_p8, List.forall_mem_cons.mpr ⟨lw_p9, List.forall_mem_cons.mpr ⟨lw_p10, List.forall_mem_cons.mpr ⟨lw_p11, List.forall_mem_cons.mpr ⟨lw_p12, List.forall_mem_cons.mpr ⟨lw_p13, List.forall_mem_cons.mpr ⟨lw_p14, List.forall_mem_cons.mpr ⟨lw_p15, fun _ h => absurd h List.not_mem_nil⟩⟩⟩⟩⟩⟩⟩⟩⟩⟩⟩⟩⟩⟩⟩⟩
theorem lw_p16 : lw_okq (⟨"KeyScannerModel", "connect", "(II)V"⟩, 30) := ⟨⟨by decide +kernel, by decide +kernel⟩, List.mem_of_getElem? (i := 469) (by decide +kernel), List.mem_of_getElem? (i := 483) (by decide +kernel), List.mem_of_getElem? (i := 484) (by decide +kernel)⟩
theorem lw_p17 : lw_okq (⟨"KeyScannerModel", "keys", "()I"⟩, 30) := ⟨⟨by decide +kernel, by decide +kernel⟩, List.mem_of_getElem? (i := 469) (by decide +kernel), List.mem_of_getElem? (i := 487) (by decide +kernel), List.mem_of_getElem? (i := 488) (by decide +kernel)⟩
theorem lw_p18 : lw_okq (⟨"KeyScannerModel", "ghosts", "()I"⟩, 30) := ⟨⟨by decide +kernel, by decide +kernel⟩, List.mem_of_getElem? (i := 469) (by decide +kernel), List.mem_of_getElem? (i := 593) (by decide +kernel), List.mem_of_getElem? (i := 594) (by decide +kernel)⟩
theorem lw_p19 : lw_okq (⟨"KeyScannerModel", "isGhost", "(I)Z"⟩, 30) := ⟨⟨by decide +kernel, by decide +kernel⟩, List.mem_of_getElem? (i := 469) (by decide +kernel), List.mem_of_getElem? (i := 597) (by decide +kernel), List.mem_of_getElem? (i := 598) (by decide +kernel)⟩
theorem lw_p20 : lw_okq (⟨"KeyScannerModel", "frees", "(I)I"⟩, 30) := ⟨⟨by decide +kernel, by decide +kernel⟩, List.mem_of_getElem? (i := 469) (by decide +kernel), List.mem_of_getElem? (i := 617) (by decide +kernel), List.mem_of_getElem? (i := 618) (by decide +kernel)⟩
theorem lw_p21 : lw_okq (⟨"KeyScannerModel", "enter", "(II)V"⟩, 30) := ⟨⟨by decide +kernel, by decide +kernel⟩, List.mem_of_getElem? (i := 469) (by decide +kernel), List.mem_of_getElem? (i := 621) (by decide +kernel), List.mem_of_getElem? (i := 622) (by decide +kernel)⟩
theorem lw_p22 : lw_okq (⟨"KeyScannerModel", "pass", "(Z)V"⟩, 30) := ⟨⟨by decide +kernel, by decide +kernel⟩, List.mem_of_getElem? (i := 469) (by decide +kernel), List.mem_of_getElem? (i := 629) (by decide +kernel), List.mem_of_getElem? (i := 630) (by decide +kernel)⟩
theorem lw_p23 : lw_okq (⟨"KeyScannerModel", "scan", "(IZ)V"⟩, 30) := ⟨⟨by decide +kernel, by decide +kernel⟩, List.mem_of_getElem? (i := 469) (by decide +kernel), List.mem_of_getElem? (i := 633) (by decide +kernel), List.mem_of_getElem? (i := 634) (by decide +kernel)⟩
theorem lw_p24 : lw_okq (⟨"KeyScannerModel", "hits", "(IZ)V"⟩, 30) := ⟨⟨by decide +kernel, by decide +kernel⟩, List.mem_of_getElem? (i := 469) (by decide +kernel), List.mem_of_getElem? (i := 637) (by decide +kernel), List.mem_of_getElem? (i := 638) (by decide +kernel)⟩
theorem lw_p25 : lw_okq (⟨"KeyScannerModel", "strike", "(I)V"⟩, 30) := ⟨⟨by decide +kernel, by decide +kernel⟩, List.mem_of_getElem? (i := 469) (by decide +kernel), List.mem_of_getElem? (i := 641) (by decide +kernel), List.mem_of_getElem? (i := 642) (by decide +kernel)⟩
theorem lw_p26 : lw_okq (⟨"KeyScannerModel", "isDoubtful", "(I)Z"⟩, 30) := ⟨⟨by decide +kernel, by decide +kernel⟩, List.mem_of_getElem? (i := 469) (by decide +kernel), List.mem_of_getElem? (i := 645) (by decide +kernel), List.mem_of_getElem? (i := 646) (by decide +kernel)⟩
theorem lw_p27 : lw_okq (⟨"KeyScannerModel", "voiceOf", "(I)I"⟩, 30) := ⟨⟨by decide +kernel, by decide +kernel⟩, List.mem_of_getElem? (i := 469) (by decide +kernel), List.mem_of_getElem? (i := 649) (by decide +kernel), List.mem_of_getElem? (i := 650) (by decide +kernel)⟩
theorem lw_p28 : lw_okq (⟨"KeyScannerModel", "freeVoice", "()I"⟩, 30) := ⟨⟨by decide +kernel, by decide +kernel⟩, List.mem_of_getElem? (i := 469) (by decide +kernel), List.mem_of_getElem? (i := 653) (by decide +kernel), List.mem_of_getElem? (i := 654) (by decide +kernel)⟩
theorem lw_p29 : lw_okq (⟨"KeyScannerModel", "taken", "()I"⟩, 30) := ⟨⟨by decide +kernel, by decide +kernel⟩, List.mem_of_getElem? (i := 469) (by decide +kernel), List.mem_of_getElem? (i := 657) (by decide +kernel), List.mem_of_getElem? (i := 658) (by decide +kernel)⟩
theorem lw_p30 : lw_okq (⟨"KeyScannerModel", "weakest", "(Z)I"⟩, 30) := ⟨⟨by decide +kernel, by decide +kernel⟩, List.mem_of_getElem? (i := 469) (by decide +kernel), List.mem_of_getElem? (i := 661) (by decide +kernel), List.mem_of_getElem? (i := 662) (by decide +kernel)⟩
theorem lw_p31 : lw_okq (⟨"KeyScannerModel", "isWeaker", "(II)Z"⟩, 30) := ⟨⟨by decide +kernel, by decide +kernel⟩, List.mem_of_getElem? (i := 469) (by decide +kernel), List.mem_of_getElem? (i := 665) (by decide +kernel), List.mem_of_getElem? (i := 666) (by decide +kernel)⟩
def lw_privs_2 : List (MethodName × Nat) := [(⟨"KeyScannerModel", "connect", "(II)V"⟩, 30), (⟨"KeyScannerModel", "keys", "()I"⟩, 30), (⟨"KeyScannerModel", "ghosts", "()I"⟩, 30), (⟨"KeyScannerModel", "isGhost", "(I)Z"⟩, 30), (⟨"KeyScannerModel", "frees", "(I)I"⟩, 30), (⟨"KeyScannerModel", "enter", "(II)V"⟩, 30), (⟨"KeyScannerModel", "pass", "(Z)V"⟩, 30), (⟨"KeyScannerModel", "scan", "(IZ)V"⟩, 30), (⟨"KeyScannerModel", "hits", "(IZ)V"⟩, 30), (⟨"KeyScannerModel", "strike", "(I)V"⟩, 30), (⟨"KeyScannerModel", "isDoubtful", "(I)Z"⟩, 30), (⟨"KeyScannerModel", "voiceOf", "(I)I"⟩, 30), (⟨"KeyScannerModel", "freeVoice", "()I"⟩, 30), (⟨"KeyScannerModel", "taken", "()I"⟩, 30), (⟨"KeyScannerModel", "weakest", "(Z)I"⟩, 30), (⟨"KeyScannerModel", "isWeaker", "(II)Z"⟩, 30)]
theorem lw_r2 : ∀ q ∈ lw_privs_2, lw_okq q := List.forall_mem_cons.mpr ⟨lw_p16, List.forall_mem_cons.mpr ⟨lw_p17, List.forall_mem_cons.mpr ⟨lw_p18, List.forall_mem_cons.mpr ⟨lw_p19, List.forall_mem_cons.mpr ⟨lw_p20, List.forall_mem_cons.mpr ⟨lw_p21, List.forall_mem_cons.mpr ⟨lw_p22, List.forall_mem_cons.mpr ⟨lw_p23, List.forall_mem_cons.mpr ⟨lw_p24, List.forall_mem_cons.mpr ⟨lw_p25, List.forall_mem_cons.mpr ⟨lw_p26, List.forall_mem_cons.mpr ⟨lw_p27, List.forall_mem_cons.mpr ⟨lw_p28, List.forall_mem_cons.mpr ⟨lw_p29, List.forall_mem_cons.mpr ⟨lw_p30, List.forall_mem_cons.mpr ⟨lw_p31, fun _ h => absurd h List.not_mem_nil⟩⟩⟩⟩⟩⟩⟩⟩⟩⟩⟩⟩⟩⟩⟩⟩
theorem lw_p32 : lw_okq (⟨"KeyScannerModel", "velocityAfter", "(I)I"⟩, 30) := ⟨⟨by decide +kernel, by decide +kernel⟩, List.mem_of_getElem? (i := 469) (by decide +kernel), List.mem_of_getElem? (i := 669) (by decide +kernel), List.mem_of_getElem? (i := 670) (by decide +kernel)⟩
theorem lw_p33 : lw_okq (⟨"KeyScannerModel", "release", "(I)V"⟩, 30) := ⟨⟨by decide +kernel, by decide +kernel⟩, List.mem_of_getElem? (i := 469) (by decide +kernel), List.mem_of_getElem? (i := 673) (by decide +kernel), List.mem_of_getElem? (i := 674) (by decide +kernel)⟩
theorem lw_p34 : lw_okq (⟨"KeyScannerModel", "noKey", "(I)Z"⟩, 30) := ⟨⟨by decide +kernel, by decide +kernel⟩, List.mem_of_getElem? (i := 469) (by decide +kernel), List.mem_of_getElem? (i := 681) (by decide +kernel), List.mem_of_getElem? (i := 682) (by decide +kernel)⟩
theorem lw_p35 : lw_okq (⟨"KeyScannerModel", "pressed", "()I"⟩, 30) := ⟨⟨by decide +kernel, by decide +kernel⟩, List.mem_of_getElem? (i := 469) (by decide +kernel), List.mem_of_getElem? (i := 689) (by decide +kernel), List.mem_of_getElem? (i := 690) (by decide +kernel)⟩
theorem lw_p36 : lw_okq (⟨"KeyScannerModel", "dropKept", "()I"⟩, 30) := ⟨⟨by decide +kernel, by decide +kernel⟩, List.mem_of_getElem? (i := 469) (by decide +kernel), List.mem_of_getElem? (i := 697) (by decide +kernel), List.mem_of_getElem? (i := 698) (by decide +kernel)⟩
theorem lw_p37 : lw_okq (⟨"KeyScannerModel", "areAtRest", "()Z"⟩, 30) := ⟨⟨by decide +kernel, by decide +kernel⟩, List.mem_of_getElem? (i := 469) (by decide +kernel), List.mem_of_getElem? (i := 741) (by decide +kernel), List.mem_of_getElem? (i := 742) (by decide +kernel)⟩
def lw_privs_3 : List (MethodName × Nat) := [(⟨"KeyScannerModel", "velocityAfter", "(I)I"⟩, 30), (⟨"KeyScannerModel", "release", "(I)V"⟩, 30), (⟨"KeyScannerModel", "noKey", "(I)Z"⟩, 30), (⟨"KeyScannerModel", "pressed", "()I"⟩, 30), (⟨"KeyScannerModel", "dropKept", "()I"⟩, 30), (⟨"KeyScannerModel", "areAtRest", "()Z"⟩, 30)]
theorem lw_r3 : ∀ q ∈ lw_privs_3, lw_okq q := List.forall_mem_cons.mpr ⟨lw_p32, List.forall_mem_cons.mpr ⟨lw_p33, List.forall_mem_cons.mpr ⟨lw_p34, List.forall_mem_cons.mpr ⟨lw_p35, List.forall_mem_cons.mpr ⟨lw_p36, List.forall_mem_cons.mpr ⟨lw_p37, fun _ h => absurd h List.not_mem_nil⟩⟩⟩⟩⟩⟩
def lw_privs : List (MethodName × Nat) := lw_privs_1 ++ (lw_privs_2 ++ (lw_privs_3))
def lw_tbl : List Cond := k2_sels lw_privs ++ tables_1
theorem lw_privs_ok : ∀ q ∈ lw_privs, lw_okq q := by
  show ∀ q ∈ lw_privs_1 ++ (lw_privs_2 ++ (lw_privs_3)), lw_okq q
  exact List.forall_mem_append.mpr ⟨lw_r1, List.forall_mem_append.mpr ⟨lw_r2, lw_r3⟩⟩
end
section
/-! ===== BEGIN words of one list among another's, by their places ===== -/
theorem goodIn_r {big : List Cond} (ws : List Cond) (ps : List Nat) (hp : ws = ps.filterMap (fun i => big[i]?)) (h : ws.all goodWord = true) : GoodIn big ws := by
  intro w hw
  have h1 := List.all_eq_true.mp h w hw
  rw [hp] at hw
  obtain ⟨i, -, hi⟩ := List.mem_filterMap.mp hw
  have hm : w ∈ big := by first | exact List.mem_of_getElem? hi | exact List.getElem?_mem hi
  exact ⟨hm, good_of_word h1⟩
theorem goodIn_app {big a b : List Cond} (ha : GoodIn big a) (hb : GoodIn big b) : GoodIn big (a ++ b) := fun w h => (List.mem_append.mp h).elim (ha w) (hb w)
theorem goodIn_ca {big a b : List Cond} {c : Cond} (ha : GoodIn big (c :: a)) (hb : GoodIn big b) : GoodIn big (c :: (a ++ b)) := fun w h => (List.mem_cons.mp h).elim (fun e => ha w (List.mem_cons.mpr (Or.inl e))) (fun h => (List.mem_append.mp h).elim (fun h => ha w (List.mem_cons.mpr (Or.inr h))) (hb w))
theorem goodIn_sub {big ws : List Cond} (hm : ∀ w ∈ ws, w ∈ big) (h : ws.all goodWord = true) : GoodIn big ws := fun w hw => ⟨hm w hw, good_of_word (List.all_eq_true.mp h w hw)⟩
/-! ===== END ===== -/

/-! ===== BEGIN printed: names, fields, word lists, decode rows ===== -/
def RX0 : String := "KeyScanner$Journal"
def TX0 : u_T := fun k => match k with
  | 0 => ("KeyScanner$Journal", "times", "[I", true)
  | 1 => ("KeyScanner$Journal", "kinds", "[I", true)
  | 2 => ("KeyScanner$Journal", "keys", "[I", true)
  | _ => ("KeyScanner$Journal", "made", "I", false)
def tyX0 : Nat → FieldType := fun k => match k with
  | 0 => .array .int
  | 1 => .array .int
  | 2 => .array .int
  | _ => .int
abbrev wsX00 : List Cond := u_ws RX0 TX0 4
theorem nmX0 : ∀ a, a < 4 → ∀ b, b < 4 → a ≠ b → (TX0 a).2.1 ≠ (TX0 b).2.1 := by decide +kernel
theorem tyX0_ok : ∀ k, k < 4 → parseFieldDescriptor (TX0 k).2.2.1 = some (tyX0 k) := by decide +kernel
abbrev cX0_init : ByteArray := prog_2_method_1_code
def yX0_init : MethodName := ⟨RX0, "<init>", "()V"⟩
abbrev cX0_empty : ByteArray := prog_2_method_2_code
def yX0_empty : MethodName := ⟨RX0, "empty", "()V"⟩
abbrev cX0_write : ByteArray := prog_2_method_3_code
def yX0_write : MethodName := ⟨RX0, "write", "(III)V"⟩
abbrev cX0_size : ByteArray := prog_2_method_4_code
def yX0_size : MethodName := ⟨RX0, "size", "()I"⟩
abbrev cX0_place : ByteArray := prog_2_method_5_code
def yX0_place : MethodName := ⟨RX0, "place", "(I)I"⟩
def RX1 : String := "KeyScanner$Matrix"
def TX1 : u_T := fun k => match k with
  | 0 => ("KeyScanner$Matrix", "positions", "[I", true)
  | 1 => ("KeyScanner$Matrix", "first", "LKeyScanner$Net;", true)
  | 2 => ("KeyScanner$Matrix", "second", "LKeyScanner$Net;", true)
  | 3 => ("KeyScanner$Matrix", "rows", "I", false)
  | 4 => ("KeyScanner$Matrix", "columns", "I", false)
  | _ => ("KeyScanner$Matrix", "diodes", "Z", false)
def tyX1 : Nat → FieldType := fun k => match k with
  | 0 => .array .int
  | 1 => .object "KeyScanner$Net"
  | 2 => .object "KeyScanner$Net"
  | 3 => .int
  | 4 => .int
  | _ => .boolean
abbrev wsX10 : List Cond := u_ws RX1 TX1 6
theorem nmX1 : ∀ a, a < 6 → ∀ b, b < 6 → a ≠ b → (TX1 a).2.1 ≠ (TX1 b).2.1 := by decide +kernel
theorem tyX1_ok : ∀ k, k < 6 → parseFieldDescriptor (TX1 k).2.2.1 = some (tyX1 k) := by decide +kernel
abbrev cX1_init : ByteArray := prog_3_method_1_code
def yX1_init : MethodName := ⟨RX1, "<init>", "()V"⟩
abbrev cX1_size : ByteArray := prog_3_method_2_code
def yX1_size : MethodName := ⟨RX1, "size", "()I"⟩
abbrev cX1_has : ByteArray := prog_3_method_3_code
def yX1_has : MethodName := ⟨RX1, "has", "(I)Z"⟩
abbrev cX1_layOut : ByteArray := prog_3_method_4_code
def yX1_layOut : MethodName := ⟨RX1, "layOut", "(II)V"⟩
abbrev cX1_lift : ByteArray := prog_3_method_5_code
def yX1_lift : MethodName := ⟨RX1, "lift", "()V"⟩
abbrev cX1_move : ByteArray := prog_3_method_6_code
def yX1_move : MethodName := ⟨RX1, "move", "(II)V"⟩
abbrev cX1_pressed : ByteArray := prog_3_method_7_code
def yX1_pressed : MethodName := ⟨RX1, "pressed", "()I"⟩
abbrev cX1_seen : ByteArray := prog_3_method_8_code
def yX1_seen : MethodName := ⟨RX1, "seen", "(LKeyScanner$Net;I)I"⟩
abbrev cX1_firstSeen : ByteArray := prog_3_method_9_code
def yX1_firstSeen : MethodName := ⟨RX1, "firstSeen", "(I)Z"⟩
abbrev cX1_secondSeen : ByteArray := prog_3_method_10_code
def yX1_secondSeen : MethodName := ⟨RX1, "secondSeen", "(I)Z"⟩
abbrev cX1_isGhost : ByteArray := prog_3_method_11_code
def yX1_isGhost : MethodName := ⟨RX1, "isGhost", "(I)Z"⟩
abbrev cX1_isDoubtful : ByteArray := prog_3_method_12_code
def yX1_isDoubtful : MethodName := ⟨RX1, "isDoubtful", "(I)Z"⟩
abbrev cX1_doubtful : ByteArray := prog_3_method_13_code
def yX1_doubtful : MethodName := ⟨RX1, "doubtful", "()I"⟩
abbrev cX1_ghosts : ByteArray := prog_3_method_14_code
def yX1_ghosts : MethodName := ⟨RX1, "ghosts", "()I"⟩
abbrev cX1_ghostsWithout : ByteArray := prog_3_method_15_code
def yX1_ghostsWithout : MethodName := ⟨RX1, "ghostsWithout", "(I)I"⟩
abbrev cX1_ghostsIn : ByteArray := prog_3_method_16_code
def yX1_ghostsIn : MethodName := ⟨RX1, "ghostsIn", "(I)I"⟩
abbrev cX1_contains : ByteArray := prog_3_method_17_code
def yX1_contains : MethodName := ⟨RX1, "contains", "(II)Z"⟩
def RX2 : String := "KeyScanner$Net"
def TX2 : u_T := fun k => match k with
  | 0 => ("KeyScanner$Net", "closed", "[I", true)
  | _ => ("KeyScanner$Net", "joined", "[I", true)
def tyX2 : Nat → FieldType := fun k => match k with
  | 0 => .array .int
  | _ => .array .int
abbrev wsX20 : List Cond := u_ws RX2 TX2 2
theorem nmX2 : ∀ a, a < 2 → ∀ b, b < 2 → a ≠ b → (TX2 a).2.1 ≠ (TX2 b).2.1 := by decide +kernel
theorem tyX2_ok : ∀ k, k < 2 → parseFieldDescriptor (TX2 k).2.2.1 = some (tyX2 k) := by decide +kernel
abbrev cX2_init : ByteArray := prog_4_method_1_code
def yX2_init : MethodName := ⟨RX2, "<init>", "()V"⟩
abbrev cX2_open : ByteArray := prog_4_method_2_code
def yX2_open : MethodName := ⟨RX2, "open", "()V"⟩
abbrev cX2_put : ByteArray := prog_4_method_3_code
def yX2_put : MethodName := ⟨RX2, "put", "(IIZ)V"⟩
abbrev cX2_join : ByteArray := prog_4_method_4_code
def yX2_join : MethodName := ⟨RX2, "join", "()V"⟩
abbrev cX2_joinThrough : ByteArray := prog_4_method_5_code
def yX2_joinThrough : MethodName := ⟨RX2, "joinThrough", "(I)V"⟩
abbrev cX2_rowsJoinedWith : ByteArray := prog_4_method_6_code
def yX2_rowsJoinedWith : MethodName := ⟨RX2, "rowsJoinedWith", "(I)I"⟩
def RX3 : String := "KeyScanner$Voices"
def TX3 : u_T := fun k => match k with
  | 0 => ("KeyScanner$Voices", "states", "[I", true)
  | 1 => ("KeyScanner$Voices", "keys", "[I", true)
  | 2 => ("KeyScanner$Voices", "velocities", "[I", true)
  | 3 => ("KeyScanner$Voices", "begun", "[I", true)
  | 4 => ("KeyScanner$Voices", "captured", "[Z", true)
  | 5 => ("KeyScanner$Voices", "journal", "LKeyScanner$Journal;", true)
  | 6 => ("KeyScanner$Voices", "number", "I", false)
  | 7 => ("KeyScanner$Voices", "rule", "I", false)
  | 8 => ("KeyScanner$Voices", "taken", "I", false)
  | 9 => ("KeyScanner$Voices", "sustained", "Z", false)
  | _ => ("KeyScanner$Voices", "sostenutoDown", "Z", false)
def tyX3 : Nat → FieldType := fun k => match k with
  | 0 => .array .int
  | 1 => .array .int
  | 2 => .array .int
  | 3 => .array .int
  | 4 => .array .boolean
  | 5 => .object "KeyScanner$Journal"
  | 6 => .int
  | 7 => .int
  | 8 => .int
  | 9 => .boolean
  | _ => .boolean
abbrev wsX30 : List Cond := u_ws RX3 TX3 11
theorem nmX3 : ∀ a, a < 11 → ∀ b, b < 11 → a ≠ b → (TX3 a).2.1 ≠ (TX3 b).2.1 := by decide +kernel
theorem tyX3_ok : ∀ k, k < 11 → parseFieldDescriptor (TX3 k).2.2.1 = some (tyX3 k) := by decide +kernel
abbrev cX3_init : ByteArray := prog_5_method_1_code
def yX3_init : MethodName := ⟨RX3, "<init>", "(LKeyScanner$Journal;)V"⟩
abbrev cX3_silence : ByteArray := prog_5_method_2_code
def yX3_silence : MethodName := ⟨RX3, "silence", "()V"⟩
abbrev cX3_limit : ByteArray := prog_5_method_3_code
def yX3_limit : MethodName := ⟨RX3, "limit", "(II)V"⟩
abbrev cX3_sound : ByteArray := prog_5_method_4_code
def yX3_sound : MethodName := ⟨RX3, "sound", "(III)V"⟩
abbrev cX3_release : ByteArray := prog_5_method_5_code
def yX3_release : MethodName := ⟨RX3, "release", "(II)V"⟩
abbrev cX3_moveSustain : ByteArray := prog_5_method_6_code
def yX3_moveSustain : MethodName := ⟨RX3, "moveSustain", "(ZI)I"⟩
abbrev cX3_moveSostenuto : ByteArray := prog_5_method_7_code
def yX3_moveSostenuto : MethodName := ⟨RX3, "moveSostenuto", "(ZI)I"⟩
abbrev cX3_withKey : ByteArray := prog_5_method_8_code
def yX3_withKey : MethodName := ⟨RX3, "withKey", "(I)I"⟩
abbrev cX3_firstFree : ByteArray := prog_5_method_9_code
def yX3_firstFree : MethodName := ⟨RX3, "firstFree", "()I"⟩
abbrev cX3_victim : ByteArray := prog_5_method_10_code
def yX3_victim : MethodName := ⟨RX3, "victim", "()I"⟩
abbrev cX3_inState : ByteArray := prog_5_method_11_code
def yX3_inState : MethodName := ⟨RX3, "inState", "(I)I"⟩
abbrev cX3_goesBefore : ByteArray := prog_5_method_12_code
def yX3_goesBefore : MethodName := ⟨RX3, "goesBefore", "(II)Z"⟩
abbrev cX3_isKeptByPedal : ByteArray := prog_5_method_13_code
def yX3_isKeptByPedal : MethodName := ⟨RX3, "isKeptByPedal", "(I)Z"⟩
abbrev cX3_freeKept : ByteArray := prog_5_method_14_code
def yX3_freeKept : MethodName := ⟨RX3, "freeKept", "(I)I"⟩
abbrev cX3_free : ByteArray := prog_5_method_15_code
def yX3_free : MethodName := ⟨RX3, "free", "(II)V"⟩
def RX4 : String := "KeyScanner"
def TX4 : u_T := fun k => match k with
  | 0 => ("KeyScanner", "matrix", "LKeyScanner$Matrix;", true)
  | 1 => ("KeyScanner", "journal", "LKeyScanner$Journal;", true)
  | 2 => ("KeyScanner", "voices", "LKeyScanner$Voices;", true)
  | 3 => ("KeyScanner", "phases", "[I", true)
  | 4 => ("KeyScanner", "beginnings", "[I", true)
  | 5 => ("KeyScanner", "time", "I", false)
  | 6 => ("KeyScanner", "slope", "I", false)
  | 7 => ("KeyScanner", "blocking", "Z", false)
  | 8 => ("KeyScanner", "lateRelease", "Z", false)
  | 9 => ("KeyScanner", "strikes", "I", false)
  | _ => ("KeyScanner", "refused", "I", false)
def tyX4 : Nat → FieldType := fun k => match k with
  | 0 => .object "KeyScanner$Matrix"
  | 1 => .object "KeyScanner$Journal"
  | 2 => .object "KeyScanner$Voices"
  | 3 => .array .int
  | 4 => .array .int
  | 5 => .int
  | 6 => .int
  | 7 => .boolean
  | 8 => .boolean
  | 9 => .int
  | _ => .int
abbrev wsX40 : List Cond := u_ws RX4 TX4 11
theorem nmX4 : ∀ a, a < 11 → ∀ b, b < 11 → a ≠ b → (TX4 a).2.1 ≠ (TX4 b).2.1 := by decide +kernel
theorem tyX4_ok : ∀ k, k < 11 → parseFieldDescriptor (TX4 k).2.2.1 = some (tyX4 k) := by decide +kernel
abbrev cX4_init : ByteArray := prog_1_method_1_code
def yX4_init : MethodName := ⟨RX4, "<init>", "()V"⟩
abbrev cX4_reset : ByteArray := prog_1_method_2_code
def yX4_reset : MethodName := ⟨RX4, "reset", "(II)I"⟩
abbrev cX4_setDiodes : ByteArray := prog_1_method_3_code
def yX4_setDiodes : MethodName := ⟨RX4, "setDiodes", "(Z)I"⟩
abbrev cX4_setBlocking : ByteArray := prog_1_method_4_code
def yX4_setBlocking : MethodName := ⟨RX4, "setBlocking", "(Z)I"⟩
abbrev cX4_setLateRelease : ByteArray := prog_1_method_5_code
def yX4_setLateRelease : MethodName := ⟨RX4, "setLateRelease", "(Z)I"⟩
abbrev cX4_setSlope : ByteArray := prog_1_method_6_code
def yX4_setSlope : MethodName := ⟨RX4, "setSlope", "(I)I"⟩
abbrev cX4_setVoices : ByteArray := prog_1_method_7_code
def yX4_setVoices : MethodName := ⟨RX4, "setVoices", "(II)I"⟩
abbrev cX4_setKey : ByteArray := prog_1_method_8_code
def yX4_setKey : MethodName := ⟨RX4, "setKey", "(II)I"⟩
abbrev cX4_liftAll : ByteArray := prog_1_method_9_code
def yX4_liftAll : MethodName := ⟨RX4, "liftAll", "()I"⟩
abbrev cX4_sustain : ByteArray := prog_1_method_10_code
def yX4_sustain : MethodName := ⟨RX4, "sustain", "(Z)I"⟩
abbrev cX4_sostenuto : ByteArray := prog_1_method_11_code
def yX4_sostenuto : MethodName := ⟨RX4, "sostenuto", "(Z)I"⟩
abbrev cX4_tick : ByteArray := prog_1_method_12_code
def yX4_tick : MethodName := ⟨RX4, "tick", "(I)I"⟩
abbrev cX4_key : ByteArray := prog_1_method_13_code
def yX4_key : MethodName := ⟨RX4, "key", "(II)I"⟩
abbrev cX4_voice : ByteArray := prog_1_method_14_code
def yX4_voice : MethodName := ⟨RX4, "voice", "(II)I"⟩
abbrev cX4_count : ByteArray := prog_1_method_15_code
def yX4_count : MethodName := ⟨RX4, "count", "(I)I"⟩
abbrev cX4_log : ByteArray := prog_1_method_16_code
def yX4_log : MethodName := ⟨RX4, "log", "(II)I"⟩
abbrev cX4_velocity : ByteArray := prog_1_method_17_code
def yX4_velocity : MethodName := ⟨RX4, "velocity", "(I)I"⟩
abbrev cX4_nextTaken : ByteArray := prog_1_method_18_code
def yX4_nextTaken : MethodName := ⟨RX4, "nextTaken", "()I"⟩
abbrev cX4_connected : ByteArray := prog_1_method_19_code
def yX4_connected : MethodName := ⟨RX4, "connected", "(I)I"⟩
abbrev cX4_worstKey : ByteArray := prog_1_method_20_code
def yX4_worstKey : MethodName := ⟨RX4, "worstKey", "()I"⟩
abbrev cX4_restAfter : ByteArray := prog_1_method_21_code
def yX4_restAfter : MethodName := ⟨RX4, "restAfter", "(I)I"⟩
abbrev cX4_scanRow : ByteArray := prog_1_method_22_code
def yX4_scanRow : MethodName := ⟨RX4, "scanRow", "(I)V"⟩
abbrev cX4_scanKey : ByteArray := prog_1_method_23_code
def yX4_scanKey : MethodName := ⟨RX4, "scanKey", "(I)V"⟩
abbrev cX4_enter : ByteArray := prog_1_method_24_code
def yX4_enter : MethodName := ⟨RX4, "enter", "(II)V"⟩
abbrev cX4_strike : ByteArray := prog_1_method_25_code
def yX4_strike : MethodName := ⟨RX4, "strike", "(I)V"⟩
abbrev cX4_velocityAfter : ByteArray := prog_1_method_26_code
def yX4_velocityAfter : MethodName := ⟨RX4, "velocityAfter", "(I)I"⟩
abbrev cX4_allRestBehind : ByteArray := prog_1_method_27_code
def yX4_allRestBehind : MethodName := ⟨RX4, "allRestBehind", "(I)Z"⟩
abbrev cX4_rowRests : ByteArray := prog_1_method_28_code
def yX4_rowRests : MethodName := ⟨RX4, "rowRests", "(I)Z"⟩
abbrev cX4_within : ByteArray := prog_1_method_29_code
def yX4_within : MethodName := ⟨RX4, "within", "(III)Z"⟩
abbrev cX4_one : ByteArray := prog_1_method_30_code
def yX4_one : MethodName := ⟨RX4, "one", "(Z)I"⟩
def RX5 : String := "KeyScannerModel"
def TX5 : u_T := fun k => match k with
  | 0 => ("KeyScannerModel", "rows", "I", false)
  | 1 => ("KeyScannerModel", "columns", "I", false)
  | 2 => ("KeyScannerModel", "hasDiodes", "Z", false)
  | 3 => ("KeyScannerModel", "isBlocking", "Z", false)
  | 4 => ("KeyScannerModel", "isLate", "Z", false)
  | 5 => ("KeyScannerModel", "slope", "I", false)
  | 6 => ("KeyScannerModel", "voices", "I", false)
  | 7 => ("KeyScannerModel", "rule", "I", false)
  | 8 => ("KeyScannerModel", "isSustained", "Z", false)
  | 9 => ("KeyScannerModel", "isSostenuto", "Z", false)
  | 10 => ("KeyScannerModel", "time", "I", false)
  | 11 => ("KeyScannerModel", "positionOf", "[I", true)
  | 12 => ("KeyScannerModel", "phaseOf", "[I", true)
  | 13 => ("KeyScannerModel", "beginOf", "[I", true)
  | 14 => ("KeyScannerModel", "firstOf", "[Z", true)
  | 15 => ("KeyScannerModel", "secondOf", "[Z", true)
  | 16 => ("KeyScannerModel", "stateOf", "[I", true)
  | 17 => ("KeyScannerModel", "keyOf", "[I", true)
  | 18 => ("KeyScannerModel", "velocityOf", "[I", true)
  | 19 => ("KeyScannerModel", "sinceOf", "[I", true)
  | 20 => ("KeyScannerModel", "isCaptured", "[Z", true)
  | 21 => ("KeyScannerModel", "entries", "I", false)
  | 22 => ("KeyScannerModel", "logRow", "[I", true)
  | 23 => ("KeyScannerModel", "strikes", "I", false)
  | 24 => ("KeyScannerModel", "refusals", "I", false)
  | 25 => ("KeyScannerModel", "takings", "I", false)
  | 26 => ("KeyScannerModel", "foundRows", "I", false)
  | 27 => ("KeyScannerModel", "foundColumns", "I", false)
  | 28 => ("KeyScannerModel", "oldPhase", "[I", true)
  | _ => ("KeyScannerModel", "oldBegin", "[I", true)
def tyX5 : Nat → FieldType := fun k => match k with
  | 0 => .int
  | 1 => .int
  | 2 => .boolean
  | 3 => .boolean
  | 4 => .boolean
  | 5 => .int
  | 6 => .int
  | 7 => .int
  | 8 => .boolean
  | 9 => .boolean
  | 10 => .int
  | 11 => .array .int
  | 12 => .array .int
  | 13 => .array .int
  | 14 => .array .boolean
  | 15 => .array .boolean
  | 16 => .array .int
  | 17 => .array .int
  | 18 => .array .int
  | 19 => .array .int
  | 20 => .array .boolean
  | 21 => .int
  | 22 => .array .int
  | 23 => .int
  | 24 => .int
  | 25 => .int
  | 26 => .int
  | 27 => .int
  | 28 => .array .int
  | _ => .array .int
abbrev wsX50 : List Cond := u_ws RX5 TX5 30
theorem nmX5 : ∀ a, a < 30 → ∀ b, b < 30 → a ≠ b → (TX5 a).2.1 ≠ (TX5 b).2.1 := by decide +kernel
theorem tyX5_ok : ∀ k, k < 30 → parseFieldDescriptor (TX5 k).2.2.1 = some (tyX5 k) := by decide +kernel
abbrev cX5_init : ByteArray := prog_7_method_1_code
def yX5_init : MethodName := ⟨RX5, "<init>", "()V"⟩
abbrev cX5_in : ByteArray := prog_7_method_2_code
def yX5_in : MethodName := ⟨RX5, "in", "(III)Z"⟩
abbrev cX5_begin : ByteArray := prog_7_method_3_code
def yX5_begin : MethodName := ⟨RX5, "begin", "(II)V"⟩
abbrev cX5_reset : ByteArray := prog_7_method_4_code
def yX5_reset : MethodName := ⟨RX5, "reset", "(II)I"⟩
abbrev cX5_keys : ByteArray := prog_7_method_5_code
def yX5_keys : MethodName := ⟨RX5, "keys", "()I"⟩
abbrev cX5_connect : ByteArray := prog_7_method_6_code
def yX5_connect : MethodName := ⟨RX5, "connect", "(II)V"⟩
abbrev cX5_appear : ByteArray := prog_7_method_7_code
def yX5_appear : MethodName := ⟨RX5, "appear", "()V"⟩
abbrev cX5_isGhost : ByteArray := prog_7_method_8_code
def yX5_isGhost : MethodName := ⟨RX5, "isGhost", "(I)Z"⟩
abbrev cX5_isDoubtful : ByteArray := prog_7_method_9_code
def yX5_isDoubtful : MethodName := ⟨RX5, "isDoubtful", "(I)Z"⟩
abbrev cX5_ghosts : ByteArray := prog_7_method_10_code
def yX5_ghosts : MethodName := ⟨RX5, "ghosts", "()I"⟩
abbrev cX5_setDiodes : ByteArray := prog_7_method_11_code
def yX5_setDiodes : MethodName := ⟨RX5, "setDiodes", "(Z)I"⟩
abbrev cX5_setBlocking : ByteArray := prog_7_method_12_code
def yX5_setBlocking : MethodName := ⟨RX5, "setBlocking", "(Z)I"⟩
abbrev cX5_setLateRelease : ByteArray := prog_7_method_13_code
def yX5_setLateRelease : MethodName := ⟨RX5, "setLateRelease", "(Z)I"⟩
abbrev cX5_setSlope : ByteArray := prog_7_method_14_code
def yX5_setSlope : MethodName := ⟨RX5, "setSlope", "(I)I"⟩
abbrev cX5_setVoices : ByteArray := prog_7_method_15_code
def yX5_setVoices : MethodName := ⟨RX5, "setVoices", "(II)I"⟩
abbrev cX5_enter : ByteArray := prog_7_method_16_code
def yX5_enter : MethodName := ⟨RX5, "enter", "(II)V"⟩
abbrev cX5_frees : ByteArray := prog_7_method_17_code
def yX5_frees : MethodName := ⟨RX5, "frees", "(I)I"⟩
abbrev cX5_voiceOf : ByteArray := prog_7_method_18_code
def yX5_voiceOf : MethodName := ⟨RX5, "voiceOf", "(I)I"⟩
abbrev cX5_freeVoice : ByteArray := prog_7_method_19_code
def yX5_freeVoice : MethodName := ⟨RX5, "freeVoice", "()I"⟩
abbrev cX5_isWeaker : ByteArray := prog_7_method_20_code
def yX5_isWeaker : MethodName := ⟨RX5, "isWeaker", "(II)Z"⟩
abbrev cX5_weakest : ByteArray := prog_7_method_21_code
def yX5_weakest : MethodName := ⟨RX5, "weakest", "(Z)I"⟩
abbrev cX5_taken : ByteArray := prog_7_method_22_code
def yX5_taken : MethodName := ⟨RX5, "taken", "()I"⟩
abbrev cX5_velocityAfter : ByteArray := prog_7_method_23_code
def yX5_velocityAfter : MethodName := ⟨RX5, "velocityAfter", "(I)I"⟩
abbrev cX5_strike : ByteArray := prog_7_method_24_code
def yX5_strike : MethodName := ⟨RX5, "strike", "(I)V"⟩
abbrev cX5_release : ByteArray := prog_7_method_25_code
def yX5_release : MethodName := ⟨RX5, "release", "(I)V"⟩
abbrev cX5_scan : ByteArray := prog_7_method_26_code
def yX5_scan : MethodName := ⟨RX5, "scan", "(IZ)V"⟩
abbrev cX5_hits : ByteArray := prog_7_method_27_code
def yX5_hits : MethodName := ⟨RX5, "hits", "(IZ)V"⟩
abbrev cX5_pass : ByteArray := prog_7_method_28_code
def yX5_pass : MethodName := ⟨RX5, "pass", "(Z)V"⟩
abbrev cX5_tick : ByteArray := prog_7_method_29_code
def yX5_tick : MethodName := ⟨RX5, "tick", "(I)I"⟩
abbrev cX5_noKey : ByteArray := prog_7_method_30_code
def yX5_noKey : MethodName := ⟨RX5, "noKey", "(I)Z"⟩
abbrev cX5_setKey : ByteArray := prog_7_method_31_code
def yX5_setKey : MethodName := ⟨RX5, "setKey", "(II)I"⟩
abbrev cX5_pressed : ByteArray := prog_7_method_32_code
def yX5_pressed : MethodName := ⟨RX5, "pressed", "()I"⟩
abbrev cX5_liftAll : ByteArray := prog_7_method_33_code
def yX5_liftAll : MethodName := ⟨RX5, "liftAll", "()I"⟩
abbrev cX5_dropKept : ByteArray := prog_7_method_34_code
def yX5_dropKept : MethodName := ⟨RX5, "dropKept", "()I"⟩
abbrev cX5_sustain : ByteArray := prog_7_method_35_code
def yX5_sustain : MethodName := ⟨RX5, "sustain", "(Z)I"⟩
abbrev cX5_sostenuto : ByteArray := prog_7_method_36_code
def yX5_sostenuto : MethodName := ⟨RX5, "sostenuto", "(Z)I"⟩
abbrev cX5_key : ByteArray := prog_7_method_37_code
def yX5_key : MethodName := ⟨RX5, "key", "(II)I"⟩
abbrev cX5_voice : ByteArray := prog_7_method_38_code
def yX5_voice : MethodName := ⟨RX5, "voice", "(II)I"⟩
abbrev cX5_count : ByteArray := prog_7_method_39_code
def yX5_count : MethodName := ⟨RX5, "count", "(I)I"⟩
abbrev cX5_log : ByteArray := prog_7_method_40_code
def yX5_log : MethodName := ⟨RX5, "log", "(II)I"⟩
abbrev cX5_velocity : ByteArray := prog_7_method_41_code
def yX5_velocity : MethodName := ⟨RX5, "velocity", "(I)I"⟩
abbrev cX5_nextTaken : ByteArray := prog_7_method_42_code
def yX5_nextTaken : MethodName := ⟨RX5, "nextTaken", "()I"⟩
abbrev cX5_connected : ByteArray := prog_7_method_43_code
def yX5_connected : MethodName := ⟨RX5, "connected", "(I)I"⟩
abbrev cX5_worstKey : ByteArray := prog_7_method_44_code
def yX5_worstKey : MethodName := ⟨RX5, "worstKey", "()I"⟩
abbrev cX5_areAtRest : ByteArray := prog_7_method_45_code
def yX5_areAtRest : MethodName := ⟨RX5, "areAtRest", "()Z"⟩
abbrev cX5_restAfter : ByteArray := prog_7_method_46_code
def yX5_restAfter : MethodName := ⟨RX5, "restAfter", "(I)I"⟩
def RJ6 : String := "java/lang/Integer"
def TJ6 : u_T := fun k => match k with
  | _ => ("", "", "", false)
def tyJ6 : Nat → FieldType := fun k => match k with
  | _ => .int
abbrev wsJ60 : List Cond := u_ws RJ6 TJ6 0
theorem nmJ6 : ∀ a, a < 0 → ∀ b, b < 0 → a ≠ b → (TJ6 a).2.1 ≠ (TJ6 b).2.1 := by decide +kernel
theorem tyJ6_ok : ∀ k, k < 0 → parseFieldDescriptor (TJ6 k).2.2.1 = some (tyJ6 k) := by decide +kernel
abbrev cJ6_bitCount_0f7a4 : ByteArray := prog_8_method_49_code
def yJ6_bitCount_0f7a4 : MethodName := ⟨RJ6, "bitCount", "(I)I"⟩
def RJ9 : String := "java/lang/Math"
def TJ9 : u_T := fun k => match k with
  | _ => ("", "", "", false)
def tyJ9 : Nat → FieldType := fun k => match k with
  | _ => .int
abbrev wsJ90 : List Cond := u_ws RJ9 TJ9 0
theorem nmJ9 : ∀ a, a < 0 → ∀ b, b < 0 → a ≠ b → (TJ9 a).2.1 ≠ (TJ9 b).2.1 := by decide +kernel
theorem tyJ9_ok : ∀ k, k < 0 → parseFieldDescriptor (TJ9 k).2.2.1 = some (tyJ9 k) := by decide +kernel
abbrev cJ9_floorMod_7cf53 : ByteArray := prog_9_method_50_code
def yJ9_floorMod_7cf53 : MethodName := ⟨RJ9, "floorMod", "(II)I"⟩
abbrev cJ9_max_7cf53 : ByteArray := prog_9_method_65_code
def yJ9_max_7cf53 : MethodName := ⟨RJ9, "max", "(II)I"⟩
abbrev cJ9_min_7cf53 : ByteArray := prog_9_method_69_code
def yJ9_min_7cf53 : MethodName := ⟨RJ9, "min", "(II)I"⟩
def RL : String := "KeyScannerLaw"
abbrev cL_law : ByteArray := code
def yL_law : MethodName := ⟨RL, "law", "([I)Z"⟩
def wsX0_init : List Cond := .code yX0_init cX0_init 1 none :: ([.methodLink RX0 3 objectInit, .instanceMethod objectInit, .code objectInit ⟨#[0xb1]⟩ 1 none, .arrayClass .int, .fieldLink RX0 9 "KeyScanner$Journal" "times" "[I", .fieldLink RX0 15 "KeyScanner$Journal" "kinds" "[I", .fieldLink RX0 18 "KeyScanner$Journal" "keys" "[I", .fieldLink RX0 21 "KeyScanner$Journal" "made" "I"] ++ wsX00)
def wsX0_empty : List Cond := .code yX0_empty cX0_empty 1 none :: ([.fieldLink RX0 21 "KeyScanner$Journal" "made" "I"] ++ wsX00)
def wsJ9_floorMod_7cf53 : List Cond := .code yJ9_floorMod_7cf53 cJ9_floorMod_7cf53 3 (some .int) :: ([])
def wsX0_write : List Cond := .code yX0_write cX0_write 5 none :: ([.fieldLink RX0 21 "KeyScanner$Journal" "made" "I", .fieldLink RX0 9 "KeyScanner$Journal" "times" "[I", .fieldLink RX0 15 "KeyScanner$Journal" "kinds" "[I", .fieldLink RX0 18 "KeyScanner$Journal" "keys" "[I", .methodLink RX0 25 yJ9_floorMod_7cf53, .static yJ9_floorMod_7cf53, .initialized RJ9, .code yJ9_floorMod_7cf53 cJ9_floorMod_7cf53 3 (some .int)] ++ wsX00)
def wsX0_size : List Cond := .code yX0_size cX0_size 1 (some .int) :: ([.fieldLink RX0 21 "KeyScanner$Journal" "made" "I", .methodLink RX0 31 Lib.Math.min.name, .static Lib.Math.min.name, .initialized "java/lang/Math", .code Lib.Math.min.name Lib.Math.min.code 2 (some .int)] ++ wsX00)
def wsX0_place : List Cond := .code yX0_place cX0_place 2 (some .int) :: ([.fieldLink RX0 21 "KeyScanner$Journal" "made" "I", .methodLink RX0 25 yJ9_floorMod_7cf53, .static yJ9_floorMod_7cf53, .initialized RJ9, .code yJ9_floorMod_7cf53 cJ9_floorMod_7cf53 3 (some .int)] ++ wsX00)
def wsX2_init : List Cond := .code yX2_init cX2_init 1 none :: ([.methodLink RX2 3 objectInit, .instanceMethod objectInit, .code objectInit ⟨#[0xb1]⟩ 1 none, .arrayClass .int, .fieldLink RX2 9 "KeyScanner$Net" "closed" "[I", .fieldLink RX2 15 "KeyScanner$Net" "joined" "[I"] ++ wsX20)
def wsX1_init : List Cond := .code yX1_init cX1_init 1 none :: ([.methodLink RX1 3 objectInit, .instanceMethod objectInit, .code objectInit ⟨#[0xb1]⟩ 1 none, .arrayClass .int, .fieldLink RX1 9 "KeyScanner$Matrix" "positions" "[I", .classLink RX1 15 RX2, .instantiable RX2 2, .initialized RX2, .fieldLink RX1 18 "KeyScanner$Matrix" "first" "LKeyScanner$Net;", .fieldLink RX1 22 "KeyScanner$Matrix" "second" "LKeyScanner$Net;", .fieldLink RX1 25 "KeyScanner$Matrix" "rows" "I", .fieldLink RX1 29 "KeyScanner$Matrix" "columns" "I", .fieldLink RX1 32 "KeyScanner$Matrix" "diodes" "Z", .instanceMethod yX2_init, .code yX2_init cX2_init 1 none, .methodLink RX2 3 objectInit, .fieldLink RX2 9 "KeyScanner$Net" "closed" "[I", .fieldLink RX2 15 "KeyScanner$Net" "joined" "[I"] ++ wsX10 ++ wsX20)
def wsX1_size : List Cond := .code yX1_size cX1_size 1 (some .int) :: ([.fieldLink RX1 25 "KeyScanner$Matrix" "rows" "I", .fieldLink RX1 29 "KeyScanner$Matrix" "columns" "I"] ++ wsX10)
def wsX1_has : List Cond := .code yX1_has cX1_has 2 (some .boolean) :: ([.methodLink RX1 36 yX1_size, .instanceMethod yX1_size, .selects RX1 yX1_size yX1_size, .initialized RX1, .code yX1_size cX1_size 1 (some .int), .fieldLink RX1 25 "KeyScanner$Matrix" "rows" "I", .fieldLink RX1 29 "KeyScanner$Matrix" "columns" "I"] ++ wsX10)
def wsX2_open : List Cond := .code yX2_open cX2_open 2 none :: ([.fieldLink RX2 9 "KeyScanner$Net" "closed" "[I", .fieldLink RX2 15 "KeyScanner$Net" "joined" "[I"] ++ wsX20)
def wsX1_lift : List Cond := .code yX1_lift cX1_lift 2 none :: ([.fieldLink RX1 9 "KeyScanner$Matrix" "positions" "[I", .fieldLink RX1 18 "KeyScanner$Matrix" "first" "LKeyScanner$Net;", .fieldLink RX1 22 "KeyScanner$Matrix" "second" "LKeyScanner$Net;", .methodLink RX1 43 yX2_open, .instanceMethod yX2_open, .selects RX2 yX2_open yX2_open, .initialized RX2, .code yX2_open cX2_open 2 none, .fieldLink RX2 9 "KeyScanner$Net" "closed" "[I", .fieldLink RX2 15 "KeyScanner$Net" "joined" "[I"] ++ wsX10 ++ wsX20)
def wsX1_layOut : List Cond := .code yX1_layOut cX1_layOut 3 none :: ([.fieldLink RX1 25 "KeyScanner$Matrix" "rows" "I", .fieldLink RX1 29 "KeyScanner$Matrix" "columns" "I", .methodLink RX1 40 yX1_lift, .instanceMethod yX1_lift, .selects RX1 yX1_lift yX1_lift, .initialized RX1, .code yX1_lift cX1_lift 2 none, .fieldLink RX1 9 "KeyScanner$Matrix" "positions" "[I", .fieldLink RX1 18 "KeyScanner$Matrix" "first" "LKeyScanner$Net;", .fieldLink RX1 22 "KeyScanner$Matrix" "second" "LKeyScanner$Net;", .methodLink RX1 43 yX2_open, .instanceMethod yX2_open, .selects RX2 yX2_open yX2_open, .initialized RX2, .code yX2_open cX2_open 2 none, .fieldLink RX2 9 "KeyScanner$Net" "closed" "[I", .fieldLink RX2 15 "KeyScanner$Net" "joined" "[I"] ++ wsX10 ++ wsX20)
def wsX2_joinThrough : List Cond := .code yX2_joinThrough cX2_joinThrough 4 none :: ([.fieldLink RX2 15 "KeyScanner$Net" "joined" "[I"] ++ wsX20)
def wsX2_join : List Cond := .code yX2_join cX2_join 2 none :: ([.fieldLink RX2 15 "KeyScanner$Net" "joined" "[I", .fieldLink RX2 9 "KeyScanner$Net" "closed" "[I", .methodLink RX2 21 yX2_joinThrough, .instanceMethod yX2_joinThrough, .selects RX2 yX2_joinThrough yX2_joinThrough, .initialized RX2, .code yX2_joinThrough cX2_joinThrough 4 none] ++ wsX20)
def wsX2_put : List Cond := .code yX2_put cX2_put 5 none :: ([.fieldLink RX2 9 "KeyScanner$Net" "closed" "[I", .methodLink RX2 18 yX2_join, .instanceMethod yX2_join, .selects RX2 yX2_join yX2_join, .initialized RX2, .code yX2_join cX2_join 2 none, .fieldLink RX2 15 "KeyScanner$Net" "joined" "[I", .methodLink RX2 21 yX2_joinThrough, .instanceMethod yX2_joinThrough, .selects RX2 yX2_joinThrough yX2_joinThrough, .code yX2_joinThrough cX2_joinThrough 4 none] ++ wsX20)
def wsX1_move : List Cond := .code yX1_move cX1_move 3 none :: ([.fieldLink RX1 9 "KeyScanner$Matrix" "positions" "[I", .fieldLink RX1 18 "KeyScanner$Matrix" "first" "LKeyScanner$Net;", .fieldLink RX1 29 "KeyScanner$Matrix" "columns" "I", .fieldLink RX1 22 "KeyScanner$Matrix" "second" "LKeyScanner$Net;", .methodLink RX1 46 yX2_put, .instanceMethod yX2_put, .selects RX2 yX2_put yX2_put, .initialized RX2, .code yX2_put cX2_put 5 none, .fieldLink RX2 9 "KeyScanner$Net" "closed" "[I", .methodLink RX2 18 yX2_join, .instanceMethod yX2_join, .selects RX2 yX2_join yX2_join, .code yX2_join cX2_join 2 none, .fieldLink RX2 15 "KeyScanner$Net" "joined" "[I", .methodLink RX2 21 yX2_joinThrough, .instanceMethod yX2_joinThrough, .selects RX2 yX2_joinThrough yX2_joinThrough, .code yX2_joinThrough cX2_joinThrough 4 none] ++ wsX10 ++ wsX20)
def wsX4_one : List Cond := .code yX4_one cX4_one 1 (some .int) :: ([])
def wsX1_pressed : List Cond := .code yX1_pressed cX1_pressed 3 (some .int) :: ([.fieldLink RX1 9 "KeyScanner$Matrix" "positions" "[I", .methodLink RX1 36 yX1_size, .instanceMethod yX1_size, .selects RX1 yX1_size yX1_size, .initialized RX1, .code yX1_size cX1_size 1 (some .int), .fieldLink RX1 25 "KeyScanner$Matrix" "rows" "I", .fieldLink RX1 29 "KeyScanner$Matrix" "columns" "I", .static yX4_one, .initialized RX4, .code yX4_one cX4_one 1 (some .int)] ++ wsX10)
def wsX1_seen : List Cond := .code yX1_seen cX1_seen 3 (some .int) :: ([.fieldLink RX1 32 "KeyScanner$Matrix" "diodes" "Z", .fieldLink RX1 54 "KeyScanner$Net" "closed" "[I", .fieldLink RX1 57 "KeyScanner$Net" "joined" "[I"] ++ wsX10 ++ wsX20)
def wsX1_contains : List Cond := .code yX1_contains cX1_contains 2 (some .boolean) :: ([])
def wsX1_firstSeen : List Cond := .code yX1_firstSeen cX1_firstSeen 2 (some .boolean) :: ([.fieldLink RX1 18 "KeyScanner$Matrix" "first" "LKeyScanner$Net;", .fieldLink RX1 29 "KeyScanner$Matrix" "columns" "I", .methodLink RX1 60 yX1_seen, .instanceMethod yX1_seen, .selects RX1 yX1_seen yX1_seen, .initialized RX1, .code yX1_seen cX1_seen 3 (some .int), .fieldLink RX1 32 "KeyScanner$Matrix" "diodes" "Z", .fieldLink RX1 54 "KeyScanner$Net" "closed" "[I", .fieldLink RX1 57 "KeyScanner$Net" "joined" "[I", .methodLink RX1 64 yX1_contains, .static yX1_contains, .code yX1_contains cX1_contains 2 (some .boolean)] ++ wsX10 ++ wsX20)
def wsX1_secondSeen : List Cond := .code yX1_secondSeen cX1_secondSeen 2 (some .boolean) :: ([.fieldLink RX1 22 "KeyScanner$Matrix" "second" "LKeyScanner$Net;", .fieldLink RX1 29 "KeyScanner$Matrix" "columns" "I", .methodLink RX1 60 yX1_seen, .instanceMethod yX1_seen, .selects RX1 yX1_seen yX1_seen, .initialized RX1, .code yX1_seen cX1_seen 3 (some .int), .fieldLink RX1 32 "KeyScanner$Matrix" "diodes" "Z", .fieldLink RX1 54 "KeyScanner$Net" "closed" "[I", .fieldLink RX1 57 "KeyScanner$Net" "joined" "[I", .methodLink RX1 64 yX1_contains, .static yX1_contains, .code yX1_contains cX1_contains 2 (some .boolean)] ++ wsX10 ++ wsX20)
def wsX1_ghostsIn : List Cond := .code yX1_ghostsIn cX1_ghostsIn 2 (some .int) :: ([.fieldLink RX1 18 "KeyScanner$Matrix" "first" "LKeyScanner$Net;", .fieldLink RX1 54 "KeyScanner$Net" "closed" "[I", .fieldLink RX1 22 "KeyScanner$Matrix" "second" "LKeyScanner$Net;", .methodLink RX1 60 yX1_seen, .instanceMethod yX1_seen, .selects RX1 yX1_seen yX1_seen, .initialized RX1, .code yX1_seen cX1_seen 3 (some .int), .fieldLink RX1 32 "KeyScanner$Matrix" "diodes" "Z", .fieldLink RX1 57 "KeyScanner$Net" "joined" "[I"] ++ wsX10 ++ wsX20)
def wsX1_isGhost : List Cond := .code yX1_isGhost cX1_isGhost 2 (some .boolean) :: ([.fieldLink RX1 29 "KeyScanner$Matrix" "columns" "I", .methodLink RX1 68 yX1_ghostsIn, .instanceMethod yX1_ghostsIn, .selects RX1 yX1_ghostsIn yX1_ghostsIn, .initialized RX1, .code yX1_ghostsIn cX1_ghostsIn 2 (some .int), .fieldLink RX1 18 "KeyScanner$Matrix" "first" "LKeyScanner$Net;", .fieldLink RX1 54 "KeyScanner$Net" "closed" "[I", .fieldLink RX1 22 "KeyScanner$Matrix" "second" "LKeyScanner$Net;", .methodLink RX1 60 yX1_seen, .instanceMethod yX1_seen, .selects RX1 yX1_seen yX1_seen, .code yX1_seen cX1_seen 3 (some .int), .fieldLink RX1 32 "KeyScanner$Matrix" "diodes" "Z", .fieldLink RX1 57 "KeyScanner$Net" "joined" "[I", .methodLink RX1 64 yX1_contains, .static yX1_contains, .code yX1_contains cX1_contains 2 (some .boolean)] ++ wsX10 ++ wsX20)
def wsX1_isDoubtful : List Cond := .code yX1_isDoubtful cX1_isDoubtful 6 (some .boolean) :: ([.fieldLink RX1 29 "KeyScanner$Matrix" "columns" "I", .fieldLink RX1 25 "KeyScanner$Matrix" "rows" "I", .fieldLink RX1 18 "KeyScanner$Matrix" "first" "LKeyScanner$Net;", .methodLink RX1 60 yX1_seen, .instanceMethod yX1_seen, .selects RX1 yX1_seen yX1_seen, .initialized RX1, .code yX1_seen cX1_seen 3 (some .int), .fieldLink RX1 32 "KeyScanner$Matrix" "diodes" "Z", .fieldLink RX1 54 "KeyScanner$Net" "closed" "[I", .fieldLink RX1 57 "KeyScanner$Net" "joined" "[I"] ++ wsX10 ++ wsX20)
def wsX1_doubtful : List Cond := .code yX1_doubtful cX1_doubtful 3 (some .int) :: ([.methodLink RX1 36 yX1_size, .instanceMethod yX1_size, .selects RX1 yX1_size yX1_size, .initialized RX1, .code yX1_size cX1_size 1 (some .int), .fieldLink RX1 25 "KeyScanner$Matrix" "rows" "I", .fieldLink RX1 29 "KeyScanner$Matrix" "columns" "I", .methodLink RX1 72 yX1_isDoubtful, .instanceMethod yX1_isDoubtful, .selects RX1 yX1_isDoubtful yX1_isDoubtful, .code yX1_isDoubtful cX1_isDoubtful 6 (some .boolean), .fieldLink RX1 18 "KeyScanner$Matrix" "first" "LKeyScanner$Net;", .methodLink RX1 60 yX1_seen, .instanceMethod yX1_seen, .selects RX1 yX1_seen yX1_seen, .code yX1_seen cX1_seen 3 (some .int), .fieldLink RX1 32 "KeyScanner$Matrix" "diodes" "Z", .fieldLink RX1 54 "KeyScanner$Net" "closed" "[I", .fieldLink RX1 57 "KeyScanner$Net" "joined" "[I", .static yX4_one, .initialized RX4, .code yX4_one cX4_one 1 (some .int)] ++ wsX10 ++ wsX20)
def wsJ6_bitCount_0f7a4 : List Cond := .code yJ6_bitCount_0f7a4 cJ6_bitCount_0f7a4 1 (some .int) :: ([.constant RJ6 265 (1431655765), .constant RJ6 266 (858993459), .constant RJ6 267 (252645135)])
def wsX1_ghosts : List Cond := .code yX1_ghosts cX1_ghosts 3 (some .int) :: ([.fieldLink RX1 25 "KeyScanner$Matrix" "rows" "I", .methodLink RX1 68 yX1_ghostsIn, .instanceMethod yX1_ghostsIn, .selects RX1 yX1_ghostsIn yX1_ghostsIn, .initialized RX1, .code yX1_ghostsIn cX1_ghostsIn 2 (some .int), .fieldLink RX1 18 "KeyScanner$Matrix" "first" "LKeyScanner$Net;", .fieldLink RX1 54 "KeyScanner$Net" "closed" "[I", .fieldLink RX1 22 "KeyScanner$Matrix" "second" "LKeyScanner$Net;", .methodLink RX1 60 yX1_seen, .instanceMethod yX1_seen, .selects RX1 yX1_seen yX1_seen, .code yX1_seen cX1_seen 3 (some .int), .fieldLink RX1 32 "KeyScanner$Matrix" "diodes" "Z", .fieldLink RX1 57 "KeyScanner$Net" "joined" "[I", .methodLink RX1 76 yJ6_bitCount_0f7a4, .static yJ6_bitCount_0f7a4, .initialized RJ6, .code yJ6_bitCount_0f7a4 cJ6_bitCount_0f7a4 1 (some .int), .constant RJ6 265 (1431655765), .constant RJ6 266 (858993459), .constant RJ6 267 (252645135)] ++ wsX10 ++ wsX20)
def wsX1_ghostsWithout_r1 : List Cond := [Cond.fieldLink RX1 9 "KeyScanner$Matrix" "positions" "[I", Cond.methodLink RX1 81 yX1_move, Cond.instanceMethod yX1_move, Cond.selects RX1 yX1_move yX1_move, Cond.initialized RX1, Cond.code yX1_move cX1_move 3 none, Cond.fieldLink RX1 18 "KeyScanner$Matrix" "first" "LKeyScanner$Net;", Cond.fieldLink RX1 29 "KeyScanner$Matrix" "columns" "I", Cond.fieldLink RX1 22 "KeyScanner$Matrix" "second" "LKeyScanner$Net;", Cond.methodLink RX1 46 yX2_put, Cond.instanceMethod yX2_put, Cond.selects RX2 yX2_put yX2_put, Cond.initialized RX2, Cond.code yX2_put cX2_put 5 none, Cond.fieldLink RX2 9 "KeyScanner$Net" "closed" "[I", Cond.methodLink RX2 18 yX2_join, Cond.instanceMethod yX2_join, Cond.selects RX2 yX2_join yX2_join, Cond.code yX2_join cX2_join 2 none, Cond.fieldLink RX2 15 "KeyScanner$Net" "joined" "[I", Cond.methodLink RX2 21 yX2_joinThrough, Cond.instanceMethod yX2_joinThrough, Cond.selects RX2 yX2_joinThrough yX2_joinThrough, Cond.code yX2_joinThrough cX2_joinThrough 4 none]
def wsX1_ghostsWithout_r2 : List Cond := [Cond.methodLink RX1 85 yX1_ghosts, Cond.instanceMethod yX1_ghosts, Cond.selects RX1 yX1_ghosts yX1_ghosts, Cond.code yX1_ghosts cX1_ghosts 3 (some .int), Cond.fieldLink RX1 25 "KeyScanner$Matrix" "rows" "I", Cond.methodLink RX1 68 yX1_ghostsIn, Cond.instanceMethod yX1_ghostsIn, Cond.selects RX1 yX1_ghostsIn yX1_ghostsIn, Cond.code yX1_ghostsIn cX1_ghostsIn 2 (some .int), Cond.fieldLink RX1 54 "KeyScanner$Net" "closed" "[I", Cond.methodLink RX1 60 yX1_seen, Cond.instanceMethod yX1_seen, Cond.selects RX1 yX1_seen yX1_seen, Cond.code yX1_seen cX1_seen 3 (some .int), Cond.fieldLink RX1 32 "KeyScanner$Matrix" "diodes" "Z", Cond.fieldLink RX1 57 "KeyScanner$Net" "joined" "[I", Cond.methodLink RX1 76 yJ6_bitCount_0f7a4, Cond.static yJ6_bitCount_0f7a4, Cond.initialized RJ6, Cond.code yJ6_bitCount_0f7a4 cJ6_bitCount_0f7a4 1 (some .int), Cond.constant RJ6 265 (1431655765), Cond.constant RJ6 266 (858993459), Cond.constant RJ6 267 (252645135)]
def wsX1_ghostsWithout : List Cond := .code yX1_ghostsWithout cX1_ghostsWithout 4 (some .int) :: ((wsX1_ghostsWithout_r1 ++ wsX1_ghostsWithout_r2) ++ wsX10 ++ wsX20)
def wsX2_rowsJoinedWith : List Cond := .code yX2_rowsJoinedWith cX2_rowsJoinedWith 4 (some .int) :: ([.fieldLink RX2 15 "KeyScanner$Net" "joined" "[I"] ++ wsX20)
def wsX3_init : List Cond := .code yX3_init cX3_init 2 none :: ([.methodLink RX3 3 objectInit, .instanceMethod objectInit, .code objectInit ⟨#[0xb1]⟩ 1 none, .arrayClass .int, .fieldLink RX3 9 "KeyScanner$Voices" "states" "[I", .fieldLink RX3 15 "KeyScanner$Voices" "keys" "[I", .fieldLink RX3 18 "KeyScanner$Voices" "velocities" "[I", .fieldLink RX3 21 "KeyScanner$Voices" "begun" "[I", .arrayClass .boolean, .fieldLink RX3 24 "KeyScanner$Voices" "captured" "[Z", .fieldLink RX3 28 "KeyScanner$Voices" "number" "I", .fieldLink RX3 32 "KeyScanner$Voices" "rule" "I", .fieldLink RX3 35 "KeyScanner$Voices" "taken" "I", .fieldLink RX3 38 "KeyScanner$Voices" "sustained" "Z", .fieldLink RX3 42 "KeyScanner$Voices" "sostenutoDown" "Z", .fieldLink RX3 45 "KeyScanner$Voices" "journal" "LKeyScanner$Journal;"] ++ wsX30)
def wsX3_silence : List Cond := .code yX3_silence cX3_silence 2 none :: ([.fieldLink RX3 9 "KeyScanner$Voices" "states" "[I", .fieldLink RX3 24 "KeyScanner$Voices" "captured" "[Z", .fieldLink RX3 35 "KeyScanner$Voices" "taken" "I", .fieldLink RX3 38 "KeyScanner$Voices" "sustained" "Z", .fieldLink RX3 42 "KeyScanner$Voices" "sostenutoDown" "Z"] ++ wsX30)
def wsX3_free : List Cond := .code yX3_free cX3_free 3 none :: ([.fieldLink RX3 9 "KeyScanner$Voices" "states" "[I", .fieldLink RX3 24 "KeyScanner$Voices" "captured" "[Z", .fieldLink RX3 45 "KeyScanner$Voices" "journal" "LKeyScanner$Journal;", .fieldLink RX3 15 "KeyScanner$Voices" "keys" "[I", .methodLink RX3 64 yX0_write, .instanceMethod yX0_write, .selects RX0 yX0_write yX0_write, .initialized RX0, .code yX0_write cX0_write 5 none, .fieldLink RX0 21 "KeyScanner$Journal" "made" "I", .fieldLink RX0 9 "KeyScanner$Journal" "times" "[I", .fieldLink RX0 15 "KeyScanner$Journal" "kinds" "[I", .fieldLink RX0 18 "KeyScanner$Journal" "keys" "[I", .methodLink RX0 25 yJ9_floorMod_7cf53, .static yJ9_floorMod_7cf53, .initialized RJ9, .code yJ9_floorMod_7cf53 cJ9_floorMod_7cf53 3 (some .int)] ++ wsX30 ++ wsX00)
def wsX3_limit : List Cond := .code yX3_limit cX3_limit 4 none :: ([.fieldLink RX3 28 "KeyScanner$Voices" "number" "I", .fieldLink RX3 9 "KeyScanner$Voices" "states" "[I", .methodLink RX3 49 yX3_free, .instanceMethod yX3_free, .selects RX3 yX3_free yX3_free, .initialized RX3, .code yX3_free cX3_free 3 none, .fieldLink RX3 24 "KeyScanner$Voices" "captured" "[Z", .fieldLink RX3 45 "KeyScanner$Voices" "journal" "LKeyScanner$Journal;", .fieldLink RX3 15 "KeyScanner$Voices" "keys" "[I", .methodLink RX3 64 yX0_write, .instanceMethod yX0_write, .selects RX0 yX0_write yX0_write, .initialized RX0, .code yX0_write cX0_write 5 none, .fieldLink RX0 21 "KeyScanner$Journal" "made" "I", .fieldLink RX0 9 "KeyScanner$Journal" "times" "[I", .fieldLink RX0 15 "KeyScanner$Journal" "kinds" "[I", .fieldLink RX0 18 "KeyScanner$Journal" "keys" "[I", .methodLink RX0 25 yJ9_floorMod_7cf53, .static yJ9_floorMod_7cf53, .initialized RJ9, .code yJ9_floorMod_7cf53 cJ9_floorMod_7cf53 3 (some .int)] ++ wsX30 ++ wsX00)
def wsX3_withKey : List Cond := .code yX3_withKey cX3_withKey 3 (some .int) :: ([.fieldLink RX3 28 "KeyScanner$Voices" "number" "I", .fieldLink RX3 9 "KeyScanner$Voices" "states" "[I", .fieldLink RX3 15 "KeyScanner$Voices" "keys" "[I"] ++ wsX30)
def wsX3_firstFree : List Cond := .code yX3_firstFree cX3_firstFree 2 (some .int) :: ([.fieldLink RX3 28 "KeyScanner$Voices" "number" "I", .fieldLink RX3 9 "KeyScanner$Voices" "states" "[I"] ++ wsX30)
def wsX3_goesBefore : List Cond := .code yX3_goesBefore cX3_goesBefore 3 (some .boolean) :: ([.fieldLink RX3 32 "KeyScanner$Voices" "rule" "I", .fieldLink RX3 9 "KeyScanner$Voices" "states" "[I", .fieldLink RX3 18 "KeyScanner$Voices" "velocities" "[I", .fieldLink RX3 21 "KeyScanner$Voices" "begun" "[I"] ++ wsX30)
def wsX3_victim : List Cond := .code yX3_victim cX3_victim 3 (some .int) :: ([.fieldLink RX3 28 "KeyScanner$Voices" "number" "I", .methodLink RX3 80 yX3_goesBefore, .instanceMethod yX3_goesBefore, .selects RX3 yX3_goesBefore yX3_goesBefore, .initialized RX3, .code yX3_goesBefore cX3_goesBefore 3 (some .boolean), .fieldLink RX3 32 "KeyScanner$Voices" "rule" "I", .fieldLink RX3 9 "KeyScanner$Voices" "states" "[I", .fieldLink RX3 18 "KeyScanner$Voices" "velocities" "[I", .fieldLink RX3 21 "KeyScanner$Voices" "begun" "[I"] ++ wsX30)
def wsX3_sound_r1 : List Cond := [Cond.fieldLink RX3 35 "KeyScanner$Voices" "taken" "I", Cond.fieldLink RX3 45 "KeyScanner$Voices" "journal" "LKeyScanner$Journal;", Cond.fieldLink RX3 15 "KeyScanner$Voices" "keys" "[I", Cond.fieldLink RX3 9 "KeyScanner$Voices" "states" "[I", Cond.fieldLink RX3 18 "KeyScanner$Voices" "velocities" "[I", Cond.fieldLink RX3 21 "KeyScanner$Voices" "begun" "[I", Cond.fieldLink RX3 24 "KeyScanner$Voices" "captured" "[Z", Cond.methodLink RX3 53 yX3_withKey, Cond.instanceMethod yX3_withKey, Cond.selects RX3 yX3_withKey yX3_withKey, Cond.initialized RX3, Cond.code yX3_withKey cX3_withKey 3 (some .int), Cond.fieldLink RX3 28 "KeyScanner$Voices" "number" "I", Cond.methodLink RX3 57 yX3_firstFree, Cond.instanceMethod yX3_firstFree, Cond.selects RX3 yX3_firstFree yX3_firstFree, Cond.code yX3_firstFree cX3_firstFree 2 (some .int), Cond.methodLink RX3 61 yX3_victim, Cond.instanceMethod yX3_victim, Cond.selects RX3 yX3_victim yX3_victim, Cond.code yX3_victim cX3_victim 3 (some .int), Cond.methodLink RX3 80 yX3_goesBefore, Cond.instanceMethod yX3_goesBefore, Cond.selects RX3 yX3_goesBefore yX3_goesBefore]
def wsX3_sound_r2 : List Cond := [Cond.code yX3_goesBefore cX3_goesBefore 3 (some .boolean), Cond.fieldLink RX3 32 "KeyScanner$Voices" "rule" "I", Cond.methodLink RX3 64 yX0_write, Cond.instanceMethod yX0_write, Cond.selects RX0 yX0_write yX0_write, Cond.initialized RX0, Cond.code yX0_write cX0_write 5 none, Cond.fieldLink RX0 21 "KeyScanner$Journal" "made" "I", Cond.fieldLink RX0 9 "KeyScanner$Journal" "times" "[I", Cond.fieldLink RX0 15 "KeyScanner$Journal" "kinds" "[I", Cond.fieldLink RX0 18 "KeyScanner$Journal" "keys" "[I", Cond.methodLink RX0 25 yJ9_floorMod_7cf53, Cond.static yJ9_floorMod_7cf53, Cond.initialized RJ9, Cond.code yJ9_floorMod_7cf53 cJ9_floorMod_7cf53 3 (some .int)]
def wsX3_sound : List Cond := .code yX3_sound cX3_sound 5 none :: ((wsX3_sound_r1 ++ wsX3_sound_r2) ++ wsX30 ++ wsX00)
def wsX3_isKeptByPedal : List Cond := .code yX3_isKeptByPedal cX3_isKeptByPedal 2 (some .boolean) :: ([.fieldLink RX3 38 "KeyScanner$Voices" "sustained" "Z", .fieldLink RX3 42 "KeyScanner$Voices" "sostenutoDown" "Z", .fieldLink RX3 24 "KeyScanner$Voices" "captured" "[Z"] ++ wsX30)
def wsX3_release_r1 : List Cond := [Cond.fieldLink RX3 9 "KeyScanner$Voices" "states" "[I", Cond.methodLink RX3 53 yX3_withKey, Cond.instanceMethod yX3_withKey, Cond.selects RX3 yX3_withKey yX3_withKey, Cond.initialized RX3, Cond.code yX3_withKey cX3_withKey 3 (some .int), Cond.fieldLink RX3 28 "KeyScanner$Voices" "number" "I", Cond.fieldLink RX3 15 "KeyScanner$Voices" "keys" "[I", Cond.methodLink RX3 70 yX3_isKeptByPedal, Cond.instanceMethod yX3_isKeptByPedal, Cond.selects RX3 yX3_isKeptByPedal yX3_isKeptByPedal, Cond.code yX3_isKeptByPedal cX3_isKeptByPedal 2 (some .boolean), Cond.fieldLink RX3 38 "KeyScanner$Voices" "sustained" "Z", Cond.fieldLink RX3 42 "KeyScanner$Voices" "sostenutoDown" "Z", Cond.fieldLink RX3 24 "KeyScanner$Voices" "captured" "[Z", Cond.methodLink RX3 49 yX3_free, Cond.instanceMethod yX3_free, Cond.selects RX3 yX3_free yX3_free, Cond.code yX3_free cX3_free 3 none, Cond.fieldLink RX3 45 "KeyScanner$Voices" "journal" "LKeyScanner$Journal;", Cond.methodLink RX3 64 yX0_write, Cond.instanceMethod yX0_write, Cond.selects RX0 yX0_write yX0_write, Cond.initialized RX0]
def wsX3_release_r2 : List Cond := [Cond.code yX0_write cX0_write 5 none, Cond.fieldLink RX0 21 "KeyScanner$Journal" "made" "I", Cond.fieldLink RX0 9 "KeyScanner$Journal" "times" "[I", Cond.fieldLink RX0 15 "KeyScanner$Journal" "kinds" "[I", Cond.fieldLink RX0 18 "KeyScanner$Journal" "keys" "[I", Cond.methodLink RX0 25 yJ9_floorMod_7cf53, Cond.static yJ9_floorMod_7cf53, Cond.initialized RJ9, Cond.code yJ9_floorMod_7cf53 cJ9_floorMod_7cf53 3 (some .int)]
def wsX3_release : List Cond := .code yX3_release cX3_release 4 none :: ((wsX3_release_r1 ++ wsX3_release_r2) ++ wsX30 ++ wsX00)
def wsX3_freeKept_r1 : List Cond := [Cond.fieldLink RX3 28 "KeyScanner$Voices" "number" "I", Cond.fieldLink RX3 9 "KeyScanner$Voices" "states" "[I", Cond.methodLink RX3 70 yX3_isKeptByPedal, Cond.instanceMethod yX3_isKeptByPedal, Cond.selects RX3 yX3_isKeptByPedal yX3_isKeptByPedal, Cond.initialized RX3, Cond.code yX3_isKeptByPedal cX3_isKeptByPedal 2 (some .boolean), Cond.fieldLink RX3 38 "KeyScanner$Voices" "sustained" "Z", Cond.fieldLink RX3 42 "KeyScanner$Voices" "sostenutoDown" "Z", Cond.fieldLink RX3 24 "KeyScanner$Voices" "captured" "[Z", Cond.methodLink RX3 49 yX3_free, Cond.instanceMethod yX3_free, Cond.selects RX3 yX3_free yX3_free, Cond.code yX3_free cX3_free 3 none, Cond.fieldLink RX3 45 "KeyScanner$Voices" "journal" "LKeyScanner$Journal;", Cond.fieldLink RX3 15 "KeyScanner$Voices" "keys" "[I", Cond.methodLink RX3 64 yX0_write, Cond.instanceMethod yX0_write, Cond.selects RX0 yX0_write yX0_write, Cond.initialized RX0, Cond.code yX0_write cX0_write 5 none, Cond.fieldLink RX0 21 "KeyScanner$Journal" "made" "I", Cond.fieldLink RX0 9 "KeyScanner$Journal" "times" "[I", Cond.fieldLink RX0 15 "KeyScanner$Journal" "kinds" "[I"]
def wsX3_freeKept_r2 : List Cond := [Cond.fieldLink RX0 18 "KeyScanner$Journal" "keys" "[I", Cond.methodLink RX0 25 yJ9_floorMod_7cf53, Cond.static yJ9_floorMod_7cf53, Cond.initialized RJ9, Cond.code yJ9_floorMod_7cf53 cJ9_floorMod_7cf53 3 (some .int)]
def wsX3_freeKept : List Cond := .code yX3_freeKept cX3_freeKept 4 (some .int) :: ((wsX3_freeKept_r1 ++ wsX3_freeKept_r2) ++ wsX30 ++ wsX00)
def wsX3_moveSustain_r1 : List Cond := [Cond.fieldLink RX3 38 "KeyScanner$Voices" "sustained" "Z", Cond.methodLink RX3 74 yX3_freeKept, Cond.instanceMethod yX3_freeKept, Cond.selects RX3 yX3_freeKept yX3_freeKept, Cond.initialized RX3, Cond.code yX3_freeKept cX3_freeKept 4 (some .int), Cond.fieldLink RX3 28 "KeyScanner$Voices" "number" "I", Cond.fieldLink RX3 9 "KeyScanner$Voices" "states" "[I", Cond.methodLink RX3 70 yX3_isKeptByPedal, Cond.instanceMethod yX3_isKeptByPedal, Cond.selects RX3 yX3_isKeptByPedal yX3_isKeptByPedal, Cond.code yX3_isKeptByPedal cX3_isKeptByPedal 2 (some .boolean), Cond.fieldLink RX3 42 "KeyScanner$Voices" "sostenutoDown" "Z", Cond.fieldLink RX3 24 "KeyScanner$Voices" "captured" "[Z", Cond.methodLink RX3 49 yX3_free, Cond.instanceMethod yX3_free, Cond.selects RX3 yX3_free yX3_free, Cond.code yX3_free cX3_free 3 none, Cond.fieldLink RX3 45 "KeyScanner$Voices" "journal" "LKeyScanner$Journal;", Cond.fieldLink RX3 15 "KeyScanner$Voices" "keys" "[I", Cond.methodLink RX3 64 yX0_write, Cond.instanceMethod yX0_write, Cond.selects RX0 yX0_write yX0_write, Cond.initialized RX0]
def wsX3_moveSustain_r2 : List Cond := [Cond.code yX0_write cX0_write 5 none, Cond.fieldLink RX0 21 "KeyScanner$Journal" "made" "I", Cond.fieldLink RX0 9 "KeyScanner$Journal" "times" "[I", Cond.fieldLink RX0 15 "KeyScanner$Journal" "kinds" "[I", Cond.fieldLink RX0 18 "KeyScanner$Journal" "keys" "[I", Cond.methodLink RX0 25 yJ9_floorMod_7cf53, Cond.static yJ9_floorMod_7cf53, Cond.initialized RJ9, Cond.code yJ9_floorMod_7cf53 cJ9_floorMod_7cf53 3 (some .int)]
def wsX3_moveSustain : List Cond := .code yX3_moveSustain cX3_moveSustain 3 (some .int) :: ((wsX3_moveSustain_r1 ++ wsX3_moveSustain_r2) ++ wsX30 ++ wsX00)
def wsX3_inState : List Cond := .code yX3_inState cX3_inState 4 (some .int) :: ([.fieldLink RX3 28 "KeyScanner$Voices" "number" "I", .fieldLink RX3 9 "KeyScanner$Voices" "states" "[I"] ++ wsX30)
def wsX3_moveSostenuto_r1 : List Cond := [Cond.fieldLink RX3 42 "KeyScanner$Voices" "sostenutoDown" "Z", Cond.fieldLink RX3 28 "KeyScanner$Voices" "number" "I", Cond.fieldLink RX3 24 "KeyScanner$Voices" "captured" "[Z", Cond.fieldLink RX3 9 "KeyScanner$Voices" "states" "[I", Cond.methodLink RX3 77 yX3_inState, Cond.instanceMethod yX3_inState, Cond.selects RX3 yX3_inState yX3_inState, Cond.initialized RX3, Cond.code yX3_inState cX3_inState 4 (some .int), Cond.methodLink RX3 74 yX3_freeKept, Cond.instanceMethod yX3_freeKept, Cond.selects RX3 yX3_freeKept yX3_freeKept, Cond.code yX3_freeKept cX3_freeKept 4 (some .int), Cond.methodLink RX3 70 yX3_isKeptByPedal, Cond.instanceMethod yX3_isKeptByPedal, Cond.selects RX3 yX3_isKeptByPedal yX3_isKeptByPedal, Cond.code yX3_isKeptByPedal cX3_isKeptByPedal 2 (some .boolean), Cond.fieldLink RX3 38 "KeyScanner$Voices" "sustained" "Z", Cond.methodLink RX3 49 yX3_free, Cond.instanceMethod yX3_free, Cond.selects RX3 yX3_free yX3_free, Cond.code yX3_free cX3_free 3 none, Cond.fieldLink RX3 45 "KeyScanner$Voices" "journal" "LKeyScanner$Journal;", Cond.fieldLink RX3 15 "KeyScanner$Voices" "keys" "[I"]
def wsX3_moveSostenuto_r2 : List Cond := [Cond.methodLink RX3 64 yX0_write, Cond.instanceMethod yX0_write, Cond.selects RX0 yX0_write yX0_write, Cond.initialized RX0, Cond.code yX0_write cX0_write 5 none, Cond.fieldLink RX0 21 "KeyScanner$Journal" "made" "I", Cond.fieldLink RX0 9 "KeyScanner$Journal" "times" "[I", Cond.fieldLink RX0 15 "KeyScanner$Journal" "kinds" "[I", Cond.fieldLink RX0 18 "KeyScanner$Journal" "keys" "[I", Cond.methodLink RX0 25 yJ9_floorMod_7cf53, Cond.static yJ9_floorMod_7cf53, Cond.initialized RJ9, Cond.code yJ9_floorMod_7cf53 cJ9_floorMod_7cf53 3 (some .int)]
def wsX3_moveSostenuto : List Cond := .code yX3_moveSostenuto cX3_moveSostenuto 4 (some .int) :: ((wsX3_moveSostenuto_r1 ++ wsX3_moveSostenuto_r2) ++ wsX30 ++ wsX00)
def wsX4_init_r1 : List Cond := [Cond.methodLink RX4 3 objectInit, Cond.instanceMethod objectInit, Cond.code objectInit ⟨#[0xb1]⟩ 1 none, Cond.classLink RX4 9 RX1, Cond.instantiable RX1 6, Cond.initialized RX1, Cond.fieldLink RX4 12 "KeyScanner" "matrix" "LKeyScanner$Matrix;", Cond.classLink RX4 16 RX0, Cond.instantiable RX0 4, Cond.initialized RX0, Cond.fieldLink RX4 19 "KeyScanner" "journal" "LKeyScanner$Journal;", Cond.classLink RX4 23 RX3, Cond.instantiable RX3 11, Cond.initialized RX3, Cond.fieldLink RX4 28 "KeyScanner" "voices" "LKeyScanner$Voices;", Cond.arrayClass .int, Cond.fieldLink RX4 32 "KeyScanner" "phases" "[I", Cond.fieldLink RX4 36 "KeyScanner" "beginnings" "[I", Cond.fieldLink RX4 39 "KeyScanner" "time" "I", Cond.fieldLink RX4 43 "KeyScanner" "slope" "I", Cond.fieldLink RX4 46 "KeyScanner" "blocking" "Z", Cond.fieldLink RX4 50 "KeyScanner" "lateRelease" "Z", Cond.fieldLink RX4 53 "KeyScanner" "strikes" "I", Cond.fieldLink RX4 56 "KeyScanner" "refused" "I"]
def wsX4_init_r2 : List Cond := [Cond.instanceMethod yX1_init, Cond.code yX1_init cX1_init 1 none, Cond.methodLink RX1 3 objectInit, Cond.fieldLink RX1 9 "KeyScanner$Matrix" "positions" "[I", Cond.classLink RX1 15 RX2, Cond.instantiable RX2 2, Cond.initialized RX2, Cond.fieldLink RX1 18 "KeyScanner$Matrix" "first" "LKeyScanner$Net;", Cond.fieldLink RX1 22 "KeyScanner$Matrix" "second" "LKeyScanner$Net;", Cond.fieldLink RX1 25 "KeyScanner$Matrix" "rows" "I", Cond.fieldLink RX1 29 "KeyScanner$Matrix" "columns" "I", Cond.fieldLink RX1 32 "KeyScanner$Matrix" "diodes" "Z", Cond.instanceMethod yX2_init, Cond.code yX2_init cX2_init 1 none, Cond.methodLink RX2 3 objectInit, Cond.fieldLink RX2 9 "KeyScanner$Net" "closed" "[I", Cond.fieldLink RX2 15 "KeyScanner$Net" "joined" "[I", Cond.instanceMethod yX0_init, Cond.code yX0_init cX0_init 1 none, Cond.methodLink RX0 3 objectInit, Cond.fieldLink RX0 9 "KeyScanner$Journal" "times" "[I", Cond.fieldLink RX0 15 "KeyScanner$Journal" "kinds" "[I", Cond.fieldLink RX0 18 "KeyScanner$Journal" "keys" "[I", Cond.fieldLink RX0 21 "KeyScanner$Journal" "made" "I"]
def wsX4_init_r3 : List Cond := [Cond.methodLink RX4 25 yX3_init, Cond.instanceMethod yX3_init, Cond.code yX3_init cX3_init 2 none, Cond.methodLink RX3 3 objectInit, Cond.fieldLink RX3 9 "KeyScanner$Voices" "states" "[I", Cond.fieldLink RX3 15 "KeyScanner$Voices" "keys" "[I", Cond.fieldLink RX3 18 "KeyScanner$Voices" "velocities" "[I", Cond.fieldLink RX3 21 "KeyScanner$Voices" "begun" "[I", Cond.arrayClass .boolean, Cond.fieldLink RX3 24 "KeyScanner$Voices" "captured" "[Z", Cond.fieldLink RX3 28 "KeyScanner$Voices" "number" "I", Cond.fieldLink RX3 32 "KeyScanner$Voices" "rule" "I", Cond.fieldLink RX3 35 "KeyScanner$Voices" "taken" "I", Cond.fieldLink RX3 38 "KeyScanner$Voices" "sustained" "Z", Cond.fieldLink RX3 42 "KeyScanner$Voices" "sostenutoDown" "Z", Cond.fieldLink RX3 45 "KeyScanner$Voices" "journal" "LKeyScanner$Journal;"]
def wsX4_init : List Cond := .code yX4_init cX4_init 1 none :: ((wsX4_init_r1 ++ (wsX4_init_r2 ++ wsX4_init_r3)) ++ wsX10 ++ wsX40 ++ wsX00 ++ wsX30 ++ wsX20)
def wsX4_within : List Cond := .code yX4_within cX4_within 3 (some .boolean) :: ([])
def wsX4_reset_r1 : List Cond := [Cond.fieldLink RX4 12 "KeyScanner" "matrix" "LKeyScanner$Matrix;", Cond.fieldLink RX4 19 "KeyScanner" "journal" "LKeyScanner$Journal;", Cond.fieldLink RX4 28 "KeyScanner" "voices" "LKeyScanner$Voices;", Cond.fieldLink RX4 32 "KeyScanner" "phases" "[I", Cond.fieldLink RX4 39 "KeyScanner" "time" "I", Cond.fieldLink RX4 53 "KeyScanner" "strikes" "I", Cond.fieldLink RX4 56 "KeyScanner" "refused" "I", Cond.methodLink RX4 59 yX4_within, Cond.static yX4_within, Cond.initialized RX4, Cond.code yX4_within cX4_within 3 (some .boolean), Cond.methodLink RX4 63 yX1_layOut, Cond.instanceMethod yX1_layOut, Cond.selects RX1 yX1_layOut yX1_layOut, Cond.initialized RX1, Cond.code yX1_layOut cX1_layOut 3 none, Cond.fieldLink RX1 25 "KeyScanner$Matrix" "rows" "I", Cond.fieldLink RX1 29 "KeyScanner$Matrix" "columns" "I", Cond.methodLink RX1 40 yX1_lift, Cond.instanceMethod yX1_lift, Cond.selects RX1 yX1_lift yX1_lift, Cond.code yX1_lift cX1_lift 2 none, Cond.fieldLink RX1 9 "KeyScanner$Matrix" "positions" "[I", Cond.fieldLink RX1 18 "KeyScanner$Matrix" "first" "LKeyScanner$Net;"]
def wsX4_reset_r2 : List Cond := [Cond.fieldLink RX1 22 "KeyScanner$Matrix" "second" "LKeyScanner$Net;", Cond.methodLink RX1 43 yX2_open, Cond.instanceMethod yX2_open, Cond.selects RX2 yX2_open yX2_open, Cond.initialized RX2, Cond.code yX2_open cX2_open 2 none, Cond.fieldLink RX2 9 "KeyScanner$Net" "closed" "[I", Cond.fieldLink RX2 15 "KeyScanner$Net" "joined" "[I", Cond.methodLink RX4 67 yX0_empty, Cond.instanceMethod yX0_empty, Cond.selects RX0 yX0_empty yX0_empty, Cond.initialized RX0, Cond.code yX0_empty cX0_empty 1 none, Cond.fieldLink RX0 21 "KeyScanner$Journal" "made" "I", Cond.methodLink RX4 70 yX3_silence, Cond.instanceMethod yX3_silence, Cond.selects RX3 yX3_silence yX3_silence, Cond.initialized RX3, Cond.code yX3_silence cX3_silence 2 none, Cond.fieldLink RX3 9 "KeyScanner$Voices" "states" "[I", Cond.fieldLink RX3 24 "KeyScanner$Voices" "captured" "[Z", Cond.fieldLink RX3 35 "KeyScanner$Voices" "taken" "I", Cond.fieldLink RX3 38 "KeyScanner$Voices" "sustained" "Z", Cond.fieldLink RX3 42 "KeyScanner$Voices" "sostenutoDown" "Z"]
def wsX4_reset_r3 : List Cond := [Cond.methodLink RX4 73 yX1_size, Cond.instanceMethod yX1_size, Cond.selects RX1 yX1_size yX1_size, Cond.code yX1_size cX1_size 1 (some .int)]
def wsX4_reset : List Cond := .code yX4_reset cX4_reset 4 (some .int) :: ((wsX4_reset_r1 ++ (wsX4_reset_r2 ++ wsX4_reset_r3)) ++ wsX40 ++ wsX10 ++ wsX20 ++ wsX00 ++ wsX30)
def wsX4_setDiodes_r1 : List Cond := [Cond.fieldLink RX4 12 "KeyScanner" "matrix" "LKeyScanner$Matrix;", Cond.fieldLink RX4 77 "KeyScanner$Matrix" "diodes" "Z", Cond.methodLink RX4 80 yX1_ghosts, Cond.instanceMethod yX1_ghosts, Cond.selects RX1 yX1_ghosts yX1_ghosts, Cond.initialized RX1, Cond.code yX1_ghosts cX1_ghosts 3 (some .int), Cond.fieldLink RX1 25 "KeyScanner$Matrix" "rows" "I", Cond.methodLink RX1 68 yX1_ghostsIn, Cond.instanceMethod yX1_ghostsIn, Cond.selects RX1 yX1_ghostsIn yX1_ghostsIn, Cond.code yX1_ghostsIn cX1_ghostsIn 2 (some .int), Cond.fieldLink RX1 18 "KeyScanner$Matrix" "first" "LKeyScanner$Net;", Cond.fieldLink RX1 54 "KeyScanner$Net" "closed" "[I", Cond.fieldLink RX1 22 "KeyScanner$Matrix" "second" "LKeyScanner$Net;", Cond.methodLink RX1 60 yX1_seen, Cond.instanceMethod yX1_seen, Cond.selects RX1 yX1_seen yX1_seen, Cond.code yX1_seen cX1_seen 3 (some .int), Cond.fieldLink RX1 32 "KeyScanner$Matrix" "diodes" "Z", Cond.fieldLink RX1 57 "KeyScanner$Net" "joined" "[I", Cond.methodLink RX1 76 yJ6_bitCount_0f7a4, Cond.static yJ6_bitCount_0f7a4, Cond.initialized RJ6]
def wsX4_setDiodes_r2 : List Cond := [Cond.code yJ6_bitCount_0f7a4 cJ6_bitCount_0f7a4 1 (some .int), Cond.constant RJ6 265 (1431655765), Cond.constant RJ6 266 (858993459), Cond.constant RJ6 267 (252645135)]
def wsX4_setDiodes : List Cond := .code yX4_setDiodes cX4_setDiodes 2 (some .int) :: ((wsX4_setDiodes_r1 ++ wsX4_setDiodes_r2) ++ wsX40 ++ wsX10 ++ wsX20)
def wsX4_setBlocking : List Cond := .code yX4_setBlocking cX4_setBlocking 3 (some .int) :: ([.fieldLink RX4 46 "KeyScanner" "blocking" "Z", .methodLink RX4 83 yX4_one, .static yX4_one, .initialized RX4, .code yX4_one cX4_one 1 (some .int)] ++ wsX40)
def wsX4_setLateRelease : List Cond := .code yX4_setLateRelease cX4_setLateRelease 3 (some .int) :: ([.fieldLink RX4 50 "KeyScanner" "lateRelease" "Z", .methodLink RX4 83 yX4_one, .static yX4_one, .initialized RX4, .code yX4_one cX4_one 1 (some .int)] ++ wsX40)
def wsX4_setSlope : List Cond := .code yX4_setSlope cX4_setSlope 3 (some .int) :: ([.fieldLink RX4 43 "KeyScanner" "slope" "I", .methodLink RX4 59 yX4_within, .static yX4_within, .initialized RX4, .code yX4_within cX4_within 3 (some .boolean)] ++ wsX40)
def wsX4_setVoices_r1 : List Cond := [Cond.fieldLink RX4 28 "KeyScanner" "voices" "LKeyScanner$Voices;", Cond.fieldLink RX4 87 "KeyScanner$Voices" "number" "I", Cond.fieldLink RX4 39 "KeyScanner" "time" "I", Cond.fieldLink RX4 93 "KeyScanner$Voices" "rule" "I", Cond.methodLink RX4 59 yX4_within, Cond.static yX4_within, Cond.initialized RX4, Cond.code yX4_within cX4_within 3 (some .boolean), Cond.methodLink RX4 90 yX3_limit, Cond.instanceMethod yX3_limit, Cond.selects RX3 yX3_limit yX3_limit, Cond.initialized RX3, Cond.code yX3_limit cX3_limit 4 none, Cond.fieldLink RX3 28 "KeyScanner$Voices" "number" "I", Cond.fieldLink RX3 9 "KeyScanner$Voices" "states" "[I", Cond.methodLink RX3 49 yX3_free, Cond.instanceMethod yX3_free, Cond.selects RX3 yX3_free yX3_free, Cond.code yX3_free cX3_free 3 none, Cond.fieldLink RX3 24 "KeyScanner$Voices" "captured" "[Z", Cond.fieldLink RX3 45 "KeyScanner$Voices" "journal" "LKeyScanner$Journal;", Cond.fieldLink RX3 15 "KeyScanner$Voices" "keys" "[I", Cond.methodLink RX3 64 yX0_write, Cond.instanceMethod yX0_write]
def wsX4_setVoices_r2 : List Cond := [Cond.selects RX0 yX0_write yX0_write, Cond.initialized RX0, Cond.code yX0_write cX0_write 5 none, Cond.fieldLink RX0 21 "KeyScanner$Journal" "made" "I", Cond.fieldLink RX0 9 "KeyScanner$Journal" "times" "[I", Cond.fieldLink RX0 15 "KeyScanner$Journal" "kinds" "[I", Cond.fieldLink RX0 18 "KeyScanner$Journal" "keys" "[I", Cond.methodLink RX0 25 yJ9_floorMod_7cf53, Cond.static yJ9_floorMod_7cf53, Cond.initialized RJ9, Cond.code yJ9_floorMod_7cf53 cJ9_floorMod_7cf53 3 (some .int)]
def wsX4_setVoices : List Cond := .code yX4_setVoices cX4_setVoices 4 (some .int) :: ((wsX4_setVoices_r1 ++ wsX4_setVoices_r2) ++ wsX40 ++ wsX30 ++ wsX00)
def wsX4_setKey_r1 : List Cond := [Cond.fieldLink RX4 12 "KeyScanner" "matrix" "LKeyScanner$Matrix;", Cond.fieldLink RX4 100 "KeyScanner$Matrix" "positions" "[I", Cond.methodLink RX4 96 yX1_has, Cond.instanceMethod yX1_has, Cond.selects RX1 yX1_has yX1_has, Cond.initialized RX1, Cond.code yX1_has cX1_has 2 (some .boolean), Cond.methodLink RX1 36 yX1_size, Cond.instanceMethod yX1_size, Cond.selects RX1 yX1_size yX1_size, Cond.code yX1_size cX1_size 1 (some .int), Cond.fieldLink RX1 25 "KeyScanner$Matrix" "rows" "I", Cond.fieldLink RX1 29 "KeyScanner$Matrix" "columns" "I", Cond.methodLink RX4 59 yX4_within, Cond.static yX4_within, Cond.initialized RX4, Cond.code yX4_within cX4_within 3 (some .boolean), Cond.methodLink RX4 103 yX1_move, Cond.instanceMethod yX1_move, Cond.selects RX1 yX1_move yX1_move, Cond.code yX1_move cX1_move 3 none, Cond.fieldLink RX1 9 "KeyScanner$Matrix" "positions" "[I", Cond.fieldLink RX1 18 "KeyScanner$Matrix" "first" "LKeyScanner$Net;", Cond.fieldLink RX1 22 "KeyScanner$Matrix" "second" "LKeyScanner$Net;"]
def wsX4_setKey_r2 : List Cond := [Cond.methodLink RX1 46 yX2_put, Cond.instanceMethod yX2_put, Cond.selects RX2 yX2_put yX2_put, Cond.initialized RX2, Cond.code yX2_put cX2_put 5 none, Cond.fieldLink RX2 9 "KeyScanner$Net" "closed" "[I", Cond.methodLink RX2 18 yX2_join, Cond.instanceMethod yX2_join, Cond.selects RX2 yX2_join yX2_join, Cond.code yX2_join cX2_join 2 none, Cond.fieldLink RX2 15 "KeyScanner$Net" "joined" "[I", Cond.methodLink RX2 21 yX2_joinThrough, Cond.instanceMethod yX2_joinThrough, Cond.selects RX2 yX2_joinThrough yX2_joinThrough, Cond.code yX2_joinThrough cX2_joinThrough 4 none]
def wsX4_setKey : List Cond := .code yX4_setKey cX4_setKey 4 (some .int) :: ((wsX4_setKey_r1 ++ wsX4_setKey_r2) ++ wsX40 ++ wsX10 ++ wsX20)
def wsX4_liftAll_r1 : List Cond := [Cond.fieldLink RX4 12 "KeyScanner" "matrix" "LKeyScanner$Matrix;", Cond.methodLink RX4 106 yX1_pressed, Cond.instanceMethod yX1_pressed, Cond.selects RX1 yX1_pressed yX1_pressed, Cond.initialized RX1, Cond.code yX1_pressed cX1_pressed 3 (some .int), Cond.fieldLink RX1 9 "KeyScanner$Matrix" "positions" "[I", Cond.methodLink RX1 36 yX1_size, Cond.instanceMethod yX1_size, Cond.selects RX1 yX1_size yX1_size, Cond.code yX1_size cX1_size 1 (some .int), Cond.fieldLink RX1 25 "KeyScanner$Matrix" "rows" "I", Cond.fieldLink RX1 29 "KeyScanner$Matrix" "columns" "I", Cond.static yX4_one, Cond.initialized RX4, Cond.code yX4_one cX4_one 1 (some .int), Cond.methodLink RX4 109 yX1_lift, Cond.instanceMethod yX1_lift, Cond.selects RX1 yX1_lift yX1_lift, Cond.code yX1_lift cX1_lift 2 none, Cond.fieldLink RX1 18 "KeyScanner$Matrix" "first" "LKeyScanner$Net;", Cond.fieldLink RX1 22 "KeyScanner$Matrix" "second" "LKeyScanner$Net;", Cond.methodLink RX1 43 yX2_open, Cond.instanceMethod yX2_open]
def wsX4_liftAll_r2 : List Cond := [Cond.selects RX2 yX2_open yX2_open, Cond.initialized RX2, Cond.code yX2_open cX2_open 2 none, Cond.fieldLink RX2 9 "KeyScanner$Net" "closed" "[I", Cond.fieldLink RX2 15 "KeyScanner$Net" "joined" "[I"]
def wsX4_liftAll : List Cond := .code yX4_liftAll cX4_liftAll 2 (some .int) :: ((wsX4_liftAll_r1 ++ wsX4_liftAll_r2) ++ wsX40 ++ wsX10 ++ wsX20)
def wsX4_sustain_r1 : List Cond := [Cond.fieldLink RX4 28 "KeyScanner" "voices" "LKeyScanner$Voices;", Cond.fieldLink RX4 39 "KeyScanner" "time" "I", Cond.methodLink RX4 112 yX3_moveSustain, Cond.instanceMethod yX3_moveSustain, Cond.selects RX3 yX3_moveSustain yX3_moveSustain, Cond.initialized RX3, Cond.code yX3_moveSustain cX3_moveSustain 3 (some .int), Cond.fieldLink RX3 38 "KeyScanner$Voices" "sustained" "Z", Cond.methodLink RX3 74 yX3_freeKept, Cond.instanceMethod yX3_freeKept, Cond.selects RX3 yX3_freeKept yX3_freeKept, Cond.code yX3_freeKept cX3_freeKept 4 (some .int), Cond.fieldLink RX3 28 "KeyScanner$Voices" "number" "I", Cond.fieldLink RX3 9 "KeyScanner$Voices" "states" "[I", Cond.methodLink RX3 70 yX3_isKeptByPedal, Cond.instanceMethod yX3_isKeptByPedal, Cond.selects RX3 yX3_isKeptByPedal yX3_isKeptByPedal, Cond.code yX3_isKeptByPedal cX3_isKeptByPedal 2 (some .boolean), Cond.fieldLink RX3 42 "KeyScanner$Voices" "sostenutoDown" "Z", Cond.fieldLink RX3 24 "KeyScanner$Voices" "captured" "[Z", Cond.methodLink RX3 49 yX3_free, Cond.instanceMethod yX3_free, Cond.selects RX3 yX3_free yX3_free, Cond.code yX3_free cX3_free 3 none]
def wsX4_sustain_r2 : List Cond := [Cond.fieldLink RX3 45 "KeyScanner$Voices" "journal" "LKeyScanner$Journal;", Cond.fieldLink RX3 15 "KeyScanner$Voices" "keys" "[I", Cond.methodLink RX3 64 yX0_write, Cond.instanceMethod yX0_write, Cond.selects RX0 yX0_write yX0_write, Cond.initialized RX0, Cond.code yX0_write cX0_write 5 none, Cond.fieldLink RX0 21 "KeyScanner$Journal" "made" "I", Cond.fieldLink RX0 9 "KeyScanner$Journal" "times" "[I", Cond.fieldLink RX0 15 "KeyScanner$Journal" "kinds" "[I", Cond.fieldLink RX0 18 "KeyScanner$Journal" "keys" "[I", Cond.methodLink RX0 25 yJ9_floorMod_7cf53, Cond.static yJ9_floorMod_7cf53, Cond.initialized RJ9, Cond.code yJ9_floorMod_7cf53 cJ9_floorMod_7cf53 3 (some .int)]
def wsX4_sustain : List Cond := .code yX4_sustain cX4_sustain 2 (some .int) :: ((wsX4_sustain_r1 ++ wsX4_sustain_r2) ++ wsX40 ++ wsX30 ++ wsX00)
def wsX4_sostenuto_r1 : List Cond := [Cond.fieldLink RX4 28 "KeyScanner" "voices" "LKeyScanner$Voices;", Cond.fieldLink RX4 39 "KeyScanner" "time" "I", Cond.methodLink RX4 116 yX3_moveSostenuto, Cond.instanceMethod yX3_moveSostenuto, Cond.selects RX3 yX3_moveSostenuto yX3_moveSostenuto, Cond.initialized RX3, Cond.code yX3_moveSostenuto cX3_moveSostenuto 4 (some .int), Cond.fieldLink RX3 42 "KeyScanner$Voices" "sostenutoDown" "Z", Cond.fieldLink RX3 28 "KeyScanner$Voices" "number" "I", Cond.fieldLink RX3 24 "KeyScanner$Voices" "captured" "[Z", Cond.fieldLink RX3 9 "KeyScanner$Voices" "states" "[I", Cond.methodLink RX3 77 yX3_inState, Cond.instanceMethod yX3_inState, Cond.selects RX3 yX3_inState yX3_inState, Cond.code yX3_inState cX3_inState 4 (some .int), Cond.methodLink RX3 74 yX3_freeKept, Cond.instanceMethod yX3_freeKept, Cond.selects RX3 yX3_freeKept yX3_freeKept, Cond.code yX3_freeKept cX3_freeKept 4 (some .int), Cond.methodLink RX3 70 yX3_isKeptByPedal, Cond.instanceMethod yX3_isKeptByPedal, Cond.selects RX3 yX3_isKeptByPedal yX3_isKeptByPedal, Cond.code yX3_isKeptByPedal cX3_isKeptByPedal 2 (some .boolean), Cond.fieldLink RX3 38 "KeyScanner$Voices" "sustained" "Z"]
def wsX4_sostenuto_r2 : List Cond := [Cond.methodLink RX3 49 yX3_free, Cond.instanceMethod yX3_free, Cond.selects RX3 yX3_free yX3_free, Cond.code yX3_free cX3_free 3 none, Cond.fieldLink RX3 45 "KeyScanner$Voices" "journal" "LKeyScanner$Journal;", Cond.fieldLink RX3 15 "KeyScanner$Voices" "keys" "[I", Cond.methodLink RX3 64 yX0_write, Cond.instanceMethod yX0_write, Cond.selects RX0 yX0_write yX0_write, Cond.initialized RX0, Cond.code yX0_write cX0_write 5 none, Cond.fieldLink RX0 21 "KeyScanner$Journal" "made" "I", Cond.fieldLink RX0 9 "KeyScanner$Journal" "times" "[I", Cond.fieldLink RX0 15 "KeyScanner$Journal" "kinds" "[I", Cond.fieldLink RX0 18 "KeyScanner$Journal" "keys" "[I", Cond.methodLink RX0 25 yJ9_floorMod_7cf53, Cond.static yJ9_floorMod_7cf53, Cond.initialized RJ9, Cond.code yJ9_floorMod_7cf53 cJ9_floorMod_7cf53 3 (some .int)]
def wsX4_sostenuto : List Cond := .code yX4_sostenuto cX4_sostenuto 2 (some .int) :: ((wsX4_sostenuto_r1 ++ wsX4_sostenuto_r2) ++ wsX40 ++ wsX30 ++ wsX00)
def wsX4_enter : List Cond := .code yX4_enter cX4_enter 3 none :: ([.fieldLink RX4 32 "KeyScanner" "phases" "[I", .fieldLink RX4 36 "KeyScanner" "beginnings" "[I", .fieldLink RX4 39 "KeyScanner" "time" "I"] ++ wsX40)
def wsX4_velocityAfter : List Cond := .code yX4_velocityAfter cX4_velocityAfter 2 (some .int) :: ([.fieldLink RX4 43 "KeyScanner" "slope" "I", .methodLink RX4 122 Lib.Math.min.name, .static Lib.Math.min.name, .initialized "java/lang/Math", .code Lib.Math.min.name Lib.Math.min.code 2 (some .int), .methodLink RX4 239 Lib.Math.max.name, .static Lib.Math.max.name, .code Lib.Math.max.name Lib.Math.max.code 2 (some .int)] ++ wsX40)
def wsX4_strike_r1 : List Cond := [Cond.fieldLink RX4 32 "KeyScanner" "phases" "[I", Cond.fieldLink RX4 46 "KeyScanner" "blocking" "Z", Cond.fieldLink RX4 12 "KeyScanner" "matrix" "LKeyScanner$Matrix;", Cond.fieldLink RX4 56 "KeyScanner" "refused" "I", Cond.fieldLink RX4 19 "KeyScanner" "journal" "LKeyScanner$Journal;", Cond.fieldLink RX4 39 "KeyScanner" "time" "I", Cond.fieldLink RX4 53 "KeyScanner" "strikes" "I", Cond.fieldLink RX4 28 "KeyScanner" "voices" "LKeyScanner$Voices;", Cond.fieldLink RX4 36 "KeyScanner" "beginnings" "[I", Cond.fieldLink RX4 119 "KeyScanner$Matrix" "rows" "I", Cond.methodLink RX4 148 yX1_isDoubtful, Cond.instanceMethod yX1_isDoubtful, Cond.selects RX1 yX1_isDoubtful yX1_isDoubtful, Cond.initialized RX1, Cond.code yX1_isDoubtful cX1_isDoubtful 6 (some .boolean), Cond.fieldLink RX1 29 "KeyScanner$Matrix" "columns" "I", Cond.fieldLink RX1 25 "KeyScanner$Matrix" "rows" "I", Cond.fieldLink RX1 18 "KeyScanner$Matrix" "first" "LKeyScanner$Net;", Cond.methodLink RX1 60 yX1_seen, Cond.instanceMethod yX1_seen, Cond.selects RX1 yX1_seen yX1_seen, Cond.code yX1_seen cX1_seen 3 (some .int), Cond.fieldLink RX1 32 "KeyScanner$Matrix" "diodes" "Z", Cond.fieldLink RX1 54 "KeyScanner$Net" "closed" "[I"]
def wsX4_strike_r2 : List Cond := [Cond.fieldLink RX1 57 "KeyScanner$Net" "joined" "[I", Cond.methodLink RX4 232 yX0_write, Cond.instanceMethod yX0_write, Cond.selects RX0 yX0_write yX0_write, Cond.initialized RX0, Cond.code yX0_write cX0_write 5 none, Cond.fieldLink RX0 21 "KeyScanner$Journal" "made" "I", Cond.fieldLink RX0 9 "KeyScanner$Journal" "times" "[I", Cond.fieldLink RX0 15 "KeyScanner$Journal" "kinds" "[I", Cond.fieldLink RX0 18 "KeyScanner$Journal" "keys" "[I", Cond.methodLink RX0 25 yJ9_floorMod_7cf53, Cond.static yJ9_floorMod_7cf53, Cond.initialized RJ9, Cond.code yJ9_floorMod_7cf53 cJ9_floorMod_7cf53 3 (some .int), Cond.methodLink RX4 190 yX4_velocityAfter, Cond.instanceMethod yX4_velocityAfter, Cond.selects RX4 yX4_velocityAfter yX4_velocityAfter, Cond.initialized RX4, Cond.code yX4_velocityAfter cX4_velocityAfter 2 (some .int), Cond.fieldLink RX4 43 "KeyScanner" "slope" "I", Cond.methodLink RX4 122 Lib.Math.min.name, Cond.static Lib.Math.min.name, Cond.initialized "java/lang/Math", Cond.code Lib.Math.min.name Lib.Math.min.code 2 (some .int)]
def wsX4_strike_r3 : List Cond := [Cond.methodLink RX4 239 Lib.Math.max.name, Cond.static Lib.Math.max.name, Cond.code Lib.Math.max.name Lib.Math.max.code 2 (some .int), Cond.methodLink RX4 236 yX3_sound, Cond.instanceMethod yX3_sound, Cond.selects RX3 yX3_sound yX3_sound, Cond.initialized RX3, Cond.code yX3_sound cX3_sound 5 none, Cond.fieldLink RX3 35 "KeyScanner$Voices" "taken" "I", Cond.fieldLink RX3 45 "KeyScanner$Voices" "journal" "LKeyScanner$Journal;", Cond.fieldLink RX3 15 "KeyScanner$Voices" "keys" "[I", Cond.fieldLink RX3 9 "KeyScanner$Voices" "states" "[I", Cond.fieldLink RX3 18 "KeyScanner$Voices" "velocities" "[I", Cond.fieldLink RX3 21 "KeyScanner$Voices" "begun" "[I", Cond.fieldLink RX3 24 "KeyScanner$Voices" "captured" "[Z", Cond.methodLink RX3 53 yX3_withKey, Cond.instanceMethod yX3_withKey, Cond.selects RX3 yX3_withKey yX3_withKey, Cond.code yX3_withKey cX3_withKey 3 (some .int), Cond.fieldLink RX3 28 "KeyScanner$Voices" "number" "I", Cond.methodLink RX3 57 yX3_firstFree, Cond.instanceMethod yX3_firstFree, Cond.selects RX3 yX3_firstFree yX3_firstFree, Cond.code yX3_firstFree cX3_firstFree 2 (some .int)]
def wsX4_strike_r4 : List Cond := [Cond.methodLink RX3 61 yX3_victim, Cond.instanceMethod yX3_victim, Cond.selects RX3 yX3_victim yX3_victim, Cond.code yX3_victim cX3_victim 3 (some .int), Cond.methodLink RX3 80 yX3_goesBefore, Cond.instanceMethod yX3_goesBefore, Cond.selects RX3 yX3_goesBefore yX3_goesBefore, Cond.code yX3_goesBefore cX3_goesBefore 3 (some .boolean), Cond.fieldLink RX3 32 "KeyScanner$Voices" "rule" "I", Cond.methodLink RX3 64 yX0_write]
def wsX4_strike : List Cond := .code yX4_strike cX4_strike 2 none :: ((wsX4_strike_r1 ++ (wsX4_strike_r2 ++ (wsX4_strike_r3 ++ wsX4_strike_r4))) ++ wsX40 ++ wsX10 ++ wsX20 ++ wsX00 ++ wsX30)
def wsX4_scanKey_r1 : List Cond := [Cond.fieldLink RX4 12 "KeyScanner" "matrix" "LKeyScanner$Matrix;", Cond.fieldLink RX4 32 "KeyScanner" "phases" "[I", Cond.fieldLink RX4 50 "KeyScanner" "lateRelease" "Z", Cond.fieldLink RX4 28 "KeyScanner" "voices" "LKeyScanner$Voices;", Cond.fieldLink RX4 39 "KeyScanner" "time" "I", Cond.methodLink RX4 139 yX1_firstSeen, Cond.instanceMethod yX1_firstSeen, Cond.selects RX1 yX1_firstSeen yX1_firstSeen, Cond.initialized RX1, Cond.code yX1_firstSeen cX1_firstSeen 2 (some .boolean), Cond.fieldLink RX1 18 "KeyScanner$Matrix" "first" "LKeyScanner$Net;", Cond.fieldLink RX1 29 "KeyScanner$Matrix" "columns" "I", Cond.methodLink RX1 60 yX1_seen, Cond.instanceMethod yX1_seen, Cond.selects RX1 yX1_seen yX1_seen, Cond.code yX1_seen cX1_seen 3 (some .int), Cond.fieldLink RX1 32 "KeyScanner$Matrix" "diodes" "Z", Cond.fieldLink RX1 54 "KeyScanner$Net" "closed" "[I", Cond.fieldLink RX1 57 "KeyScanner$Net" "joined" "[I", Cond.methodLink RX1 64 yX1_contains, Cond.static yX1_contains, Cond.code yX1_contains cX1_contains 2 (some .boolean), Cond.methodLink RX4 142 yX1_secondSeen, Cond.instanceMethod yX1_secondSeen]
def wsX4_scanKey_r2 : List Cond := [Cond.selects RX1 yX1_secondSeen yX1_secondSeen, Cond.code yX1_secondSeen cX1_secondSeen 2 (some .boolean), Cond.fieldLink RX1 22 "KeyScanner$Matrix" "second" "LKeyScanner$Net;", Cond.methodLink RX4 223 yX4_enter, Cond.instanceMethod yX4_enter, Cond.selects RX4 yX4_enter yX4_enter, Cond.initialized RX4, Cond.code yX4_enter cX4_enter 3 none, Cond.fieldLink RX4 36 "KeyScanner" "beginnings" "[I", Cond.methodLink RX4 226 yX4_strike, Cond.instanceMethod yX4_strike, Cond.selects RX4 yX4_strike yX4_strike, Cond.code yX4_strike cX4_strike 2 none, Cond.fieldLink RX4 46 "KeyScanner" "blocking" "Z", Cond.fieldLink RX4 56 "KeyScanner" "refused" "I", Cond.fieldLink RX4 19 "KeyScanner" "journal" "LKeyScanner$Journal;", Cond.fieldLink RX4 53 "KeyScanner" "strikes" "I", Cond.fieldLink RX4 119 "KeyScanner$Matrix" "rows" "I", Cond.methodLink RX4 148 yX1_isDoubtful, Cond.instanceMethod yX1_isDoubtful, Cond.selects RX1 yX1_isDoubtful yX1_isDoubtful, Cond.code yX1_isDoubtful cX1_isDoubtful 6 (some .boolean), Cond.fieldLink RX1 25 "KeyScanner$Matrix" "rows" "I", Cond.methodLink RX4 232 yX0_write]
def wsX4_scanKey_r3 : List Cond := [Cond.instanceMethod yX0_write, Cond.selects RX0 yX0_write yX0_write, Cond.initialized RX0, Cond.code yX0_write cX0_write 5 none, Cond.fieldLink RX0 21 "KeyScanner$Journal" "made" "I", Cond.fieldLink RX0 9 "KeyScanner$Journal" "times" "[I", Cond.fieldLink RX0 15 "KeyScanner$Journal" "kinds" "[I", Cond.fieldLink RX0 18 "KeyScanner$Journal" "keys" "[I", Cond.methodLink RX0 25 yJ9_floorMod_7cf53, Cond.static yJ9_floorMod_7cf53, Cond.initialized RJ9, Cond.code yJ9_floorMod_7cf53 cJ9_floorMod_7cf53 3 (some .int), Cond.methodLink RX4 190 yX4_velocityAfter, Cond.instanceMethod yX4_velocityAfter, Cond.selects RX4 yX4_velocityAfter yX4_velocityAfter, Cond.code yX4_velocityAfter cX4_velocityAfter 2 (some .int), Cond.fieldLink RX4 43 "KeyScanner" "slope" "I", Cond.methodLink RX4 122 Lib.Math.min.name, Cond.static Lib.Math.min.name, Cond.initialized "java/lang/Math", Cond.code Lib.Math.min.name Lib.Math.min.code 2 (some .int), Cond.methodLink RX4 239 Lib.Math.max.name, Cond.static Lib.Math.max.name, Cond.code Lib.Math.max.name Lib.Math.max.code 2 (some .int)]
def wsX4_scanKey_r4 : List Cond := [Cond.methodLink RX4 236 yX3_sound, Cond.instanceMethod yX3_sound, Cond.selects RX3 yX3_sound yX3_sound, Cond.initialized RX3, Cond.code yX3_sound cX3_sound 5 none, Cond.fieldLink RX3 35 "KeyScanner$Voices" "taken" "I", Cond.fieldLink RX3 45 "KeyScanner$Voices" "journal" "LKeyScanner$Journal;", Cond.fieldLink RX3 15 "KeyScanner$Voices" "keys" "[I", Cond.fieldLink RX3 9 "KeyScanner$Voices" "states" "[I", Cond.fieldLink RX3 18 "KeyScanner$Voices" "velocities" "[I", Cond.fieldLink RX3 21 "KeyScanner$Voices" "begun" "[I", Cond.fieldLink RX3 24 "KeyScanner$Voices" "captured" "[Z", Cond.methodLink RX3 53 yX3_withKey, Cond.instanceMethod yX3_withKey, Cond.selects RX3 yX3_withKey yX3_withKey, Cond.code yX3_withKey cX3_withKey 3 (some .int), Cond.fieldLink RX3 28 "KeyScanner$Voices" "number" "I", Cond.methodLink RX3 57 yX3_firstFree, Cond.instanceMethod yX3_firstFree, Cond.selects RX3 yX3_firstFree yX3_firstFree, Cond.code yX3_firstFree cX3_firstFree 2 (some .int), Cond.methodLink RX3 61 yX3_victim, Cond.instanceMethod yX3_victim, Cond.selects RX3 yX3_victim yX3_victim]
def wsX4_scanKey_r5 : List Cond := [Cond.code yX3_victim cX3_victim 3 (some .int), Cond.methodLink RX3 80 yX3_goesBefore, Cond.instanceMethod yX3_goesBefore, Cond.selects RX3 yX3_goesBefore yX3_goesBefore, Cond.code yX3_goesBefore cX3_goesBefore 3 (some .boolean), Cond.fieldLink RX3 32 "KeyScanner$Voices" "rule" "I", Cond.methodLink RX3 64 yX0_write, Cond.methodLink RX4 229 yX3_release, Cond.instanceMethod yX3_release, Cond.selects RX3 yX3_release yX3_release, Cond.code yX3_release cX3_release 4 none, Cond.methodLink RX3 70 yX3_isKeptByPedal, Cond.instanceMethod yX3_isKeptByPedal, Cond.selects RX3 yX3_isKeptByPedal yX3_isKeptByPedal, Cond.code yX3_isKeptByPedal cX3_isKeptByPedal 2 (some .boolean), Cond.fieldLink RX3 38 "KeyScanner$Voices" "sustained" "Z", Cond.fieldLink RX3 42 "KeyScanner$Voices" "sostenutoDown" "Z", Cond.methodLink RX3 49 yX3_free, Cond.instanceMethod yX3_free, Cond.selects RX3 yX3_free yX3_free, Cond.code yX3_free cX3_free 3 none]
def wsX4_scanKey : List Cond := .code yX4_scanKey cX4_scanKey 5 none :: ((wsX4_scanKey_r1 ++ (wsX4_scanKey_r2 ++ (wsX4_scanKey_r3 ++ (wsX4_scanKey_r4 ++ wsX4_scanKey_r5)))) ++ wsX40 ++ wsX10 ++ wsX20 ++ wsX00 ++ wsX30)
def wsX4_scanRow_r1 : List Cond := [Cond.fieldLink RX4 12 "KeyScanner" "matrix" "LKeyScanner$Matrix;", Cond.fieldLink RX4 217 "KeyScanner$Matrix" "columns" "I", Cond.methodLink RX4 220 yX4_scanKey, Cond.instanceMethod yX4_scanKey, Cond.selects RX4 yX4_scanKey yX4_scanKey, Cond.initialized RX4, Cond.code yX4_scanKey cX4_scanKey 5 none, Cond.fieldLink RX4 32 "KeyScanner" "phases" "[I", Cond.fieldLink RX4 50 "KeyScanner" "lateRelease" "Z", Cond.fieldLink RX4 28 "KeyScanner" "voices" "LKeyScanner$Voices;", Cond.fieldLink RX4 39 "KeyScanner" "time" "I", Cond.methodLink RX4 139 yX1_firstSeen, Cond.instanceMethod yX1_firstSeen, Cond.selects RX1 yX1_firstSeen yX1_firstSeen, Cond.initialized RX1, Cond.code yX1_firstSeen cX1_firstSeen 2 (some .boolean), Cond.fieldLink RX1 18 "KeyScanner$Matrix" "first" "LKeyScanner$Net;", Cond.fieldLink RX1 29 "KeyScanner$Matrix" "columns" "I", Cond.methodLink RX1 60 yX1_seen, Cond.instanceMethod yX1_seen, Cond.selects RX1 yX1_seen yX1_seen, Cond.code yX1_seen cX1_seen 3 (some .int), Cond.fieldLink RX1 32 "KeyScanner$Matrix" "diodes" "Z", Cond.fieldLink RX1 54 "KeyScanner$Net" "closed" "[I"]
def wsX4_scanRow_r2 : List Cond := [Cond.fieldLink RX1 57 "KeyScanner$Net" "joined" "[I", Cond.methodLink RX1 64 yX1_contains, Cond.static yX1_contains, Cond.code yX1_contains cX1_contains 2 (some .boolean), Cond.methodLink RX4 142 yX1_secondSeen, Cond.instanceMethod yX1_secondSeen, Cond.selects RX1 yX1_secondSeen yX1_secondSeen, Cond.code yX1_secondSeen cX1_secondSeen 2 (some .boolean), Cond.fieldLink RX1 22 "KeyScanner$Matrix" "second" "LKeyScanner$Net;", Cond.methodLink RX4 223 yX4_enter, Cond.instanceMethod yX4_enter, Cond.selects RX4 yX4_enter yX4_enter, Cond.code yX4_enter cX4_enter 3 none, Cond.fieldLink RX4 36 "KeyScanner" "beginnings" "[I", Cond.methodLink RX4 226 yX4_strike, Cond.instanceMethod yX4_strike, Cond.selects RX4 yX4_strike yX4_strike, Cond.code yX4_strike cX4_strike 2 none, Cond.fieldLink RX4 46 "KeyScanner" "blocking" "Z", Cond.fieldLink RX4 56 "KeyScanner" "refused" "I", Cond.fieldLink RX4 19 "KeyScanner" "journal" "LKeyScanner$Journal;", Cond.fieldLink RX4 53 "KeyScanner" "strikes" "I", Cond.fieldLink RX4 119 "KeyScanner$Matrix" "rows" "I", Cond.methodLink RX4 148 yX1_isDoubtful]
def wsX4_scanRow_r3 : List Cond := [Cond.instanceMethod yX1_isDoubtful, Cond.selects RX1 yX1_isDoubtful yX1_isDoubtful, Cond.code yX1_isDoubtful cX1_isDoubtful 6 (some .boolean), Cond.fieldLink RX1 25 "KeyScanner$Matrix" "rows" "I", Cond.methodLink RX4 232 yX0_write, Cond.instanceMethod yX0_write, Cond.selects RX0 yX0_write yX0_write, Cond.initialized RX0, Cond.code yX0_write cX0_write 5 none, Cond.fieldLink RX0 21 "KeyScanner$Journal" "made" "I", Cond.fieldLink RX0 9 "KeyScanner$Journal" "times" "[I", Cond.fieldLink RX0 15 "KeyScanner$Journal" "kinds" "[I", Cond.fieldLink RX0 18 "KeyScanner$Journal" "keys" "[I", Cond.methodLink RX0 25 yJ9_floorMod_7cf53, Cond.static yJ9_floorMod_7cf53, Cond.initialized RJ9, Cond.code yJ9_floorMod_7cf53 cJ9_floorMod_7cf53 3 (some .int), Cond.methodLink RX4 190 yX4_velocityAfter, Cond.instanceMethod yX4_velocityAfter, Cond.selects RX4 yX4_velocityAfter yX4_velocityAfter, Cond.code yX4_velocityAfter cX4_velocityAfter 2 (some .int), Cond.fieldLink RX4 43 "KeyScanner" "slope" "I", Cond.methodLink RX4 122 Lib.Math.min.name, Cond.static Lib.Math.min.name]
def wsX4_scanRow_r4 : List Cond := [Cond.initialized "java/lang/Math", Cond.code Lib.Math.min.name Lib.Math.min.code 2 (some .int), Cond.methodLink RX4 239 Lib.Math.max.name, Cond.static Lib.Math.max.name, Cond.code Lib.Math.max.name Lib.Math.max.code 2 (some .int), Cond.methodLink RX4 236 yX3_sound, Cond.instanceMethod yX3_sound, Cond.selects RX3 yX3_sound yX3_sound, Cond.initialized RX3, Cond.code yX3_sound cX3_sound 5 none, Cond.fieldLink RX3 35 "KeyScanner$Voices" "taken" "I", Cond.fieldLink RX3 45 "KeyScanner$Voices" "journal" "LKeyScanner$Journal;", Cond.fieldLink RX3 15 "KeyScanner$Voices" "keys" "[I", Cond.fieldLink RX3 9 "KeyScanner$Voices" "states" "[I", Cond.fieldLink RX3 18 "KeyScanner$Voices" "velocities" "[I", Cond.fieldLink RX3 21 "KeyScanner$Voices" "begun" "[I", Cond.fieldLink RX3 24 "KeyScanner$Voices" "captured" "[Z", Cond.methodLink RX3 53 yX3_withKey, Cond.instanceMethod yX3_withKey, Cond.selects RX3 yX3_withKey yX3_withKey, Cond.code yX3_withKey cX3_withKey 3 (some .int), Cond.fieldLink RX3 28 "KeyScanner$Voices" "number" "I", Cond.methodLink RX3 57 yX3_firstFree, Cond.instanceMethod yX3_firstFree]
def wsX4_scanRow_r5 : List Cond := [Cond.selects RX3 yX3_firstFree yX3_firstFree, Cond.code yX3_firstFree cX3_firstFree 2 (some .int), Cond.methodLink RX3 61 yX3_victim, Cond.instanceMethod yX3_victim, Cond.selects RX3 yX3_victim yX3_victim, Cond.code yX3_victim cX3_victim 3 (some .int), Cond.methodLink RX3 80 yX3_goesBefore, Cond.instanceMethod yX3_goesBefore, Cond.selects RX3 yX3_goesBefore yX3_goesBefore, Cond.code yX3_goesBefore cX3_goesBefore 3 (some .boolean), Cond.fieldLink RX3 32 "KeyScanner$Voices" "rule" "I", Cond.methodLink RX3 64 yX0_write, Cond.methodLink RX4 229 yX3_release, Cond.instanceMethod yX3_release, Cond.selects RX3 yX3_release yX3_release, Cond.code yX3_release cX3_release 4 none, Cond.methodLink RX3 70 yX3_isKeptByPedal, Cond.instanceMethod yX3_isKeptByPedal, Cond.selects RX3 yX3_isKeptByPedal yX3_isKeptByPedal, Cond.code yX3_isKeptByPedal cX3_isKeptByPedal 2 (some .boolean), Cond.fieldLink RX3 38 "KeyScanner$Voices" "sustained" "Z", Cond.fieldLink RX3 42 "KeyScanner$Voices" "sostenutoDown" "Z", Cond.methodLink RX3 49 yX3_free, Cond.instanceMethod yX3_free]
def wsX4_scanRow_r6 : List Cond := [Cond.selects RX3 yX3_free yX3_free, Cond.code yX3_free cX3_free 3 none]
def wsX4_scanRow : List Cond := .code yX4_scanRow cX4_scanRow 4 none :: ((wsX4_scanRow_r1 ++ (wsX4_scanRow_r2 ++ (wsX4_scanRow_r3 ++ (wsX4_scanRow_r4 ++ (wsX4_scanRow_r5 ++ wsX4_scanRow_r6))))) ++ wsX40 ++ wsX10 ++ wsX20 ++ wsX00 ++ wsX30)
def wsX4_tick_r1 : List Cond := [Cond.fieldLink RX4 12 "KeyScanner" "matrix" "LKeyScanner$Matrix;", Cond.fieldLink RX4 119 "KeyScanner$Matrix" "rows" "I", Cond.methodLink RX4 122 Lib.Math.min.name, Cond.static Lib.Math.min.name, Cond.initialized "java/lang/Math", Cond.code Lib.Math.min.name Lib.Math.min.code 2 (some .int), Cond.fieldLink RX4 39 "KeyScanner" "time" "I", Cond.methodLink RX4 59 yX4_within, Cond.static yX4_within, Cond.initialized RX4, Cond.code yX4_within cX4_within 3 (some .boolean), Cond.methodLink RX4 128 yJ9_floorMod_7cf53, Cond.static yJ9_floorMod_7cf53, Cond.initialized RJ9, Cond.code yJ9_floorMod_7cf53 cJ9_floorMod_7cf53 3 (some .int), Cond.methodLink RX4 131 yX4_scanRow, Cond.instanceMethod yX4_scanRow, Cond.selects RX4 yX4_scanRow yX4_scanRow, Cond.code yX4_scanRow cX4_scanRow 4 none, Cond.fieldLink RX4 217 "KeyScanner$Matrix" "columns" "I", Cond.methodLink RX4 220 yX4_scanKey, Cond.instanceMethod yX4_scanKey, Cond.selects RX4 yX4_scanKey yX4_scanKey, Cond.code yX4_scanKey cX4_scanKey 5 none]
def wsX4_tick_r2 : List Cond := [Cond.fieldLink RX4 32 "KeyScanner" "phases" "[I", Cond.fieldLink RX4 50 "KeyScanner" "lateRelease" "Z", Cond.fieldLink RX4 28 "KeyScanner" "voices" "LKeyScanner$Voices;", Cond.methodLink RX4 139 yX1_firstSeen, Cond.instanceMethod yX1_firstSeen, Cond.selects RX1 yX1_firstSeen yX1_firstSeen, Cond.initialized RX1, Cond.code yX1_firstSeen cX1_firstSeen 2 (some .boolean), Cond.fieldLink RX1 18 "KeyScanner$Matrix" "first" "LKeyScanner$Net;", Cond.fieldLink RX1 29 "KeyScanner$Matrix" "columns" "I", Cond.methodLink RX1 60 yX1_seen, Cond.instanceMethod yX1_seen, Cond.selects RX1 yX1_seen yX1_seen, Cond.code yX1_seen cX1_seen 3 (some .int), Cond.fieldLink RX1 32 "KeyScanner$Matrix" "diodes" "Z", Cond.fieldLink RX1 54 "KeyScanner$Net" "closed" "[I", Cond.fieldLink RX1 57 "KeyScanner$Net" "joined" "[I", Cond.methodLink RX1 64 yX1_contains, Cond.static yX1_contains, Cond.code yX1_contains cX1_contains 2 (some .boolean), Cond.methodLink RX4 142 yX1_secondSeen, Cond.instanceMethod yX1_secondSeen, Cond.selects RX1 yX1_secondSeen yX1_secondSeen, Cond.code yX1_secondSeen cX1_secondSeen 2 (some .boolean)]
def wsX4_tick_r3 : List Cond := [Cond.fieldLink RX1 22 "KeyScanner$Matrix" "second" "LKeyScanner$Net;", Cond.methodLink RX4 223 yX4_enter, Cond.instanceMethod yX4_enter, Cond.selects RX4 yX4_enter yX4_enter, Cond.code yX4_enter cX4_enter 3 none, Cond.fieldLink RX4 36 "KeyScanner" "beginnings" "[I", Cond.methodLink RX4 226 yX4_strike, Cond.instanceMethod yX4_strike, Cond.selects RX4 yX4_strike yX4_strike, Cond.code yX4_strike cX4_strike 2 none, Cond.fieldLink RX4 46 "KeyScanner" "blocking" "Z", Cond.fieldLink RX4 56 "KeyScanner" "refused" "I", Cond.fieldLink RX4 19 "KeyScanner" "journal" "LKeyScanner$Journal;", Cond.fieldLink RX4 53 "KeyScanner" "strikes" "I", Cond.methodLink RX4 148 yX1_isDoubtful, Cond.instanceMethod yX1_isDoubtful, Cond.selects RX1 yX1_isDoubtful yX1_isDoubtful, Cond.code yX1_isDoubtful cX1_isDoubtful 6 (some .boolean), Cond.fieldLink RX1 25 "KeyScanner$Matrix" "rows" "I", Cond.methodLink RX4 232 yX0_write, Cond.instanceMethod yX0_write, Cond.selects RX0 yX0_write yX0_write, Cond.initialized RX0, Cond.code yX0_write cX0_write 5 none]
def wsX4_tick_r4 : List Cond := [Cond.fieldLink RX0 21 "KeyScanner$Journal" "made" "I", Cond.fieldLink RX0 9 "KeyScanner$Journal" "times" "[I", Cond.fieldLink RX0 15 "KeyScanner$Journal" "kinds" "[I", Cond.fieldLink RX0 18 "KeyScanner$Journal" "keys" "[I", Cond.methodLink RX0 25 yJ9_floorMod_7cf53, Cond.methodLink RX4 190 yX4_velocityAfter, Cond.instanceMethod yX4_velocityAfter, Cond.selects RX4 yX4_velocityAfter yX4_velocityAfter, Cond.code yX4_velocityAfter cX4_velocityAfter 2 (some .int), Cond.fieldLink RX4 43 "KeyScanner" "slope" "I", Cond.methodLink RX4 239 Lib.Math.max.name, Cond.static Lib.Math.max.name, Cond.code Lib.Math.max.name Lib.Math.max.code 2 (some .int), Cond.methodLink RX4 236 yX3_sound, Cond.instanceMethod yX3_sound, Cond.selects RX3 yX3_sound yX3_sound, Cond.initialized RX3, Cond.code yX3_sound cX3_sound 5 none, Cond.fieldLink RX3 35 "KeyScanner$Voices" "taken" "I", Cond.fieldLink RX3 45 "KeyScanner$Voices" "journal" "LKeyScanner$Journal;", Cond.fieldLink RX3 15 "KeyScanner$Voices" "keys" "[I", Cond.fieldLink RX3 9 "KeyScanner$Voices" "states" "[I", Cond.fieldLink RX3 18 "KeyScanner$Voices" "velocities" "[I", Cond.fieldLink RX3 21 "KeyScanner$Voices" "begun" "[I"]
def wsX4_tick_r5 : List Cond := [Cond.fieldLink RX3 24 "KeyScanner$Voices" "captured" "[Z", Cond.methodLink RX3 53 yX3_withKey, Cond.instanceMethod yX3_withKey, Cond.selects RX3 yX3_withKey yX3_withKey, Cond.code yX3_withKey cX3_withKey 3 (some .int), Cond.fieldLink RX3 28 "KeyScanner$Voices" "number" "I", Cond.methodLink RX3 57 yX3_firstFree, Cond.instanceMethod yX3_firstFree, Cond.selects RX3 yX3_firstFree yX3_firstFree, Cond.code yX3_firstFree cX3_firstFree 2 (some .int), Cond.methodLink RX3 61 yX3_victim, Cond.instanceMethod yX3_victim, Cond.selects RX3 yX3_victim yX3_victim, Cond.code yX3_victim cX3_victim 3 (some .int), Cond.methodLink RX3 80 yX3_goesBefore, Cond.instanceMethod yX3_goesBefore, Cond.selects RX3 yX3_goesBefore yX3_goesBefore, Cond.code yX3_goesBefore cX3_goesBefore 3 (some .boolean), Cond.fieldLink RX3 32 "KeyScanner$Voices" "rule" "I", Cond.methodLink RX3 64 yX0_write, Cond.methodLink RX4 229 yX3_release, Cond.instanceMethod yX3_release, Cond.selects RX3 yX3_release yX3_release, Cond.code yX3_release cX3_release 4 none]
def wsX4_tick_r6 : List Cond := [Cond.methodLink RX3 70 yX3_isKeptByPedal, Cond.instanceMethod yX3_isKeptByPedal, Cond.selects RX3 yX3_isKeptByPedal yX3_isKeptByPedal, Cond.code yX3_isKeptByPedal cX3_isKeptByPedal 2 (some .boolean), Cond.fieldLink RX3 38 "KeyScanner$Voices" "sustained" "Z", Cond.fieldLink RX3 42 "KeyScanner$Voices" "sostenutoDown" "Z", Cond.methodLink RX3 49 yX3_free, Cond.instanceMethod yX3_free, Cond.selects RX3 yX3_free yX3_free, Cond.code yX3_free cX3_free 3 none]
def wsX4_tick : List Cond := .code yX4_tick cX4_tick 4 (some .int) :: ((wsX4_tick_r1 ++ (wsX4_tick_r2 ++ (wsX4_tick_r3 ++ (wsX4_tick_r4 ++ (wsX4_tick_r5 ++ wsX4_tick_r6))))) ++ wsX40 ++ wsX10 ++ wsX20 ++ wsX00 ++ wsX30)
def wsX4_key_r1 : List Cond := [Cond.fieldLink RX4 12 "KeyScanner" "matrix" "LKeyScanner$Matrix;", Cond.fieldLink RX4 100 "KeyScanner$Matrix" "positions" "[I", Cond.fieldLink RX4 32 "KeyScanner" "phases" "[I", Cond.fieldLink RX4 36 "KeyScanner" "beginnings" "[I", Cond.fieldLink RX4 28 "KeyScanner" "voices" "LKeyScanner$Voices;", Cond.methodLink RX4 96 yX1_has, Cond.instanceMethod yX1_has, Cond.selects RX1 yX1_has yX1_has, Cond.initialized RX1, Cond.code yX1_has cX1_has 2 (some .boolean), Cond.methodLink RX1 36 yX1_size, Cond.instanceMethod yX1_size, Cond.selects RX1 yX1_size yX1_size, Cond.code yX1_size cX1_size 1 (some .int), Cond.fieldLink RX1 25 "KeyScanner$Matrix" "rows" "I", Cond.fieldLink RX1 29 "KeyScanner$Matrix" "columns" "I", Cond.methodLink RX4 135 yX3_withKey, Cond.instanceMethod yX3_withKey, Cond.selects RX3 yX3_withKey yX3_withKey, Cond.initialized RX3, Cond.code yX3_withKey cX3_withKey 3 (some .int), Cond.fieldLink RX3 28 "KeyScanner$Voices" "number" "I", Cond.fieldLink RX3 9 "KeyScanner$Voices" "states" "[I", Cond.fieldLink RX3 15 "KeyScanner$Voices" "keys" "[I"]
def wsX4_key_r2 : List Cond := [Cond.methodLink RX4 139 yX1_firstSeen, Cond.instanceMethod yX1_firstSeen, Cond.selects RX1 yX1_firstSeen yX1_firstSeen, Cond.code yX1_firstSeen cX1_firstSeen 2 (some .boolean), Cond.fieldLink RX1 18 "KeyScanner$Matrix" "first" "LKeyScanner$Net;", Cond.methodLink RX1 60 yX1_seen, Cond.instanceMethod yX1_seen, Cond.selects RX1 yX1_seen yX1_seen, Cond.code yX1_seen cX1_seen 3 (some .int), Cond.fieldLink RX1 32 "KeyScanner$Matrix" "diodes" "Z", Cond.fieldLink RX1 54 "KeyScanner$Net" "closed" "[I", Cond.fieldLink RX1 57 "KeyScanner$Net" "joined" "[I", Cond.methodLink RX1 64 yX1_contains, Cond.static yX1_contains, Cond.code yX1_contains cX1_contains 2 (some .boolean), Cond.methodLink RX4 83 yX4_one, Cond.static yX4_one, Cond.initialized RX4, Cond.code yX4_one cX4_one 1 (some .int), Cond.methodLink RX4 142 yX1_secondSeen, Cond.instanceMethod yX1_secondSeen, Cond.selects RX1 yX1_secondSeen yX1_secondSeen, Cond.code yX1_secondSeen cX1_secondSeen 2 (some .boolean), Cond.fieldLink RX1 22 "KeyScanner$Matrix" "second" "LKeyScanner$Net;"]
def wsX4_key_r3 : List Cond := [Cond.methodLink RX4 145 yX1_isGhost, Cond.instanceMethod yX1_isGhost, Cond.selects RX1 yX1_isGhost yX1_isGhost, Cond.code yX1_isGhost cX1_isGhost 2 (some .boolean), Cond.methodLink RX1 68 yX1_ghostsIn, Cond.instanceMethod yX1_ghostsIn, Cond.selects RX1 yX1_ghostsIn yX1_ghostsIn, Cond.code yX1_ghostsIn cX1_ghostsIn 2 (some .int), Cond.methodLink RX4 148 yX1_isDoubtful, Cond.instanceMethod yX1_isDoubtful, Cond.selects RX1 yX1_isDoubtful yX1_isDoubtful, Cond.code yX1_isDoubtful cX1_isDoubtful 6 (some .boolean)]
def wsX4_key : List Cond := .code yX4_key cX4_key 3 (some .int) :: ((wsX4_key_r1 ++ (wsX4_key_r2 ++ wsX4_key_r3)) ++ wsX40 ++ wsX10 ++ wsX30 ++ wsX20)
def wsX4_voice : List Cond := .code yX4_voice cX4_voice 4 (some .int) :: ([.fieldLink RX4 28 "KeyScanner" "voices" "LKeyScanner$Voices;", .fieldLink RX4 87 "KeyScanner$Voices" "number" "I", .fieldLink RX4 151 "KeyScanner$Voices" "states" "[I", .fieldLink RX4 154 "KeyScanner$Voices" "keys" "[I", .fieldLink RX4 157 "KeyScanner$Voices" "velocities" "[I", .fieldLink RX4 160 "KeyScanner$Voices" "begun" "[I", .fieldLink RX4 163 "KeyScanner$Voices" "captured" "[Z", .methodLink RX4 83 yX4_one, .static yX4_one, .initialized RX4, .code yX4_one cX4_one 1 (some .int)] ++ wsX40 ++ wsX30)
def wsX4_count_r1 : List Cond := [Cond.fieldLink RX4 39 "KeyScanner" "time" "I", Cond.fieldLink RX4 12 "KeyScanner" "matrix" "LKeyScanner$Matrix;", Cond.fieldLink RX4 28 "KeyScanner" "voices" "LKeyScanner$Voices;", Cond.fieldLink RX4 87 "KeyScanner$Voices" "number" "I", Cond.fieldLink RX4 19 "KeyScanner" "journal" "LKeyScanner$Journal;", Cond.fieldLink RX4 173 "KeyScanner$Journal" "made" "I", Cond.fieldLink RX4 53 "KeyScanner" "strikes" "I", Cond.fieldLink RX4 56 "KeyScanner" "refused" "I", Cond.fieldLink RX4 176 "KeyScanner$Voices" "taken" "I", Cond.methodLink RX4 73 yX1_size, Cond.instanceMethod yX1_size, Cond.selects RX1 yX1_size yX1_size, Cond.initialized RX1, Cond.code yX1_size cX1_size 1 (some .int), Cond.fieldLink RX1 25 "KeyScanner$Matrix" "rows" "I", Cond.fieldLink RX1 29 "KeyScanner$Matrix" "columns" "I", Cond.methodLink RX4 106 yX1_pressed, Cond.instanceMethod yX1_pressed, Cond.selects RX1 yX1_pressed yX1_pressed, Cond.code yX1_pressed cX1_pressed 3 (some .int), Cond.fieldLink RX1 9 "KeyScanner$Matrix" "positions" "[I", Cond.methodLink RX1 36 yX1_size, Cond.static yX4_one, Cond.initialized RX4]
def wsX4_count_r2 : List Cond := [Cond.code yX4_one cX4_one 1 (some .int), Cond.methodLink RX4 80 yX1_ghosts, Cond.instanceMethod yX1_ghosts, Cond.selects RX1 yX1_ghosts yX1_ghosts, Cond.code yX1_ghosts cX1_ghosts 3 (some .int), Cond.methodLink RX1 68 yX1_ghostsIn, Cond.instanceMethod yX1_ghostsIn, Cond.selects RX1 yX1_ghostsIn yX1_ghostsIn, Cond.code yX1_ghostsIn cX1_ghostsIn 2 (some .int), Cond.fieldLink RX1 18 "KeyScanner$Matrix" "first" "LKeyScanner$Net;", Cond.fieldLink RX1 54 "KeyScanner$Net" "closed" "[I", Cond.fieldLink RX1 22 "KeyScanner$Matrix" "second" "LKeyScanner$Net;", Cond.methodLink RX1 60 yX1_seen, Cond.instanceMethod yX1_seen, Cond.selects RX1 yX1_seen yX1_seen, Cond.code yX1_seen cX1_seen 3 (some .int), Cond.fieldLink RX1 32 "KeyScanner$Matrix" "diodes" "Z", Cond.fieldLink RX1 57 "KeyScanner$Net" "joined" "[I", Cond.methodLink RX1 76 yJ6_bitCount_0f7a4, Cond.static yJ6_bitCount_0f7a4, Cond.initialized RJ6, Cond.code yJ6_bitCount_0f7a4 cJ6_bitCount_0f7a4 1 (some .int), Cond.constant RJ6 265 (1431655765), Cond.constant RJ6 266 (858993459)]
def wsX4_count_r3 : List Cond := [Cond.constant RJ6 267 (252645135), Cond.methodLink RX4 167 yX1_doubtful, Cond.instanceMethod yX1_doubtful, Cond.selects RX1 yX1_doubtful yX1_doubtful, Cond.code yX1_doubtful cX1_doubtful 3 (some .int), Cond.methodLink RX1 72 yX1_isDoubtful, Cond.instanceMethod yX1_isDoubtful, Cond.selects RX1 yX1_isDoubtful yX1_isDoubtful, Cond.code yX1_isDoubtful cX1_isDoubtful 6 (some .boolean), Cond.methodLink RX4 170 yX3_inState, Cond.instanceMethod yX3_inState, Cond.selects RX3 yX3_inState yX3_inState, Cond.initialized RX3, Cond.code yX3_inState cX3_inState 4 (some .int), Cond.fieldLink RX3 28 "KeyScanner$Voices" "number" "I", Cond.fieldLink RX3 9 "KeyScanner$Voices" "states" "[I"]
def wsX4_count : List Cond := .code yX4_count cX4_count 2 (some .int) :: ((wsX4_count_r1 ++ (wsX4_count_r2 ++ wsX4_count_r3)) ++ wsX40 ++ wsX30 ++ wsX00 ++ wsX10 ++ wsX20)
def wsX4_log_r1 : List Cond := [Cond.fieldLink RX4 19 "KeyScanner" "journal" "LKeyScanner$Journal;", Cond.fieldLink RX4 183 "KeyScanner$Journal" "times" "[I", Cond.fieldLink RX4 186 "KeyScanner$Journal" "kinds" "[I", Cond.fieldLink RX4 189 "KeyScanner$Journal" "keys" "[I", Cond.methodLink RX4 59 yX4_within, Cond.static yX4_within, Cond.initialized RX4, Cond.code yX4_within cX4_within 3 (some .boolean), Cond.methodLink RX4 179 yX0_size, Cond.instanceMethod yX0_size, Cond.selects RX0 yX0_size yX0_size, Cond.initialized RX0, Cond.code yX0_size cX0_size 1 (some .int), Cond.fieldLink RX0 21 "KeyScanner$Journal" "made" "I", Cond.methodLink RX0 31 Lib.Math.min.name, Cond.static Lib.Math.min.name, Cond.initialized "java/lang/Math", Cond.code Lib.Math.min.name Lib.Math.min.code 2 (some .int), Cond.methodLink RX4 180 yX0_place, Cond.instanceMethod yX0_place, Cond.selects RX0 yX0_place yX0_place, Cond.code yX0_place cX0_place 2 (some .int), Cond.methodLink RX0 25 yJ9_floorMod_7cf53, Cond.static yJ9_floorMod_7cf53]
def wsX4_log_r2 : List Cond := [Cond.initialized RJ9, Cond.code yJ9_floorMod_7cf53 cJ9_floorMod_7cf53 3 (some .int)]
def wsX4_log : List Cond := .code yX4_log cX4_log 4 (some .int) :: ((wsX4_log_r1 ++ wsX4_log_r2) ++ wsX40 ++ wsX00)
def wsX4_velocity : List Cond := .code yX4_velocity cX4_velocity 2 (some .int) :: ([.methodLink RX4 59 yX4_within, .static yX4_within, .initialized RX4, .code yX4_within cX4_within 3 (some .boolean), .methodLink RX4 190 yX4_velocityAfter, .instanceMethod yX4_velocityAfter, .selects RX4 yX4_velocityAfter yX4_velocityAfter, .code yX4_velocityAfter cX4_velocityAfter 2 (some .int), .fieldLink RX4 43 "KeyScanner" "slope" "I", .methodLink RX4 122 Lib.Math.min.name, .static Lib.Math.min.name, .initialized "java/lang/Math", .code Lib.Math.min.name Lib.Math.min.code 2 (some .int), .methodLink RX4 239 Lib.Math.max.name, .static Lib.Math.max.name, .code Lib.Math.max.name Lib.Math.max.code 2 (some .int)] ++ wsX40)
def wsX4_nextTaken : List Cond := .code yX4_nextTaken cX4_nextTaken 1 (some .int) :: ([.fieldLink RX4 28 "KeyScanner" "voices" "LKeyScanner$Voices;", .methodLink RX4 193 yX3_firstFree, .instanceMethod yX3_firstFree, .selects RX3 yX3_firstFree yX3_firstFree, .initialized RX3, .code yX3_firstFree cX3_firstFree 2 (some .int), .fieldLink RX3 28 "KeyScanner$Voices" "number" "I", .fieldLink RX3 9 "KeyScanner$Voices" "states" "[I", .methodLink RX4 196 yX3_victim, .instanceMethod yX3_victim, .selects RX3 yX3_victim yX3_victim, .code yX3_victim cX3_victim 3 (some .int), .methodLink RX3 80 yX3_goesBefore, .instanceMethod yX3_goesBefore, .selects RX3 yX3_goesBefore yX3_goesBefore, .code yX3_goesBefore cX3_goesBefore 3 (some .boolean), .fieldLink RX3 32 "KeyScanner$Voices" "rule" "I", .fieldLink RX3 18 "KeyScanner$Voices" "velocities" "[I", .fieldLink RX3 21 "KeyScanner$Voices" "begun" "[I"] ++ wsX40 ++ wsX30)
def wsX4_connected : List Cond := .code yX4_connected cX4_connected 2 (some .int) :: ([.fieldLink RX4 12 "KeyScanner" "matrix" "LKeyScanner$Matrix;", .fieldLink RX4 119 "KeyScanner$Matrix" "rows" "I", .fieldLink RX4 199 "KeyScanner$Matrix" "first" "LKeyScanner$Net;", .fieldLink RX4 208 "KeyScanner$Net" "joined" "[I", .methodLink RX4 203 yX2_rowsJoinedWith, .instanceMethod yX2_rowsJoinedWith, .selects RX2 yX2_rowsJoinedWith yX2_rowsJoinedWith, .initialized RX2, .code yX2_rowsJoinedWith cX2_rowsJoinedWith 4 (some .int), .fieldLink RX2 15 "KeyScanner$Net" "joined" "[I"] ++ wsX40 ++ wsX10 ++ wsX20)
def wsX4_worstKey_r1 : List Cond := [Cond.fieldLink RX4 12 "KeyScanner" "matrix" "LKeyScanner$Matrix;", Cond.fieldLink RX4 100 "KeyScanner$Matrix" "positions" "[I", Cond.methodLink RX4 80 yX1_ghosts, Cond.instanceMethod yX1_ghosts, Cond.selects RX1 yX1_ghosts yX1_ghosts, Cond.initialized RX1, Cond.code yX1_ghosts cX1_ghosts 3 (some .int), Cond.fieldLink RX1 25 "KeyScanner$Matrix" "rows" "I", Cond.methodLink RX1 68 yX1_ghostsIn, Cond.instanceMethod yX1_ghostsIn, Cond.selects RX1 yX1_ghostsIn yX1_ghostsIn, Cond.code yX1_ghostsIn cX1_ghostsIn 2 (some .int), Cond.fieldLink RX1 18 "KeyScanner$Matrix" "first" "LKeyScanner$Net;", Cond.fieldLink RX1 54 "KeyScanner$Net" "closed" "[I", Cond.fieldLink RX1 22 "KeyScanner$Matrix" "second" "LKeyScanner$Net;", Cond.methodLink RX1 60 yX1_seen, Cond.instanceMethod yX1_seen, Cond.selects RX1 yX1_seen yX1_seen, Cond.code yX1_seen cX1_seen 3 (some .int), Cond.fieldLink RX1 32 "KeyScanner$Matrix" "diodes" "Z", Cond.fieldLink RX1 57 "KeyScanner$Net" "joined" "[I", Cond.methodLink RX1 76 yJ6_bitCount_0f7a4, Cond.static yJ6_bitCount_0f7a4, Cond.initialized RJ6]
def wsX4_worstKey_r2 : List Cond := [Cond.code yJ6_bitCount_0f7a4 cJ6_bitCount_0f7a4 1 (some .int), Cond.constant RJ6 265 (1431655765), Cond.constant RJ6 266 (858993459), Cond.constant RJ6 267 (252645135), Cond.methodLink RX4 73 yX1_size, Cond.instanceMethod yX1_size, Cond.selects RX1 yX1_size yX1_size, Cond.code yX1_size cX1_size 1 (some .int), Cond.fieldLink RX1 29 "KeyScanner$Matrix" "columns" "I", Cond.methodLink RX4 211 yX1_ghostsWithout, Cond.instanceMethod yX1_ghostsWithout, Cond.selects RX1 yX1_ghostsWithout yX1_ghostsWithout, Cond.code yX1_ghostsWithout cX1_ghostsWithout 4 (some .int), Cond.fieldLink RX1 9 "KeyScanner$Matrix" "positions" "[I", Cond.methodLink RX1 81 yX1_move, Cond.instanceMethod yX1_move, Cond.selects RX1 yX1_move yX1_move, Cond.code yX1_move cX1_move 3 none, Cond.methodLink RX1 46 yX2_put, Cond.instanceMethod yX2_put, Cond.selects RX2 yX2_put yX2_put, Cond.initialized RX2, Cond.code yX2_put cX2_put 5 none, Cond.fieldLink RX2 9 "KeyScanner$Net" "closed" "[I"]
def wsX4_worstKey_r3 : List Cond := [Cond.methodLink RX2 18 yX2_join, Cond.instanceMethod yX2_join, Cond.selects RX2 yX2_join yX2_join, Cond.code yX2_join cX2_join 2 none, Cond.fieldLink RX2 15 "KeyScanner$Net" "joined" "[I", Cond.methodLink RX2 21 yX2_joinThrough, Cond.instanceMethod yX2_joinThrough, Cond.selects RX2 yX2_joinThrough yX2_joinThrough, Cond.code yX2_joinThrough cX2_joinThrough 4 none, Cond.methodLink RX1 85 yX1_ghosts]
def wsX4_worstKey : List Cond := .code yX4_worstKey cX4_worstKey 5 (some .int) :: ((wsX4_worstKey_r1 ++ (wsX4_worstKey_r2 ++ wsX4_worstKey_r3)) ++ wsX40 ++ wsX10 ++ wsX20)
def wsX4_rowRests : List Cond := .code yX4_rowRests cX4_rowRests 4 (some .boolean) :: ([.fieldLink RX4 12 "KeyScanner" "matrix" "LKeyScanner$Matrix;", .fieldLink RX4 217 "KeyScanner$Matrix" "columns" "I", .fieldLink RX4 32 "KeyScanner" "phases" "[I"] ++ wsX40 ++ wsX10)
def wsX4_allRestBehind : List Cond := .code yX4_allRestBehind cX4_allRestBehind 5 (some .boolean) :: ([.fieldLink RX4 12 "KeyScanner" "matrix" "LKeyScanner$Matrix;", .fieldLink RX4 119 "KeyScanner$Matrix" "rows" "I", .fieldLink RX4 39 "KeyScanner" "time" "I", .fieldLink RX4 199 "KeyScanner$Matrix" "first" "LKeyScanner$Net;", .methodLink RX4 128 yJ9_floorMod_7cf53, .static yJ9_floorMod_7cf53, .initialized RJ9, .code yJ9_floorMod_7cf53 cJ9_floorMod_7cf53 3 (some .int), .methodLink RX4 242 yX1_seen, .instanceMethod yX1_seen, .selects RX1 yX1_seen yX1_seen, .initialized RX1, .code yX1_seen cX1_seen 3 (some .int), .fieldLink RX1 32 "KeyScanner$Matrix" "diodes" "Z", .fieldLink RX1 54 "KeyScanner$Net" "closed" "[I", .fieldLink RX1 57 "KeyScanner$Net" "joined" "[I", .methodLink RX4 246 yX4_rowRests, .instanceMethod yX4_rowRests, .selects RX4 yX4_rowRests yX4_rowRests, .initialized RX4, .code yX4_rowRests cX4_rowRests 4 (some .boolean), .fieldLink RX4 217 "KeyScanner$Matrix" "columns" "I", .fieldLink RX4 32 "KeyScanner" "phases" "[I"] ++ wsX40 ++ wsX10 ++ wsX20)
def wsX4_restAfter_r1 : List Cond := [Cond.fieldLink RX4 12 "KeyScanner" "matrix" "LKeyScanner$Matrix;", Cond.fieldLink RX4 119 "KeyScanner$Matrix" "rows" "I", Cond.methodLink RX4 122 Lib.Math.min.name, Cond.static Lib.Math.min.name, Cond.initialized "java/lang/Math", Cond.code Lib.Math.min.name Lib.Math.min.code 2 (some .int), Cond.methodLink RX4 59 yX4_within, Cond.static yX4_within, Cond.initialized RX4, Cond.code yX4_within cX4_within 3 (some .boolean), Cond.methodLink RX4 214 yX4_allRestBehind, Cond.instanceMethod yX4_allRestBehind, Cond.selects RX4 yX4_allRestBehind yX4_allRestBehind, Cond.code yX4_allRestBehind cX4_allRestBehind 5 (some .boolean), Cond.fieldLink RX4 39 "KeyScanner" "time" "I", Cond.fieldLink RX4 199 "KeyScanner$Matrix" "first" "LKeyScanner$Net;", Cond.methodLink RX4 128 yJ9_floorMod_7cf53, Cond.static yJ9_floorMod_7cf53, Cond.initialized RJ9, Cond.code yJ9_floorMod_7cf53 cJ9_floorMod_7cf53 3 (some .int), Cond.methodLink RX4 242 yX1_seen, Cond.instanceMethod yX1_seen, Cond.selects RX1 yX1_seen yX1_seen, Cond.initialized RX1]
def wsX4_restAfter_r2 : List Cond := [Cond.code yX1_seen cX1_seen 3 (some .int), Cond.fieldLink RX1 32 "KeyScanner$Matrix" "diodes" "Z", Cond.fieldLink RX1 54 "KeyScanner$Net" "closed" "[I", Cond.fieldLink RX1 57 "KeyScanner$Net" "joined" "[I", Cond.methodLink RX4 246 yX4_rowRests, Cond.instanceMethod yX4_rowRests, Cond.selects RX4 yX4_rowRests yX4_rowRests, Cond.code yX4_rowRests cX4_rowRests 4 (some .boolean), Cond.fieldLink RX4 217 "KeyScanner$Matrix" "columns" "I", Cond.fieldLink RX4 32 "KeyScanner" "phases" "[I"]
def wsX4_restAfter : List Cond := .code yX4_restAfter cX4_restAfter 4 (some .int) :: ((wsX4_restAfter_r1 ++ wsX4_restAfter_r2) ++ wsX40 ++ wsX10 ++ wsX20)
def wsX5_keys : List Cond := .code yX5_keys cX5_keys 1 (some .int) :: ([.fieldLink RX5 61 "KeyScannerModel" "rows" "I", .fieldLink RX5 64 "KeyScannerModel" "columns" "I"] ++ wsX50)
def wsX5_connect : List Cond := .code yX5_connect cX5_connect 7 none :: ([.fieldLink RX5 100 "KeyScannerModel" "foundRows" "I", .fieldLink RX5 103 "KeyScannerModel" "foundColumns" "I", .fieldLink RX5 64 "KeyScannerModel" "columns" "I", .fieldLink RX5 16 "KeyScannerModel" "positionOf" "[I", .methodLink RX5 96 yX5_keys, .instanceMethod yX5_keys, .selects RX5 yX5_keys yX5_keys, .initialized RX5, .code yX5_keys cX5_keys 1 (some .int), .fieldLink RX5 61 "KeyScannerModel" "rows" "I"] ++ wsX50)
def wsX5_appear : List Cond := .code yX5_appear cX5_appear 5 none :: ([.fieldLink RX5 61 "KeyScannerModel" "rows" "I", .fieldLink RX5 103 "KeyScannerModel" "foundColumns" "I", .fieldLink RX5 64 "KeyScannerModel" "columns" "I", .fieldLink RX5 30 "KeyScannerModel" "secondOf" "[Z", .fieldLink RX5 109 "KeyScannerModel" "hasDiodes" "Z", .fieldLink RX5 16 "KeyScannerModel" "positionOf" "[I", .fieldLink RX5 26 "KeyScannerModel" "firstOf" "[Z", .methodLink RX5 106 yX5_connect, .instanceMethod yX5_connect, .selects RX5 yX5_connect yX5_connect, .initialized RX5, .code yX5_connect cX5_connect 7 none, .fieldLink RX5 100 "KeyScannerModel" "foundRows" "I", .methodLink RX5 96 yX5_keys, .instanceMethod yX5_keys, .selects RX5 yX5_keys yX5_keys, .code yX5_keys cX5_keys 1 (some .int)] ++ wsX50)
def wsX5_begin_r1 : List Cond := [Cond.fieldLink RX5 61 "KeyScannerModel" "rows" "I", Cond.fieldLink RX5 64 "KeyScannerModel" "columns" "I", Cond.fieldLink RX5 67 "KeyScannerModel" "isSustained" "Z", Cond.fieldLink RX5 71 "KeyScannerModel" "isSostenuto" "Z", Cond.fieldLink RX5 74 "KeyScannerModel" "time" "I", Cond.fieldLink RX5 16 "KeyScannerModel" "positionOf" "[I", Cond.fieldLink RX5 20 "KeyScannerModel" "phaseOf" "[I", Cond.fieldLink RX5 23 "KeyScannerModel" "beginOf" "[I", Cond.fieldLink RX5 33 "KeyScannerModel" "stateOf" "[I", Cond.fieldLink RX5 45 "KeyScannerModel" "isCaptured" "[Z", Cond.fieldLink RX5 77 "KeyScannerModel" "entries" "I", Cond.fieldLink RX5 80 "KeyScannerModel" "strikes" "I", Cond.fieldLink RX5 83 "KeyScannerModel" "refusals" "I", Cond.fieldLink RX5 86 "KeyScannerModel" "takings" "I", Cond.methodLink RX5 89 yX5_appear, Cond.instanceMethod yX5_appear, Cond.selects RX5 yX5_appear yX5_appear, Cond.initialized RX5, Cond.code yX5_appear cX5_appear 5 none, Cond.fieldLink RX5 103 "KeyScannerModel" "foundColumns" "I", Cond.fieldLink RX5 30 "KeyScannerModel" "secondOf" "[Z", Cond.fieldLink RX5 109 "KeyScannerModel" "hasDiodes" "Z", Cond.fieldLink RX5 26 "KeyScannerModel" "firstOf" "[Z", Cond.methodLink RX5 106 yX5_connect]
def wsX5_begin_r2 : List Cond := [Cond.instanceMethod yX5_connect, Cond.selects RX5 yX5_connect yX5_connect, Cond.code yX5_connect cX5_connect 7 none, Cond.fieldLink RX5 100 "KeyScannerModel" "foundRows" "I", Cond.methodLink RX5 96 yX5_keys, Cond.instanceMethod yX5_keys, Cond.selects RX5 yX5_keys yX5_keys, Cond.code yX5_keys cX5_keys 1 (some .int)]
def wsX5_begin : List Cond := .code yX5_begin cX5_begin 4 none :: ((wsX5_begin_r1 ++ wsX5_begin_r2) ++ wsX50)
def wsX5_init_r1 : List Cond := [Cond.methodLink RX5 1 objectInit, Cond.instanceMethod objectInit, Cond.code objectInit ⟨#[0xb1]⟩ 1 none, Cond.fieldLink RX5 7 "KeyScannerModel" "slope" "I", Cond.fieldLink RX5 13 "KeyScannerModel" "voices" "I", Cond.arrayClass .int, Cond.fieldLink RX5 16 "KeyScannerModel" "positionOf" "[I", Cond.fieldLink RX5 20 "KeyScannerModel" "phaseOf" "[I", Cond.fieldLink RX5 23 "KeyScannerModel" "beginOf" "[I", Cond.arrayClass .boolean, Cond.fieldLink RX5 26 "KeyScannerModel" "firstOf" "[Z", Cond.fieldLink RX5 30 "KeyScannerModel" "secondOf" "[Z", Cond.fieldLink RX5 33 "KeyScannerModel" "stateOf" "[I", Cond.fieldLink RX5 36 "KeyScannerModel" "keyOf" "[I", Cond.fieldLink RX5 39 "KeyScannerModel" "velocityOf" "[I", Cond.fieldLink RX5 42 "KeyScannerModel" "sinceOf" "[I", Cond.fieldLink RX5 45 "KeyScannerModel" "isCaptured" "[Z", Cond.fieldLink RX5 48 "KeyScannerModel" "logRow" "[I", Cond.fieldLink RX5 51 "KeyScannerModel" "oldPhase" "[I", Cond.fieldLink RX5 54 "KeyScannerModel" "oldBegin" "[I", Cond.methodLink RX5 57 yX5_begin, Cond.instanceMethod yX5_begin, Cond.selects RX5 yX5_begin yX5_begin, Cond.initialized RX5]
def wsX5_init_r2 : List Cond := [Cond.code yX5_begin cX5_begin 4 none, Cond.fieldLink RX5 61 "KeyScannerModel" "rows" "I", Cond.fieldLink RX5 64 "KeyScannerModel" "columns" "I", Cond.fieldLink RX5 67 "KeyScannerModel" "isSustained" "Z", Cond.fieldLink RX5 71 "KeyScannerModel" "isSostenuto" "Z", Cond.fieldLink RX5 74 "KeyScannerModel" "time" "I", Cond.fieldLink RX5 77 "KeyScannerModel" "entries" "I", Cond.fieldLink RX5 80 "KeyScannerModel" "strikes" "I", Cond.fieldLink RX5 83 "KeyScannerModel" "refusals" "I", Cond.fieldLink RX5 86 "KeyScannerModel" "takings" "I", Cond.methodLink RX5 89 yX5_appear, Cond.instanceMethod yX5_appear, Cond.selects RX5 yX5_appear yX5_appear, Cond.code yX5_appear cX5_appear 5 none, Cond.fieldLink RX5 103 "KeyScannerModel" "foundColumns" "I", Cond.fieldLink RX5 109 "KeyScannerModel" "hasDiodes" "Z", Cond.methodLink RX5 106 yX5_connect, Cond.instanceMethod yX5_connect, Cond.selects RX5 yX5_connect yX5_connect, Cond.code yX5_connect cX5_connect 7 none, Cond.fieldLink RX5 100 "KeyScannerModel" "foundRows" "I", Cond.methodLink RX5 96 yX5_keys, Cond.instanceMethod yX5_keys, Cond.selects RX5 yX5_keys yX5_keys]
def wsX5_init_r3 : List Cond := [Cond.code yX5_keys cX5_keys 1 (some .int)]
def wsX5_init : List Cond := .code yX5_init cX5_init 1 none :: ((wsX5_init_r1 ++ (wsX5_init_r2 ++ wsX5_init_r3)) ++ wsX50)
def wsX5_in : List Cond := .code yX5_in cX5_in 3 (some .boolean) :: ([])
def wsX5_reset_r1 : List Cond := [Cond.methodLink RX5 92 yX5_in, Cond.static yX5_in, Cond.initialized RX5, Cond.code yX5_in cX5_in 3 (some .boolean), Cond.methodLink RX5 57 yX5_begin, Cond.instanceMethod yX5_begin, Cond.selects RX5 yX5_begin yX5_begin, Cond.code yX5_begin cX5_begin 4 none, Cond.fieldLink RX5 61 "KeyScannerModel" "rows" "I", Cond.fieldLink RX5 64 "KeyScannerModel" "columns" "I", Cond.fieldLink RX5 67 "KeyScannerModel" "isSustained" "Z", Cond.fieldLink RX5 71 "KeyScannerModel" "isSostenuto" "Z", Cond.fieldLink RX5 74 "KeyScannerModel" "time" "I", Cond.fieldLink RX5 16 "KeyScannerModel" "positionOf" "[I", Cond.fieldLink RX5 20 "KeyScannerModel" "phaseOf" "[I", Cond.fieldLink RX5 23 "KeyScannerModel" "beginOf" "[I", Cond.fieldLink RX5 33 "KeyScannerModel" "stateOf" "[I", Cond.fieldLink RX5 45 "KeyScannerModel" "isCaptured" "[Z", Cond.fieldLink RX5 77 "KeyScannerModel" "entries" "I", Cond.fieldLink RX5 80 "KeyScannerModel" "strikes" "I", Cond.fieldLink RX5 83 "KeyScannerModel" "refusals" "I", Cond.fieldLink RX5 86 "KeyScannerModel" "takings" "I", Cond.methodLink RX5 89 yX5_appear, Cond.instanceMethod yX5_appear]
def wsX5_reset_r2 : List Cond := [Cond.selects RX5 yX5_appear yX5_appear, Cond.code yX5_appear cX5_appear 5 none, Cond.fieldLink RX5 103 "KeyScannerModel" "foundColumns" "I", Cond.fieldLink RX5 30 "KeyScannerModel" "secondOf" "[Z", Cond.fieldLink RX5 109 "KeyScannerModel" "hasDiodes" "Z", Cond.fieldLink RX5 26 "KeyScannerModel" "firstOf" "[Z", Cond.methodLink RX5 106 yX5_connect, Cond.instanceMethod yX5_connect, Cond.selects RX5 yX5_connect yX5_connect, Cond.code yX5_connect cX5_connect 7 none, Cond.fieldLink RX5 100 "KeyScannerModel" "foundRows" "I", Cond.methodLink RX5 96 yX5_keys, Cond.instanceMethod yX5_keys, Cond.selects RX5 yX5_keys yX5_keys, Cond.code yX5_keys cX5_keys 1 (some .int)]
def wsX5_reset : List Cond := .code yX5_reset cX5_reset 3 (some .int) :: ((wsX5_reset_r1 ++ wsX5_reset_r2) ++ wsX50)
def wsX5_isGhost : List Cond := .code yX5_isGhost cX5_isGhost 2 (some .boolean) :: ([.fieldLink RX5 26 "KeyScannerModel" "firstOf" "[Z", .fieldLink RX5 16 "KeyScannerModel" "positionOf" "[I", .fieldLink RX5 30 "KeyScannerModel" "secondOf" "[Z"] ++ wsX50)
def wsX5_isDoubtful : List Cond := .code yX5_isDoubtful cX5_isDoubtful 6 (some .boolean) :: ([.fieldLink RX5 26 "KeyScannerModel" "firstOf" "[Z", .fieldLink RX5 64 "KeyScannerModel" "columns" "I", .methodLink RX5 96 yX5_keys, .instanceMethod yX5_keys, .selects RX5 yX5_keys yX5_keys, .initialized RX5, .code yX5_keys cX5_keys 1 (some .int), .fieldLink RX5 61 "KeyScannerModel" "rows" "I"] ++ wsX50)
def wsX5_ghosts : List Cond := .code yX5_ghosts cX5_ghosts 3 (some .int) :: ([.methodLink RX5 96 yX5_keys, .instanceMethod yX5_keys, .selects RX5 yX5_keys yX5_keys, .initialized RX5, .code yX5_keys cX5_keys 1 (some .int), .fieldLink RX5 61 "KeyScannerModel" "rows" "I", .fieldLink RX5 64 "KeyScannerModel" "columns" "I", .methodLink RX5 112 yX5_isGhost, .instanceMethod yX5_isGhost, .selects RX5 yX5_isGhost yX5_isGhost, .code yX5_isGhost cX5_isGhost 2 (some .boolean), .fieldLink RX5 26 "KeyScannerModel" "firstOf" "[Z", .fieldLink RX5 16 "KeyScannerModel" "positionOf" "[I", .fieldLink RX5 30 "KeyScannerModel" "secondOf" "[Z"] ++ wsX50)
def wsX5_setDiodes_r1 : List Cond := [Cond.fieldLink RX5 109 "KeyScannerModel" "hasDiodes" "Z", Cond.methodLink RX5 89 yX5_appear, Cond.instanceMethod yX5_appear, Cond.selects RX5 yX5_appear yX5_appear, Cond.initialized RX5, Cond.code yX5_appear cX5_appear 5 none, Cond.fieldLink RX5 61 "KeyScannerModel" "rows" "I", Cond.fieldLink RX5 103 "KeyScannerModel" "foundColumns" "I", Cond.fieldLink RX5 64 "KeyScannerModel" "columns" "I", Cond.fieldLink RX5 30 "KeyScannerModel" "secondOf" "[Z", Cond.fieldLink RX5 16 "KeyScannerModel" "positionOf" "[I", Cond.fieldLink RX5 26 "KeyScannerModel" "firstOf" "[Z", Cond.methodLink RX5 106 yX5_connect, Cond.instanceMethod yX5_connect, Cond.selects RX5 yX5_connect yX5_connect, Cond.code yX5_connect cX5_connect 7 none, Cond.fieldLink RX5 100 "KeyScannerModel" "foundRows" "I", Cond.methodLink RX5 96 yX5_keys, Cond.instanceMethod yX5_keys, Cond.selects RX5 yX5_keys yX5_keys, Cond.code yX5_keys cX5_keys 1 (some .int), Cond.methodLink RX5 116 yX5_ghosts, Cond.instanceMethod yX5_ghosts, Cond.selects RX5 yX5_ghosts yX5_ghosts]
def wsX5_setDiodes_r2 : List Cond := [Cond.code yX5_ghosts cX5_ghosts 3 (some .int), Cond.methodLink RX5 112 yX5_isGhost, Cond.instanceMethod yX5_isGhost, Cond.selects RX5 yX5_isGhost yX5_isGhost, Cond.code yX5_isGhost cX5_isGhost 2 (some .boolean)]
def wsX5_setDiodes : List Cond := .code yX5_setDiodes cX5_setDiodes 2 (some .int) :: ((wsX5_setDiodes_r1 ++ wsX5_setDiodes_r2) ++ wsX50)
def wsX5_setBlocking : List Cond := .code yX5_setBlocking cX5_setBlocking 3 (some .int) :: ([.fieldLink RX5 119 "KeyScannerModel" "isBlocking" "Z"] ++ wsX50)
def wsX5_setLateRelease : List Cond := .code yX5_setLateRelease cX5_setLateRelease 3 (some .int) :: ([.fieldLink RX5 122 "KeyScannerModel" "isLate" "Z"] ++ wsX50)
def wsX5_setSlope : List Cond := .code yX5_setSlope cX5_setSlope 3 (some .int) :: ([.fieldLink RX5 7 "KeyScannerModel" "slope" "I", .methodLink RX5 92 yX5_in, .static yX5_in, .initialized RX5, .code yX5_in cX5_in 3 (some .boolean)] ++ wsX50)
def wsX5_enter : List Cond := .code yX5_enter cX5_enter 4 none :: ([.fieldLink RX5 48 "KeyScannerModel" "logRow" "[I", .fieldLink RX5 74 "KeyScannerModel" "time" "I", .fieldLink RX5 77 "KeyScannerModel" "entries" "I"] ++ wsX50)
def wsX5_frees : List Cond := .code yX5_frees cX5_frees 2 (some .int) :: ([.fieldLink RX5 33 "KeyScannerModel" "stateOf" "[I", .fieldLink RX5 45 "KeyScannerModel" "isCaptured" "[Z", .fieldLink RX5 36 "KeyScannerModel" "keyOf" "[I", .methodLink RX5 132 yX5_enter, .instanceMethod yX5_enter, .selects RX5 yX5_enter yX5_enter, .initialized RX5, .code yX5_enter cX5_enter 4 none, .fieldLink RX5 48 "KeyScannerModel" "logRow" "[I", .fieldLink RX5 74 "KeyScannerModel" "time" "I", .fieldLink RX5 77 "KeyScannerModel" "entries" "I"] ++ wsX50)
def wsX5_setVoices : List Cond := .code yX5_setVoices cX5_setVoices 5 (some .int) :: ([.fieldLink RX5 13 "KeyScannerModel" "voices" "I", .fieldLink RX5 129 "KeyScannerModel" "rule" "I", .methodLink RX5 92 yX5_in, .static yX5_in, .initialized RX5, .code yX5_in cX5_in 3 (some .boolean), .methodLink RX5 125 yX5_frees, .instanceMethod yX5_frees, .selects RX5 yX5_frees yX5_frees, .code yX5_frees cX5_frees 2 (some .int), .fieldLink RX5 33 "KeyScannerModel" "stateOf" "[I", .fieldLink RX5 45 "KeyScannerModel" "isCaptured" "[Z", .fieldLink RX5 36 "KeyScannerModel" "keyOf" "[I", .methodLink RX5 132 yX5_enter, .instanceMethod yX5_enter, .selects RX5 yX5_enter yX5_enter, .code yX5_enter cX5_enter 4 none, .fieldLink RX5 48 "KeyScannerModel" "logRow" "[I", .fieldLink RX5 74 "KeyScannerModel" "time" "I", .fieldLink RX5 77 "KeyScannerModel" "entries" "I"] ++ wsX50)
def wsX5_voiceOf : List Cond := .code yX5_voiceOf cX5_voiceOf 3 (some .int) :: ([.fieldLink RX5 13 "KeyScannerModel" "voices" "I", .fieldLink RX5 33 "KeyScannerModel" "stateOf" "[I", .fieldLink RX5 36 "KeyScannerModel" "keyOf" "[I"] ++ wsX50)
def wsX5_freeVoice : List Cond := .code yX5_freeVoice cX5_freeVoice 2 (some .int) :: ([.fieldLink RX5 13 "KeyScannerModel" "voices" "I", .fieldLink RX5 33 "KeyScannerModel" "stateOf" "[I"] ++ wsX50)
def wsX5_isWeaker : List Cond := .code yX5_isWeaker cX5_isWeaker 3 (some .boolean) :: ([.fieldLink RX5 129 "KeyScannerModel" "rule" "I", .fieldLink RX5 39 "KeyScannerModel" "velocityOf" "[I", .fieldLink RX5 42 "KeyScannerModel" "sinceOf" "[I"] ++ wsX50)
def wsX5_weakest : List Cond := .code yX5_weakest cX5_weakest 4 (some .int) :: ([.fieldLink RX5 13 "KeyScannerModel" "voices" "I", .fieldLink RX5 33 "KeyScannerModel" "stateOf" "[I", .methodLink RX5 135 yX5_isWeaker, .instanceMethod yX5_isWeaker, .selects RX5 yX5_isWeaker yX5_isWeaker, .initialized RX5, .code yX5_isWeaker cX5_isWeaker 3 (some .boolean), .fieldLink RX5 129 "KeyScannerModel" "rule" "I", .fieldLink RX5 39 "KeyScannerModel" "velocityOf" "[I", .fieldLink RX5 42 "KeyScannerModel" "sinceOf" "[I"] ++ wsX50)
def wsX5_taken : List Cond := .code yX5_taken cX5_taken 2 (some .int) :: ([.fieldLink RX5 129 "KeyScannerModel" "rule" "I", .methodLink RX5 139 yX5_weakest, .instanceMethod yX5_weakest, .selects RX5 yX5_weakest yX5_weakest, .initialized RX5, .code yX5_weakest cX5_weakest 4 (some .int), .fieldLink RX5 13 "KeyScannerModel" "voices" "I", .fieldLink RX5 33 "KeyScannerModel" "stateOf" "[I", .methodLink RX5 135 yX5_isWeaker, .instanceMethod yX5_isWeaker, .selects RX5 yX5_isWeaker yX5_isWeaker, .code yX5_isWeaker cX5_isWeaker 3 (some .boolean), .fieldLink RX5 39 "KeyScannerModel" "velocityOf" "[I", .fieldLink RX5 42 "KeyScannerModel" "sinceOf" "[I"] ++ wsX50)
def wsX5_velocityAfter : List Cond := .code yX5_velocityAfter cX5_velocityAfter 3 (some .int) :: ([.fieldLink RX5 7 "KeyScannerModel" "slope" "I"] ++ wsX50)
def wsX5_strike_r1 : List Cond := [Cond.fieldLink RX5 119 "KeyScannerModel" "isBlocking" "Z", Cond.fieldLink RX5 83 "KeyScannerModel" "refusals" "I", Cond.fieldLink RX5 86 "KeyScannerModel" "takings" "I", Cond.fieldLink RX5 36 "KeyScannerModel" "keyOf" "[I", Cond.fieldLink RX5 33 "KeyScannerModel" "stateOf" "[I", Cond.fieldLink RX5 39 "KeyScannerModel" "velocityOf" "[I", Cond.fieldLink RX5 74 "KeyScannerModel" "time" "I", Cond.fieldLink RX5 23 "KeyScannerModel" "beginOf" "[I", Cond.fieldLink RX5 61 "KeyScannerModel" "rows" "I", Cond.fieldLink RX5 42 "KeyScannerModel" "sinceOf" "[I", Cond.fieldLink RX5 45 "KeyScannerModel" "isCaptured" "[Z", Cond.fieldLink RX5 80 "KeyScannerModel" "strikes" "I", Cond.methodLink RX5 143 yX5_isDoubtful, Cond.instanceMethod yX5_isDoubtful, Cond.selects RX5 yX5_isDoubtful yX5_isDoubtful, Cond.initialized RX5, Cond.code yX5_isDoubtful cX5_isDoubtful 6 (some .boolean), Cond.fieldLink RX5 26 "KeyScannerModel" "firstOf" "[Z", Cond.fieldLink RX5 64 "KeyScannerModel" "columns" "I", Cond.methodLink RX5 96 yX5_keys, Cond.instanceMethod yX5_keys, Cond.selects RX5 yX5_keys yX5_keys, Cond.code yX5_keys cX5_keys 1 (some .int), Cond.methodLink RX5 132 yX5_enter]
def wsX5_strike_r2 : List Cond := [Cond.instanceMethod yX5_enter, Cond.selects RX5 yX5_enter yX5_enter, Cond.code yX5_enter cX5_enter 4 none, Cond.fieldLink RX5 48 "KeyScannerModel" "logRow" "[I", Cond.fieldLink RX5 77 "KeyScannerModel" "entries" "I", Cond.methodLink RX5 146 yX5_voiceOf, Cond.instanceMethod yX5_voiceOf, Cond.selects RX5 yX5_voiceOf yX5_voiceOf, Cond.code yX5_voiceOf cX5_voiceOf 3 (some .int), Cond.fieldLink RX5 13 "KeyScannerModel" "voices" "I", Cond.methodLink RX5 149 yX5_freeVoice, Cond.instanceMethod yX5_freeVoice, Cond.selects RX5 yX5_freeVoice yX5_freeVoice, Cond.code yX5_freeVoice cX5_freeVoice 2 (some .int), Cond.methodLink RX5 152 yX5_taken, Cond.instanceMethod yX5_taken, Cond.selects RX5 yX5_taken yX5_taken, Cond.code yX5_taken cX5_taken 2 (some .int), Cond.fieldLink RX5 129 "KeyScannerModel" "rule" "I", Cond.methodLink RX5 139 yX5_weakest, Cond.instanceMethod yX5_weakest, Cond.selects RX5 yX5_weakest yX5_weakest, Cond.code yX5_weakest cX5_weakest 4 (some .int), Cond.methodLink RX5 135 yX5_isWeaker]
def wsX5_strike_r3 : List Cond := [Cond.instanceMethod yX5_isWeaker, Cond.selects RX5 yX5_isWeaker yX5_isWeaker, Cond.code yX5_isWeaker cX5_isWeaker 3 (some .boolean), Cond.methodLink RX5 155 yX5_velocityAfter, Cond.instanceMethod yX5_velocityAfter, Cond.selects RX5 yX5_velocityAfter yX5_velocityAfter, Cond.code yX5_velocityAfter cX5_velocityAfter 3 (some .int), Cond.fieldLink RX5 7 "KeyScannerModel" "slope" "I"]
def wsX5_strike : List Cond := .code yX5_strike cX5_strike 3 none :: ((wsX5_strike_r1 ++ (wsX5_strike_r2 ++ wsX5_strike_r3)) ++ wsX50)
def wsX5_release : List Cond := .code yX5_release cX5_release 3 none :: ([.fieldLink RX5 33 "KeyScannerModel" "stateOf" "[I", .fieldLink RX5 67 "KeyScannerModel" "isSustained" "Z", .fieldLink RX5 71 "KeyScannerModel" "isSostenuto" "Z", .fieldLink RX5 45 "KeyScannerModel" "isCaptured" "[Z", .methodLink RX5 146 yX5_voiceOf, .instanceMethod yX5_voiceOf, .selects RX5 yX5_voiceOf yX5_voiceOf, .initialized RX5, .code yX5_voiceOf cX5_voiceOf 3 (some .int), .fieldLink RX5 13 "KeyScannerModel" "voices" "I", .fieldLink RX5 36 "KeyScannerModel" "keyOf" "[I", .methodLink RX5 125 yX5_frees, .instanceMethod yX5_frees, .selects RX5 yX5_frees yX5_frees, .code yX5_frees cX5_frees 2 (some .int), .methodLink RX5 132 yX5_enter, .instanceMethod yX5_enter, .selects RX5 yX5_enter yX5_enter, .code yX5_enter cX5_enter 4 none, .fieldLink RX5 48 "KeyScannerModel" "logRow" "[I", .fieldLink RX5 74 "KeyScannerModel" "time" "I", .fieldLink RX5 77 "KeyScannerModel" "entries" "I"] ++ wsX50)
def wsX5_hits_r1 : List Cond := [Cond.fieldLink RX5 20 "KeyScannerModel" "phaseOf" "[I", Cond.methodLink RX5 166 yX5_strike, Cond.instanceMethod yX5_strike, Cond.selects RX5 yX5_strike yX5_strike, Cond.initialized RX5, Cond.code yX5_strike cX5_strike 3 none, Cond.fieldLink RX5 119 "KeyScannerModel" "isBlocking" "Z", Cond.fieldLink RX5 83 "KeyScannerModel" "refusals" "I", Cond.fieldLink RX5 86 "KeyScannerModel" "takings" "I", Cond.fieldLink RX5 36 "KeyScannerModel" "keyOf" "[I", Cond.fieldLink RX5 33 "KeyScannerModel" "stateOf" "[I", Cond.fieldLink RX5 39 "KeyScannerModel" "velocityOf" "[I", Cond.fieldLink RX5 74 "KeyScannerModel" "time" "I", Cond.fieldLink RX5 23 "KeyScannerModel" "beginOf" "[I", Cond.fieldLink RX5 61 "KeyScannerModel" "rows" "I", Cond.fieldLink RX5 42 "KeyScannerModel" "sinceOf" "[I", Cond.fieldLink RX5 45 "KeyScannerModel" "isCaptured" "[Z", Cond.fieldLink RX5 80 "KeyScannerModel" "strikes" "I", Cond.methodLink RX5 143 yX5_isDoubtful, Cond.instanceMethod yX5_isDoubtful, Cond.selects RX5 yX5_isDoubtful yX5_isDoubtful, Cond.code yX5_isDoubtful cX5_isDoubtful 6 (some .boolean), Cond.fieldLink RX5 26 "KeyScannerModel" "firstOf" "[Z", Cond.fieldLink RX5 64 "KeyScannerModel" "columns" "I"]
def wsX5_hits_r2 : List Cond := [Cond.methodLink RX5 96 yX5_keys, Cond.instanceMethod yX5_keys, Cond.selects RX5 yX5_keys yX5_keys, Cond.code yX5_keys cX5_keys 1 (some .int), Cond.methodLink RX5 132 yX5_enter, Cond.instanceMethod yX5_enter, Cond.selects RX5 yX5_enter yX5_enter, Cond.code yX5_enter cX5_enter 4 none, Cond.fieldLink RX5 48 "KeyScannerModel" "logRow" "[I", Cond.fieldLink RX5 77 "KeyScannerModel" "entries" "I", Cond.methodLink RX5 146 yX5_voiceOf, Cond.instanceMethod yX5_voiceOf, Cond.selects RX5 yX5_voiceOf yX5_voiceOf, Cond.code yX5_voiceOf cX5_voiceOf 3 (some .int), Cond.fieldLink RX5 13 "KeyScannerModel" "voices" "I", Cond.methodLink RX5 149 yX5_freeVoice, Cond.instanceMethod yX5_freeVoice, Cond.selects RX5 yX5_freeVoice yX5_freeVoice, Cond.code yX5_freeVoice cX5_freeVoice 2 (some .int), Cond.methodLink RX5 152 yX5_taken, Cond.instanceMethod yX5_taken, Cond.selects RX5 yX5_taken yX5_taken, Cond.code yX5_taken cX5_taken 2 (some .int), Cond.fieldLink RX5 129 "KeyScannerModel" "rule" "I"]
def wsX5_hits_r3 : List Cond := [Cond.methodLink RX5 139 yX5_weakest, Cond.instanceMethod yX5_weakest, Cond.selects RX5 yX5_weakest yX5_weakest, Cond.code yX5_weakest cX5_weakest 4 (some .int), Cond.methodLink RX5 135 yX5_isWeaker, Cond.instanceMethod yX5_isWeaker, Cond.selects RX5 yX5_isWeaker yX5_isWeaker, Cond.code yX5_isWeaker cX5_isWeaker 3 (some .boolean), Cond.methodLink RX5 155 yX5_velocityAfter, Cond.instanceMethod yX5_velocityAfter, Cond.selects RX5 yX5_velocityAfter yX5_velocityAfter, Cond.code yX5_velocityAfter cX5_velocityAfter 3 (some .int), Cond.fieldLink RX5 7 "KeyScannerModel" "slope" "I"]
def wsX5_hits : List Cond := .code yX5_hits cX5_hits 3 none :: ((wsX5_hits_r1 ++ (wsX5_hits_r2 ++ wsX5_hits_r3)) ++ wsX50)
def wsX5_scan_r1 : List Cond := [Cond.fieldLink RX5 20 "KeyScannerModel" "phaseOf" "[I", Cond.fieldLink RX5 26 "KeyScannerModel" "firstOf" "[Z", Cond.fieldLink RX5 23 "KeyScannerModel" "beginOf" "[I", Cond.fieldLink RX5 74 "KeyScannerModel" "time" "I", Cond.fieldLink RX5 30 "KeyScannerModel" "secondOf" "[Z", Cond.fieldLink RX5 122 "KeyScannerModel" "isLate" "Z", Cond.methodLink RX5 158 yX5_hits, Cond.instanceMethod yX5_hits, Cond.selects RX5 yX5_hits yX5_hits, Cond.initialized RX5, Cond.code yX5_hits cX5_hits 3 none, Cond.methodLink RX5 166 yX5_strike, Cond.instanceMethod yX5_strike, Cond.selects RX5 yX5_strike yX5_strike, Cond.code yX5_strike cX5_strike 3 none, Cond.fieldLink RX5 119 "KeyScannerModel" "isBlocking" "Z", Cond.fieldLink RX5 83 "KeyScannerModel" "refusals" "I", Cond.fieldLink RX5 86 "KeyScannerModel" "takings" "I", Cond.fieldLink RX5 36 "KeyScannerModel" "keyOf" "[I", Cond.fieldLink RX5 33 "KeyScannerModel" "stateOf" "[I", Cond.fieldLink RX5 39 "KeyScannerModel" "velocityOf" "[I", Cond.fieldLink RX5 61 "KeyScannerModel" "rows" "I", Cond.fieldLink RX5 42 "KeyScannerModel" "sinceOf" "[I", Cond.fieldLink RX5 45 "KeyScannerModel" "isCaptured" "[Z"]
def wsX5_scan_r2 : List Cond := [Cond.fieldLink RX5 80 "KeyScannerModel" "strikes" "I", Cond.methodLink RX5 143 yX5_isDoubtful, Cond.instanceMethod yX5_isDoubtful, Cond.selects RX5 yX5_isDoubtful yX5_isDoubtful, Cond.code yX5_isDoubtful cX5_isDoubtful 6 (some .boolean), Cond.fieldLink RX5 64 "KeyScannerModel" "columns" "I", Cond.methodLink RX5 96 yX5_keys, Cond.instanceMethod yX5_keys, Cond.selects RX5 yX5_keys yX5_keys, Cond.code yX5_keys cX5_keys 1 (some .int), Cond.methodLink RX5 132 yX5_enter, Cond.instanceMethod yX5_enter, Cond.selects RX5 yX5_enter yX5_enter, Cond.code yX5_enter cX5_enter 4 none, Cond.fieldLink RX5 48 "KeyScannerModel" "logRow" "[I", Cond.fieldLink RX5 77 "KeyScannerModel" "entries" "I", Cond.methodLink RX5 146 yX5_voiceOf, Cond.instanceMethod yX5_voiceOf, Cond.selects RX5 yX5_voiceOf yX5_voiceOf, Cond.code yX5_voiceOf cX5_voiceOf 3 (some .int), Cond.fieldLink RX5 13 "KeyScannerModel" "voices" "I", Cond.methodLink RX5 149 yX5_freeVoice, Cond.instanceMethod yX5_freeVoice, Cond.selects RX5 yX5_freeVoice yX5_freeVoice]
def wsX5_scan_r3 : List Cond := [Cond.code yX5_freeVoice cX5_freeVoice 2 (some .int), Cond.methodLink RX5 152 yX5_taken, Cond.instanceMethod yX5_taken, Cond.selects RX5 yX5_taken yX5_taken, Cond.code yX5_taken cX5_taken 2 (some .int), Cond.fieldLink RX5 129 "KeyScannerModel" "rule" "I", Cond.methodLink RX5 139 yX5_weakest, Cond.instanceMethod yX5_weakest, Cond.selects RX5 yX5_weakest yX5_weakest, Cond.code yX5_weakest cX5_weakest 4 (some .int), Cond.methodLink RX5 135 yX5_isWeaker, Cond.instanceMethod yX5_isWeaker, Cond.selects RX5 yX5_isWeaker yX5_isWeaker, Cond.code yX5_isWeaker cX5_isWeaker 3 (some .boolean), Cond.methodLink RX5 155 yX5_velocityAfter, Cond.instanceMethod yX5_velocityAfter, Cond.selects RX5 yX5_velocityAfter yX5_velocityAfter, Cond.code yX5_velocityAfter cX5_velocityAfter 3 (some .int), Cond.fieldLink RX5 7 "KeyScannerModel" "slope" "I", Cond.methodLink RX5 162 yX5_release, Cond.instanceMethod yX5_release, Cond.selects RX5 yX5_release yX5_release, Cond.code yX5_release cX5_release 3 none, Cond.fieldLink RX5 67 "KeyScannerModel" "isSustained" "Z"]
def wsX5_scan_r4 : List Cond := [Cond.fieldLink RX5 71 "KeyScannerModel" "isSostenuto" "Z", Cond.methodLink RX5 125 yX5_frees, Cond.instanceMethod yX5_frees, Cond.selects RX5 yX5_frees yX5_frees, Cond.code yX5_frees cX5_frees 2 (some .int)]
def wsX5_scan : List Cond := .code yX5_scan cX5_scan 4 none :: ((wsX5_scan_r1 ++ (wsX5_scan_r2 ++ (wsX5_scan_r3 ++ wsX5_scan_r4))) ++ wsX50)
def wsX5_pass_r1 : List Cond := [Cond.fieldLink RX5 74 "KeyScannerModel" "time" "I", Cond.fieldLink RX5 61 "KeyScannerModel" "rows" "I", Cond.fieldLink RX5 64 "KeyScannerModel" "columns" "I", Cond.methodLink RX5 169 yX5_scan, Cond.instanceMethod yX5_scan, Cond.selects RX5 yX5_scan yX5_scan, Cond.initialized RX5, Cond.code yX5_scan cX5_scan 4 none, Cond.fieldLink RX5 20 "KeyScannerModel" "phaseOf" "[I", Cond.fieldLink RX5 26 "KeyScannerModel" "firstOf" "[Z", Cond.fieldLink RX5 23 "KeyScannerModel" "beginOf" "[I", Cond.fieldLink RX5 30 "KeyScannerModel" "secondOf" "[Z", Cond.fieldLink RX5 122 "KeyScannerModel" "isLate" "Z", Cond.methodLink RX5 158 yX5_hits, Cond.instanceMethod yX5_hits, Cond.selects RX5 yX5_hits yX5_hits, Cond.code yX5_hits cX5_hits 3 none, Cond.methodLink RX5 166 yX5_strike, Cond.instanceMethod yX5_strike, Cond.selects RX5 yX5_strike yX5_strike, Cond.code yX5_strike cX5_strike 3 none, Cond.fieldLink RX5 119 "KeyScannerModel" "isBlocking" "Z", Cond.fieldLink RX5 83 "KeyScannerModel" "refusals" "I", Cond.fieldLink RX5 86 "KeyScannerModel" "takings" "I"]
def wsX5_pass_r2 : List Cond := [Cond.fieldLink RX5 36 "KeyScannerModel" "keyOf" "[I", Cond.fieldLink RX5 33 "KeyScannerModel" "stateOf" "[I", Cond.fieldLink RX5 39 "KeyScannerModel" "velocityOf" "[I", Cond.fieldLink RX5 42 "KeyScannerModel" "sinceOf" "[I", Cond.fieldLink RX5 45 "KeyScannerModel" "isCaptured" "[Z", Cond.fieldLink RX5 80 "KeyScannerModel" "strikes" "I", Cond.methodLink RX5 143 yX5_isDoubtful, Cond.instanceMethod yX5_isDoubtful, Cond.selects RX5 yX5_isDoubtful yX5_isDoubtful, Cond.code yX5_isDoubtful cX5_isDoubtful 6 (some .boolean), Cond.methodLink RX5 96 yX5_keys, Cond.instanceMethod yX5_keys, Cond.selects RX5 yX5_keys yX5_keys, Cond.code yX5_keys cX5_keys 1 (some .int), Cond.methodLink RX5 132 yX5_enter, Cond.instanceMethod yX5_enter, Cond.selects RX5 yX5_enter yX5_enter, Cond.code yX5_enter cX5_enter 4 none, Cond.fieldLink RX5 48 "KeyScannerModel" "logRow" "[I", Cond.fieldLink RX5 77 "KeyScannerModel" "entries" "I", Cond.methodLink RX5 146 yX5_voiceOf, Cond.instanceMethod yX5_voiceOf, Cond.selects RX5 yX5_voiceOf yX5_voiceOf, Cond.code yX5_voiceOf cX5_voiceOf 3 (some .int)]
def wsX5_pass_r3 : List Cond := [Cond.fieldLink RX5 13 "KeyScannerModel" "voices" "I", Cond.methodLink RX5 149 yX5_freeVoice, Cond.instanceMethod yX5_freeVoice, Cond.selects RX5 yX5_freeVoice yX5_freeVoice, Cond.code yX5_freeVoice cX5_freeVoice 2 (some .int), Cond.methodLink RX5 152 yX5_taken, Cond.instanceMethod yX5_taken, Cond.selects RX5 yX5_taken yX5_taken, Cond.code yX5_taken cX5_taken 2 (some .int), Cond.fieldLink RX5 129 "KeyScannerModel" "rule" "I", Cond.methodLink RX5 139 yX5_weakest, Cond.instanceMethod yX5_weakest, Cond.selects RX5 yX5_weakest yX5_weakest, Cond.code yX5_weakest cX5_weakest 4 (some .int), Cond.methodLink RX5 135 yX5_isWeaker, Cond.instanceMethod yX5_isWeaker, Cond.selects RX5 yX5_isWeaker yX5_isWeaker, Cond.code yX5_isWeaker cX5_isWeaker 3 (some .boolean), Cond.methodLink RX5 155 yX5_velocityAfter, Cond.instanceMethod yX5_velocityAfter, Cond.selects RX5 yX5_velocityAfter yX5_velocityAfter, Cond.code yX5_velocityAfter cX5_velocityAfter 3 (some .int), Cond.fieldLink RX5 7 "KeyScannerModel" "slope" "I", Cond.methodLink RX5 162 yX5_release]
def wsX5_pass_r4 : List Cond := [Cond.instanceMethod yX5_release, Cond.selects RX5 yX5_release yX5_release, Cond.code yX5_release cX5_release 3 none, Cond.fieldLink RX5 67 "KeyScannerModel" "isSustained" "Z", Cond.fieldLink RX5 71 "KeyScannerModel" "isSostenuto" "Z", Cond.methodLink RX5 125 yX5_frees, Cond.instanceMethod yX5_frees, Cond.selects RX5 yX5_frees yX5_frees, Cond.code yX5_frees cX5_frees 2 (some .int)]
def wsX5_pass : List Cond := .code yX5_pass cX5_pass 4 none :: ((wsX5_pass_r1 ++ (wsX5_pass_r2 ++ (wsX5_pass_r3 ++ wsX5_pass_r4))) ++ wsX50)
def wsX5_tick_r1 : List Cond := [Cond.fieldLink RX5 74 "KeyScannerModel" "time" "I", Cond.methodLink RX5 92 yX5_in, Cond.static yX5_in, Cond.initialized RX5, Cond.code yX5_in cX5_in 3 (some .boolean), Cond.methodLink RX5 172 yX5_pass, Cond.instanceMethod yX5_pass, Cond.selects RX5 yX5_pass yX5_pass, Cond.code yX5_pass cX5_pass 4 none, Cond.fieldLink RX5 61 "KeyScannerModel" "rows" "I", Cond.fieldLink RX5 64 "KeyScannerModel" "columns" "I", Cond.methodLink RX5 169 yX5_scan, Cond.instanceMethod yX5_scan, Cond.selects RX5 yX5_scan yX5_scan, Cond.code yX5_scan cX5_scan 4 none, Cond.fieldLink RX5 20 "KeyScannerModel" "phaseOf" "[I", Cond.fieldLink RX5 26 "KeyScannerModel" "firstOf" "[Z", Cond.fieldLink RX5 23 "KeyScannerModel" "beginOf" "[I", Cond.fieldLink RX5 30 "KeyScannerModel" "secondOf" "[Z", Cond.fieldLink RX5 122 "KeyScannerModel" "isLate" "Z", Cond.methodLink RX5 158 yX5_hits, Cond.instanceMethod yX5_hits, Cond.selects RX5 yX5_hits yX5_hits, Cond.code yX5_hits cX5_hits 3 none]
def wsX5_tick_r2 : List Cond := [Cond.methodLink RX5 166 yX5_strike, Cond.instanceMethod yX5_strike, Cond.selects RX5 yX5_strike yX5_strike, Cond.code yX5_strike cX5_strike 3 none, Cond.fieldLink RX5 119 "KeyScannerModel" "isBlocking" "Z", Cond.fieldLink RX5 83 "KeyScannerModel" "refusals" "I", Cond.fieldLink RX5 86 "KeyScannerModel" "takings" "I", Cond.fieldLink RX5 36 "KeyScannerModel" "keyOf" "[I", Cond.fieldLink RX5 33 "KeyScannerModel" "stateOf" "[I", Cond.fieldLink RX5 39 "KeyScannerModel" "velocityOf" "[I", Cond.fieldLink RX5 42 "KeyScannerModel" "sinceOf" "[I", Cond.fieldLink RX5 45 "KeyScannerModel" "isCaptured" "[Z", Cond.fieldLink RX5 80 "KeyScannerModel" "strikes" "I", Cond.methodLink RX5 143 yX5_isDoubtful, Cond.instanceMethod yX5_isDoubtful, Cond.selects RX5 yX5_isDoubtful yX5_isDoubtful, Cond.code yX5_isDoubtful cX5_isDoubtful 6 (some .boolean), Cond.methodLink RX5 96 yX5_keys, Cond.instanceMethod yX5_keys, Cond.selects RX5 yX5_keys yX5_keys, Cond.code yX5_keys cX5_keys 1 (some .int), Cond.methodLink RX5 132 yX5_enter, Cond.instanceMethod yX5_enter, Cond.selects RX5 yX5_enter yX5_enter]
def wsX5_tick_r3 : List Cond := [Cond.code yX5_enter cX5_enter 4 none, Cond.fieldLink RX5 48 "KeyScannerModel" "logRow" "[I", Cond.fieldLink RX5 77 "KeyScannerModel" "entries" "I", Cond.methodLink RX5 146 yX5_voiceOf, Cond.instanceMethod yX5_voiceOf, Cond.selects RX5 yX5_voiceOf yX5_voiceOf, Cond.code yX5_voiceOf cX5_voiceOf 3 (some .int), Cond.fieldLink RX5 13 "KeyScannerModel" "voices" "I", Cond.methodLink RX5 149 yX5_freeVoice, Cond.instanceMethod yX5_freeVoice, Cond.selects RX5 yX5_freeVoice yX5_freeVoice, Cond.code yX5_freeVoice cX5_freeVoice 2 (some .int), Cond.methodLink RX5 152 yX5_taken, Cond.instanceMethod yX5_taken, Cond.selects RX5 yX5_taken yX5_taken, Cond.code yX5_taken cX5_taken 2 (some .int), Cond.fieldLink RX5 129 "KeyScannerModel" "rule" "I", Cond.methodLink RX5 139 yX5_weakest, Cond.instanceMethod yX5_weakest, Cond.selects RX5 yX5_weakest yX5_weakest, Cond.code yX5_weakest cX5_weakest 4 (some .int), Cond.methodLink RX5 135 yX5_isWeaker, Cond.instanceMethod yX5_isWeaker, Cond.selects RX5 yX5_isWeaker yX5_isWeaker]
def wsX5_tick_r4 : List Cond := [Cond.code yX5_isWeaker cX5_isWeaker 3 (some .boolean), Cond.methodLink RX5 155 yX5_velocityAfter, Cond.instanceMethod yX5_velocityAfter, Cond.selects RX5 yX5_velocityAfter yX5_velocityAfter, Cond.code yX5_velocityAfter cX5_velocityAfter 3 (some .int), Cond.fieldLink RX5 7 "KeyScannerModel" "slope" "I", Cond.methodLink RX5 162 yX5_release, Cond.instanceMethod yX5_release, Cond.selects RX5 yX5_release yX5_release, Cond.code yX5_release cX5_release 3 none, Cond.fieldLink RX5 67 "KeyScannerModel" "isSustained" "Z", Cond.fieldLink RX5 71 "KeyScannerModel" "isSostenuto" "Z", Cond.methodLink RX5 125 yX5_frees, Cond.instanceMethod yX5_frees, Cond.selects RX5 yX5_frees yX5_frees, Cond.code yX5_frees cX5_frees 2 (some .int)]
def wsX5_tick : List Cond := .code yX5_tick cX5_tick 3 (some .int) :: ((wsX5_tick_r1 ++ (wsX5_tick_r2 ++ (wsX5_tick_r3 ++ wsX5_tick_r4))) ++ wsX50)
def wsX5_noKey : List Cond := .code yX5_noKey cX5_noKey 2 (some .boolean) :: ([.methodLink RX5 96 yX5_keys, .instanceMethod yX5_keys, .selects RX5 yX5_keys yX5_keys, .initialized RX5, .code yX5_keys cX5_keys 1 (some .int), .fieldLink RX5 61 "KeyScannerModel" "rows" "I", .fieldLink RX5 64 "KeyScannerModel" "columns" "I", .methodLink RX5 92 yX5_in, .static yX5_in, .code yX5_in cX5_in 3 (some .boolean)] ++ wsX50)
def wsX5_setKey_r1 : List Cond := [Cond.fieldLink RX5 16 "KeyScannerModel" "positionOf" "[I", Cond.methodLink RX5 176 yX5_noKey, Cond.instanceMethod yX5_noKey, Cond.selects RX5 yX5_noKey yX5_noKey, Cond.initialized RX5, Cond.code yX5_noKey cX5_noKey 2 (some .boolean), Cond.methodLink RX5 96 yX5_keys, Cond.instanceMethod yX5_keys, Cond.selects RX5 yX5_keys yX5_keys, Cond.code yX5_keys cX5_keys 1 (some .int), Cond.fieldLink RX5 61 "KeyScannerModel" "rows" "I", Cond.fieldLink RX5 64 "KeyScannerModel" "columns" "I", Cond.methodLink RX5 92 yX5_in, Cond.static yX5_in, Cond.code yX5_in cX5_in 3 (some .boolean), Cond.methodLink RX5 89 yX5_appear, Cond.instanceMethod yX5_appear, Cond.selects RX5 yX5_appear yX5_appear, Cond.code yX5_appear cX5_appear 5 none, Cond.fieldLink RX5 103 "KeyScannerModel" "foundColumns" "I", Cond.fieldLink RX5 30 "KeyScannerModel" "secondOf" "[Z", Cond.fieldLink RX5 109 "KeyScannerModel" "hasDiodes" "Z", Cond.fieldLink RX5 26 "KeyScannerModel" "firstOf" "[Z", Cond.methodLink RX5 106 yX5_connect]
def wsX5_setKey_r2 : List Cond := [Cond.instanceMethod yX5_connect, Cond.selects RX5 yX5_connect yX5_connect, Cond.code yX5_connect cX5_connect 7 none, Cond.fieldLink RX5 100 "KeyScannerModel" "foundRows" "I"]
def wsX5_setKey : List Cond := .code yX5_setKey cX5_setKey 4 (some .int) :: ((wsX5_setKey_r1 ++ wsX5_setKey_r2) ++ wsX50)
def wsX5_pressed : List Cond := .code yX5_pressed cX5_pressed 3 (some .int) :: ([.fieldLink RX5 16 "KeyScannerModel" "positionOf" "[I", .methodLink RX5 96 yX5_keys, .instanceMethod yX5_keys, .selects RX5 yX5_keys yX5_keys, .initialized RX5, .code yX5_keys cX5_keys 1 (some .int), .fieldLink RX5 61 "KeyScannerModel" "rows" "I", .fieldLink RX5 64 "KeyScannerModel" "columns" "I"] ++ wsX50)
def wsX5_liftAll_r1 : List Cond := [Cond.fieldLink RX5 16 "KeyScannerModel" "positionOf" "[I", Cond.methodLink RX5 179 yX5_pressed, Cond.instanceMethod yX5_pressed, Cond.selects RX5 yX5_pressed yX5_pressed, Cond.initialized RX5, Cond.code yX5_pressed cX5_pressed 3 (some .int), Cond.methodLink RX5 96 yX5_keys, Cond.instanceMethod yX5_keys, Cond.selects RX5 yX5_keys yX5_keys, Cond.code yX5_keys cX5_keys 1 (some .int), Cond.fieldLink RX5 61 "KeyScannerModel" "rows" "I", Cond.fieldLink RX5 64 "KeyScannerModel" "columns" "I", Cond.methodLink RX5 89 yX5_appear, Cond.instanceMethod yX5_appear, Cond.selects RX5 yX5_appear yX5_appear, Cond.code yX5_appear cX5_appear 5 none, Cond.fieldLink RX5 103 "KeyScannerModel" "foundColumns" "I", Cond.fieldLink RX5 30 "KeyScannerModel" "secondOf" "[Z", Cond.fieldLink RX5 109 "KeyScannerModel" "hasDiodes" "Z", Cond.fieldLink RX5 26 "KeyScannerModel" "firstOf" "[Z", Cond.methodLink RX5 106 yX5_connect, Cond.instanceMethod yX5_connect, Cond.selects RX5 yX5_connect yX5_connect, Cond.code yX5_connect cX5_connect 7 none]
def wsX5_liftAll_r2 : List Cond := [Cond.fieldLink RX5 100 "KeyScannerModel" "foundRows" "I"]
def wsX5_liftAll : List Cond := .code yX5_liftAll cX5_liftAll 3 (some .int) :: ((wsX5_liftAll_r1 ++ wsX5_liftAll_r2) ++ wsX50)
def wsX5_dropKept : List Cond := .code yX5_dropKept cX5_dropKept 3 (some .int) :: ([.fieldLink RX5 13 "KeyScannerModel" "voices" "I", .fieldLink RX5 33 "KeyScannerModel" "stateOf" "[I", .fieldLink RX5 67 "KeyScannerModel" "isSustained" "Z", .fieldLink RX5 71 "KeyScannerModel" "isSostenuto" "Z", .fieldLink RX5 45 "KeyScannerModel" "isCaptured" "[Z", .methodLink RX5 125 yX5_frees, .instanceMethod yX5_frees, .selects RX5 yX5_frees yX5_frees, .initialized RX5, .code yX5_frees cX5_frees 2 (some .int), .fieldLink RX5 36 "KeyScannerModel" "keyOf" "[I", .methodLink RX5 132 yX5_enter, .instanceMethod yX5_enter, .selects RX5 yX5_enter yX5_enter, .code yX5_enter cX5_enter 4 none, .fieldLink RX5 48 "KeyScannerModel" "logRow" "[I", .fieldLink RX5 74 "KeyScannerModel" "time" "I", .fieldLink RX5 77 "KeyScannerModel" "entries" "I"] ++ wsX50)
def wsX5_sustain : List Cond := .code yX5_sustain cX5_sustain 2 (some .int) :: ([.fieldLink RX5 67 "KeyScannerModel" "isSustained" "Z", .methodLink RX5 182 yX5_dropKept, .instanceMethod yX5_dropKept, .selects RX5 yX5_dropKept yX5_dropKept, .initialized RX5, .code yX5_dropKept cX5_dropKept 3 (some .int), .fieldLink RX5 13 "KeyScannerModel" "voices" "I", .fieldLink RX5 33 "KeyScannerModel" "stateOf" "[I", .fieldLink RX5 71 "KeyScannerModel" "isSostenuto" "Z", .fieldLink RX5 45 "KeyScannerModel" "isCaptured" "[Z", .methodLink RX5 125 yX5_frees, .instanceMethod yX5_frees, .selects RX5 yX5_frees yX5_frees, .code yX5_frees cX5_frees 2 (some .int), .fieldLink RX5 36 "KeyScannerModel" "keyOf" "[I", .methodLink RX5 132 yX5_enter, .instanceMethod yX5_enter, .selects RX5 yX5_enter yX5_enter, .code yX5_enter cX5_enter 4 none, .fieldLink RX5 48 "KeyScannerModel" "logRow" "[I", .fieldLink RX5 74 "KeyScannerModel" "time" "I", .fieldLink RX5 77 "KeyScannerModel" "entries" "I"] ++ wsX50)
def wsX5_sostenuto : List Cond := .code yX5_sostenuto cX5_sostenuto 4 (some .int) :: ([.fieldLink RX5 71 "KeyScannerModel" "isSostenuto" "Z", .fieldLink RX5 13 "KeyScannerModel" "voices" "I", .fieldLink RX5 45 "KeyScannerModel" "isCaptured" "[Z", .fieldLink RX5 33 "KeyScannerModel" "stateOf" "[I", .methodLink RX5 182 yX5_dropKept, .instanceMethod yX5_dropKept, .selects RX5 yX5_dropKept yX5_dropKept, .initialized RX5, .code yX5_dropKept cX5_dropKept 3 (some .int), .fieldLink RX5 67 "KeyScannerModel" "isSustained" "Z", .methodLink RX5 125 yX5_frees, .instanceMethod yX5_frees, .selects RX5 yX5_frees yX5_frees, .code yX5_frees cX5_frees 2 (some .int), .fieldLink RX5 36 "KeyScannerModel" "keyOf" "[I", .methodLink RX5 132 yX5_enter, .instanceMethod yX5_enter, .selects RX5 yX5_enter yX5_enter, .code yX5_enter cX5_enter 4 none, .fieldLink RX5 48 "KeyScannerModel" "logRow" "[I", .fieldLink RX5 74 "KeyScannerModel" "time" "I", .fieldLink RX5 77 "KeyScannerModel" "entries" "I"] ++ wsX50)
def wsX5_key_r1 : List Cond := [Cond.fieldLink RX5 16 "KeyScannerModel" "positionOf" "[I", Cond.fieldLink RX5 20 "KeyScannerModel" "phaseOf" "[I", Cond.fieldLink RX5 23 "KeyScannerModel" "beginOf" "[I", Cond.fieldLink RX5 26 "KeyScannerModel" "firstOf" "[Z", Cond.fieldLink RX5 30 "KeyScannerModel" "secondOf" "[Z", Cond.methodLink RX5 176 yX5_noKey, Cond.instanceMethod yX5_noKey, Cond.selects RX5 yX5_noKey yX5_noKey, Cond.initialized RX5, Cond.code yX5_noKey cX5_noKey 2 (some .boolean), Cond.methodLink RX5 96 yX5_keys, Cond.instanceMethod yX5_keys, Cond.selects RX5 yX5_keys yX5_keys, Cond.code yX5_keys cX5_keys 1 (some .int), Cond.fieldLink RX5 61 "KeyScannerModel" "rows" "I", Cond.fieldLink RX5 64 "KeyScannerModel" "columns" "I", Cond.methodLink RX5 92 yX5_in, Cond.static yX5_in, Cond.code yX5_in cX5_in 3 (some .boolean), Cond.methodLink RX5 146 yX5_voiceOf, Cond.instanceMethod yX5_voiceOf, Cond.selects RX5 yX5_voiceOf yX5_voiceOf, Cond.code yX5_voiceOf cX5_voiceOf 3 (some .int), Cond.fieldLink RX5 13 "KeyScannerModel" "voices" "I"]
def wsX5_key_r2 : List Cond := [Cond.fieldLink RX5 33 "KeyScannerModel" "stateOf" "[I", Cond.fieldLink RX5 36 "KeyScannerModel" "keyOf" "[I", Cond.methodLink RX5 112 yX5_isGhost, Cond.instanceMethod yX5_isGhost, Cond.selects RX5 yX5_isGhost yX5_isGhost, Cond.code yX5_isGhost cX5_isGhost 2 (some .boolean), Cond.methodLink RX5 143 yX5_isDoubtful, Cond.instanceMethod yX5_isDoubtful, Cond.selects RX5 yX5_isDoubtful yX5_isDoubtful, Cond.code yX5_isDoubtful cX5_isDoubtful 6 (some .boolean)]
def wsX5_key : List Cond := .code yX5_key cX5_key 3 (some .int) :: ((wsX5_key_r1 ++ wsX5_key_r2) ++ wsX50)
def wsX5_voice : List Cond := .code yX5_voice cX5_voice 3 (some .int) :: ([.fieldLink RX5 13 "KeyScannerModel" "voices" "I", .fieldLink RX5 33 "KeyScannerModel" "stateOf" "[I", .fieldLink RX5 36 "KeyScannerModel" "keyOf" "[I", .fieldLink RX5 39 "KeyScannerModel" "velocityOf" "[I", .fieldLink RX5 42 "KeyScannerModel" "sinceOf" "[I", .fieldLink RX5 45 "KeyScannerModel" "isCaptured" "[Z", .methodLink RX5 92 yX5_in, .static yX5_in, .initialized RX5, .code yX5_in cX5_in 3 (some .boolean)] ++ wsX50)
def wsX5_count_r1 : List Cond := [Cond.fieldLink RX5 13 "KeyScannerModel" "voices" "I", Cond.fieldLink RX5 33 "KeyScannerModel" "stateOf" "[I", Cond.fieldLink RX5 74 "KeyScannerModel" "time" "I", Cond.fieldLink RX5 77 "KeyScannerModel" "entries" "I", Cond.fieldLink RX5 80 "KeyScannerModel" "strikes" "I", Cond.fieldLink RX5 83 "KeyScannerModel" "refusals" "I", Cond.fieldLink RX5 86 "KeyScannerModel" "takings" "I", Cond.methodLink RX5 96 yX5_keys, Cond.instanceMethod yX5_keys, Cond.selects RX5 yX5_keys yX5_keys, Cond.initialized RX5, Cond.code yX5_keys cX5_keys 1 (some .int), Cond.fieldLink RX5 61 "KeyScannerModel" "rows" "I", Cond.fieldLink RX5 64 "KeyScannerModel" "columns" "I", Cond.methodLink RX5 143 yX5_isDoubtful, Cond.instanceMethod yX5_isDoubtful, Cond.selects RX5 yX5_isDoubtful yX5_isDoubtful, Cond.code yX5_isDoubtful cX5_isDoubtful 6 (some .boolean), Cond.fieldLink RX5 26 "KeyScannerModel" "firstOf" "[Z", Cond.methodLink RX5 179 yX5_pressed, Cond.instanceMethod yX5_pressed, Cond.selects RX5 yX5_pressed yX5_pressed, Cond.code yX5_pressed cX5_pressed 3 (some .int), Cond.fieldLink RX5 16 "KeyScannerModel" "positionOf" "[I"]
def wsX5_count_r2 : List Cond := [Cond.methodLink RX5 116 yX5_ghosts, Cond.instanceMethod yX5_ghosts, Cond.selects RX5 yX5_ghosts yX5_ghosts, Cond.code yX5_ghosts cX5_ghosts 3 (some .int), Cond.methodLink RX5 112 yX5_isGhost, Cond.instanceMethod yX5_isGhost, Cond.selects RX5 yX5_isGhost yX5_isGhost, Cond.code yX5_isGhost cX5_isGhost 2 (some .boolean), Cond.fieldLink RX5 30 "KeyScannerModel" "secondOf" "[Z"]
def wsX5_count : List Cond := .code yX5_count cX5_count 6 (some .int) :: ((wsX5_count_r1 ++ wsX5_count_r2) ++ wsX50)
def wsX5_log : List Cond := .code yX5_log cX5_log 3 (some .int) :: ([.fieldLink RX5 77 "KeyScannerModel" "entries" "I", .fieldLink RX5 48 "KeyScannerModel" "logRow" "[I", .methodLink RX5 92 yX5_in, .static yX5_in, .initialized RX5, .code yX5_in cX5_in 3 (some .boolean)] ++ wsX50)
def wsX5_velocity : List Cond := .code yX5_velocity cX5_velocity 2 (some .int) :: ([.methodLink RX5 92 yX5_in, .static yX5_in, .initialized RX5, .code yX5_in cX5_in 3 (some .boolean), .methodLink RX5 155 yX5_velocityAfter, .instanceMethod yX5_velocityAfter, .selects RX5 yX5_velocityAfter yX5_velocityAfter, .code yX5_velocityAfter cX5_velocityAfter 3 (some .int), .fieldLink RX5 7 "KeyScannerModel" "slope" "I"] ++ wsX50)
def wsX5_nextTaken : List Cond := .code yX5_nextTaken cX5_nextTaken 1 (some .int) :: ([.methodLink RX5 149 yX5_freeVoice, .instanceMethod yX5_freeVoice, .selects RX5 yX5_freeVoice yX5_freeVoice, .initialized RX5, .code yX5_freeVoice cX5_freeVoice 2 (some .int), .fieldLink RX5 13 "KeyScannerModel" "voices" "I", .fieldLink RX5 33 "KeyScannerModel" "stateOf" "[I", .methodLink RX5 152 yX5_taken, .instanceMethod yX5_taken, .selects RX5 yX5_taken yX5_taken, .code yX5_taken cX5_taken 2 (some .int), .fieldLink RX5 129 "KeyScannerModel" "rule" "I", .methodLink RX5 139 yX5_weakest, .instanceMethod yX5_weakest, .selects RX5 yX5_weakest yX5_weakest, .code yX5_weakest cX5_weakest 4 (some .int), .methodLink RX5 135 yX5_isWeaker, .instanceMethod yX5_isWeaker, .selects RX5 yX5_isWeaker yX5_isWeaker, .code yX5_isWeaker cX5_isWeaker 3 (some .boolean), .fieldLink RX5 39 "KeyScannerModel" "velocityOf" "[I", .fieldLink RX5 42 "KeyScannerModel" "sinceOf" "[I"] ++ wsX50)
def wsX5_connected : List Cond := .code yX5_connected cX5_connected 2 (some .int) :: ([.fieldLink RX5 61 "KeyScannerModel" "rows" "I", .fieldLink RX5 100 "KeyScannerModel" "foundRows" "I", .fieldLink RX5 103 "KeyScannerModel" "foundColumns" "I", .methodLink RX5 92 yX5_in, .static yX5_in, .initialized RX5, .code yX5_in cX5_in 3 (some .boolean), .methodLink RX5 106 yX5_connect, .instanceMethod yX5_connect, .selects RX5 yX5_connect yX5_connect, .code yX5_connect cX5_connect 7 none, .fieldLink RX5 64 "KeyScannerModel" "columns" "I", .fieldLink RX5 16 "KeyScannerModel" "positionOf" "[I", .methodLink RX5 96 yX5_keys, .instanceMethod yX5_keys, .selects RX5 yX5_keys yX5_keys, .code yX5_keys cX5_keys 1 (some .int)] ++ wsX50)
def wsX5_worstKey_r1 : List Cond := [Cond.fieldLink RX5 16 "KeyScannerModel" "positionOf" "[I", Cond.methodLink RX5 116 yX5_ghosts, Cond.instanceMethod yX5_ghosts, Cond.selects RX5 yX5_ghosts yX5_ghosts, Cond.initialized RX5, Cond.code yX5_ghosts cX5_ghosts 3 (some .int), Cond.methodLink RX5 96 yX5_keys, Cond.instanceMethod yX5_keys, Cond.selects RX5 yX5_keys yX5_keys, Cond.code yX5_keys cX5_keys 1 (some .int), Cond.fieldLink RX5 61 "KeyScannerModel" "rows" "I", Cond.fieldLink RX5 64 "KeyScannerModel" "columns" "I", Cond.methodLink RX5 112 yX5_isGhost, Cond.instanceMethod yX5_isGhost, Cond.selects RX5 yX5_isGhost yX5_isGhost, Cond.code yX5_isGhost cX5_isGhost 2 (some .boolean), Cond.fieldLink RX5 26 "KeyScannerModel" "firstOf" "[Z", Cond.fieldLink RX5 30 "KeyScannerModel" "secondOf" "[Z", Cond.methodLink RX5 89 yX5_appear, Cond.instanceMethod yX5_appear, Cond.selects RX5 yX5_appear yX5_appear, Cond.code yX5_appear cX5_appear 5 none, Cond.fieldLink RX5 103 "KeyScannerModel" "foundColumns" "I", Cond.fieldLink RX5 109 "KeyScannerModel" "hasDiodes" "Z"]
def wsX5_worstKey_r2 : List Cond := [Cond.methodLink RX5 106 yX5_connect, Cond.instanceMethod yX5_connect, Cond.selects RX5 yX5_connect yX5_connect, Cond.code yX5_connect cX5_connect 7 none, Cond.fieldLink RX5 100 "KeyScannerModel" "foundRows" "I"]
def wsX5_worstKey : List Cond := .code yX5_worstKey cX5_worstKey 5 (some .int) :: ((wsX5_worstKey_r1 ++ wsX5_worstKey_r2) ++ wsX50)
def wsX5_areAtRest : List Cond := .code yX5_areAtRest cX5_areAtRest 3 (some .boolean) :: ([.fieldLink RX5 20 "KeyScannerModel" "phaseOf" "[I", .methodLink RX5 96 yX5_keys, .instanceMethod yX5_keys, .selects RX5 yX5_keys yX5_keys, .initialized RX5, .code yX5_keys cX5_keys 1 (some .int), .fieldLink RX5 61 "KeyScannerModel" "rows" "I", .fieldLink RX5 64 "KeyScannerModel" "columns" "I"] ++ wsX50)
def wsX5_restAfter_r1 : List Cond := [Cond.fieldLink RX5 51 "KeyScannerModel" "oldPhase" "[I", Cond.fieldLink RX5 20 "KeyScannerModel" "phaseOf" "[I", Cond.fieldLink RX5 54 "KeyScannerModel" "oldBegin" "[I", Cond.fieldLink RX5 23 "KeyScannerModel" "beginOf" "[I", Cond.fieldLink RX5 74 "KeyScannerModel" "time" "I", Cond.methodLink RX5 92 yX5_in, Cond.static yX5_in, Cond.initialized RX5, Cond.code yX5_in cX5_in 3 (some .boolean), Cond.methodLink RX5 185 yX5_areAtRest, Cond.instanceMethod yX5_areAtRest, Cond.selects RX5 yX5_areAtRest yX5_areAtRest, Cond.code yX5_areAtRest cX5_areAtRest 3 (some .boolean), Cond.methodLink RX5 96 yX5_keys, Cond.instanceMethod yX5_keys, Cond.selects RX5 yX5_keys yX5_keys, Cond.code yX5_keys cX5_keys 1 (some .int), Cond.fieldLink RX5 61 "KeyScannerModel" "rows" "I", Cond.fieldLink RX5 64 "KeyScannerModel" "columns" "I", Cond.methodLink RX5 172 yX5_pass, Cond.instanceMethod yX5_pass, Cond.selects RX5 yX5_pass yX5_pass, Cond.code yX5_pass cX5_pass 4 none, Cond.methodLink RX5 169 yX5_scan]
def wsX5_restAfter_r2 : List Cond := [Cond.instanceMethod yX5_scan, Cond.selects RX5 yX5_scan yX5_scan, Cond.code yX5_scan cX5_scan 4 none, Cond.fieldLink RX5 26 "KeyScannerModel" "firstOf" "[Z", Cond.fieldLink RX5 30 "KeyScannerModel" "secondOf" "[Z", Cond.fieldLink RX5 122 "KeyScannerModel" "isLate" "Z", Cond.methodLink RX5 158 yX5_hits, Cond.instanceMethod yX5_hits, Cond.selects RX5 yX5_hits yX5_hits, Cond.code yX5_hits cX5_hits 3 none, Cond.methodLink RX5 166 yX5_strike, Cond.instanceMethod yX5_strike, Cond.selects RX5 yX5_strike yX5_strike, Cond.code yX5_strike cX5_strike 3 none, Cond.fieldLink RX5 119 "KeyScannerModel" "isBlocking" "Z", Cond.fieldLink RX5 83 "KeyScannerModel" "refusals" "I", Cond.fieldLink RX5 86 "KeyScannerModel" "takings" "I", Cond.fieldLink RX5 36 "KeyScannerModel" "keyOf" "[I", Cond.fieldLink RX5 33 "KeyScannerModel" "stateOf" "[I", Cond.fieldLink RX5 39 "KeyScannerModel" "velocityOf" "[I", Cond.fieldLink RX5 42 "KeyScannerModel" "sinceOf" "[I", Cond.fieldLink RX5 45 "KeyScannerModel" "isCaptured" "[Z", Cond.fieldLink RX5 80 "KeyScannerModel" "strikes" "I", Cond.methodLink RX5 143 yX5_isDoubtful]
def wsX5_restAfter_r3 : List Cond := [Cond.instanceMethod yX5_isDoubtful, Cond.selects RX5 yX5_isDoubtful yX5_isDoubtful, Cond.code yX5_isDoubtful cX5_isDoubtful 6 (some .boolean), Cond.methodLink RX5 132 yX5_enter, Cond.instanceMethod yX5_enter, Cond.selects RX5 yX5_enter yX5_enter, Cond.code yX5_enter cX5_enter 4 none, Cond.fieldLink RX5 48 "KeyScannerModel" "logRow" "[I", Cond.fieldLink RX5 77 "KeyScannerModel" "entries" "I", Cond.methodLink RX5 146 yX5_voiceOf, Cond.instanceMethod yX5_voiceOf, Cond.selects RX5 yX5_voiceOf yX5_voiceOf, Cond.code yX5_voiceOf cX5_voiceOf 3 (some .int), Cond.fieldLink RX5 13 "KeyScannerModel" "voices" "I", Cond.methodLink RX5 149 yX5_freeVoice, Cond.instanceMethod yX5_freeVoice, Cond.selects RX5 yX5_freeVoice yX5_freeVoice, Cond.code yX5_freeVoice cX5_freeVoice 2 (some .int), Cond.methodLink RX5 152 yX5_taken, Cond.instanceMethod yX5_taken, Cond.selects RX5 yX5_taken yX5_taken, Cond.code yX5_taken cX5_taken 2 (some .int), Cond.fieldLink RX5 129 "KeyScannerModel" "rule" "I", Cond.methodLink RX5 139 yX5_weakest]
def wsX5_restAfter_r4 : List Cond := [Cond.instanceMethod yX5_weakest, Cond.selects RX5 yX5_weakest yX5_weakest, Cond.code yX5_weakest cX5_weakest 4 (some .int), Cond.methodLink RX5 135 yX5_isWeaker, Cond.instanceMethod yX5_isWeaker, Cond.selects RX5 yX5_isWeaker yX5_isWeaker, Cond.code yX5_isWeaker cX5_isWeaker 3 (some .boolean), Cond.methodLink RX5 155 yX5_velocityAfter, Cond.instanceMethod yX5_velocityAfter, Cond.selects RX5 yX5_velocityAfter yX5_velocityAfter, Cond.code yX5_velocityAfter cX5_velocityAfter 3 (some .int), Cond.fieldLink RX5 7 "KeyScannerModel" "slope" "I", Cond.methodLink RX5 162 yX5_release, Cond.instanceMethod yX5_release, Cond.selects RX5 yX5_release yX5_release, Cond.code yX5_release cX5_release 3 none, Cond.fieldLink RX5 67 "KeyScannerModel" "isSustained" "Z", Cond.fieldLink RX5 71 "KeyScannerModel" "isSostenuto" "Z", Cond.methodLink RX5 125 yX5_frees, Cond.instanceMethod yX5_frees, Cond.selects RX5 yX5_frees yX5_frees, Cond.code yX5_frees cX5_frees 2 (some .int)]
def wsX5_restAfter : List Cond := .code yX5_restAfter cX5_restAfter 6 (some .int) :: ((wsX5_restAfter_r1 ++ (wsX5_restAfter_r2 ++ (wsX5_restAfter_r3 ++ wsX5_restAfter_r4))) ++ wsX50)
def wsJ9_max_7cf53 : List Cond := .code yJ9_max_7cf53 cJ9_max_7cf53 2 (some .int) :: ([])
def wsJ9_min_7cf53 : List Cond := .code yJ9_min_7cf53 cJ9_min_7cf53 2 (some .int) :: ([])
def wsL_law_r1 : List Cond := [Cond.classLink RL 7 RX4, Cond.instantiable RX4 11, Cond.initialized RX4, Cond.classLink RL 10 RX5, Cond.instantiable RX5 30, Cond.initialized RX5, Cond.methodLink RL 9 yX4_init, Cond.instanceMethod yX4_init, Cond.code yX4_init cX4_init 1 none, Cond.methodLink RX4 3 objectInit, Cond.instanceMethod objectInit, Cond.code objectInit ⟨#[0xb1]⟩ 1 none, Cond.classLink RX4 9 RX1, Cond.instantiable RX1 6, Cond.initialized RX1, Cond.fieldLink RX4 12 "KeyScanner" "matrix" "LKeyScanner$Matrix;", Cond.classLink RX4 16 RX0, Cond.instantiable RX0 4, Cond.initialized RX0, Cond.fieldLink RX4 19 "KeyScanner" "journal" "LKeyScanner$Journal;", Cond.classLink RX4 23 RX3, Cond.instantiable RX3 11, Cond.initialized RX3, Cond.fieldLink RX4 28 "KeyScanner" "voices" "LKeyScanner$Voices;"]
def wsL_law_r2 : List Cond := [Cond.arrayClass .int, Cond.fieldLink RX4 32 "KeyScanner" "phases" "[I", Cond.fieldLink RX4 36 "KeyScanner" "beginnings" "[I", Cond.fieldLink RX4 39 "KeyScanner" "time" "I", Cond.fieldLink RX4 43 "KeyScanner" "slope" "I", Cond.fieldLink RX4 46 "KeyScanner" "blocking" "Z", Cond.fieldLink RX4 50 "KeyScanner" "lateRelease" "Z", Cond.fieldLink RX4 53 "KeyScanner" "strikes" "I", Cond.fieldLink RX4 56 "KeyScanner" "refused" "I", Cond.instanceMethod yX1_init, Cond.code yX1_init cX1_init 1 none, Cond.methodLink RX1 3 objectInit, Cond.fieldLink RX1 9 "KeyScanner$Matrix" "positions" "[I", Cond.classLink RX1 15 RX2, Cond.instantiable RX2 2, Cond.initialized RX2, Cond.fieldLink RX1 18 "KeyScanner$Matrix" "first" "LKeyScanner$Net;", Cond.fieldLink RX1 22 "KeyScanner$Matrix" "second" "LKeyScanner$Net;", Cond.fieldLink RX1 25 "KeyScanner$Matrix" "rows" "I", Cond.fieldLink RX1 29 "KeyScanner$Matrix" "columns" "I", Cond.fieldLink RX1 32 "KeyScanner$Matrix" "diodes" "Z", Cond.instanceMethod yX2_init, Cond.code yX2_init cX2_init 1 none, Cond.methodLink RX2 3 objectInit]
def wsL_law_r3 : List Cond := [Cond.fieldLink RX2 9 "KeyScanner$Net" "closed" "[I", Cond.fieldLink RX2 15 "KeyScanner$Net" "joined" "[I", Cond.instanceMethod yX0_init, Cond.code yX0_init cX0_init 1 none, Cond.methodLink RX0 3 objectInit, Cond.fieldLink RX0 9 "KeyScanner$Journal" "times" "[I", Cond.fieldLink RX0 15 "KeyScanner$Journal" "kinds" "[I", Cond.fieldLink RX0 18 "KeyScanner$Journal" "keys" "[I", Cond.fieldLink RX0 21 "KeyScanner$Journal" "made" "I", Cond.methodLink RX4 25 yX3_init, Cond.instanceMethod yX3_init, Cond.code yX3_init cX3_init 2 none, Cond.methodLink RX3 3 objectInit, Cond.fieldLink RX3 9 "KeyScanner$Voices" "states" "[I", Cond.fieldLink RX3 15 "KeyScanner$Voices" "keys" "[I", Cond.fieldLink RX3 18 "KeyScanner$Voices" "velocities" "[I", Cond.fieldLink RX3 21 "KeyScanner$Voices" "begun" "[I", Cond.arrayClass .boolean, Cond.fieldLink RX3 24 "KeyScanner$Voices" "captured" "[Z", Cond.fieldLink RX3 28 "KeyScanner$Voices" "number" "I", Cond.fieldLink RX3 32 "KeyScanner$Voices" "rule" "I", Cond.fieldLink RX3 35 "KeyScanner$Voices" "taken" "I", Cond.fieldLink RX3 38 "KeyScanner$Voices" "sustained" "Z", Cond.fieldLink RX3 42 "KeyScanner$Voices" "sostenutoDown" "Z"]
def wsL_law_r4 : List Cond := [Cond.fieldLink RX3 45 "KeyScanner$Voices" "journal" "LKeyScanner$Journal;", Cond.methodLink RL 12 yX5_init, Cond.instanceMethod yX5_init, Cond.code yX5_init cX5_init 1 none, Cond.methodLink RX5 1 objectInit, Cond.fieldLink RX5 7 "KeyScannerModel" "slope" "I", Cond.fieldLink RX5 13 "KeyScannerModel" "voices" "I", Cond.fieldLink RX5 16 "KeyScannerModel" "positionOf" "[I", Cond.fieldLink RX5 20 "KeyScannerModel" "phaseOf" "[I", Cond.fieldLink RX5 23 "KeyScannerModel" "beginOf" "[I", Cond.fieldLink RX5 26 "KeyScannerModel" "firstOf" "[Z", Cond.fieldLink RX5 30 "KeyScannerModel" "secondOf" "[Z", Cond.fieldLink RX5 33 "KeyScannerModel" "stateOf" "[I", Cond.fieldLink RX5 36 "KeyScannerModel" "keyOf" "[I", Cond.fieldLink RX5 39 "KeyScannerModel" "velocityOf" "[I", Cond.fieldLink RX5 42 "KeyScannerModel" "sinceOf" "[I", Cond.fieldLink RX5 45 "KeyScannerModel" "isCaptured" "[Z", Cond.fieldLink RX5 48 "KeyScannerModel" "logRow" "[I", Cond.fieldLink RX5 51 "KeyScannerModel" "oldPhase" "[I", Cond.fieldLink RX5 54 "KeyScannerModel" "oldBegin" "[I", Cond.methodLink RX5 57 yX5_begin, Cond.instanceMethod yX5_begin, Cond.selects RX5 yX5_begin yX5_begin, Cond.code yX5_begin cX5_begin 4 none]
def wsL_law_r5 : List Cond := [Cond.fieldLink RX5 61 "KeyScannerModel" "rows" "I", Cond.fieldLink RX5 64 "KeyScannerModel" "columns" "I", Cond.fieldLink RX5 67 "KeyScannerModel" "isSustained" "Z", Cond.fieldLink RX5 71 "KeyScannerModel" "isSostenuto" "Z", Cond.fieldLink RX5 74 "KeyScannerModel" "time" "I", Cond.fieldLink RX5 77 "KeyScannerModel" "entries" "I", Cond.fieldLink RX5 80 "KeyScannerModel" "strikes" "I", Cond.fieldLink RX5 83 "KeyScannerModel" "refusals" "I", Cond.fieldLink RX5 86 "KeyScannerModel" "takings" "I", Cond.methodLink RX5 89 yX5_appear, Cond.instanceMethod yX5_appear, Cond.selects RX5 yX5_appear yX5_appear, Cond.code yX5_appear cX5_appear 5 none, Cond.fieldLink RX5 103 "KeyScannerModel" "foundColumns" "I", Cond.fieldLink RX5 109 "KeyScannerModel" "hasDiodes" "Z", Cond.methodLink RX5 106 yX5_connect, Cond.instanceMethod yX5_connect, Cond.selects RX5 yX5_connect yX5_connect, Cond.code yX5_connect cX5_connect 7 none, Cond.fieldLink RX5 100 "KeyScannerModel" "foundRows" "I", Cond.methodLink RX5 96 yX5_keys, Cond.instanceMethod yX5_keys, Cond.selects RX5 yX5_keys yX5_keys, Cond.code yX5_keys cX5_keys 1 (some .int)]
def wsL_law_r6 : List Cond := [Cond.methodLink RL 13 yX4_reset, Cond.instanceMethod yX4_reset, Cond.selects RX4 yX4_reset yX4_reset, Cond.code yX4_reset cX4_reset 4 (some .int), Cond.methodLink RX4 59 yX4_within, Cond.static yX4_within, Cond.code yX4_within cX4_within 3 (some .boolean), Cond.methodLink RX4 63 yX1_layOut, Cond.instanceMethod yX1_layOut, Cond.selects RX1 yX1_layOut yX1_layOut, Cond.code yX1_layOut cX1_layOut 3 none, Cond.methodLink RX1 40 yX1_lift, Cond.instanceMethod yX1_lift, Cond.selects RX1 yX1_lift yX1_lift, Cond.code yX1_lift cX1_lift 2 none, Cond.methodLink RX1 43 yX2_open, Cond.instanceMethod yX2_open, Cond.selects RX2 yX2_open yX2_open, Cond.code yX2_open cX2_open 2 none, Cond.methodLink RX4 67 yX0_empty, Cond.instanceMethod yX0_empty, Cond.selects RX0 yX0_empty yX0_empty, Cond.code yX0_empty cX0_empty 1 none, Cond.methodLink RX4 70 yX3_silence]
def wsL_law_r7 : List Cond := [Cond.instanceMethod yX3_silence, Cond.selects RX3 yX3_silence yX3_silence, Cond.code yX3_silence cX3_silence 2 none, Cond.methodLink RX4 73 yX1_size, Cond.instanceMethod yX1_size, Cond.selects RX1 yX1_size yX1_size, Cond.code yX1_size cX1_size 1 (some .int), Cond.methodLink RL 17 yX5_reset, Cond.instanceMethod yX5_reset, Cond.selects RX5 yX5_reset yX5_reset, Cond.code yX5_reset cX5_reset 3 (some .int), Cond.methodLink RX5 92 yX5_in, Cond.static yX5_in, Cond.code yX5_in cX5_in 3 (some .boolean), Cond.methodLink RL 18 yX4_setDiodes, Cond.instanceMethod yX4_setDiodes, Cond.selects RX4 yX4_setDiodes yX4_setDiodes, Cond.code yX4_setDiodes cX4_setDiodes 2 (some .int), Cond.fieldLink RX4 77 "KeyScanner$Matrix" "diodes" "Z", Cond.methodLink RX4 80 yX1_ghosts, Cond.instanceMethod yX1_ghosts, Cond.selects RX1 yX1_ghosts yX1_ghosts, Cond.code yX1_ghosts cX1_ghosts 3 (some .int), Cond.methodLink RX1 68 yX1_ghostsIn]
def wsL_law_r8 : List Cond := [Cond.instanceMethod yX1_ghostsIn, Cond.selects RX1 yX1_ghostsIn yX1_ghostsIn, Cond.code yX1_ghostsIn cX1_ghostsIn 2 (some .int), Cond.fieldLink RX1 54 "KeyScanner$Net" "closed" "[I", Cond.methodLink RX1 60 yX1_seen, Cond.instanceMethod yX1_seen, Cond.selects RX1 yX1_seen yX1_seen, Cond.code yX1_seen cX1_seen 3 (some .int), Cond.fieldLink RX1 57 "KeyScanner$Net" "joined" "[I", Cond.methodLink RX1 76 yJ6_bitCount_0f7a4, Cond.static yJ6_bitCount_0f7a4, Cond.initialized RJ6, Cond.code yJ6_bitCount_0f7a4 cJ6_bitCount_0f7a4 1 (some .int), Cond.constant RJ6 265 (1431655765), Cond.constant RJ6 266 (858993459), Cond.constant RJ6 267 (252645135), Cond.methodLink RL 22 yX5_setDiodes, Cond.instanceMethod yX5_setDiodes, Cond.selects RX5 yX5_setDiodes yX5_setDiodes, Cond.code yX5_setDiodes cX5_setDiodes 2 (some .int), Cond.methodLink RX5 116 yX5_ghosts, Cond.instanceMethod yX5_ghosts, Cond.selects RX5 yX5_ghosts yX5_ghosts, Cond.code yX5_ghosts cX5_ghosts 3 (some .int)]
def wsL_law_r9 : List Cond := [Cond.methodLink RX5 112 yX5_isGhost, Cond.instanceMethod yX5_isGhost, Cond.selects RX5 yX5_isGhost yX5_isGhost, Cond.code yX5_isGhost cX5_isGhost 2 (some .boolean), Cond.methodLink RL 23 yX4_setBlocking, Cond.instanceMethod yX4_setBlocking, Cond.selects RX4 yX4_setBlocking yX4_setBlocking, Cond.code yX4_setBlocking cX4_setBlocking 3 (some .int), Cond.methodLink RX4 83 yX4_one, Cond.static yX4_one, Cond.code yX4_one cX4_one 1 (some .int), Cond.methodLink RL 26 yX5_setBlocking, Cond.instanceMethod yX5_setBlocking, Cond.selects RX5 yX5_setBlocking yX5_setBlocking, Cond.code yX5_setBlocking cX5_setBlocking 3 (some .int), Cond.fieldLink RX5 119 "KeyScannerModel" "isBlocking" "Z", Cond.methodLink RL 27 yX4_setLateRelease, Cond.instanceMethod yX4_setLateRelease, Cond.selects RX4 yX4_setLateRelease yX4_setLateRelease, Cond.code yX4_setLateRelease cX4_setLateRelease 3 (some .int), Cond.methodLink RL 30 yX5_setLateRelease, Cond.instanceMethod yX5_setLateRelease, Cond.selects RX5 yX5_setLateRelease yX5_setLateRelease, Cond.code yX5_setLateRelease cX5_setLateRelease 3 (some .int)]
def wsL_law_r10 : List Cond := [Cond.fieldLink RX5 122 "KeyScannerModel" "isLate" "Z", Cond.methodLink RL 31 yX4_setSlope, Cond.instanceMethod yX4_setSlope, Cond.selects RX4 yX4_setSlope yX4_setSlope, Cond.code yX4_setSlope cX4_setSlope 3 (some .int), Cond.methodLink RL 35 yX5_setSlope, Cond.instanceMethod yX5_setSlope, Cond.selects RX5 yX5_setSlope yX5_setSlope, Cond.code yX5_setSlope cX5_setSlope 3 (some .int), Cond.methodLink RL 36 yX4_setVoices, Cond.instanceMethod yX4_setVoices, Cond.selects RX4 yX4_setVoices yX4_setVoices, Cond.code yX4_setVoices cX4_setVoices 4 (some .int), Cond.fieldLink RX4 87 "KeyScanner$Voices" "number" "I", Cond.fieldLink RX4 93 "KeyScanner$Voices" "rule" "I", Cond.methodLink RX4 90 yX3_limit, Cond.instanceMethod yX3_limit, Cond.selects RX3 yX3_limit yX3_limit, Cond.code yX3_limit cX3_limit 4 none, Cond.methodLink RX3 49 yX3_free, Cond.instanceMethod yX3_free, Cond.selects RX3 yX3_free yX3_free, Cond.code yX3_free cX3_free 3 none, Cond.methodLink RX3 64 yX0_write]
def wsL_law_r11 : List Cond := [Cond.instanceMethod yX0_write, Cond.selects RX0 yX0_write yX0_write, Cond.code yX0_write cX0_write 5 none, Cond.methodLink RX0 25 yJ9_floorMod_7cf53, Cond.static yJ9_floorMod_7cf53, Cond.initialized RJ9, Cond.code yJ9_floorMod_7cf53 cJ9_floorMod_7cf53 3 (some .int), Cond.methodLink RL 39 yX5_setVoices, Cond.instanceMethod yX5_setVoices, Cond.selects RX5 yX5_setVoices yX5_setVoices, Cond.code yX5_setVoices cX5_setVoices 5 (some .int), Cond.fieldLink RX5 129 "KeyScannerModel" "rule" "I", Cond.methodLink RX5 125 yX5_frees, Cond.instanceMethod yX5_frees, Cond.selects RX5 yX5_frees yX5_frees, Cond.code yX5_frees cX5_frees 2 (some .int), Cond.methodLink RX5 132 yX5_enter, Cond.instanceMethod yX5_enter, Cond.selects RX5 yX5_enter yX5_enter, Cond.code yX5_enter cX5_enter 4 none, Cond.methodLink RL 40 yX4_setKey, Cond.instanceMethod yX4_setKey, Cond.selects RX4 yX4_setKey yX4_setKey, Cond.code yX4_setKey cX4_setKey 4 (some .int)]
def wsL_law_r12 : List Cond := [Cond.fieldLink RX4 100 "KeyScanner$Matrix" "positions" "[I", Cond.methodLink RX4 96 yX1_has, Cond.instanceMethod yX1_has, Cond.selects RX1 yX1_has yX1_has, Cond.code yX1_has cX1_has 2 (some .boolean), Cond.methodLink RX1 36 yX1_size, Cond.methodLink RX4 103 yX1_move, Cond.instanceMethod yX1_move, Cond.selects RX1 yX1_move yX1_move, Cond.code yX1_move cX1_move 3 none, Cond.methodLink RX1 46 yX2_put, Cond.instanceMethod yX2_put, Cond.selects RX2 yX2_put yX2_put, Cond.code yX2_put cX2_put 5 none, Cond.methodLink RX2 18 yX2_join, Cond.instanceMethod yX2_join, Cond.selects RX2 yX2_join yX2_join, Cond.code yX2_join cX2_join 2 none, Cond.methodLink RX2 21 yX2_joinThrough, Cond.instanceMethod yX2_joinThrough, Cond.selects RX2 yX2_joinThrough yX2_joinThrough, Cond.code yX2_joinThrough cX2_joinThrough 4 none, Cond.methodLink RL 43 yX5_setKey, Cond.instanceMethod yX5_setKey]
def wsL_law_r13 : List Cond := [Cond.selects RX5 yX5_setKey yX5_setKey, Cond.code yX5_setKey cX5_setKey 4 (some .int), Cond.methodLink RX5 176 yX5_noKey, Cond.instanceMethod yX5_noKey, Cond.selects RX5 yX5_noKey yX5_noKey, Cond.code yX5_noKey cX5_noKey 2 (some .boolean), Cond.methodLink RL 44 yX4_liftAll, Cond.instanceMethod yX4_liftAll, Cond.selects RX4 yX4_liftAll yX4_liftAll, Cond.code yX4_liftAll cX4_liftAll 2 (some .int), Cond.methodLink RX4 106 yX1_pressed, Cond.instanceMethod yX1_pressed, Cond.selects RX1 yX1_pressed yX1_pressed, Cond.code yX1_pressed cX1_pressed 3 (some .int), Cond.methodLink RX4 109 yX1_lift, Cond.methodLink RL 48 yX5_liftAll, Cond.instanceMethod yX5_liftAll, Cond.selects RX5 yX5_liftAll yX5_liftAll, Cond.code yX5_liftAll cX5_liftAll 3 (some .int), Cond.methodLink RX5 179 yX5_pressed, Cond.instanceMethod yX5_pressed, Cond.selects RX5 yX5_pressed yX5_pressed, Cond.code yX5_pressed cX5_pressed 3 (some .int), Cond.methodLink RL 49 yX4_sustain]
def wsL_law_r14 : List Cond := [Cond.instanceMethod yX4_sustain, Cond.selects RX4 yX4_sustain yX4_sustain, Cond.code yX4_sustain cX4_sustain 2 (some .int), Cond.methodLink RX4 112 yX3_moveSustain, Cond.instanceMethod yX3_moveSustain, Cond.selects RX3 yX3_moveSustain yX3_moveSustain, Cond.code yX3_moveSustain cX3_moveSustain 3 (some .int), Cond.methodLink RX3 74 yX3_freeKept, Cond.instanceMethod yX3_freeKept, Cond.selects RX3 yX3_freeKept yX3_freeKept, Cond.code yX3_freeKept cX3_freeKept 4 (some .int), Cond.methodLink RX3 70 yX3_isKeptByPedal, Cond.instanceMethod yX3_isKeptByPedal, Cond.selects RX3 yX3_isKeptByPedal yX3_isKeptByPedal, Cond.code yX3_isKeptByPedal cX3_isKeptByPedal 2 (some .boolean), Cond.methodLink RL 52 yX5_sustain, Cond.instanceMethod yX5_sustain, Cond.selects RX5 yX5_sustain yX5_sustain, Cond.code yX5_sustain cX5_sustain 2 (some .int), Cond.methodLink RX5 182 yX5_dropKept, Cond.instanceMethod yX5_dropKept, Cond.selects RX5 yX5_dropKept yX5_dropKept, Cond.code yX5_dropKept cX5_dropKept 3 (some .int), Cond.methodLink RL 53 yX4_sostenuto]
def wsL_law_r15 : List Cond := [Cond.instanceMethod yX4_sostenuto, Cond.selects RX4 yX4_sostenuto yX4_sostenuto, Cond.code yX4_sostenuto cX4_sostenuto 2 (some .int), Cond.methodLink RX4 116 yX3_moveSostenuto, Cond.instanceMethod yX3_moveSostenuto, Cond.selects RX3 yX3_moveSostenuto yX3_moveSostenuto, Cond.code yX3_moveSostenuto cX3_moveSostenuto 4 (some .int), Cond.methodLink RX3 77 yX3_inState, Cond.instanceMethod yX3_inState, Cond.selects RX3 yX3_inState yX3_inState, Cond.code yX3_inState cX3_inState 4 (some .int), Cond.methodLink RL 56 yX5_sostenuto, Cond.instanceMethod yX5_sostenuto, Cond.selects RX5 yX5_sostenuto yX5_sostenuto, Cond.code yX5_sostenuto cX5_sostenuto 4 (some .int), Cond.methodLink RL 57 yX4_tick, Cond.instanceMethod yX4_tick, Cond.selects RX4 yX4_tick yX4_tick, Cond.code yX4_tick cX4_tick 4 (some .int), Cond.fieldLink RX4 119 "KeyScanner$Matrix" "rows" "I", Cond.methodLink RX4 122 Lib.Math.min.name, Cond.static Lib.Math.min.name, Cond.initialized "java/lang/Math", Cond.code Lib.Math.min.name Lib.Math.min.code 2 (some .int)]
def wsL_law_r16 : List Cond := [Cond.methodLink RX4 128 yJ9_floorMod_7cf53, Cond.methodLink RX4 131 yX4_scanRow, Cond.instanceMethod yX4_scanRow, Cond.selects RX4 yX4_scanRow yX4_scanRow, Cond.code yX4_scanRow cX4_scanRow 4 none, Cond.fieldLink RX4 217 "KeyScanner$Matrix" "columns" "I", Cond.methodLink RX4 220 yX4_scanKey, Cond.instanceMethod yX4_scanKey, Cond.selects RX4 yX4_scanKey yX4_scanKey, Cond.code yX4_scanKey cX4_scanKey 5 none, Cond.methodLink RX4 139 yX1_firstSeen, Cond.instanceMethod yX1_firstSeen, Cond.selects RX1 yX1_firstSeen yX1_firstSeen, Cond.code yX1_firstSeen cX1_firstSeen 2 (some .boolean), Cond.methodLink RX1 64 yX1_contains, Cond.static yX1_contains, Cond.code yX1_contains cX1_contains 2 (some .boolean), Cond.methodLink RX4 142 yX1_secondSeen, Cond.instanceMethod yX1_secondSeen, Cond.selects RX1 yX1_secondSeen yX1_secondSeen, Cond.code yX1_secondSeen cX1_secondSeen 2 (some .boolean), Cond.methodLink RX4 223 yX4_enter, Cond.instanceMethod yX4_enter, Cond.selects RX4 yX4_enter yX4_enter]
def wsL_law_r17 : List Cond := [Cond.code yX4_enter cX4_enter 3 none, Cond.methodLink RX4 226 yX4_strike, Cond.instanceMethod yX4_strike, Cond.selects RX4 yX4_strike yX4_strike, Cond.code yX4_strike cX4_strike 2 none, Cond.methodLink RX4 148 yX1_isDoubtful, Cond.instanceMethod yX1_isDoubtful, Cond.selects RX1 yX1_isDoubtful yX1_isDoubtful, Cond.code yX1_isDoubtful cX1_isDoubtful 6 (some .boolean), Cond.methodLink RX4 232 yX0_write, Cond.methodLink RX4 190 yX4_velocityAfter, Cond.instanceMethod yX4_velocityAfter, Cond.selects RX4 yX4_velocityAfter yX4_velocityAfter, Cond.code yX4_velocityAfter cX4_velocityAfter 2 (some .int), Cond.methodLink RX4 239 Lib.Math.max.name, Cond.static Lib.Math.max.name, Cond.code Lib.Math.max.name Lib.Math.max.code 2 (some .int), Cond.methodLink RX4 236 yX3_sound, Cond.instanceMethod yX3_sound, Cond.selects RX3 yX3_sound yX3_sound, Cond.code yX3_sound cX3_sound 5 none, Cond.methodLink RX3 53 yX3_withKey, Cond.instanceMethod yX3_withKey, Cond.selects RX3 yX3_withKey yX3_withKey]
def wsL_law_r18 : List Cond := [Cond.code yX3_withKey cX3_withKey 3 (some .int), Cond.methodLink RX3 57 yX3_firstFree, Cond.instanceMethod yX3_firstFree, Cond.selects RX3 yX3_firstFree yX3_firstFree, Cond.code yX3_firstFree cX3_firstFree 2 (some .int), Cond.methodLink RX3 61 yX3_victim, Cond.instanceMethod yX3_victim, Cond.selects RX3 yX3_victim yX3_victim, Cond.code yX3_victim cX3_victim 3 (some .int), Cond.methodLink RX3 80 yX3_goesBefore, Cond.instanceMethod yX3_goesBefore, Cond.selects RX3 yX3_goesBefore yX3_goesBefore, Cond.code yX3_goesBefore cX3_goesBefore 3 (some .boolean), Cond.methodLink RX4 229 yX3_release, Cond.instanceMethod yX3_release, Cond.selects RX3 yX3_release yX3_release, Cond.code yX3_release cX3_release 4 none, Cond.methodLink RL 60 yX5_tick, Cond.instanceMethod yX5_tick, Cond.selects RX5 yX5_tick yX5_tick, Cond.code yX5_tick cX5_tick 3 (some .int), Cond.methodLink RX5 172 yX5_pass, Cond.instanceMethod yX5_pass, Cond.selects RX5 yX5_pass yX5_pass]
def wsL_law_r19 : List Cond := [Cond.code yX5_pass cX5_pass 4 none, Cond.methodLink RX5 169 yX5_scan, Cond.instanceMethod yX5_scan, Cond.selects RX5 yX5_scan yX5_scan, Cond.code yX5_scan cX5_scan 4 none, Cond.methodLink RX5 158 yX5_hits, Cond.instanceMethod yX5_hits, Cond.selects RX5 yX5_hits yX5_hits, Cond.code yX5_hits cX5_hits 3 none, Cond.methodLink RX5 166 yX5_strike, Cond.instanceMethod yX5_strike, Cond.selects RX5 yX5_strike yX5_strike, Cond.code yX5_strike cX5_strike 3 none, Cond.methodLink RX5 143 yX5_isDoubtful, Cond.instanceMethod yX5_isDoubtful, Cond.selects RX5 yX5_isDoubtful yX5_isDoubtful, Cond.code yX5_isDoubtful cX5_isDoubtful 6 (some .boolean), Cond.methodLink RX5 146 yX5_voiceOf, Cond.instanceMethod yX5_voiceOf, Cond.selects RX5 yX5_voiceOf yX5_voiceOf, Cond.code yX5_voiceOf cX5_voiceOf 3 (some .int), Cond.methodLink RX5 149 yX5_freeVoice, Cond.instanceMethod yX5_freeVoice, Cond.selects RX5 yX5_freeVoice yX5_freeVoice]
def wsL_law_r20 : List Cond := [Cond.code yX5_freeVoice cX5_freeVoice 2 (some .int), Cond.methodLink RX5 152 yX5_taken, Cond.instanceMethod yX5_taken, Cond.selects RX5 yX5_taken yX5_taken, Cond.code yX5_taken cX5_taken 2 (some .int), Cond.methodLink RX5 139 yX5_weakest, Cond.instanceMethod yX5_weakest, Cond.selects RX5 yX5_weakest yX5_weakest, Cond.code yX5_weakest cX5_weakest 4 (some .int), Cond.methodLink RX5 135 yX5_isWeaker, Cond.instanceMethod yX5_isWeaker, Cond.selects RX5 yX5_isWeaker yX5_isWeaker, Cond.code yX5_isWeaker cX5_isWeaker 3 (some .boolean), Cond.methodLink RX5 155 yX5_velocityAfter, Cond.instanceMethod yX5_velocityAfter, Cond.selects RX5 yX5_velocityAfter yX5_velocityAfter, Cond.code yX5_velocityAfter cX5_velocityAfter 3 (some .int), Cond.methodLink RX5 162 yX5_release, Cond.instanceMethod yX5_release, Cond.selects RX5 yX5_release yX5_release, Cond.code yX5_release cX5_release 3 none, Cond.methodLink RL 61 yX4_key, Cond.instanceMethod yX4_key, Cond.selects RX4 yX4_key yX4_key]
def wsL_law_r21 : List Cond := [Cond.code yX4_key cX4_key 3 (some .int), Cond.methodLink RX4 135 yX3_withKey, Cond.methodLink RX4 145 yX1_isGhost, Cond.instanceMethod yX1_isGhost, Cond.selects RX1 yX1_isGhost yX1_isGhost, Cond.code yX1_isGhost cX1_isGhost 2 (some .boolean), Cond.methodLink RL 64 yX5_key, Cond.instanceMethod yX5_key, Cond.selects RX5 yX5_key yX5_key, Cond.code yX5_key cX5_key 3 (some .int), Cond.methodLink RL 65 yX4_voice, Cond.instanceMethod yX4_voice, Cond.selects RX4 yX4_voice yX4_voice, Cond.code yX4_voice cX4_voice 4 (some .int), Cond.fieldLink RX4 151 "KeyScanner$Voices" "states" "[I", Cond.fieldLink RX4 154 "KeyScanner$Voices" "keys" "[I", Cond.fieldLink RX4 157 "KeyScanner$Voices" "velocities" "[I", Cond.fieldLink RX4 160 "KeyScanner$Voices" "begun" "[I", Cond.fieldLink RX4 163 "KeyScanner$Voices" "captured" "[Z", Cond.methodLink RL 68 yX5_voice, Cond.instanceMethod yX5_voice, Cond.selects RX5 yX5_voice yX5_voice, Cond.code yX5_voice cX5_voice 3 (some .int), Cond.methodLink RL 69 yX4_count]
def wsL_law_r22 : List Cond := [Cond.instanceMethod yX4_count, Cond.selects RX4 yX4_count yX4_count, Cond.code yX4_count cX4_count 2 (some .int), Cond.fieldLink RX4 173 "KeyScanner$Journal" "made" "I", Cond.fieldLink RX4 176 "KeyScanner$Voices" "taken" "I", Cond.methodLink RX4 167 yX1_doubtful, Cond.instanceMethod yX1_doubtful, Cond.selects RX1 yX1_doubtful yX1_doubtful, Cond.code yX1_doubtful cX1_doubtful 3 (some .int), Cond.methodLink RX1 72 yX1_isDoubtful, Cond.methodLink RX4 170 yX3_inState, Cond.methodLink RL 72 yX5_count, Cond.instanceMethod yX5_count, Cond.selects RX5 yX5_count yX5_count, Cond.code yX5_count cX5_count 6 (some .int), Cond.methodLink RL 73 yX4_log, Cond.instanceMethod yX4_log, Cond.selects RX4 yX4_log yX4_log, Cond.code yX4_log cX4_log 4 (some .int), Cond.fieldLink RX4 183 "KeyScanner$Journal" "times" "[I", Cond.fieldLink RX4 186 "KeyScanner$Journal" "kinds" "[I", Cond.fieldLink RX4 189 "KeyScanner$Journal" "keys" "[I", Cond.methodLink RX4 179 yX0_size, Cond.instanceMethod yX0_size]
def wsL_law_r23 : List Cond := [Cond.selects RX0 yX0_size yX0_size, Cond.code yX0_size cX0_size 1 (some .int), Cond.methodLink RX0 31 Lib.Math.min.name, Cond.methodLink RX4 180 yX0_place, Cond.instanceMethod yX0_place, Cond.selects RX0 yX0_place yX0_place, Cond.code yX0_place cX0_place 2 (some .int), Cond.methodLink RL 76 yX5_log, Cond.instanceMethod yX5_log, Cond.selects RX5 yX5_log yX5_log, Cond.code yX5_log cX5_log 3 (some .int), Cond.methodLink RL 77 yX4_velocity, Cond.instanceMethod yX4_velocity, Cond.selects RX4 yX4_velocity yX4_velocity, Cond.code yX4_velocity cX4_velocity 2 (some .int), Cond.methodLink RL 80 yX5_velocity, Cond.instanceMethod yX5_velocity, Cond.selects RX5 yX5_velocity yX5_velocity, Cond.code yX5_velocity cX5_velocity 2 (some .int), Cond.methodLink RL 81 yX4_nextTaken, Cond.instanceMethod yX4_nextTaken, Cond.selects RX4 yX4_nextTaken yX4_nextTaken, Cond.code yX4_nextTaken cX4_nextTaken 1 (some .int), Cond.methodLink RX4 193 yX3_firstFree]
def wsL_law_r24 : List Cond := [Cond.methodLink RX4 196 yX3_victim, Cond.methodLink RL 84 yX5_nextTaken, Cond.instanceMethod yX5_nextTaken, Cond.selects RX5 yX5_nextTaken yX5_nextTaken, Cond.code yX5_nextTaken cX5_nextTaken 1 (some .int), Cond.methodLink RL 85 yX4_connected, Cond.instanceMethod yX4_connected, Cond.selects RX4 yX4_connected yX4_connected, Cond.code yX4_connected cX4_connected 2 (some .int), Cond.fieldLink RX4 199 "KeyScanner$Matrix" "first" "LKeyScanner$Net;", Cond.fieldLink RX4 208 "KeyScanner$Net" "joined" "[I", Cond.methodLink RX4 203 yX2_rowsJoinedWith, Cond.instanceMethod yX2_rowsJoinedWith, Cond.selects RX2 yX2_rowsJoinedWith yX2_rowsJoinedWith, Cond.code yX2_rowsJoinedWith cX2_rowsJoinedWith 4 (some .int), Cond.methodLink RL 88 yX5_connected, Cond.instanceMethod yX5_connected, Cond.selects RX5 yX5_connected yX5_connected, Cond.code yX5_connected cX5_connected 2 (some .int), Cond.methodLink RL 89 yX4_worstKey, Cond.instanceMethod yX4_worstKey, Cond.selects RX4 yX4_worstKey yX4_worstKey, Cond.code yX4_worstKey cX4_worstKey 5 (some .int), Cond.methodLink RX4 211 yX1_ghostsWithout]
def wsL_law_r25 : List Cond := [Cond.instanceMethod yX1_ghostsWithout, Cond.selects RX1 yX1_ghostsWithout yX1_ghostsWithout, Cond.code yX1_ghostsWithout cX1_ghostsWithout 4 (some .int), Cond.methodLink RX1 81 yX1_move, Cond.methodLink RX1 85 yX1_ghosts, Cond.methodLink RL 92 yX5_worstKey, Cond.instanceMethod yX5_worstKey, Cond.selects RX5 yX5_worstKey yX5_worstKey, Cond.code yX5_worstKey cX5_worstKey 5 (some .int), Cond.methodLink RL 93 yX4_restAfter, Cond.instanceMethod yX4_restAfter, Cond.selects RX4 yX4_restAfter yX4_restAfter, Cond.code yX4_restAfter cX4_restAfter 4 (some .int), Cond.methodLink RX4 214 yX4_allRestBehind, Cond.instanceMethod yX4_allRestBehind, Cond.selects RX4 yX4_allRestBehind yX4_allRestBehind, Cond.code yX4_allRestBehind cX4_allRestBehind 5 (some .boolean), Cond.methodLink RX4 242 yX1_seen, Cond.methodLink RX4 246 yX4_rowRests, Cond.instanceMethod yX4_rowRests, Cond.selects RX4 yX4_rowRests yX4_rowRests, Cond.code yX4_rowRests cX4_rowRests 4 (some .boolean), Cond.methodLink RL 96 yX5_restAfter, Cond.instanceMethod yX5_restAfter]
def wsL_law_r26 : List Cond := [Cond.selects RX5 yX5_restAfter yX5_restAfter, Cond.code yX5_restAfter cX5_restAfter 6 (some .int), Cond.methodLink RX5 185 yX5_areAtRest, Cond.instanceMethod yX5_areAtRest, Cond.selects RX5 yX5_areAtRest yX5_areAtRest, Cond.code yX5_areAtRest cX5_areAtRest 3 (some .boolean)]
def wsL_law : List Cond := (wsL_law_r1 ++ (wsL_law_r2 ++ (wsL_law_r3 ++ (wsL_law_r4 ++ (wsL_law_r5 ++ (wsL_law_r6 ++ (wsL_law_r7 ++ (wsL_law_r8 ++ (wsL_law_r9 ++ (wsL_law_r10 ++ (wsL_law_r11 ++ (wsL_law_r12 ++ (wsL_law_r13 ++ (wsL_law_r14 ++ (wsL_law_r15 ++ (wsL_law_r16 ++ (wsL_law_r17 ++ (wsL_law_r18 ++ (wsL_law_r19 ++ (wsL_law_r20 ++ (wsL_law_r21 ++ (wsL_law_r22 ++ (wsL_law_r23 ++ (wsL_law_r24 ++ (wsL_law_r25 ++ wsL_law_r26))))))))))))))))))))))))) ++ wsX40 ++ wsX50 ++ wsX10 ++ wsX00 ++ wsX30 ++ wsX20 ++ ([] : List Cond)
abbrev vwCl : List vw_C := [(RX0, TX0, 4), (RX1, TX1, 6), (RX2, TX2, 2), (RX3, TX3, 11), (RX4, TX4, 11), (RX5, TX5, 30)]
end
section
theorem dX0_init_0 : decode cX0_init 0 = .ok (.aload_n 0, 1) := by decide +kernel
theorem dX0_init_1 : decode cX0_init 1 = .ok (.invokespecial 3, 3) := by decide +kernel
theorem dX0_init_4 : decode cX0_init 4 = .ok (.aload_n 0, 1) := by decide +kernel
theorem dX0_init_5 : decode cX0_init 5 = .ok (.bipush 16, 2) := by decide +kernel
theorem dX0_init_7 : decode cX0_init 7 = .ok (.newarray .int, 2) := by decide +kernel
theorem dX0_init_9 : decode cX0_init 9 = .ok (.putfield 9, 3) := by decide +kernel
theorem dX0_init_12 : decode cX0_init 12 = .ok (.aload_n 0, 1) := by decide +kernel
theorem dX0_init_13 : decode cX0_init 13 = .ok (.bipush 16, 2) := by decide +kernel
theorem dX0_init_15 : decode cX0_init 15 = .ok (.newarray .int, 2) := by decide +kernel
theorem dX0_init_17 : decode cX0_init 17 = .ok (.putfield 15, 3) := by decide +kernel
theorem dX0_init_20 : decode cX0_init 20 = .ok (.aload_n 0, 1) := by decide +kernel
theorem dX0_init_21 : decode cX0_init 21 = .ok (.bipush 16, 2) := by decide +kernel
theorem dX0_init_23 : decode cX0_init 23 = .ok (.newarray .int, 2) := by decide +kernel
theorem dX0_init_25 : decode cX0_init 25 = .ok (.putfield 18, 3) := by decide +kernel
theorem dX0_init_28 : decode cX0_init 28 = .ok (.aload_n 0, 1) := by decide +kernel
theorem dX0_init_29 : decode cX0_init 29 = .ok (.iconst 0, 1) := by decide +kernel
theorem dX0_init_30 : decode cX0_init 30 = .ok (.putfield 21, 3) := by decide +kernel
theorem dX0_init_33 : decode cX0_init 33 = .ok (.return_, 1) := by decide +kernel
theorem dX0_empty_0 : decode cX0_empty 0 = .ok (.aload_n 0, 1) := by decide +kernel
theorem dX0_empty_1 : decode cX0_empty 1 = .ok (.iconst 0, 1) := by decide +kernel
theorem dX0_empty_2 : decode cX0_empty 2 = .ok (.putfield 21, 3) := by decide +kernel
theorem dX0_empty_5 : decode cX0_empty 5 = .ok (.return_, 1) := by decide +kernel
theorem dX0_write_0 : decode cX0_write 0 = .ok (.aload_n 0, 1) := by decide +kernel
theorem dX0_write_1 : decode cX0_write 1 = .ok (.getfield 21, 3) := by decide +kernel
theorem dX0_write_4 : decode cX0_write 4 = .ok (.bipush 16, 2) := by decide +kernel
theorem dX0_write_6 : decode cX0_write 6 = .ok (.invokestatic 25, 3) := by decide +kernel
theorem dX0_write_9 : decode cX0_write 9 = .ok (.istore 4, 2) := by decide +kernel
theorem dX0_write_11 : decode cX0_write 11 = .ok (.aload_n 0, 1) := by decide +kernel
theorem dX0_write_12 : decode cX0_write 12 = .ok (.getfield 9, 3) := by decide +kernel
theorem dX0_write_15 : decode cX0_write 15 = .ok (.iload 4, 2) := by decide +kernel
theorem dX0_write_17 : decode cX0_write 17 = .ok (.iload_n 1, 1) := by decide +kernel
theorem dX0_write_18 : decode cX0_write 18 = .ok (.iastore, 1) := by decide +kernel
theorem dX0_write_19 : decode cX0_write 19 = .ok (.aload_n 0, 1) := by decide +kernel
theorem dX0_write_20 : decode cX0_write 20 = .ok (.getfield 15, 3) := by decide +kernel
theorem dX0_write_23 : decode cX0_write 23 = .ok (.iload 4, 2) := by decide +kernel
theorem dX0_write_25 : decode cX0_write 25 = .ok (.iload_n 2, 1) := by decide +kernel
theorem dX0_write_26 : decode cX0_write 26 = .ok (.iastore, 1) := by decide +kernel
theorem dX0_write_27 : decode cX0_write 27 = .ok (.aload_n 0, 1) := by decide +kernel
theorem dX0_write_28 : decode cX0_write 28 = .ok (.getfield 18, 3) := by decide +kernel
theorem dX0_write_31 : decode cX0_write 31 = .ok (.iload 4, 2) := by decide +kernel
theorem dX0_write_33 : decode cX0_write 33 = .ok (.iload_n 3, 1) := by decide +kernel
theorem dX0_write_34 : decode cX0_write 34 = .ok (.iastore, 1) := by decide +kernel
theorem dX0_write_35 : decode cX0_write 35 = .ok (.aload_n 0, 1) := by decide +kernel
theorem dX0_write_36 : decode cX0_write 36 = .ok (.dup, 1) := by decide +kernel
theorem dX0_write_37 : decode cX0_write 37 = .ok (.getfield 21, 3) := by decide +kernel
theorem dX0_write_40 : decode cX0_write 40 = .ok (.iconst 1, 1) := by decide +kernel
theorem dX0_write_41 : decode cX0_write 41 = .ok (.iadd, 1) := by decide +kernel
theorem dX0_write_42 : decode cX0_write 42 = .ok (.putfield 21, 3) := by decide +kernel
theorem dX0_write_45 : decode cX0_write 45 = .ok (.return_, 1) := by decide +kernel
theorem dX0_size_0 : decode cX0_size 0 = .ok (.aload_n 0, 1) := by decide +kernel
theorem dX0_size_1 : decode cX0_size 1 = .ok (.getfield 21, 3) := by decide +kernel
theorem dX0_size_4 : decode cX0_size 4 = .ok (.bipush 16, 2) := by decide +kernel
theorem dX0_size_6 : decode cX0_size 6 = .ok (.invokestatic 31, 3) := by decide +kernel
theorem dX0_size_9 : decode cX0_size 9 = .ok (.ireturn, 1) := by decide +kernel
theorem dX0_place_0 : decode cX0_place 0 = .ok (.aload_n 0, 1) := by decide +kernel
theorem dX0_place_1 : decode cX0_place 1 = .ok (.getfield 21, 3) := by decide +kernel
theorem dX0_place_4 : decode cX0_place 4 = .ok (.iconst 1, 1) := by decide +kernel
theorem dX0_place_5 : decode cX0_place 5 = .ok (.isub, 1) := by decide +kernel
theorem dX0_place_6 : decode cX0_place 6 = .ok (.iload_n 1, 1) := by decide +kernel
theorem dX0_place_7 : decode cX0_place 7 = .ok (.isub, 1) := by decide +kernel
theorem dX0_place_8 : decode cX0_place 8 = .ok (.bipush 16, 2) := by decide +kernel
theorem dX0_place_10 : decode cX0_place 10 = .ok (.invokestatic 25, 3) := by decide +kernel
theorem dX0_place_13 : decode cX0_place 13 = .ok (.ireturn, 1) := by decide +kernel
theorem dX1_init_0 : decode cX1_init 0 = .ok (.aload_n 0, 1) := by decide +kernel
theorem dX1_init_1 : decode cX1_init 1 = .ok (.invokespecial 3, 3) := by decide +kernel
theorem dX1_init_4 : decode cX1_init 4 = .ok (.aload_n 0, 1) := by decide +kernel
theorem dX1_init_5 : decode cX1_init 5 = .ok (.bipush 64, 2) := by decide +kernel
theorem dX1_init_7 : decode cX1_init 7 = .ok (.newarray .int, 2) := by decide +kernel
theorem dX1_init_9 : decode cX1_init 9 = .ok (.putfield 9, 3) := by decide +kernel
theorem dX1_init_12 : decode cX1_init 12 = .ok (.aload_n 0, 1) := by decide +kernel
theorem dX1_init_13 : decode cX1_init 13 = .ok (.new 15, 3) := by decide +kernel
theorem dX1_init_16 : decode cX1_init 16 = .ok (.dup, 1) := by decide +kernel
theorem dX1_init_17 : decode cX1_init 17 = .ok (.invokespecial 17, 3) := by decide +kernel
theorem dX1_init_20 : decode cX1_init 20 = .ok (.putfield 18, 3) := by decide +kernel
theorem dX1_init_23 : decode cX1_init 23 = .ok (.aload_n 0, 1) := by decide +kernel
theorem dX1_init_24 : decode cX1_init 24 = .ok (.new 15, 3) := by decide +kernel
theorem dX1_init_27 : decode cX1_init 27 = .ok (.dup, 1) := by decide +kernel
theorem dX1_init_28 : decode cX1_init 28 = .ok (.invokespecial 17, 3) := by decide +kernel
theorem dX1_init_31 : decode cX1_init 31 = .ok (.putfield 22, 3) := by decide +kernel
theorem dX1_init_34 : decode cX1_init 34 = .ok (.aload_n 0, 1) := by decide +kernel
theorem dX1_init_35 : decode cX1_init 35 = .ok (.iconst 4, 1) := by decide +kernel
theorem dX1_init_36 : decode cX1_init 36 = .ok (.putfield 25, 3) := by decide +kernel
theorem dX1_init_39 : decode cX1_init 39 = .ok (.aload_n 0, 1) := by decide +kernel
theorem dX1_init_40 : decode cX1_init 40 = .ok (.iconst 4, 1) := by decide +kernel
theorem dX1_init_41 : decode cX1_init 41 = .ok (.putfield 29, 3) := by decide +kernel
theorem dX1_init_44 : decode cX1_init 44 = .ok (.aload_n 0, 1) := by decide +kernel
theorem dX1_init_45 : decode cX1_init 45 = .ok (.iconst 0, 1) := by decide +kernel
theorem dX1_init_46 : decode cX1_init 46 = .ok (.putfield 32, 3) := by decide +kernel
theorem dX1_init_49 : decode cX1_init 49 = .ok (.return_, 1) := by decide +kernel
theorem dX1_size_0 : decode cX1_size 0 = .ok (.aload_n 0, 1) := by decide +kernel
theorem dX1_size_1 : decode cX1_size 1 = .ok (.getfield 25, 3) := by decide +kernel
theorem dX1_size_4 : decode cX1_size 4 = .ok (.aload_n 0, 1) := by decide +kernel
theorem dX1_size_5 : decode cX1_size 5 = .ok (.getfield 29, 3) := by decide +kernel
theorem dX1_size_8 : decode cX1_size 8 = .ok (.imul, 1) := by decide +kernel
theorem dX1_size_9 : decode cX1_size 9 = .ok (.ireturn, 1) := by decide +kernel
theorem dX1_has_0 : decode cX1_has 0 = .ok (.iload_n 1, 1) := by decide +kernel
theorem dX1_has_1 : decode cX1_has 1 = .ok (.ifCond .lt 15, 3) := by decide +kernel
theorem dX1_has_4 : decode cX1_has 4 = .ok (.iload_n 1, 1) := by decide +kernel
theorem dX1_has_5 : decode cX1_has 5 = .ok (.aload_n 0, 1) := by decide +kernel
theorem dX1_has_6 : decode cX1_has 6 = .ok (.invokevirtual 36, 3) := by decide +kernel
theorem dX1_has_9 : decode cX1_has 9 = .ok (.if_icmp .ge 7, 3) := by decide +kernel
theorem dX1_has_12 : decode cX1_has 12 = .ok (.iconst 1, 1) := by decide +kernel
theorem dX1_has_13 : decode cX1_has 13 = .ok (.goto 4, 3) := by decide +kernel
theorem dX1_has_16 : decode cX1_has 16 = .ok (.iconst 0, 1) := by decide +kernel
theorem dX1_has_17 : decode cX1_has 17 = .ok (.ireturn, 1) := by decide +kernel
theorem dX1_layOut_0 : decode cX1_layOut 0 = .ok (.aload_n 0, 1) := by decide +kernel
theorem dX1_layOut_1 : decode cX1_layOut 1 = .ok (.iload_n 1, 1) := by decide +kernel
theorem dX1_layOut_2 : decode cX1_layOut 2 = .ok (.putfield 25, 3) := by decide +kernel
theorem dX1_layOut_5 : decode cX1_layOut 5 = .ok (.aload_n 0, 1) := by decide +kernel
theorem dX1_layOut_6 : decode cX1_layOut 6 = .ok (.iload_n 2, 1) := by decide +kernel
theorem dX1_layOut_7 : decode cX1_layOut 7 = .ok (.putfield 29, 3) := by decide +kernel
theorem dX1_layOut_10 : decode cX1_layOut 10 = .ok (.aload_n 0, 1) := by decide +kernel
theorem dX1_layOut_11 : decode cX1_layOut 11 = .ok (.invokevirtual 40, 3) := by decide +kernel
theorem dX1_layOut_14 : decode cX1_layOut 14 = .ok (.return_, 1) := by decide +kernel
theorem dX1_lift_0 : decode cX1_lift 0 = .ok (.iconst 0, 1) := by decide +kernel
theorem dX1_lift_1 : decode cX1_lift 1 = .ok (.istore_n 1, 1) := by decide +kernel
theorem dX1_lift_2 : decode cX1_lift 2 = .ok (.iload_n 1, 1) := by decide +kernel
theorem dX1_lift_3 : decode cX1_lift 3 = .ok (.bipush 64, 2) := by decide +kernel
theorem dX1_lift_5 : decode cX1_lift 5 = .ok (.if_icmp .ge 16, 3) := by decide +kernel
theorem dX1_lift_8 : decode cX1_lift 8 = .ok (.aload_n 0, 1) := by decide +kernel
theorem dX1_lift_9 : decode cX1_lift 9 = .ok (.getfield 9, 3) := by decide +kernel
theorem dX1_lift_12 : decode cX1_lift 12 = .ok (.iload_n 1, 1) := by decide +kernel
theorem dX1_lift_13 : decode cX1_lift 13 = .ok (.iconst 0, 1) := by decide +kernel
theorem dX1_lift_14 : decode cX1_lift 14 = .ok (.iastore, 1) := by decide +kernel
theorem dX1_lift_15 : decode cX1_lift 15 = .ok (.iinc 1 1, 3) := by decide +kernel
theorem dX1_lift_18 : decode cX1_lift 18 = .ok (.goto (-16), 3) := by decide +kernel
theorem dX1_lift_21 : decode cX1_lift 21 = .ok (.aload_n 0, 1) := by decide +kernel
theorem dX1_lift_22 : decode cX1_lift 22 = .ok (.getfield 18, 3) := by decide +kernel
theorem dX1_lift_25 : decode cX1_lift 25 = .ok (.invokevirtual 43, 3) := by decide +kernel
theorem dX1_lift_28 : decode cX1_lift 28 = .ok (.aload_n 0, 1) := by decide +kernel
theorem dX1_lift_29 : decode cX1_lift 29 = .ok (.getfield 22, 3) := by decide +kernel
theorem dX1_lift_32 : decode cX1_lift 32 = .ok (.invokevirtual 43, 3) := by decide +kernel
theorem dX1_lift_35 : decode cX1_lift 35 = .ok (.return_, 1) := by decide +kernel
theorem dX1_move_0 : decode cX1_move 0 = .ok (.aload_n 0, 1) := by decide +kernel
theorem dX1_move_1 : decode cX1_move 1 = .ok (.getfield 9, 3) := by decide +kernel
theorem dX1_move_4 : decode cX1_move 4 = .ok (.iload_n 1, 1) := by decide +kernel
theorem dX1_move_5 : decode cX1_move 5 = .ok (.iload_n 2, 1) := by decide +kernel
theorem dX1_move_6 : decode cX1_move 6 = .ok (.iastore, 1) := by decide +kernel
theorem dX1_move_7 : decode cX1_move 7 = .ok (.aload_n 0, 1) := by decide +kernel
theorem dX1_move_8 : decode cX1_move 8 = .ok (.getfield 18, 3) := by decide +kernel
theorem dX1_move_11 : decode cX1_move 11 = .ok (.iload_n 1, 1) := by decide +kernel
theorem dX1_move_12 : decode cX1_move 12 = .ok (.aload_n 0, 1) := by decide +kernel
theorem dX1_move_13 : decode cX1_move 13 = .ok (.getfield 29, 3) := by decide +kernel
theorem dX1_move_16 : decode cX1_move 16 = .ok (.idiv, 1) := by decide +kernel
theorem dX1_move_17 : decode cX1_move 17 = .ok (.iload_n 1, 1) := by decide +kernel
theorem dX1_move_18 : decode cX1_move 18 = .ok (.aload_n 0, 1) := by decide +kernel
theorem dX1_move_19 : decode cX1_move 19 = .ok (.getfield 29, 3) := by decide +kernel
theorem dX1_move_22 : decode cX1_move 22 = .ok (.irem, 1) := by decide +kernel
theorem dX1_move_23 : decode cX1_move 23 = .ok (.iload_n 2, 1) := by decide +kernel
theorem dX1_move_24 : decode cX1_move 24 = .ok (.iconst 1, 1) := by decide +kernel
theorem dX1_move_25 : decode cX1_move 25 = .ok (.if_icmp .lt 7, 3) := by decide +kernel
theorem dX1_move_28 : decode cX1_move 28 = .ok (.iconst 1, 1) := by decide +kernel
theorem dX1_move_29 : decode cX1_move 29 = .ok (.goto 4, 3) := by decide +kernel
theorem dX1_move_32 : decode cX1_move 32 = .ok (.iconst 0, 1) := by decide +kernel
theorem dX1_move_33 : decode cX1_move 33 = .ok (.invokevirtual 46, 3) := by decide +kernel
theorem dX1_move_36 : decode cX1_move 36 = .ok (.aload_n 0, 1) := by decide +kernel
theorem dX1_move_37 : decode cX1_move 37 = .ok (.getfield 22, 3) := by decide +kernel
theorem dX1_move_40 : decode cX1_move 40 = .ok (.iload_n 1, 1) := by decide +kernel
theorem dX1_move_41 : decode cX1_move 41 = .ok (.aload_n 0, 1) := by decide +kernel
theorem dX1_move_42 : decode cX1_move 42 = .ok (.getfield 29, 3) := by decide +kernel
theorem dX1_move_45 : decode cX1_move 45 = .ok (.idiv, 1) := by decide +kernel
theorem dX1_move_46 : decode cX1_move 46 = .ok (.iload_n 1, 1) := by decide +kernel
theorem dX1_move_47 : decode cX1_move 47 = .ok (.aload_n 0, 1) := by decide +kernel
theorem dX1_move_48 : decode cX1_move 48 = .ok (.getfield 29, 3) := by decide +kernel
theorem dX1_move_51 : decode cX1_move 51 = .ok (.irem, 1) := by decide +kernel
theorem dX1_move_52 : decode cX1_move 52 = .ok (.iload_n 2, 1) := by decide +kernel
theorem dX1_move_53 : decode cX1_move 53 = .ok (.iconst 2, 1) := by decide +kernel
theorem dX1_move_54 : decode cX1_move 54 = .ok (.if_icmp .ne 7, 3) := by decide +kernel
theorem dX1_move_57 : decode cX1_move 57 = .ok (.iconst 1, 1) := by decide +kernel
theorem dX1_move_58 : decode cX1_move 58 = .ok (.goto 4, 3) := by decide +kernel
theorem dX1_move_61 : decode cX1_move 61 = .ok (.iconst 0, 1) := by decide +kernel
theorem dX1_move_62 : decode cX1_move 62 = .ok (.invokevirtual 46, 3) := by decide +kernel
theorem dX1_move_65 : decode cX1_move 65 = .ok (.return_, 1) := by decide +kernel
theorem dX1_pressed_0 : decode cX1_pressed 0 = .ok (.iconst 0, 1) := by decide +kernel
theorem dX1_pressed_1 : decode cX1_pressed 1 = .ok (.istore_n 1, 1) := by decide +kernel
theorem dX1_pressed_2 : decode cX1_pressed 2 = .ok (.iconst 0, 1) := by decide +kernel
theorem dX1_pressed_3 : decode cX1_pressed 3 = .ok (.istore_n 2, 1) := by decide +kernel
theorem dX1_pressed_4 : decode cX1_pressed 4 = .ok (.iload_n 2, 1) := by decide +kernel
theorem dX1_pressed_5 : decode cX1_pressed 5 = .ok (.aload_n 0, 1) := by decide +kernel
theorem dX1_pressed_6 : decode cX1_pressed 6 = .ok (.invokevirtual 36, 3) := by decide +kernel
theorem dX1_pressed_9 : decode cX1_pressed 9 = .ok (.if_icmp .ge 29, 3) := by decide +kernel
theorem dX1_pressed_12 : decode cX1_pressed 12 = .ok (.iload_n 1, 1) := by decide +kernel
theorem dX1_pressed_13 : decode cX1_pressed 13 = .ok (.aload_n 0, 1) := by decide +kernel
theorem dX1_pressed_14 : decode cX1_pressed 14 = .ok (.getfield 9, 3) := by decide +kernel
theorem dX1_pressed_17 : decode cX1_pressed 17 = .ok (.iload_n 2, 1) := by decide +kernel
theorem dX1_pressed_18 : decode cX1_pressed 18 = .ok (.iaload, 1) := by decide +kernel
theorem dX1_pressed_19 : decode cX1_pressed 19 = .ok (.ifCond .eq 7, 3) := by decide +kernel
theorem dX1_pressed_22 : decode cX1_pressed 22 = .ok (.iconst 1, 1) := by decide +kernel
theorem dX1_pressed_23 : decode cX1_pressed 23 = .ok (.goto 4, 3) := by decide +kernel
theorem dX1_pressed_26 : decode cX1_pressed 26 = .ok (.iconst 0, 1) := by decide +kernel
theorem dX1_pressed_27 : decode cX1_pressed 27 = .ok (.invokestatic 50, 3) := by decide +kernel
theorem dX1_pressed_30 : decode cX1_pressed 30 = .ok (.iadd, 1) := by decide +kernel
theorem dX1_pressed_31 : decode cX1_pressed 31 = .ok (.istore_n 1, 1) := by decide +kernel
theorem dX1_pressed_32 : decode cX1_pressed 32 = .ok (.iinc 2 1, 3) := by decide +kernel
theorem dX1_pressed_35 : decode cX1_pressed 35 = .ok (.goto (-31), 3) := by decide +kernel
theorem dX1_pressed_38 : decode cX1_pressed 38 = .ok (.iload_n 1, 1) := by decide +kernel
theorem dX1_pressed_39 : decode cX1_pressed 39 = .ok (.ireturn, 1) := by decide +kernel
theorem dX1_seen_0 : decode cX1_seen 0 = .ok (.aload_n 0, 1) := by decide +kernel
theorem dX1_seen_1 : decode cX1_seen 1 = .ok (.getfield 32, 3) := by decide +kernel
theorem dX1_seen_4 : decode cX1_seen 4 = .ok (.ifCond .eq 12, 3) := by decide +kernel
theorem dX1_seen_7 : decode cX1_seen 7 = .ok (.aload_n 1, 1) := by decide +kernel
theorem dX1_seen_8 : decode cX1_seen 8 = .ok (.getfield 54, 3) := by decide +kernel
theorem dX1_seen_11 : decode cX1_seen 11 = .ok (.iload_n 2, 1) := by decide +kernel
theorem dX1_seen_12 : decode cX1_seen 12 = .ok (.iaload, 1) := by decide +kernel
theorem dX1_seen_13 : decode cX1_seen 13 = .ok (.goto 9, 3) := by decide +kernel
theorem dX1_seen_16 : decode cX1_seen 16 = .ok (.aload_n 1, 1) := by decide +kernel
theorem dX1_seen_17 : decode cX1_seen 17 = .ok (.getfield 57, 3) := by decide +kernel
theorem dX1_seen_20 : decode cX1_seen 20 = .ok (.iload_n 2, 1) := by decide +kernel
theorem dX1_seen_21 : decode cX1_seen 21 = .ok (.iaload, 1) := by decide +kernel
theorem dX1_seen_22 : decode cX1_seen 22 = .ok (.ireturn, 1) := by decide +kernel
theorem dX1_firstSeen_0 : decode cX1_firstSeen 0 = .ok (.aload_n 0, 1) := by decide +kernel
theorem dX1_firstSeen_1 : decode cX1_firstSeen 1 = .ok (.aload_n 0, 1) := by decide +kernel
theorem dX1_firstSeen_2 : decode cX1_firstSeen 2 = .ok (.getfield 18, 3) := by decide +kernel
theorem dX1_firstSeen_5 : decode cX1_firstSeen 5 = .ok (.iload_n 1, 1) := by decide +kernel
theorem dX1_firstSeen_6 : decode cX1_firstSeen 6 = .ok (.aload_n 0, 1) := by decide +kernel
theorem dX1_firstSeen_7 : decode cX1_firstSeen 7 = .ok (.getfield 29, 3) := by decide +kernel
theorem dX1_firstSeen_10 : decode cX1_firstSeen 10 = .ok (.idiv, 1) := by decide +kernel
theorem dX1_firstSeen_11 : decode cX1_firstSeen 11 = .ok (.invokevirtual 60, 3) := by decide +kernel
theorem dX1_firstSeen_14 : decode cX1_firstSeen 14 = .ok (.iload_n 1, 1) := by decide +kernel
theorem dX1_firstSeen_15 : decode cX1_firstSeen 15 = .ok (.aload_n 0, 1) := by decide +kernel
theorem dX1_firstSeen_16 : decode cX1_firstSeen 16 = .ok (.getfield 29, 3) := by decide +kernel
theorem dX1_firstSeen_19 : decode cX1_firstSeen 19 = .ok (.irem, 1) := by decide +kernel
theorem dX1_firstSeen_20 : decode cX1_firstSeen 20 = .ok (.invokestatic 64, 3) := by decide +kernel
theorem dX1_firstSeen_23 : decode cX1_firstSeen 23 = .ok (.ireturn, 1) := by decide +kernel
theorem dX1_secondSeen_0 : decode cX1_secondSeen 0 = .ok (.aload_n 0, 1) := by decide +kernel
theorem dX1_secondSeen_1 : decode cX1_secondSeen 1 = .ok (.aload_n 0, 1) := by decide +kernel
theorem dX1_secondSeen_2 : decode cX1_secondSeen 2 = .ok (.getfield 22, 3) := by decide +kernel
theorem dX1_secondSeen_5 : decode cX1_secondSeen 5 = .ok (.iload_n 1, 1) := by decide +kernel
theorem dX1_secondSeen_6 : decode cX1_secondSeen 6 = .ok (.aload_n 0, 1) := by decide +kernel
theorem dX1_secondSeen_7 : decode cX1_secondSeen 7 = .ok (.getfield 29, 3) := by decide +kernel
theorem dX1_secondSeen_10 : decode cX1_secondSeen 10 = .ok (.idiv, 1) := by decide +kernel
theorem dX1_secondSeen_11 : decode cX1_secondSeen 11 = .ok (.invokevirtual 60, 3) := by decide +kernel
theorem dX1_secondSeen_14 : decode cX1_secondSeen 14 = .ok (.iload_n 1, 1) := by decide +kernel
theorem dX1_secondSeen_15 : decode cX1_secondSeen 15 = .ok (.aload_n 0, 1) := by decide +kernel
theorem dX1_secondSeen_16 : decode cX1_secondSeen 16 = .ok (.getfield 29, 3) := by decide +kernel
theorem dX1_secondSeen_19 : decode cX1_secondSeen 19 = .ok (.irem, 1) := by decide +kernel
theorem dX1_secondSeen_20 : decode cX1_secondSeen 20 = .ok (.invokestatic 64, 3) := by decide +kernel
theorem dX1_secondSeen_23 : decode cX1_secondSeen 23 = .ok (.ireturn, 1) := by decide +kernel
theorem dX1_isGhost_0 : decode cX1_isGhost 0 = .ok (.aload_n 0, 1) := by decide +kernel
theorem dX1_isGhost_1 : decode cX1_isGhost 1 = .ok (.iload_n 1, 1) := by decide +kernel
theorem dX1_isGhost_2 : decode cX1_isGhost 2 = .ok (.aload_n 0, 1) := by decide +kernel
theorem dX1_isGhost_3 : decode cX1_isGhost 3 = .ok (.getfield 29, 3) := by decide +kernel
theorem dX1_isGhost_6 : decode cX1_isGhost 6 = .ok (.idiv, 1) := by decide +kernel
theorem dX1_isGhost_7 : decode cX1_isGhost 7 = .ok (.invokevirtual 68, 3) := by decide +kernel
theorem dX1_isGhost_10 : decode cX1_isGhost 10 = .ok (.iload_n 1, 1) := by decide +kernel
theorem dX1_isGhost_11 : decode cX1_isGhost 11 = .ok (.aload_n 0, 1) := by decide +kernel
theorem dX1_isGhost_12 : decode cX1_isGhost 12 = .ok (.getfield 29, 3) := by decide +kernel
theorem dX1_isGhost_15 : decode cX1_isGhost 15 = .ok (.irem, 1) := by decide +kernel
theorem dX1_isGhost_16 : decode cX1_isGhost 16 = .ok (.invokestatic 64, 3) := by decide +kernel
theorem dX1_isGhost_19 : decode cX1_isGhost 19 = .ok (.ireturn, 1) := by decide +kernel
theorem dX1_isDoubtful_0 : decode cX1_isDoubtful 0 = .ok (.iload_n 1, 1) := by decide +kernel
theorem dX1_isDoubtful_1 : decode cX1_isDoubtful 1 = .ok (.aload_n 0, 1) := by decide +kernel
theorem dX1_isDoubtful_2 : decode cX1_isDoubtful 2 = .ok (.getfield 29, 3) := by decide +kernel
theorem dX1_isDoubtful_5 : decode cX1_isDoubtful 5 = .ok (.idiv, 1) := by decide +kernel
theorem dX1_isDoubtful_6 : decode cX1_isDoubtful 6 = .ok (.istore_n 2, 1) := by decide +kernel
theorem dX1_isDoubtful_7 : decode cX1_isDoubtful 7 = .ok (.iconst 1, 1) := by decide +kernel
theorem dX1_isDoubtful_8 : decode cX1_isDoubtful 8 = .ok (.iload_n 1, 1) := by decide +kernel
theorem dX1_isDoubtful_9 : decode cX1_isDoubtful 9 = .ok (.aload_n 0, 1) := by decide +kernel
theorem dX1_isDoubtful_10 : decode cX1_isDoubtful 10 = .ok (.getfield 29, 3) := by decide +kernel
theorem dX1_isDoubtful_13 : decode cX1_isDoubtful 13 = .ok (.irem, 1) := by decide +kernel
theorem dX1_isDoubtful_14 : decode cX1_isDoubtful 14 = .ok (.ishl, 1) := by decide +kernel
theorem dX1_isDoubtful_15 : decode cX1_isDoubtful 15 = .ok (.istore_n 3, 1) := by decide +kernel
theorem dX1_isDoubtful_16 : decode cX1_isDoubtful 16 = .ok (.iconst 0, 1) := by decide +kernel
theorem dX1_isDoubtful_17 : decode cX1_isDoubtful 17 = .ok (.istore 4, 2) := by decide +kernel
theorem dX1_isDoubtful_19 : decode cX1_isDoubtful 19 = .ok (.iload 4, 2) := by decide +kernel
theorem dX1_isDoubtful_21 : decode cX1_isDoubtful 21 = .ok (.aload_n 0, 1) := by decide +kernel
theorem dX1_isDoubtful_22 : decode cX1_isDoubtful 22 = .ok (.getfield 25, 3) := by decide +kernel
theorem dX1_isDoubtful_25 : decode cX1_isDoubtful 25 = .ok (.if_icmp .ge 52, 3) := by decide +kernel
theorem dX1_isDoubtful_28 : decode cX1_isDoubtful 28 = .ok (.aload_n 0, 1) := by decide +kernel
theorem dX1_isDoubtful_29 : decode cX1_isDoubtful 29 = .ok (.aload_n 0, 1) := by decide +kernel
theorem dX1_isDoubtful_30 : decode cX1_isDoubtful 30 = .ok (.getfield 18, 3) := by decide +kernel
theorem dX1_isDoubtful_33 : decode cX1_isDoubtful 33 = .ok (.iload_n 2, 1) := by decide +kernel
theorem dX1_isDoubtful_34 : decode cX1_isDoubtful 34 = .ok (.invokevirtual 60, 3) := by decide +kernel
theorem dX1_isDoubtful_37 : decode cX1_isDoubtful 37 = .ok (.aload_n 0, 1) := by decide +kernel
theorem dX1_isDoubtful_38 : decode cX1_isDoubtful 38 = .ok (.aload_n 0, 1) := by decide +kernel
theorem dX1_isDoubtful_39 : decode cX1_isDoubtful 39 = .ok (.getfield 18, 3) := by decide +kernel
theorem dX1_isDoubtful_42 : decode cX1_isDoubtful 42 = .ok (.iload 4, 2) := by decide +kernel
theorem dX1_isDoubtful_44 : decode cX1_isDoubtful 44 = .ok (.invokevirtual 60, 3) := by decide +kernel
theorem dX1_isDoubtful_47 : decode cX1_isDoubtful 47 = .ok (.iand, 1) := by decide +kernel
theorem dX1_isDoubtful_48 : decode cX1_isDoubtful 48 = .ok (.istore 5, 2) := by decide +kernel
theorem dX1_isDoubtful_50 : decode cX1_isDoubtful 50 = .ok (.iload 4, 2) := by decide +kernel
theorem dX1_isDoubtful_52 : decode cX1_isDoubtful 52 = .ok (.iload_n 2, 1) := by decide +kernel
theorem dX1_isDoubtful_53 : decode cX1_isDoubtful 53 = .ok (.if_icmp .eq 18, 3) := by decide +kernel
theorem dX1_isDoubtful_56 : decode cX1_isDoubtful 56 = .ok (.iload 5, 2) := by decide +kernel
theorem dX1_isDoubtful_58 : decode cX1_isDoubtful 58 = .ok (.iload_n 3, 1) := by decide +kernel
theorem dX1_isDoubtful_59 : decode cX1_isDoubtful 59 = .ok (.iand, 1) := by decide +kernel
theorem dX1_isDoubtful_60 : decode cX1_isDoubtful 60 = .ok (.ifCond .eq 11, 3) := by decide +kernel
theorem dX1_isDoubtful_63 : decode cX1_isDoubtful 63 = .ok (.iload 5, 2) := by decide +kernel
theorem dX1_isDoubtful_65 : decode cX1_isDoubtful 65 = .ok (.iload_n 3, 1) := by decide +kernel
theorem dX1_isDoubtful_66 : decode cX1_isDoubtful 66 = .ok (.if_icmp .eq 5, 3) := by decide +kernel
theorem dX1_isDoubtful_69 : decode cX1_isDoubtful 69 = .ok (.iconst 1, 1) := by decide +kernel
theorem dX1_isDoubtful_70 : decode cX1_isDoubtful 70 = .ok (.ireturn, 1) := by decide +kernel
theorem dX1_isDoubtful_71 : decode cX1_isDoubtful 71 = .ok (.iinc 4 1, 3) := by decide +kernel
theorem dX1_isDoubtful_74 : decode cX1_isDoubtful 74 = .ok (.goto (-55), 3) := by decide +kernel
theorem dX1_isDoubtful_77 : decode cX1_isDoubtful 77 = .ok (.iconst 0, 1) := by decide +kernel
theorem dX1_isDoubtful_78 : decode cX1_isDoubtful 78 = .ok (.ireturn, 1) := by decide +kernel
theorem dX1_doubtful_0 : decode cX1_doubtful 0 = .ok (.iconst 0, 1) := by decide +kernel
theorem dX1_doubtful_1 : decode cX1_doubtful 1 = .ok (.istore_n 1, 1) := by decide +kernel
theorem dX1_doubtful_2 : decode cX1_doubtful 2 = .ok (.iconst 0, 1) := by decide +kernel
theorem dX1_doubtful_3 : decode cX1_doubtful 3 = .ok (.istore_n 2, 1) := by decide +kernel
theorem dX1_doubtful_4 : decode cX1_doubtful 4 = .ok (.iload_n 2, 1) := by decide +kernel
theorem dX1_doubtful_5 : decode cX1_doubtful 5 = .ok (.aload_n 0, 1) := by decide +kernel
theorem dX1_doubtful_6 : decode cX1_doubtful 6 = .ok (.invokevirtual 36, 3) := by decide +kernel
theorem dX1_doubtful_9 : decode cX1_doubtful 9 = .ok (.if_icmp .ge 20, 3) := by decide +kernel
theorem dX1_doubtful_12 : decode cX1_doubtful 12 = .ok (.iload_n 1, 1) := by decide +kernel
theorem dX1_doubtful_13 : decode cX1_doubtful 13 = .ok (.aload_n 0, 1) := by decide +kernel
theorem dX1_doubtful_14 : decode cX1_doubtful 14 = .ok (.iload_n 2, 1) := by decide +kernel
theorem dX1_doubtful_15 : decode cX1_doubtful 15 = .ok (.invokevirtual 72, 3) := by decide +kernel
theorem dX1_doubtful_18 : decode cX1_doubtful 18 = .ok (.invokestatic 50, 3) := by decide +kernel
theorem dX1_doubtful_21 : decode cX1_doubtful 21 = .ok (.iadd, 1) := by decide +kernel
theorem dX1_doubtful_22 : decode cX1_doubtful 22 = .ok (.istore_n 1, 1) := by decide +kernel
theorem dX1_doubtful_23 : decode cX1_doubtful 23 = .ok (.iinc 2 1, 3) := by decide +kernel
theorem dX1_doubtful_26 : decode cX1_doubtful 26 = .ok (.goto (-22), 3) := by decide +kernel
theorem dX1_doubtful_29 : decode cX1_doubtful 29 = .ok (.iload_n 1, 1) := by decide +kernel
theorem dX1_doubtful_30 : decode cX1_doubtful 30 = .ok (.ireturn, 1) := by decide +kernel
theorem dX1_ghosts_0 : decode cX1_ghosts 0 = .ok (.iconst 0, 1) := by decide +kernel
theorem dX1_ghosts_1 : decode cX1_ghosts 1 = .ok (.istore_n 1, 1) := by decide +kernel
theorem dX1_ghosts_2 : decode cX1_ghosts 2 = .ok (.iconst 0, 1) := by decide +kernel
theorem dX1_ghosts_3 : decode cX1_ghosts 3 = .ok (.istore_n 2, 1) := by decide +kernel
theorem dX1_ghosts_4 : decode cX1_ghosts 4 = .ok (.iload_n 2, 1) := by decide +kernel
theorem dX1_ghosts_5 : decode cX1_ghosts 5 = .ok (.aload_n 0, 1) := by decide +kernel
theorem dX1_ghosts_6 : decode cX1_ghosts 6 = .ok (.getfield 25, 3) := by decide +kernel
theorem dX1_ghosts_9 : decode cX1_ghosts 9 = .ok (.if_icmp .ge 20, 3) := by decide +kernel
theorem dX1_ghosts_12 : decode cX1_ghosts 12 = .ok (.iload_n 1, 1) := by decide +kernel
theorem dX1_ghosts_13 : decode cX1_ghosts 13 = .ok (.aload_n 0, 1) := by decide +kernel
theorem dX1_ghosts_14 : decode cX1_ghosts 14 = .ok (.iload_n 2, 1) := by decide +kernel
theorem dX1_ghosts_15 : decode cX1_ghosts 15 = .ok (.invokevirtual 68, 3) := by decide +kernel
theorem dX1_ghosts_18 : decode cX1_ghosts 18 = .ok (.invokestatic 76, 3) := by decide +kernel
theorem dX1_ghosts_21 : decode cX1_ghosts 21 = .ok (.iadd, 1) := by decide +kernel
theorem dX1_ghosts_22 : decode cX1_ghosts 22 = .ok (.istore_n 1, 1) := by decide +kernel
theorem dX1_ghosts_23 : decode cX1_ghosts 23 = .ok (.iinc 2 1, 3) := by decide +kernel
theorem dX1_ghosts_26 : decode cX1_ghosts 26 = .ok (.goto (-22), 3) := by decide +kernel
theorem dX1_ghosts_29 : decode cX1_ghosts 29 = .ok (.iload_n 1, 1) := by decide +kernel
theorem dX1_ghosts_30 : decode cX1_ghosts 30 = .ok (.ireturn, 1) := by decide +kernel
theorem dX1_ghostsWithout_0 : decode cX1_ghostsWithout 0 = .ok (.aload_n 0, 1) := by decide +kernel
theorem dX1_ghostsWithout_1 : decode cX1_ghostsWithout 1 = .ok (.getfield 9, 3) := by decide +kernel
theorem dX1_ghostsWithout_4 : decode cX1_ghostsWithout 4 = .ok (.iload_n 1, 1) := by decide +kernel
theorem dX1_ghostsWithout_5 : decode cX1_ghostsWithout 5 = .ok (.iaload, 1) := by decide +kernel
theorem dX1_ghostsWithout_6 : decode cX1_ghostsWithout 6 = .ok (.istore_n 2, 1) := by decide +kernel
theorem dX1_ghostsWithout_7 : decode cX1_ghostsWithout 7 = .ok (.aload_n 0, 1) := by decide +kernel
theorem dX1_ghostsWithout_8 : decode cX1_ghostsWithout 8 = .ok (.iload_n 1, 1) := by decide +kernel
theorem dX1_ghostsWithout_9 : decode cX1_ghostsWithout 9 = .ok (.iconst 0, 1) := by decide +kernel
theorem dX1_ghostsWithout_10 : decode cX1_ghostsWithout 10 = .ok (.invokevirtual 81, 3) := by decide +kernel
theorem dX1_ghostsWithout_13 : decode cX1_ghostsWithout 13 = .ok (.aload_n 0, 1) := by decide +kernel
theorem dX1_ghostsWithout_14 : decode cX1_ghostsWithout 14 = .ok (.invokevirtual 85, 3) := by decide +kernel
theorem dX1_ghostsWithout_17 : decode cX1_ghostsWithout 17 = .ok (.istore_n 3, 1) := by decide +kernel
theorem dX1_ghostsWithout_18 : decode cX1_ghostsWithout 18 = .ok (.aload_n 0, 1) := by decide +kernel
theorem dX1_ghostsWithout_19 : decode cX1_ghostsWithout 19 = .ok (.iload_n 1, 1) := by decide +kernel
theorem dX1_ghostsWithout_20 : decode cX1_ghostsWithout 20 = .ok (.iload_n 2, 1) := by decide +kernel
theorem dX1_ghostsWithout_21 : decode cX1_ghostsWithout 21 = .ok (.invokevirtual 81, 3) := by decide +kernel
theorem dX1_ghostsWithout_24 : decode cX1_ghostsWithout 24 = .ok (.iload_n 3, 1) := by decide +kernel
theorem dX1_ghostsWithout_25 : decode cX1_ghostsWithout 25 = .ok (.ireturn, 1) := by decide +kernel
theorem dX1_ghostsIn_0 : decode cX1_ghostsIn 0 = .ok (.aload_n 0, 1) := by decide +kernel
theorem dX1_ghostsIn_1 : decode cX1_ghostsIn 1 = .ok (.aload_n 0, 1) := by decide +kernel
theorem dX1_ghostsIn_2 : decode cX1_ghostsIn 2 = .ok (.getfield 18, 3) := by decide +kernel
theorem dX1_ghostsIn_5 : decode cX1_ghostsIn 5 = .ok (.iload_n 1, 1) := by decide +kernel
theorem dX1_ghostsIn_6 : decode cX1_ghostsIn 6 = .ok (.invokevirtual 60, 3) := by decide +kernel
theorem dX1_ghostsIn_9 : decode cX1_ghostsIn 9 = .ok (.aload_n 0, 1) := by decide +kernel
theorem dX1_ghostsIn_10 : decode cX1_ghostsIn 10 = .ok (.getfield 18, 3) := by decide +kernel
theorem dX1_ghostsIn_13 : decode cX1_ghostsIn 13 = .ok (.getfield 54, 3) := by decide +kernel
theorem dX1_ghostsIn_16 : decode cX1_ghostsIn 16 = .ok (.iload_n 1, 1) := by decide +kernel
theorem dX1_ghostsIn_17 : decode cX1_ghostsIn 17 = .ok (.iaload, 1) := by decide +kernel
theorem dX1_ghostsIn_18 : decode cX1_ghostsIn 18 = .ok (.iconst (-1), 1) := by decide +kernel
theorem dX1_ghostsIn_19 : decode cX1_ghostsIn 19 = .ok (.ixor, 1) := by decide +kernel
theorem dX1_ghostsIn_20 : decode cX1_ghostsIn 20 = .ok (.iand, 1) := by decide +kernel
theorem dX1_ghostsIn_21 : decode cX1_ghostsIn 21 = .ok (.aload_n 0, 1) := by decide +kernel
theorem dX1_ghostsIn_22 : decode cX1_ghostsIn 22 = .ok (.aload_n 0, 1) := by decide +kernel
theorem dX1_ghostsIn_23 : decode cX1_ghostsIn 23 = .ok (.getfield 22, 3) := by decide +kernel
theorem dX1_ghostsIn_26 : decode cX1_ghostsIn 26 = .ok (.iload_n 1, 1) := by decide +kernel
theorem dX1_ghostsIn_27 : decode cX1_ghostsIn 27 = .ok (.invokevirtual 60, 3) := by decide +kernel
theorem dX1_ghostsIn_30 : decode cX1_ghostsIn 30 = .ok (.aload_n 0, 1) := by decide +kernel
theorem dX1_ghostsIn_31 : decode cX1_ghostsIn 31 = .ok (.getfield 22, 3) := by decide +kernel
theorem dX1_ghostsIn_34 : decode cX1_ghostsIn 34 = .ok (.getfield 54, 3) := by decide +kernel
theorem dX1_ghostsIn_37 : decode cX1_ghostsIn 37 = .ok (.iload_n 1, 1) := by decide +kernel
theorem dX1_ghostsIn_38 : decode cX1_ghostsIn 38 = .ok (.iaload, 1) := by decide +kernel
theorem dX1_ghostsIn_39 : decode cX1_ghostsIn 39 = .ok (.iconst (-1), 1) := by decide +kernel
theorem dX1_ghostsIn_40 : decode cX1_ghostsIn 40 = .ok (.ixor, 1) := by decide +kernel
theorem dX1_ghostsIn_41 : decode cX1_ghostsIn 41 = .ok (.iand, 1) := by decide +kernel
theorem dX1_ghostsIn_42 : decode cX1_ghostsIn 42 = .ok (.ior, 1) := by decide +kernel
theorem dX1_ghostsIn_43 : decode cX1_ghostsIn 43 = .ok (.ireturn, 1) := by decide +kernel
theorem dX1_contains_0 : decode cX1_contains 0 = .ok (.iload_n 0, 1) := by decide +kernel
theorem dX1_contains_1 : decode cX1_contains 1 = .ok (.iload_n 1, 1) := by decide +kernel
theorem dX1_contains_2 : decode cX1_contains 2 = .ok (.ishr, 1) := by decide +kernel
theorem dX1_contains_3 : decode cX1_contains 3 = .ok (.iconst 1, 1) := by decide +kernel
theorem dX1_contains_4 : decode cX1_contains 4 = .ok (.iand, 1) := by decide +kernel
theorem dX1_contains_5 : decode cX1_contains 5 = .ok (.ifCond .eq 7, 3) := by decide +kernel
theorem dX1_contains_8 : decode cX1_contains 8 = .ok (.iconst 1, 1) := by decide +kernel
theorem dX1_contains_9 : decode cX1_contains 9 = .ok (.goto 4, 3) := by decide +kernel
theorem dX1_contains_12 : decode cX1_contains 12 = .ok (.iconst 0, 1) := by decide +kernel
theorem dX1_contains_13 : decode cX1_contains 13 = .ok (.ireturn, 1) := by decide +kernel
theorem dX2_init_0 : decode cX2_init 0 = .ok (.aload_n 0, 1) := by decide +kernel
theorem dX2_init_1 : decode cX2_init 1 = .ok (.invokespecial 3, 3) := by decide +kernel
theorem dX2_init_4 : decode cX2_init 4 = .ok (.aload_n 0, 1) := by decide +kernel
theorem dX2_init_5 : decode cX2_init 5 = .ok (.bipush 8, 2) := by decide +kernel
theorem dX2_init_7 : decode cX2_init 7 = .ok (.newarray .int, 2) := by decide +kernel
theorem dX2_init_9 : decode cX2_init 9 = .ok (.putfield 9, 3) := by decide +kernel
theorem dX2_init_12 : decode cX2_init 12 = .ok (.aload_n 0, 1) := by decide +kernel
theorem dX2_init_13 : decode cX2_init 13 = .ok (.bipush 8, 2) := by decide +kernel
theorem dX2_init_15 : decode cX2_init 15 = .ok (.newarray .int, 2) := by decide +kernel
theorem dX2_init_17 : decode cX2_init 17 = .ok (.putfield 15, 3) := by decide +kernel
theorem dX2_init_20 : decode cX2_init 20 = .ok (.return_, 1) := by decide +kernel
theorem dX2_open_0 : decode cX2_open 0 = .ok (.iconst 0, 1) := by decide +kernel
theorem dX2_open_1 : decode cX2_open 1 = .ok (.istore_n 1, 1) := by decide +kernel
theorem dX2_open_2 : decode cX2_open 2 = .ok (.iload_n 1, 1) := by decide +kernel
theorem dX2_open_3 : decode cX2_open 3 = .ok (.bipush 8, 2) := by decide +kernel
theorem dX2_open_5 : decode cX2_open 5 = .ok (.if_icmp .ge 23, 3) := by decide +kernel
theorem dX2_open_8 : decode cX2_open 8 = .ok (.aload_n 0, 1) := by decide +kernel
theorem dX2_open_9 : decode cX2_open 9 = .ok (.getfield 9, 3) := by decide +kernel
theorem dX2_open_12 : decode cX2_open 12 = .ok (.iload_n 1, 1) := by decide +kernel
theorem dX2_open_13 : decode cX2_open 13 = .ok (.iconst 0, 1) := by decide +kernel
theorem dX2_open_14 : decode cX2_open 14 = .ok (.iastore, 1) := by decide +kernel
theorem dX2_open_15 : decode cX2_open 15 = .ok (.aload_n 0, 1) := by decide +kernel
theorem dX2_open_16 : decode cX2_open 16 = .ok (.getfield 15, 3) := by decide +kernel
theorem dX2_open_19 : decode cX2_open 19 = .ok (.iload_n 1, 1) := by decide +kernel
theorem dX2_open_20 : decode cX2_open 20 = .ok (.iconst 0, 1) := by decide +kernel
theorem dX2_open_21 : decode cX2_open 21 = .ok (.iastore, 1) := by decide +kernel
theorem dX2_open_22 : decode cX2_open 22 = .ok (.iinc 1 1, 3) := by decide +kernel
theorem dX2_open_25 : decode cX2_open 25 = .ok (.goto (-23), 3) := by decide +kernel
theorem dX2_open_28 : decode cX2_open 28 = .ok (.return_, 1) := by decide +kernel
theorem dX2_put_0 : decode cX2_put 0 = .ok (.iconst 1, 1) := by decide +kernel
theorem dX2_put_1 : decode cX2_put 1 = .ok (.iload_n 2, 1) := by decide +kernel
theorem dX2_put_2 : decode cX2_put 2 = .ok (.ishl, 1) := by decide +kernel
theorem dX2_put_3 : decode cX2_put 3 = .ok (.istore 4, 2) := by decide +kernel
theorem dX2_put_5 : decode cX2_put 5 = .ok (.aload_n 0, 1) := by decide +kernel
theorem dX2_put_6 : decode cX2_put 6 = .ok (.getfield 9, 3) := by decide +kernel
theorem dX2_put_9 : decode cX2_put 9 = .ok (.iload_n 1, 1) := by decide +kernel
theorem dX2_put_10 : decode cX2_put 10 = .ok (.iload_n 3, 1) := by decide +kernel
theorem dX2_put_11 : decode cX2_put 11 = .ok (.ifCond .eq 15, 3) := by decide +kernel
theorem dX2_put_14 : decode cX2_put 14 = .ok (.aload_n 0, 1) := by decide +kernel
theorem dX2_put_15 : decode cX2_put 15 = .ok (.getfield 9, 3) := by decide +kernel
theorem dX2_put_18 : decode cX2_put 18 = .ok (.iload_n 1, 1) := by decide +kernel
theorem dX2_put_19 : decode cX2_put 19 = .ok (.iaload, 1) := by decide +kernel
theorem dX2_put_20 : decode cX2_put 20 = .ok (.iload 4, 2) := by decide +kernel
theorem dX2_put_22 : decode cX2_put 22 = .ok (.ior, 1) := by decide +kernel
theorem dX2_put_23 : decode cX2_put 23 = .ok (.goto 14, 3) := by decide +kernel
theorem dX2_put_26 : decode cX2_put 26 = .ok (.aload_n 0, 1) := by decide +kernel
theorem dX2_put_27 : decode cX2_put 27 = .ok (.getfield 9, 3) := by decide +kernel
theorem dX2_put_30 : decode cX2_put 30 = .ok (.iload_n 1, 1) := by decide +kernel
theorem dX2_put_31 : decode cX2_put 31 = .ok (.iaload, 1) := by decide +kernel
theorem dX2_put_32 : decode cX2_put 32 = .ok (.iload 4, 2) := by decide +kernel
theorem dX2_put_34 : decode cX2_put 34 = .ok (.iconst (-1), 1) := by decide +kernel
theorem dX2_put_35 : decode cX2_put 35 = .ok (.ixor, 1) := by decide +kernel
theorem dX2_put_36 : decode cX2_put 36 = .ok (.iand, 1) := by decide +kernel
theorem dX2_put_37 : decode cX2_put 37 = .ok (.iastore, 1) := by decide +kernel
theorem dX2_put_38 : decode cX2_put 38 = .ok (.aload_n 0, 1) := by decide +kernel
theorem dX2_put_39 : decode cX2_put 39 = .ok (.invokevirtual 18, 3) := by decide +kernel
theorem dX2_put_42 : decode cX2_put 42 = .ok (.return_, 1) := by decide +kernel
theorem dX2_join_0 : decode cX2_join 0 = .ok (.iconst 0, 1) := by decide +kernel
theorem dX2_join_1 : decode cX2_join 1 = .ok (.istore_n 1, 1) := by decide +kernel
theorem dX2_join_2 : decode cX2_join 2 = .ok (.iload_n 1, 1) := by decide +kernel
theorem dX2_join_3 : decode cX2_join 3 = .ok (.bipush 8, 2) := by decide +kernel
theorem dX2_join_5 : decode cX2_join 5 = .ok (.if_icmp .ge 21, 3) := by decide +kernel
theorem dX2_join_8 : decode cX2_join 8 = .ok (.aload_n 0, 1) := by decide +kernel
theorem dX2_join_9 : decode cX2_join 9 = .ok (.getfield 15, 3) := by decide +kernel
theorem dX2_join_12 : decode cX2_join 12 = .ok (.iload_n 1, 1) := by decide +kernel
theorem dX2_join_13 : decode cX2_join 13 = .ok (.aload_n 0, 1) := by decide +kernel
theorem dX2_join_14 : decode cX2_join 14 = .ok (.getfield 9, 3) := by decide +kernel
theorem dX2_join_17 : decode cX2_join 17 = .ok (.iload_n 1, 1) := by decide +kernel
theorem dX2_join_18 : decode cX2_join 18 = .ok (.iaload, 1) := by decide +kernel
theorem dX2_join_19 : decode cX2_join 19 = .ok (.iastore, 1) := by decide +kernel
theorem dX2_join_20 : decode cX2_join 20 = .ok (.iinc 1 1, 3) := by decide +kernel
theorem dX2_join_23 : decode cX2_join 23 = .ok (.goto (-21), 3) := by decide +kernel
theorem dX2_join_26 : decode cX2_join 26 = .ok (.iconst 0, 1) := by decide +kernel
theorem dX2_join_27 : decode cX2_join 27 = .ok (.istore_n 1, 1) := by decide +kernel
theorem dX2_join_28 : decode cX2_join 28 = .ok (.iload_n 1, 1) := by decide +kernel
theorem dX2_join_29 : decode cX2_join 29 = .ok (.bipush 8, 2) := by decide +kernel
theorem dX2_join_31 : decode cX2_join 31 = .ok (.if_icmp .ge 16, 3) := by decide +kernel
theorem dX2_join_34 : decode cX2_join 34 = .ok (.aload_n 0, 1) := by decide +kernel
theorem dX2_join_35 : decode cX2_join 35 = .ok (.iconst 1, 1) := by decide +kernel
theorem dX2_join_36 : decode cX2_join 36 = .ok (.iload_n 1, 1) := by decide +kernel
theorem dX2_join_37 : decode cX2_join 37 = .ok (.ishl, 1) := by decide +kernel
theorem dX2_join_38 : decode cX2_join 38 = .ok (.invokevirtual 21, 3) := by decide +kernel
theorem dX2_join_41 : decode cX2_join 41 = .ok (.iinc 1 1, 3) := by decide +kernel
theorem dX2_join_44 : decode cX2_join 44 = .ok (.goto (-16), 3) := by decide +kernel
theorem dX2_join_47 : decode cX2_join 47 = .ok (.return_, 1) := by decide +kernel
theorem dX2_joinThrough_0 : decode cX2_joinThrough 0 = .ok (.iconst 0, 1) := by decide +kernel
theorem dX2_joinThrough_1 : decode cX2_joinThrough 1 = .ok (.istore_n 2, 1) := by decide +kernel
theorem dX2_joinThrough_2 : decode cX2_joinThrough 2 = .ok (.iconst 0, 1) := by decide +kernel
theorem dX2_joinThrough_3 : decode cX2_joinThrough 3 = .ok (.istore_n 3, 1) := by decide +kernel
theorem dX2_joinThrough_4 : decode cX2_joinThrough 4 = .ok (.iload_n 3, 1) := by decide +kernel
theorem dX2_joinThrough_5 : decode cX2_joinThrough 5 = .ok (.bipush 8, 2) := by decide +kernel
theorem dX2_joinThrough_7 : decode cX2_joinThrough 7 = .ok (.if_icmp .ge 29, 3) := by decide +kernel
theorem dX2_joinThrough_10 : decode cX2_joinThrough 10 = .ok (.aload_n 0, 1) := by decide +kernel
theorem dX2_joinThrough_11 : decode cX2_joinThrough 11 = .ok (.getfield 15, 3) := by decide +kernel
theorem dX2_joinThrough_14 : decode cX2_joinThrough 14 = .ok (.iload_n 3, 1) := by decide +kernel
theorem dX2_joinThrough_15 : decode cX2_joinThrough 15 = .ok (.iaload, 1) := by decide +kernel
theorem dX2_joinThrough_16 : decode cX2_joinThrough 16 = .ok (.iload_n 1, 1) := by decide +kernel
theorem dX2_joinThrough_17 : decode cX2_joinThrough 17 = .ok (.iand, 1) := by decide +kernel
theorem dX2_joinThrough_18 : decode cX2_joinThrough 18 = .ok (.ifCond .eq 12, 3) := by decide +kernel
theorem dX2_joinThrough_21 : decode cX2_joinThrough 21 = .ok (.iload_n 2, 1) := by decide +kernel
theorem dX2_joinThrough_22 : decode cX2_joinThrough 22 = .ok (.aload_n 0, 1) := by decide +kernel
theorem dX2_joinThrough_23 : decode cX2_joinThrough 23 = .ok (.getfield 15, 3) := by decide +kernel
theorem dX2_joinThrough_26 : decode cX2_joinThrough 26 = .ok (.iload_n 3, 1) := by decide +kernel
theorem dX2_joinThrough_27 : decode cX2_joinThrough 27 = .ok (.iaload, 1) := by decide +kernel
theorem dX2_joinThrough_28 : decode cX2_joinThrough 28 = .ok (.ior, 1) := by decide +kernel
theorem dX2_joinThrough_29 : decode cX2_joinThrough 29 = .ok (.istore_n 2, 1) := by decide +kernel
theorem dX2_joinThrough_30 : decode cX2_joinThrough 30 = .ok (.iinc 3 1, 3) := by decide +kernel
theorem dX2_joinThrough_33 : decode cX2_joinThrough 33 = .ok (.goto (-29), 3) := by decide +kernel
theorem dX2_joinThrough_36 : decode cX2_joinThrough 36 = .ok (.iconst 0, 1) := by decide +kernel
theorem dX2_joinThrough_37 : decode cX2_joinThrough 37 = .ok (.istore_n 3, 1) := by decide +kernel
theorem dX2_joinThrough_38 : decode cX2_joinThrough 38 = .ok (.iload_n 3, 1) := by decide +kernel
theorem dX2_joinThrough_39 : decode cX2_joinThrough 39 = .ok (.bipush 8, 2) := by decide +kernel
theorem dX2_joinThrough_41 : decode cX2_joinThrough 41 = .ok (.if_icmp .ge 27, 3) := by decide +kernel
theorem dX2_joinThrough_44 : decode cX2_joinThrough 44 = .ok (.aload_n 0, 1) := by decide +kernel
theorem dX2_joinThrough_45 : decode cX2_joinThrough 45 = .ok (.getfield 15, 3) := by decide +kernel
theorem dX2_joinThrough_48 : decode cX2_joinThrough 48 = .ok (.iload_n 3, 1) := by decide +kernel
theorem dX2_joinThrough_49 : decode cX2_joinThrough 49 = .ok (.iaload, 1) := by decide +kernel
theorem dX2_joinThrough_50 : decode cX2_joinThrough 50 = .ok (.iload_n 1, 1) := by decide +kernel
theorem dX2_joinThrough_51 : decode cX2_joinThrough 51 = .ok (.iand, 1) := by decide +kernel
theorem dX2_joinThrough_52 : decode cX2_joinThrough 52 = .ok (.ifCond .eq 10, 3) := by decide +kernel
theorem dX2_joinThrough_55 : decode cX2_joinThrough 55 = .ok (.aload_n 0, 1) := by decide +kernel
theorem dX2_joinThrough_56 : decode cX2_joinThrough 56 = .ok (.getfield 15, 3) := by decide +kernel
theorem dX2_joinThrough_59 : decode cX2_joinThrough 59 = .ok (.iload_n 3, 1) := by decide +kernel
theorem dX2_joinThrough_60 : decode cX2_joinThrough 60 = .ok (.iload_n 2, 1) := by decide +kernel
theorem dX2_joinThrough_61 : decode cX2_joinThrough 61 = .ok (.iastore, 1) := by decide +kernel
theorem dX2_joinThrough_62 : decode cX2_joinThrough 62 = .ok (.iinc 3 1, 3) := by decide +kernel
theorem dX2_joinThrough_65 : decode cX2_joinThrough 65 = .ok (.goto (-27), 3) := by decide +kernel
theorem dX2_joinThrough_68 : decode cX2_joinThrough 68 = .ok (.return_, 1) := by decide +kernel
theorem dX2_rowsJoinedWith_0 : decode cX2_rowsJoinedWith 0 = .ok (.iconst 1, 1) := by decide +kernel
theorem dX2_rowsJoinedWith_1 : decode cX2_rowsJoinedWith 1 = .ok (.iload_n 1, 1) := by decide +kernel
theorem dX2_rowsJoinedWith_2 : decode cX2_rowsJoinedWith 2 = .ok (.ishl, 1) := by decide +kernel
theorem dX2_rowsJoinedWith_3 : decode cX2_rowsJoinedWith 3 = .ok (.istore_n 2, 1) := by decide +kernel
theorem dX2_rowsJoinedWith_4 : decode cX2_rowsJoinedWith 4 = .ok (.iconst 0, 1) := by decide +kernel
theorem dX2_rowsJoinedWith_5 : decode cX2_rowsJoinedWith 5 = .ok (.istore_n 3, 1) := by decide +kernel
theorem dX2_rowsJoinedWith_6 : decode cX2_rowsJoinedWith 6 = .ok (.iload_n 3, 1) := by decide +kernel
theorem dX2_rowsJoinedWith_7 : decode cX2_rowsJoinedWith 7 = .ok (.bipush 8, 2) := by decide +kernel
theorem dX2_rowsJoinedWith_9 : decode cX2_rowsJoinedWith 9 = .ok (.if_icmp .ge 31, 3) := by decide +kernel
theorem dX2_rowsJoinedWith_12 : decode cX2_rowsJoinedWith 12 = .ok (.aload_n 0, 1) := by decide +kernel
theorem dX2_rowsJoinedWith_13 : decode cX2_rowsJoinedWith 13 = .ok (.getfield 15, 3) := by decide +kernel
theorem dX2_rowsJoinedWith_16 : decode cX2_rowsJoinedWith 16 = .ok (.iload_n 3, 1) := by decide +kernel
theorem dX2_rowsJoinedWith_17 : decode cX2_rowsJoinedWith 17 = .ok (.iaload, 1) := by decide +kernel
theorem dX2_rowsJoinedWith_18 : decode cX2_rowsJoinedWith 18 = .ok (.aload_n 0, 1) := by decide +kernel
theorem dX2_rowsJoinedWith_19 : decode cX2_rowsJoinedWith 19 = .ok (.getfield 15, 3) := by decide +kernel
theorem dX2_rowsJoinedWith_22 : decode cX2_rowsJoinedWith 22 = .ok (.iload_n 1, 1) := by decide +kernel
theorem dX2_rowsJoinedWith_23 : decode cX2_rowsJoinedWith 23 = .ok (.iaload, 1) := by decide +kernel
theorem dX2_rowsJoinedWith_24 : decode cX2_rowsJoinedWith 24 = .ok (.iand, 1) := by decide +kernel
theorem dX2_rowsJoinedWith_25 : decode cX2_rowsJoinedWith 25 = .ok (.ifCond .eq 9, 3) := by decide +kernel
theorem dX2_rowsJoinedWith_28 : decode cX2_rowsJoinedWith 28 = .ok (.iload_n 2, 1) := by decide +kernel
theorem dX2_rowsJoinedWith_29 : decode cX2_rowsJoinedWith 29 = .ok (.iconst 1, 1) := by decide +kernel
theorem dX2_rowsJoinedWith_30 : decode cX2_rowsJoinedWith 30 = .ok (.iload_n 3, 1) := by decide +kernel
theorem dX2_rowsJoinedWith_31 : decode cX2_rowsJoinedWith 31 = .ok (.ishl, 1) := by decide +kernel
theorem dX2_rowsJoinedWith_32 : decode cX2_rowsJoinedWith 32 = .ok (.ior, 1) := by decide +kernel
theorem dX2_rowsJoinedWith_33 : decode cX2_rowsJoinedWith 33 = .ok (.istore_n 2, 1) := by decide +kernel
theorem dX2_rowsJoinedWith_34 : decode cX2_rowsJoinedWith 34 = .ok (.iinc 3 1, 3) := by decide +kernel
theorem dX2_rowsJoinedWith_37 : decode cX2_rowsJoinedWith 37 = .ok (.goto (-31), 3) := by decide +kernel
theorem dX2_rowsJoinedWith_40 : decode cX2_rowsJoinedWith 40 = .ok (.iload_n 2, 1) := by decide +kernel
theorem dX2_rowsJoinedWith_41 : decode cX2_rowsJoinedWith 41 = .ok (.ireturn, 1) := by decide +kernel
theorem dX3_init_0 : decode cX3_init 0 = .ok (.aload_n 0, 1) := by decide +kernel
theorem dX3_init_1 : decode cX3_init 1 = .ok (.invokespecial 3, 3) := by decide +kernel
theorem dX3_init_4 : decode cX3_init 4 = .ok (.aload_n 0, 1) := by decide +kernel
theorem dX3_init_5 : decode cX3_init 5 = .ok (.bipush 8, 2) := by decide +kernel
theorem dX3_init_7 : decode cX3_init 7 = .ok (.newarray .int, 2) := by decide +kernel
theorem dX3_init_9 : decode cX3_init 9 = .ok (.putfield 9, 3) := by decide +kernel
theorem dX3_init_12 : decode cX3_init 12 = .ok (.aload_n 0, 1) := by decide +kernel
theorem dX3_init_13 : decode cX3_init 13 = .ok (.bipush 8, 2) := by decide +kernel
theorem dX3_init_15 : decode cX3_init 15 = .ok (.newarray .int, 2) := by decide +kernel
theorem dX3_init_17 : decode cX3_init 17 = .ok (.putfield 15, 3) := by decide +kernel
theorem dX3_init_20 : decode cX3_init 20 = .ok (.aload_n 0, 1) := by decide +kernel
theorem dX3_init_21 : decode cX3_init 21 = .ok (.bipush 8, 2) := by decide +kernel
theorem dX3_init_23 : decode cX3_init 23 = .ok (.newarray .int, 2) := by decide +kernel
theorem dX3_init_25 : decode cX3_init 25 = .ok (.putfield 18, 3) := by decide +kernel
theorem dX3_init_28 : decode cX3_init 28 = .ok (.aload_n 0, 1) := by decide +kernel
theorem dX3_init_29 : decode cX3_init 29 = .ok (.bipush 8, 2) := by decide +kernel
theorem dX3_init_31 : decode cX3_init 31 = .ok (.newarray .int, 2) := by decide +kernel
theorem dX3_init_33 : decode cX3_init 33 = .ok (.putfield 21, 3) := by decide +kernel
theorem dX3_init_36 : decode cX3_init 36 = .ok (.aload_n 0, 1) := by decide +kernel
theorem dX3_init_37 : decode cX3_init 37 = .ok (.bipush 8, 2) := by decide +kernel
theorem dX3_init_39 : decode cX3_init 39 = .ok (.newarray .boolean, 2) := by decide +kernel
theorem dX3_init_41 : decode cX3_init 41 = .ok (.putfield 24, 3) := by decide +kernel
theorem dX3_init_44 : decode cX3_init 44 = .ok (.aload_n 0, 1) := by decide +kernel
theorem dX3_init_45 : decode cX3_init 45 = .ok (.iconst 4, 1) := by decide +kernel
theorem dX3_init_46 : decode cX3_init 46 = .ok (.putfield 28, 3) := by decide +kernel
theorem dX3_init_49 : decode cX3_init 49 = .ok (.aload_n 0, 1) := by decide +kernel
theorem dX3_init_50 : decode cX3_init 50 = .ok (.iconst 0, 1) := by decide +kernel
theorem dX3_init_51 : decode cX3_init 51 = .ok (.putfield 32, 3) := by decide +kernel
theorem dX3_init_54 : decode cX3_init 54 = .ok (.aload_n 0, 1) := by decide +kernel
theorem dX3_init_55 : decode cX3_init 55 = .ok (.iconst 0, 1) := by decide +kernel
theorem dX3_init_56 : decode cX3_init 56 = .ok (.putfield 35, 3) := by decide +kernel
theorem dX3_init_59 : decode cX3_init 59 = .ok (.aload_n 0, 1) := by decide +kernel
theorem dX3_init_60 : decode cX3_init 60 = .ok (.iconst 0, 1) := by decide +kernel
theorem dX3_init_61 : decode cX3_init 61 = .ok (.putfield 38, 3) := by decide +kernel
theorem dX3_init_64 : decode cX3_init 64 = .ok (.aload_n 0, 1) := by decide +kernel
theorem dX3_init_65 : decode cX3_init 65 = .ok (.iconst 0, 1) := by decide +kernel
theorem dX3_init_66 : decode cX3_init 66 = .ok (.putfield 42, 3) := by decide +kernel
theorem dX3_init_69 : decode cX3_init 69 = .ok (.aload_n 0, 1) := by decide +kernel
theorem dX3_init_70 : decode cX3_init 70 = .ok (.aload_n 1, 1) := by decide +kernel
theorem dX3_init_71 : decode cX3_init 71 = .ok (.putfield 45, 3) := by decide +kernel
theorem dX3_init_74 : decode cX3_init 74 = .ok (.return_, 1) := by decide +kernel
theorem dX3_silence_0 : decode cX3_silence 0 = .ok (.iconst 0, 1) := by decide +kernel
theorem dX3_silence_1 : decode cX3_silence 1 = .ok (.istore_n 1, 1) := by decide +kernel
theorem dX3_silence_2 : decode cX3_silence 2 = .ok (.iload_n 1, 1) := by decide +kernel
theorem dX3_silence_3 : decode cX3_silence 3 = .ok (.bipush 8, 2) := by decide +kernel
theorem dX3_silence_5 : decode cX3_silence 5 = .ok (.if_icmp .ge 23, 3) := by decide +kernel
theorem dX3_silence_8 : decode cX3_silence 8 = .ok (.aload_n 0, 1) := by decide +kernel
theorem dX3_silence_9 : decode cX3_silence 9 = .ok (.getfield 9, 3) := by decide +kernel
theorem dX3_silence_12 : decode cX3_silence 12 = .ok (.iload_n 1, 1) := by decide +kernel
theorem dX3_silence_13 : decode cX3_silence 13 = .ok (.iconst 0, 1) := by decide +kernel
theorem dX3_silence_14 : decode cX3_silence 14 = .ok (.iastore, 1) := by decide +kernel
theorem dX3_silence_15 : decode cX3_silence 15 = .ok (.aload_n 0, 1) := by decide +kernel
theorem dX3_silence_16 : decode cX3_silence 16 = .ok (.getfield 24, 3) := by decide +kernel
theorem dX3_silence_19 : decode cX3_silence 19 = .ok (.iload_n 1, 1) := by decide +kernel
theorem dX3_silence_20 : decode cX3_silence 20 = .ok (.iconst 0, 1) := by decide +kernel
theorem dX3_silence_21 : decode cX3_silence 21 = .ok (.bastore, 1) := by decide +kernel
theorem dX3_silence_22 : decode cX3_silence 22 = .ok (.iinc 1 1, 3) := by decide +kernel
theorem dX3_silence_25 : decode cX3_silence 25 = .ok (.goto (-23), 3) := by decide +kernel
theorem dX3_silence_28 : decode cX3_silence 28 = .ok (.aload_n 0, 1) := by decide +kernel
theorem dX3_silence_29 : decode cX3_silence 29 = .ok (.iconst 0, 1) := by decide +kernel
theorem dX3_silence_30 : decode cX3_silence 30 = .ok (.putfield 35, 3) := by decide +kernel
theorem dX3_silence_33 : decode cX3_silence 33 = .ok (.aload_n 0, 1) := by decide +kernel
theorem dX3_silence_34 : decode cX3_silence 34 = .ok (.iconst 0, 1) := by decide +kernel
theorem dX3_silence_35 : decode cX3_silence 35 = .ok (.putfield 38, 3) := by decide +kernel
theorem dX3_silence_38 : decode cX3_silence 38 = .ok (.aload_n 0, 1) := by decide +kernel
theorem dX3_silence_39 : decode cX3_silence 39 = .ok (.iconst 0, 1) := by decide +kernel
theorem dX3_silence_40 : decode cX3_silence 40 = .ok (.putfield 42, 3) := by decide +kernel
theorem dX3_silence_43 : decode cX3_silence 43 = .ok (.return_, 1) := by decide +kernel
theorem dX3_limit_0 : decode cX3_limit 0 = .ok (.iload_n 1, 1) := by decide +kernel
theorem dX3_limit_1 : decode cX3_limit 1 = .ok (.istore_n 3, 1) := by decide +kernel
theorem dX3_limit_2 : decode cX3_limit 2 = .ok (.iload_n 3, 1) := by decide +kernel
theorem dX3_limit_3 : decode cX3_limit 3 = .ok (.aload_n 0, 1) := by decide +kernel
theorem dX3_limit_4 : decode cX3_limit 4 = .ok (.getfield 28, 3) := by decide +kernel
theorem dX3_limit_7 : decode cX3_limit 7 = .ok (.if_icmp .ge 24, 3) := by decide +kernel
theorem dX3_limit_10 : decode cX3_limit 10 = .ok (.aload_n 0, 1) := by decide +kernel
theorem dX3_limit_11 : decode cX3_limit 11 = .ok (.getfield 9, 3) := by decide +kernel
theorem dX3_limit_14 : decode cX3_limit 14 = .ok (.iload_n 3, 1) := by decide +kernel
theorem dX3_limit_15 : decode cX3_limit 15 = .ok (.iaload, 1) := by decide +kernel
theorem dX3_limit_16 : decode cX3_limit 16 = .ok (.ifCond .eq 9, 3) := by decide +kernel
theorem dX3_limit_19 : decode cX3_limit 19 = .ok (.aload_n 0, 1) := by decide +kernel
theorem dX3_limit_20 : decode cX3_limit 20 = .ok (.iload_n 3, 1) := by decide +kernel
theorem dX3_limit_21 : decode cX3_limit 21 = .ok (.iload_n 2, 1) := by decide +kernel
theorem dX3_limit_22 : decode cX3_limit 22 = .ok (.invokevirtual 49, 3) := by decide +kernel
theorem dX3_limit_25 : decode cX3_limit 25 = .ok (.iinc 3 1, 3) := by decide +kernel
theorem dX3_limit_28 : decode cX3_limit 28 = .ok (.goto (-26), 3) := by decide +kernel
theorem dX3_limit_31 : decode cX3_limit 31 = .ok (.aload_n 0, 1) := by decide +kernel
theorem dX3_limit_32 : decode cX3_limit 32 = .ok (.iload_n 1, 1) := by decide +kernel
theorem dX3_limit_33 : decode cX3_limit 33 = .ok (.putfield 28, 3) := by decide +kernel
theorem dX3_limit_36 : decode cX3_limit 36 = .ok (.return_, 1) := by decide +kernel
theorem dX3_sound_0 : decode cX3_sound 0 = .ok (.aload_n 0, 1) := by decide +kernel
theorem dX3_sound_1 : decode cX3_sound 1 = .ok (.iload_n 1, 1) := by decide +kernel
theorem dX3_sound_2 : decode cX3_sound 2 = .ok (.invokevirtual 53, 3) := by decide +kernel
theorem dX3_sound_5 : decode cX3_sound 5 = .ok (.istore 4, 2) := by decide +kernel
theorem dX3_sound_7 : decode cX3_sound 7 = .ok (.iload 4, 2) := by decide +kernel
theorem dX3_sound_9 : decode cX3_sound 9 = .ok (.bipush (-3), 2) := by decide +kernel
theorem dX3_sound_11 : decode cX3_sound 11 = .ok (.if_icmp .ne 9, 3) := by decide +kernel
theorem dX3_sound_14 : decode cX3_sound 14 = .ok (.aload_n 0, 1) := by decide +kernel
theorem dX3_sound_15 : decode cX3_sound 15 = .ok (.invokevirtual 57, 3) := by decide +kernel
theorem dX3_sound_18 : decode cX3_sound 18 = .ok (.istore 4, 2) := by decide +kernel
theorem dX3_sound_20 : decode cX3_sound 20 = .ok (.iload 4, 2) := by decide +kernel
theorem dX3_sound_22 : decode cX3_sound 22 = .ok (.bipush (-3), 2) := by decide +kernel
theorem dX3_sound_24 : decode cX3_sound 24 = .ok (.if_icmp .ne 35, 3) := by decide +kernel
theorem dX3_sound_27 : decode cX3_sound 27 = .ok (.aload_n 0, 1) := by decide +kernel
theorem dX3_sound_28 : decode cX3_sound 28 = .ok (.invokevirtual 61, 3) := by decide +kernel
theorem dX3_sound_31 : decode cX3_sound 31 = .ok (.istore 4, 2) := by decide +kernel
theorem dX3_sound_33 : decode cX3_sound 33 = .ok (.aload_n 0, 1) := by decide +kernel
theorem dX3_sound_34 : decode cX3_sound 34 = .ok (.dup, 1) := by decide +kernel
theorem dX3_sound_35 : decode cX3_sound 35 = .ok (.getfield 35, 3) := by decide +kernel
theorem dX3_sound_38 : decode cX3_sound 38 = .ok (.iconst 1, 1) := by decide +kernel
theorem dX3_sound_39 : decode cX3_sound 39 = .ok (.iadd, 1) := by decide +kernel
theorem dX3_sound_40 : decode cX3_sound 40 = .ok (.putfield 35, 3) := by decide +kernel
theorem dX3_sound_43 : decode cX3_sound 43 = .ok (.aload_n 0, 1) := by decide +kernel
theorem dX3_sound_44 : decode cX3_sound 44 = .ok (.getfield 45, 3) := by decide +kernel
theorem dX3_sound_47 : decode cX3_sound 47 = .ok (.iload_n 3, 1) := by decide +kernel
theorem dX3_sound_48 : decode cX3_sound 48 = .ok (.iconst 3, 1) := by decide +kernel
theorem dX3_sound_49 : decode cX3_sound 49 = .ok (.aload_n 0, 1) := by decide +kernel
theorem dX3_sound_50 : decode cX3_sound 50 = .ok (.getfield 15, 3) := by decide +kernel
theorem dX3_sound_53 : decode cX3_sound 53 = .ok (.iload 4, 2) := by decide +kernel
theorem dX3_sound_55 : decode cX3_sound 55 = .ok (.iaload, 1) := by decide +kernel
theorem dX3_sound_56 : decode cX3_sound 56 = .ok (.invokevirtual 64, 3) := by decide +kernel
theorem dX3_sound_59 : decode cX3_sound 59 = .ok (.aload_n 0, 1) := by decide +kernel
theorem dX3_sound_60 : decode cX3_sound 60 = .ok (.getfield 9, 3) := by decide +kernel
theorem dX3_sound_63 : decode cX3_sound 63 = .ok (.iload 4, 2) := by decide +kernel
theorem dX3_sound_65 : decode cX3_sound 65 = .ok (.iconst 1, 1) := by decide +kernel
theorem dX3_sound_66 : decode cX3_sound 66 = .ok (.iastore, 1) := by decide +kernel
theorem dX3_sound_67 : decode cX3_sound 67 = .ok (.aload_n 0, 1) := by decide +kernel
theorem dX3_sound_68 : decode cX3_sound 68 = .ok (.getfield 15, 3) := by decide +kernel
theorem dX3_sound_71 : decode cX3_sound 71 = .ok (.iload 4, 2) := by decide +kernel
theorem dX3_sound_73 : decode cX3_sound 73 = .ok (.iload_n 1, 1) := by decide +kernel
theorem dX3_sound_74 : decode cX3_sound 74 = .ok (.iastore, 1) := by decide +kernel
theorem dX3_sound_75 : decode cX3_sound 75 = .ok (.aload_n 0, 1) := by decide +kernel
theorem dX3_sound_76 : decode cX3_sound 76 = .ok (.getfield 18, 3) := by decide +kernel
theorem dX3_sound_79 : decode cX3_sound 79 = .ok (.iload 4, 2) := by decide +kernel
theorem dX3_sound_81 : decode cX3_sound 81 = .ok (.iload_n 2, 1) := by decide +kernel
theorem dX3_sound_82 : decode cX3_sound 82 = .ok (.iastore, 1) := by decide +kernel
theorem dX3_sound_83 : decode cX3_sound 83 = .ok (.aload_n 0, 1) := by decide +kernel
theorem dX3_sound_84 : decode cX3_sound 84 = .ok (.getfield 21, 3) := by decide +kernel
theorem dX3_sound_87 : decode cX3_sound 87 = .ok (.iload 4, 2) := by decide +kernel
theorem dX3_sound_89 : decode cX3_sound 89 = .ok (.iload_n 3, 1) := by decide +kernel
theorem dX3_sound_90 : decode cX3_sound 90 = .ok (.iastore, 1) := by decide +kernel
theorem dX3_sound_91 : decode cX3_sound 91 = .ok (.aload_n 0, 1) := by decide +kernel
theorem dX3_sound_92 : decode cX3_sound 92 = .ok (.getfield 24, 3) := by decide +kernel
theorem dX3_sound_95 : decode cX3_sound 95 = .ok (.iload 4, 2) := by decide +kernel
theorem dX3_sound_97 : decode cX3_sound 97 = .ok (.iconst 0, 1) := by decide +kernel
theorem dX3_sound_98 : decode cX3_sound 98 = .ok (.bastore, 1) := by decide +kernel
theorem dX3_sound_99 : decode cX3_sound 99 = .ok (.aload_n 0, 1) := by decide +kernel
theorem dX3_sound_100 : decode cX3_sound 100 = .ok (.getfield 45, 3) := by decide +kernel
theorem dX3_sound_103 : decode cX3_sound 103 = .ok (.iload_n 3, 1) := by decide +kernel
theorem dX3_sound_104 : decode cX3_sound 104 = .ok (.iconst 1, 1) := by decide +kernel
theorem dX3_sound_105 : decode cX3_sound 105 = .ok (.iload_n 1, 1) := by decide +kernel
theorem dX3_sound_106 : decode cX3_sound 106 = .ok (.invokevirtual 64, 3) := by decide +kernel
theorem dX3_sound_109 : decode cX3_sound 109 = .ok (.return_, 1) := by decide +kernel
theorem dX3_release_0 : decode cX3_release 0 = .ok (.aload_n 0, 1) := by decide +kernel
theorem dX3_release_1 : decode cX3_release 1 = .ok (.iload_n 1, 1) := by decide +kernel
theorem dX3_release_2 : decode cX3_release 2 = .ok (.invokevirtual 53, 3) := by decide +kernel
theorem dX3_release_5 : decode cX3_release 5 = .ok (.istore_n 3, 1) := by decide +kernel
theorem dX3_release_6 : decode cX3_release 6 = .ok (.iload_n 3, 1) := by decide +kernel
theorem dX3_release_7 : decode cX3_release 7 = .ok (.bipush (-3), 2) := by decide +kernel
theorem dX3_release_9 : decode cX3_release 9 = .ok (.if_icmp .eq 13, 3) := by decide +kernel
theorem dX3_release_12 : decode cX3_release 12 = .ok (.aload_n 0, 1) := by decide +kernel
theorem dX3_release_13 : decode cX3_release 13 = .ok (.getfield 9, 3) := by decide +kernel
theorem dX3_release_16 : decode cX3_release 16 = .ok (.iload_n 3, 1) := by decide +kernel
theorem dX3_release_17 : decode cX3_release 17 = .ok (.iaload, 1) := by decide +kernel
theorem dX3_release_18 : decode cX3_release 18 = .ok (.iconst 1, 1) := by decide +kernel
theorem dX3_release_19 : decode cX3_release 19 = .ok (.if_icmp .eq 4, 3) := by decide +kernel
theorem dX3_release_22 : decode cX3_release 22 = .ok (.return_, 1) := by decide +kernel
theorem dX3_release_23 : decode cX3_release 23 = .ok (.aload_n 0, 1) := by decide +kernel
theorem dX3_release_24 : decode cX3_release 24 = .ok (.iload_n 3, 1) := by decide +kernel
theorem dX3_release_25 : decode cX3_release 25 = .ok (.invokevirtual 70, 3) := by decide +kernel
theorem dX3_release_28 : decode cX3_release 28 = .ok (.ifCond .eq 13, 3) := by decide +kernel
theorem dX3_release_31 : decode cX3_release 31 = .ok (.aload_n 0, 1) := by decide +kernel
theorem dX3_release_32 : decode cX3_release 32 = .ok (.getfield 9, 3) := by decide +kernel
theorem dX3_release_35 : decode cX3_release 35 = .ok (.iload_n 3, 1) := by decide +kernel
theorem dX3_release_36 : decode cX3_release 36 = .ok (.iconst 2, 1) := by decide +kernel
theorem dX3_release_37 : decode cX3_release 37 = .ok (.iastore, 1) := by decide +kernel
theorem dX3_release_38 : decode cX3_release 38 = .ok (.goto 9, 3) := by decide +kernel
theorem dX3_release_41 : decode cX3_release 41 = .ok (.aload_n 0, 1) := by decide +kernel
theorem dX3_release_42 : decode cX3_release 42 = .ok (.iload_n 3, 1) := by decide +kernel
theorem dX3_release_43 : decode cX3_release 43 = .ok (.iload_n 2, 1) := by decide +kernel
theorem dX3_release_44 : decode cX3_release 44 = .ok (.invokevirtual 49, 3) := by decide +kernel
theorem dX3_release_47 : decode cX3_release 47 = .ok (.return_, 1) := by decide +kernel
theorem dX3_moveSustain_0 : decode cX3_moveSustain 0 = .ok (.iload_n 1, 1) := by decide +kernel
theorem dX3_moveSustain_1 : decode cX3_moveSustain 1 = .ok (.aload_n 0, 1) := by decide +kernel
theorem dX3_moveSustain_2 : decode cX3_moveSustain 2 = .ok (.getfield 38, 3) := by decide +kernel
theorem dX3_moveSustain_5 : decode cX3_moveSustain 5 = .ok (.if_icmp .ne 5, 3) := by decide +kernel
theorem dX3_moveSustain_8 : decode cX3_moveSustain 8 = .ok (.iconst 0, 1) := by decide +kernel
theorem dX3_moveSustain_9 : decode cX3_moveSustain 9 = .ok (.ireturn, 1) := by decide +kernel
theorem dX3_moveSustain_10 : decode cX3_moveSustain 10 = .ok (.aload_n 0, 1) := by decide +kernel
theorem dX3_moveSustain_11 : decode cX3_moveSustain 11 = .ok (.iload_n 1, 1) := by decide +kernel
theorem dX3_moveSustain_12 : decode cX3_moveSustain 12 = .ok (.putfield 38, 3) := by decide +kernel
theorem dX3_moveSustain_15 : decode cX3_moveSustain 15 = .ok (.iload_n 1, 1) := by decide +kernel
theorem dX3_moveSustain_16 : decode cX3_moveSustain 16 = .ok (.ifCond .eq 7, 3) := by decide +kernel
theorem dX3_moveSustain_19 : decode cX3_moveSustain 19 = .ok (.iconst 0, 1) := by decide +kernel
theorem dX3_moveSustain_20 : decode cX3_moveSustain 20 = .ok (.goto 8, 3) := by decide +kernel
theorem dX3_moveSustain_23 : decode cX3_moveSustain 23 = .ok (.aload_n 0, 1) := by decide +kernel
theorem dX3_moveSustain_24 : decode cX3_moveSustain 24 = .ok (.iload_n 2, 1) := by decide +kernel
theorem dX3_moveSustain_25 : decode cX3_moveSustain 25 = .ok (.invokevirtual 74, 3) := by decide +kernel
theorem dX3_moveSustain_28 : decode cX3_moveSustain 28 = .ok (.ireturn, 1) := by decide +kernel
theorem dX3_moveSostenuto_0 : decode cX3_moveSostenuto 0 = .ok (.iload_n 1, 1) := by decide +kernel
theorem dX3_moveSostenuto_1 : decode cX3_moveSostenuto 1 = .ok (.aload_n 0, 1) := by decide +kernel
theorem dX3_moveSostenuto_2 : decode cX3_moveSostenuto 2 = .ok (.getfield 42, 3) := by decide +kernel
theorem dX3_moveSostenuto_5 : decode cX3_moveSostenuto 5 = .ok (.if_icmp .ne 5, 3) := by decide +kernel
theorem dX3_moveSostenuto_8 : decode cX3_moveSostenuto 8 = .ok (.iconst 0, 1) := by decide +kernel
theorem dX3_moveSostenuto_9 : decode cX3_moveSostenuto 9 = .ok (.ireturn, 1) := by decide +kernel
theorem dX3_moveSostenuto_10 : decode cX3_moveSostenuto 10 = .ok (.aload_n 0, 1) := by decide +kernel
theorem dX3_moveSostenuto_11 : decode cX3_moveSostenuto 11 = .ok (.iload_n 1, 1) := by decide +kernel
theorem dX3_moveSostenuto_12 : decode cX3_moveSostenuto 12 = .ok (.putfield 42, 3) := by decide +kernel
theorem dX3_moveSostenuto_15 : decode cX3_moveSostenuto 15 = .ok (.iconst 0, 1) := by decide +kernel
theorem dX3_moveSostenuto_16 : decode cX3_moveSostenuto 16 = .ok (.istore_n 3, 1) := by decide +kernel
theorem dX3_moveSostenuto_17 : decode cX3_moveSostenuto 17 = .ok (.iload_n 3, 1) := by decide +kernel
theorem dX3_moveSostenuto_18 : decode cX3_moveSostenuto 18 = .ok (.aload_n 0, 1) := by decide +kernel
theorem dX3_moveSostenuto_19 : decode cX3_moveSostenuto 19 = .ok (.getfield 28, 3) := by decide +kernel
theorem dX3_moveSostenuto_22 : decode cX3_moveSostenuto 22 = .ok (.if_icmp .ge 34, 3) := by decide +kernel
theorem dX3_moveSostenuto_25 : decode cX3_moveSostenuto 25 = .ok (.aload_n 0, 1) := by decide +kernel
theorem dX3_moveSostenuto_26 : decode cX3_moveSostenuto 26 = .ok (.getfield 24, 3) := by decide +kernel
theorem dX3_moveSostenuto_29 : decode cX3_moveSostenuto 29 = .ok (.iload_n 3, 1) := by decide +kernel
theorem dX3_moveSostenuto_30 : decode cX3_moveSostenuto 30 = .ok (.iload_n 1, 1) := by decide +kernel
theorem dX3_moveSostenuto_31 : decode cX3_moveSostenuto 31 = .ok (.ifCond .eq 17, 3) := by decide +kernel
theorem dX3_moveSostenuto_34 : decode cX3_moveSostenuto 34 = .ok (.aload_n 0, 1) := by decide +kernel
theorem dX3_moveSostenuto_35 : decode cX3_moveSostenuto 35 = .ok (.getfield 9, 3) := by decide +kernel
theorem dX3_moveSostenuto_38 : decode cX3_moveSostenuto 38 = .ok (.iload_n 3, 1) := by decide +kernel
theorem dX3_moveSostenuto_39 : decode cX3_moveSostenuto 39 = .ok (.iaload, 1) := by decide +kernel
theorem dX3_moveSostenuto_40 : decode cX3_moveSostenuto 40 = .ok (.iconst 1, 1) := by decide +kernel
theorem dX3_moveSostenuto_41 : decode cX3_moveSostenuto 41 = .ok (.if_icmp .ne 7, 3) := by decide +kernel
theorem dX3_moveSostenuto_44 : decode cX3_moveSostenuto 44 = .ok (.iconst 1, 1) := by decide +kernel
theorem dX3_moveSostenuto_45 : decode cX3_moveSostenuto 45 = .ok (.goto 4, 3) := by decide +kernel
theorem dX3_moveSostenuto_48 : decode cX3_moveSostenuto 48 = .ok (.iconst 0, 1) := by decide +kernel
theorem dX3_moveSostenuto_49 : decode cX3_moveSostenuto 49 = .ok (.bastore, 1) := by decide +kernel
theorem dX3_moveSostenuto_50 : decode cX3_moveSostenuto 50 = .ok (.iinc 3 1, 3) := by decide +kernel
theorem dX3_moveSostenuto_53 : decode cX3_moveSostenuto 53 = .ok (.goto (-36), 3) := by decide +kernel
theorem dX3_moveSostenuto_56 : decode cX3_moveSostenuto 56 = .ok (.iload_n 1, 1) := by decide +kernel
theorem dX3_moveSostenuto_57 : decode cX3_moveSostenuto 57 = .ok (.ifCond .eq 11, 3) := by decide +kernel
theorem dX3_moveSostenuto_60 : decode cX3_moveSostenuto 60 = .ok (.aload_n 0, 1) := by decide +kernel
theorem dX3_moveSostenuto_61 : decode cX3_moveSostenuto 61 = .ok (.iconst 1, 1) := by decide +kernel
theorem dX3_moveSostenuto_62 : decode cX3_moveSostenuto 62 = .ok (.invokevirtual 77, 3) := by decide +kernel
theorem dX3_moveSostenuto_65 : decode cX3_moveSostenuto 65 = .ok (.goto 8, 3) := by decide +kernel
theorem dX3_moveSostenuto_68 : decode cX3_moveSostenuto 68 = .ok (.aload_n 0, 1) := by decide +kernel
theorem dX3_moveSostenuto_69 : decode cX3_moveSostenuto 69 = .ok (.iload_n 2, 1) := by decide +kernel
theorem dX3_moveSostenuto_70 : decode cX3_moveSostenuto 70 = .ok (.invokevirtual 74, 3) := by decide +kernel
theorem dX3_moveSostenuto_73 : decode cX3_moveSostenuto 73 = .ok (.ireturn, 1) := by decide +kernel
theorem dX3_withKey_0 : decode cX3_withKey 0 = .ok (.iconst 0, 1) := by decide +kernel
theorem dX3_withKey_1 : decode cX3_withKey 1 = .ok (.istore_n 2, 1) := by decide +kernel
theorem dX3_withKey_2 : decode cX3_withKey 2 = .ok (.iload_n 2, 1) := by decide +kernel
theorem dX3_withKey_3 : decode cX3_withKey 3 = .ok (.aload_n 0, 1) := by decide +kernel
theorem dX3_withKey_4 : decode cX3_withKey 4 = .ok (.getfield 28, 3) := by decide +kernel
theorem dX3_withKey_7 : decode cX3_withKey 7 = .ok (.if_icmp .ge 30, 3) := by decide +kernel
theorem dX3_withKey_10 : decode cX3_withKey 10 = .ok (.aload_n 0, 1) := by decide +kernel
theorem dX3_withKey_11 : decode cX3_withKey 11 = .ok (.getfield 9, 3) := by decide +kernel
theorem dX3_withKey_14 : decode cX3_withKey 14 = .ok (.iload_n 2, 1) := by decide +kernel
theorem dX3_withKey_15 : decode cX3_withKey 15 = .ok (.iaload, 1) := by decide +kernel
theorem dX3_withKey_16 : decode cX3_withKey 16 = .ok (.ifCond .eq 15, 3) := by decide +kernel
theorem dX3_withKey_19 : decode cX3_withKey 19 = .ok (.aload_n 0, 1) := by decide +kernel
theorem dX3_withKey_20 : decode cX3_withKey 20 = .ok (.getfield 15, 3) := by decide +kernel
theorem dX3_withKey_23 : decode cX3_withKey 23 = .ok (.iload_n 2, 1) := by decide +kernel
theorem dX3_withKey_24 : decode cX3_withKey 24 = .ok (.iaload, 1) := by decide +kernel
theorem dX3_withKey_25 : decode cX3_withKey 25 = .ok (.iload_n 1, 1) := by decide +kernel
theorem dX3_withKey_26 : decode cX3_withKey 26 = .ok (.if_icmp .ne 5, 3) := by decide +kernel
theorem dX3_withKey_29 : decode cX3_withKey 29 = .ok (.iload_n 2, 1) := by decide +kernel
theorem dX3_withKey_30 : decode cX3_withKey 30 = .ok (.ireturn, 1) := by decide +kernel
theorem dX3_withKey_31 : decode cX3_withKey 31 = .ok (.iinc 2 1, 3) := by decide +kernel
theorem dX3_withKey_34 : decode cX3_withKey 34 = .ok (.goto (-32), 3) := by decide +kernel
theorem dX3_withKey_37 : decode cX3_withKey 37 = .ok (.bipush (-3), 2) := by decide +kernel
theorem dX3_withKey_39 : decode cX3_withKey 39 = .ok (.ireturn, 1) := by decide +kernel
theorem dX3_firstFree_0 : decode cX3_firstFree 0 = .ok (.iconst 0, 1) := by decide +kernel
theorem dX3_firstFree_1 : decode cX3_firstFree 1 = .ok (.istore_n 1, 1) := by decide +kernel
theorem dX3_firstFree_2 : decode cX3_firstFree 2 = .ok (.iload_n 1, 1) := by decide +kernel
theorem dX3_firstFree_3 : decode cX3_firstFree 3 = .ok (.aload_n 0, 1) := by decide +kernel
theorem dX3_firstFree_4 : decode cX3_firstFree 4 = .ok (.getfield 28, 3) := by decide +kernel
theorem dX3_firstFree_7 : decode cX3_firstFree 7 = .ok (.if_icmp .ge 20, 3) := by decide +kernel
theorem dX3_firstFree_10 : decode cX3_firstFree 10 = .ok (.aload_n 0, 1) := by decide +kernel
theorem dX3_firstFree_11 : decode cX3_firstFree 11 = .ok (.getfield 9, 3) := by decide +kernel
theorem dX3_firstFree_14 : decode cX3_firstFree 14 = .ok (.iload_n 1, 1) := by decide +kernel
theorem dX3_firstFree_15 : decode cX3_firstFree 15 = .ok (.iaload, 1) := by decide +kernel
theorem dX3_firstFree_16 : decode cX3_firstFree 16 = .ok (.ifCond .ne 5, 3) := by decide +kernel
theorem dX3_firstFree_19 : decode cX3_firstFree 19 = .ok (.iload_n 1, 1) := by decide +kernel
theorem dX3_firstFree_20 : decode cX3_firstFree 20 = .ok (.ireturn, 1) := by decide +kernel
theorem dX3_firstFree_21 : decode cX3_firstFree 21 = .ok (.iinc 1 1, 3) := by decide +kernel
theorem dX3_firstFree_24 : decode cX3_firstFree 24 = .ok (.goto (-22), 3) := by decide +kernel
theorem dX3_firstFree_27 : decode cX3_firstFree 27 = .ok (.bipush (-3), 2) := by decide +kernel
theorem dX3_firstFree_29 : decode cX3_firstFree 29 = .ok (.ireturn, 1) := by decide +kernel
theorem dX3_victim_0 : decode cX3_victim 0 = .ok (.iconst 0, 1) := by decide +kernel
theorem dX3_victim_1 : decode cX3_victim 1 = .ok (.istore_n 1, 1) := by decide +kernel
theorem dX3_victim_2 : decode cX3_victim 2 = .ok (.iconst 1, 1) := by decide +kernel
theorem dX3_victim_3 : decode cX3_victim 3 = .ok (.istore_n 2, 1) := by decide +kernel
theorem dX3_victim_4 : decode cX3_victim 4 = .ok (.iload_n 2, 1) := by decide +kernel
theorem dX3_victim_5 : decode cX3_victim 5 = .ok (.aload_n 0, 1) := by decide +kernel
theorem dX3_victim_6 : decode cX3_victim 6 = .ok (.getfield 28, 3) := by decide +kernel
theorem dX3_victim_9 : decode cX3_victim 9 = .ok (.if_icmp .ge 20, 3) := by decide +kernel
theorem dX3_victim_12 : decode cX3_victim 12 = .ok (.aload_n 0, 1) := by decide +kernel
theorem dX3_victim_13 : decode cX3_victim 13 = .ok (.iload_n 2, 1) := by decide +kernel
theorem dX3_victim_14 : decode cX3_victim 14 = .ok (.iload_n 1, 1) := by decide +kernel
theorem dX3_victim_15 : decode cX3_victim 15 = .ok (.invokevirtual 80, 3) := by decide +kernel
theorem dX3_victim_18 : decode cX3_victim 18 = .ok (.ifCond .eq 5, 3) := by decide +kernel
theorem dX3_victim_21 : decode cX3_victim 21 = .ok (.iload_n 2, 1) := by decide +kernel
theorem dX3_victim_22 : decode cX3_victim 22 = .ok (.istore_n 1, 1) := by decide +kernel
theorem dX3_victim_23 : decode cX3_victim 23 = .ok (.iinc 2 1, 3) := by decide +kernel
theorem dX3_victim_26 : decode cX3_victim 26 = .ok (.goto (-22), 3) := by decide +kernel
theorem dX3_victim_29 : decode cX3_victim 29 = .ok (.iload_n 1, 1) := by decide +kernel
theorem dX3_victim_30 : decode cX3_victim 30 = .ok (.ireturn, 1) := by decide +kernel
theorem dX3_inState_0 : decode cX3_inState 0 = .ok (.iconst 0, 1) := by decide +kernel
theorem dX3_inState_1 : decode cX3_inState 1 = .ok (.istore_n 2, 1) := by decide +kernel
theorem dX3_inState_2 : decode cX3_inState 2 = .ok (.iconst 0, 1) := by decide +kernel
theorem dX3_inState_3 : decode cX3_inState 3 = .ok (.istore_n 3, 1) := by decide +kernel
theorem dX3_inState_4 : decode cX3_inState 4 = .ok (.iload_n 3, 1) := by decide +kernel
theorem dX3_inState_5 : decode cX3_inState 5 = .ok (.aload_n 0, 1) := by decide +kernel
theorem dX3_inState_6 : decode cX3_inState 6 = .ok (.getfield 28, 3) := by decide +kernel
theorem dX3_inState_9 : decode cX3_inState 9 = .ok (.if_icmp .ge 22, 3) := by decide +kernel
theorem dX3_inState_12 : decode cX3_inState 12 = .ok (.aload_n 0, 1) := by decide +kernel
theorem dX3_inState_13 : decode cX3_inState 13 = .ok (.getfield 9, 3) := by decide +kernel
theorem dX3_inState_16 : decode cX3_inState 16 = .ok (.iload_n 3, 1) := by decide +kernel
theorem dX3_inState_17 : decode cX3_inState 17 = .ok (.iaload, 1) := by decide +kernel
theorem dX3_inState_18 : decode cX3_inState 18 = .ok (.iload_n 1, 1) := by decide +kernel
theorem dX3_inState_19 : decode cX3_inState 19 = .ok (.if_icmp .ne 6, 3) := by decide +kernel
theorem dX3_inState_22 : decode cX3_inState 22 = .ok (.iinc 2 1, 3) := by decide +kernel
theorem dX3_inState_25 : decode cX3_inState 25 = .ok (.iinc 3 1, 3) := by decide +kernel
theorem dX3_inState_28 : decode cX3_inState 28 = .ok (.goto (-24), 3) := by decide +kernel
theorem dX3_inState_31 : decode cX3_inState 31 = .ok (.iload_n 2, 1) := by decide +kernel
theorem dX3_inState_32 : decode cX3_inState 32 = .ok (.ireturn, 1) := by decide +kernel
theorem dX3_goesBefore_0 : decode cX3_goesBefore 0 = .ok (.aload_n 0, 1) := by decide +kernel
theorem dX3_goesBefore_1 : decode cX3_goesBefore 1 = .ok (.getfield 32, 3) := by decide +kernel
theorem dX3_goesBefore_4 : decode cX3_goesBefore 4 = .ok (.iconst 2, 1) := by decide +kernel
theorem dX3_goesBefore_5 : decode cX3_goesBefore 5 = .ok (.if_icmp .ne 34, 3) := by decide +kernel
theorem dX3_goesBefore_8 : decode cX3_goesBefore 8 = .ok (.aload_n 0, 1) := by decide +kernel
theorem dX3_goesBefore_9 : decode cX3_goesBefore 9 = .ok (.getfield 9, 3) := by decide +kernel
theorem dX3_goesBefore_12 : decode cX3_goesBefore 12 = .ok (.iload_n 1, 1) := by decide +kernel
theorem dX3_goesBefore_13 : decode cX3_goesBefore 13 = .ok (.iaload, 1) := by decide +kernel
theorem dX3_goesBefore_14 : decode cX3_goesBefore 14 = .ok (.aload_n 0, 1) := by decide +kernel
theorem dX3_goesBefore_15 : decode cX3_goesBefore 15 = .ok (.getfield 9, 3) := by decide +kernel
theorem dX3_goesBefore_18 : decode cX3_goesBefore 18 = .ok (.iload_n 2, 1) := by decide +kernel
theorem dX3_goesBefore_19 : decode cX3_goesBefore 19 = .ok (.iaload, 1) := by decide +kernel
theorem dX3_goesBefore_20 : decode cX3_goesBefore 20 = .ok (.if_icmp .eq 19, 3) := by decide +kernel
theorem dX3_goesBefore_23 : decode cX3_goesBefore 23 = .ok (.aload_n 0, 1) := by decide +kernel
theorem dX3_goesBefore_24 : decode cX3_goesBefore 24 = .ok (.getfield 9, 3) := by decide +kernel
theorem dX3_goesBefore_27 : decode cX3_goesBefore 27 = .ok (.iload_n 1, 1) := by decide +kernel
theorem dX3_goesBefore_28 : decode cX3_goesBefore 28 = .ok (.iaload, 1) := by decide +kernel
theorem dX3_goesBefore_29 : decode cX3_goesBefore 29 = .ok (.iconst 2, 1) := by decide +kernel
theorem dX3_goesBefore_30 : decode cX3_goesBefore 30 = .ok (.if_icmp .ne 7, 3) := by decide +kernel
theorem dX3_goesBefore_33 : decode cX3_goesBefore 33 = .ok (.iconst 1, 1) := by decide +kernel
theorem dX3_goesBefore_34 : decode cX3_goesBefore 34 = .ok (.goto 4, 3) := by decide +kernel
theorem dX3_goesBefore_37 : decode cX3_goesBefore 37 = .ok (.iconst 0, 1) := by decide +kernel
theorem dX3_goesBefore_38 : decode cX3_goesBefore 38 = .ok (.ireturn, 1) := by decide +kernel
theorem dX3_goesBefore_39 : decode cX3_goesBefore 39 = .ok (.aload_n 0, 1) := by decide +kernel
theorem dX3_goesBefore_40 : decode cX3_goesBefore 40 = .ok (.getfield 32, 3) := by decide +kernel
theorem dX3_goesBefore_43 : decode cX3_goesBefore 43 = .ok (.iconst 1, 1) := by decide +kernel
theorem dX3_goesBefore_44 : decode cX3_goesBefore 44 = .ok (.if_icmp .ne 39, 3) := by decide +kernel
theorem dX3_goesBefore_47 : decode cX3_goesBefore 47 = .ok (.aload_n 0, 1) := by decide +kernel
theorem dX3_goesBefore_48 : decode cX3_goesBefore 48 = .ok (.getfield 18, 3) := by decide +kernel
theorem dX3_goesBefore_51 : decode cX3_goesBefore 51 = .ok (.iload_n 1, 1) := by decide +kernel
theorem dX3_goesBefore_52 : decode cX3_goesBefore 52 = .ok (.iaload, 1) := by decide +kernel
theorem dX3_goesBefore_53 : decode cX3_goesBefore 53 = .ok (.aload_n 0, 1) := by decide +kernel
theorem dX3_goesBefore_54 : decode cX3_goesBefore 54 = .ok (.getfield 18, 3) := by decide +kernel
theorem dX3_goesBefore_57 : decode cX3_goesBefore 57 = .ok (.iload_n 2, 1) := by decide +kernel
theorem dX3_goesBefore_58 : decode cX3_goesBefore 58 = .ok (.iaload, 1) := by decide +kernel
theorem dX3_goesBefore_59 : decode cX3_goesBefore 59 = .ok (.if_icmp .eq 24, 3) := by decide +kernel
theorem dX3_goesBefore_62 : decode cX3_goesBefore 62 = .ok (.aload_n 0, 1) := by decide +kernel
theorem dX3_goesBefore_63 : decode cX3_goesBefore 63 = .ok (.getfield 18, 3) := by decide +kernel
theorem dX3_goesBefore_66 : decode cX3_goesBefore 66 = .ok (.iload_n 1, 1) := by decide +kernel
theorem dX3_goesBefore_67 : decode cX3_goesBefore 67 = .ok (.iaload, 1) := by decide +kernel
theorem dX3_goesBefore_68 : decode cX3_goesBefore 68 = .ok (.aload_n 0, 1) := by decide +kernel
theorem dX3_goesBefore_69 : decode cX3_goesBefore 69 = .ok (.getfield 18, 3) := by decide +kernel
theorem dX3_goesBefore_72 : decode cX3_goesBefore 72 = .ok (.iload_n 2, 1) := by decide +kernel
theorem dX3_goesBefore_73 : decode cX3_goesBefore 73 = .ok (.iaload, 1) := by decide +kernel
theorem dX3_goesBefore_74 : decode cX3_goesBefore 74 = .ok (.if_icmp .ge 7, 3) := by decide +kernel
theorem dX3_goesBefore_77 : decode cX3_goesBefore 77 = .ok (.iconst 1, 1) := by decide +kernel
theorem dX3_goesBefore_78 : decode cX3_goesBefore 78 = .ok (.goto 4, 3) := by decide +kernel
theorem dX3_goesBefore_81 : decode cX3_goesBefore 81 = .ok (.iconst 0, 1) := by decide +kernel
theorem dX3_goesBefore_82 : decode cX3_goesBefore 82 = .ok (.ireturn, 1) := by decide +kernel
theorem dX3_goesBefore_83 : decode cX3_goesBefore 83 = .ok (.aload_n 0, 1) := by decide +kernel
theorem dX3_goesBefore_84 : decode cX3_goesBefore 84 = .ok (.getfield 21, 3) := by decide +kernel
theorem dX3_goesBefore_87 : decode cX3_goesBefore 87 = .ok (.iload_n 1, 1) := by decide +kernel
theorem dX3_goesBefore_88 : decode cX3_goesBefore 88 = .ok (.iaload, 1) := by decide +kernel
theorem dX3_goesBefore_89 : decode cX3_goesBefore 89 = .ok (.aload_n 0, 1) := by decide +kernel
theorem dX3_goesBefore_90 : decode cX3_goesBefore 90 = .ok (.getfield 21, 3) := by decide +kernel
theorem dX3_goesBefore_93 : decode cX3_goesBefore 93 = .ok (.iload_n 2, 1) := by decide +kernel
theorem dX3_goesBefore_94 : decode cX3_goesBefore 94 = .ok (.iaload, 1) := by decide +kernel
theorem dX3_goesBefore_95 : decode cX3_goesBefore 95 = .ok (.if_icmp .ge 7, 3) := by decide +kernel
theorem dX3_goesBefore_98 : decode cX3_goesBefore 98 = .ok (.iconst 1, 1) := by decide +kernel
theorem dX3_goesBefore_99 : decode cX3_goesBefore 99 = .ok (.goto 4, 3) := by decide +kernel
theorem dX3_goesBefore_102 : decode cX3_goesBefore 102 = .ok (.iconst 0, 1) := by decide +kernel
theorem dX3_goesBefore_103 : decode cX3_goesBefore 103 = .ok (.ireturn, 1) := by decide +kernel
theorem dX3_isKeptByPedal_0 : decode cX3_isKeptByPedal 0 = .ok (.aload_n 0, 1) := by decide +kernel
theorem dX3_isKeptByPedal_1 : decode cX3_isKeptByPedal 1 = .ok (.getfield 38, 3) := by decide +kernel
theorem dX3_isKeptByPedal_4 : decode cX3_isKeptByPedal 4 = .ok (.ifCond .ne 19, 3) := by decide +kernel
theorem dX3_isKeptByPedal_7 : decode cX3_isKeptByPedal 7 = .ok (.aload_n 0, 1) := by decide +kernel
theorem dX3_isKeptByPedal_8 : decode cX3_isKeptByPedal 8 = .ok (.getfield 42, 3) := by decide +kernel
theorem dX3_isKeptByPedal_11 : decode cX3_isKeptByPedal 11 = .ok (.ifCond .eq 16, 3) := by decide +kernel
theorem dX3_isKeptByPedal_14 : decode cX3_isKeptByPedal 14 = .ok (.aload_n 0, 1) := by decide +kernel
theorem dX3_isKeptByPedal_15 : decode cX3_isKeptByPedal 15 = .ok (.getfield 24, 3) := by decide +kernel
theorem dX3_isKeptByPedal_18 : decode cX3_isKeptByPedal 18 = .ok (.iload_n 1, 1) := by decide +kernel
theorem dX3_isKeptByPedal_19 : decode cX3_isKeptByPedal 19 = .ok (.baload, 1) := by decide +kernel
theorem dX3_isKeptByPedal_20 : decode cX3_isKeptByPedal 20 = .ok (.ifCond .eq 7, 3) := by decide +kernel
theorem dX3_isKeptByPedal_23 : decode cX3_isKeptByPedal 23 = .ok (.iconst 1, 1) := by decide +kernel
theorem dX3_isKeptByPedal_24 : decode cX3_isKeptByPedal 24 = .ok (.goto 4, 3) := by decide +kernel
theorem dX3_isKeptByPedal_27 : decode cX3_isKeptByPedal 27 = .ok (.iconst 0, 1) := by decide +kernel
theorem dX3_isKeptByPedal_28 : decode cX3_isKeptByPedal 28 = .ok (.ireturn, 1) := by decide +kernel
theorem dX3_freeKept_0 : decode cX3_freeKept 0 = .ok (.iconst 0, 1) := by decide +kernel
theorem dX3_freeKept_1 : decode cX3_freeKept 1 = .ok (.istore_n 2, 1) := by decide +kernel
theorem dX3_freeKept_2 : decode cX3_freeKept 2 = .ok (.iconst 0, 1) := by decide +kernel
theorem dX3_freeKept_3 : decode cX3_freeKept 3 = .ok (.istore_n 3, 1) := by decide +kernel
theorem dX3_freeKept_4 : decode cX3_freeKept 4 = .ok (.iload_n 3, 1) := by decide +kernel
theorem dX3_freeKept_5 : decode cX3_freeKept 5 = .ok (.aload_n 0, 1) := by decide +kernel
theorem dX3_freeKept_6 : decode cX3_freeKept 6 = .ok (.getfield 28, 3) := by decide +kernel
theorem dX3_freeKept_9 : decode cX3_freeKept 9 = .ok (.if_icmp .ge 36, 3) := by decide +kernel
theorem dX3_freeKept_12 : decode cX3_freeKept 12 = .ok (.aload_n 0, 1) := by decide +kernel
theorem dX3_freeKept_13 : decode cX3_freeKept 13 = .ok (.getfield 9, 3) := by decide +kernel
theorem dX3_freeKept_16 : decode cX3_freeKept 16 = .ok (.iload_n 3, 1) := by decide +kernel
theorem dX3_freeKept_17 : decode cX3_freeKept 17 = .ok (.iaload, 1) := by decide +kernel
theorem dX3_freeKept_18 : decode cX3_freeKept 18 = .ok (.iconst 2, 1) := by decide +kernel
theorem dX3_freeKept_19 : decode cX3_freeKept 19 = .ok (.if_icmp .ne 20, 3) := by decide +kernel
theorem dX3_freeKept_22 : decode cX3_freeKept 22 = .ok (.aload_n 0, 1) := by decide +kernel
theorem dX3_freeKept_23 : decode cX3_freeKept 23 = .ok (.iload_n 3, 1) := by decide +kernel
theorem dX3_freeKept_24 : decode cX3_freeKept 24 = .ok (.invokevirtual 70, 3) := by decide +kernel
theorem dX3_freeKept_27 : decode cX3_freeKept 27 = .ok (.ifCond .ne 12, 3) := by decide +kernel
theorem dX3_freeKept_30 : decode cX3_freeKept 30 = .ok (.aload_n 0, 1) := by decide +kernel
theorem dX3_freeKept_31 : decode cX3_freeKept 31 = .ok (.iload_n 3, 1) := by decide +kernel
theorem dX3_freeKept_32 : decode cX3_freeKept 32 = .ok (.iload_n 1, 1) := by decide +kernel
theorem dX3_freeKept_33 : decode cX3_freeKept 33 = .ok (.invokevirtual 49, 3) := by decide +kernel
theorem dX3_freeKept_36 : decode cX3_freeKept 36 = .ok (.iinc 2 1, 3) := by decide +kernel
theorem dX3_freeKept_39 : decode cX3_freeKept 39 = .ok (.iinc 3 1, 3) := by decide +kernel
theorem dX3_freeKept_42 : decode cX3_freeKept 42 = .ok (.goto (-38), 3) := by decide +kernel
theorem dX3_freeKept_45 : decode cX3_freeKept 45 = .ok (.iload_n 2, 1) := by decide +kernel
theorem dX3_freeKept_46 : decode cX3_freeKept 46 = .ok (.ireturn, 1) := by decide +kernel
theorem dX3_free_0 : decode cX3_free 0 = .ok (.aload_n 0, 1) := by decide +kernel
theorem dX3_free_1 : decode cX3_free 1 = .ok (.getfield 9, 3) := by decide +kernel
theorem dX3_free_4 : decode cX3_free 4 = .ok (.iload_n 1, 1) := by decide +kernel
theorem dX3_free_5 : decode cX3_free 5 = .ok (.iconst 0, 1) := by decide +kernel
theorem dX3_free_6 : decode cX3_free 6 = .ok (.iastore, 1) := by decide +kernel
theorem dX3_free_7 : decode cX3_free 7 = .ok (.aload_n 0, 1) := by decide +kernel
theorem dX3_free_8 : decode cX3_free 8 = .ok (.getfield 24, 3) := by decide +kernel
theorem dX3_free_11 : decode cX3_free 11 = .ok (.iload_n 1, 1) := by decide +kernel
theorem dX3_free_12 : decode cX3_free 12 = .ok (.iconst 0, 1) := by decide +kernel
theorem dX3_free_13 : decode cX3_free 13 = .ok (.bastore, 1) := by decide +kernel
theorem dX3_free_14 : decode cX3_free 14 = .ok (.aload_n 0, 1) := by decide +kernel
theorem dX3_free_15 : decode cX3_free 15 = .ok (.getfield 45, 3) := by decide +kernel
theorem dX3_free_18 : decode cX3_free 18 = .ok (.iload_n 2, 1) := by decide +kernel
theorem dX3_free_19 : decode cX3_free 19 = .ok (.iconst 2, 1) := by decide +kernel
theorem dX3_free_20 : decode cX3_free 20 = .ok (.aload_n 0, 1) := by decide +kernel
theorem dX3_free_21 : decode cX3_free 21 = .ok (.getfield 15, 3) := by decide +kernel
theorem dX3_free_24 : decode cX3_free 24 = .ok (.iload_n 1, 1) := by decide +kernel
theorem dX3_free_25 : decode cX3_free 25 = .ok (.iaload, 1) := by decide +kernel
theorem dX3_free_26 : decode cX3_free 26 = .ok (.invokevirtual 64, 3) := by decide +kernel
theorem dX3_free_29 : decode cX3_free 29 = .ok (.return_, 1) := by decide +kernel
theorem dX4_init_0 : decode cX4_init 0 = .ok (.aload_n 0, 1) := by decide +kernel
theorem dX4_init_1 : decode cX4_init 1 = .ok (.invokespecial 3, 3) := by decide +kernel
theorem dX4_init_4 : decode cX4_init 4 = .ok (.aload_n 0, 1) := by decide +kernel
theorem dX4_init_5 : decode cX4_init 5 = .ok (.new 9, 3) := by decide +kernel
theorem dX4_init_8 : decode cX4_init 8 = .ok (.dup, 1) := by decide +kernel
theorem dX4_init_9 : decode cX4_init 9 = .ok (.invokespecial 11, 3) := by decide +kernel
theorem dX4_init_12 : decode cX4_init 12 = .ok (.putfield 12, 3) := by decide +kernel
theorem dX4_init_15 : decode cX4_init 15 = .ok (.aload_n 0, 1) := by decide +kernel
theorem dX4_init_16 : decode cX4_init 16 = .ok (.new 16, 3) := by decide +kernel
theorem dX4_init_19 : decode cX4_init 19 = .ok (.dup, 1) := by decide +kernel
theorem dX4_init_20 : decode cX4_init 20 = .ok (.invokespecial 18, 3) := by decide +kernel
end
section
theorem dX4_init_23 : decode cX4_init 23 = .ok (.putfield 19, 3) := by decide +kernel
theorem dX4_init_26 : decode cX4_init 26 = .ok (.aload_n 0, 1) := by decide +kernel
theorem dX4_init_27 : decode cX4_init 27 = .ok (.new 23, 3) := by decide +kernel
theorem dX4_init_30 : decode cX4_init 30 = .ok (.dup, 1) := by decide +kernel
theorem dX4_init_31 : decode cX4_init 31 = .ok (.aload_n 0, 1) := by decide +kernel
theorem dX4_init_32 : decode cX4_init 32 = .ok (.getfield 19, 3) := by decide +kernel
theorem dX4_init_35 : decode cX4_init 35 = .ok (.invokespecial 25, 3) := by decide +kernel
theorem dX4_init_38 : decode cX4_init 38 = .ok (.putfield 28, 3) := by decide +kernel
theorem dX4_init_41 : decode cX4_init 41 = .ok (.aload_n 0, 1) := by decide +kernel
theorem dX4_init_42 : decode cX4_init 42 = .ok (.bipush 64, 2) := by decide +kernel
theorem dX4_init_44 : decode cX4_init 44 = .ok (.newarray .int, 2) := by decide +kernel
theorem dX4_init_46 : decode cX4_init 46 = .ok (.putfield 32, 3) := by decide +kernel
theorem dX4_init_49 : decode cX4_init 49 = .ok (.aload_n 0, 1) := by decide +kernel
theorem dX4_init_50 : decode cX4_init 50 = .ok (.bipush 64, 2) := by decide +kernel
theorem dX4_init_52 : decode cX4_init 52 = .ok (.newarray .int, 2) := by decide +kernel
theorem dX4_init_54 : decode cX4_init 54 = .ok (.putfield 36, 3) := by decide +kernel
theorem dX4_init_57 : decode cX4_init 57 = .ok (.aload_n 0, 1) := by decide +kernel
theorem dX4_init_58 : decode cX4_init 58 = .ok (.iconst 0, 1) := by decide +kernel
theorem dX4_init_59 : decode cX4_init 59 = .ok (.putfield 39, 3) := by decide +kernel
theorem dX4_init_62 : decode cX4_init 62 = .ok (.aload_n 0, 1) := by decide +kernel
theorem dX4_init_63 : decode cX4_init 63 = .ok (.bipush 8, 2) := by decide +kernel
theorem dX4_init_65 : decode cX4_init 65 = .ok (.putfield 43, 3) := by decide +kernel
theorem dX4_init_68 : decode cX4_init 68 = .ok (.aload_n 0, 1) := by decide +kernel
theorem dX4_init_69 : decode cX4_init 69 = .ok (.iconst 0, 1) := by decide +kernel
theorem dX4_init_70 : decode cX4_init 70 = .ok (.putfield 46, 3) := by decide +kernel
theorem dX4_init_73 : decode cX4_init 73 = .ok (.aload_n 0, 1) := by decide +kernel
theorem dX4_init_74 : decode cX4_init 74 = .ok (.iconst 0, 1) := by decide +kernel
theorem dX4_init_75 : decode cX4_init 75 = .ok (.putfield 50, 3) := by decide +kernel
theorem dX4_init_78 : decode cX4_init 78 = .ok (.aload_n 0, 1) := by decide +kernel
theorem dX4_init_79 : decode cX4_init 79 = .ok (.iconst 0, 1) := by decide +kernel
theorem dX4_init_80 : decode cX4_init 80 = .ok (.putfield 53, 3) := by decide +kernel
theorem dX4_init_83 : decode cX4_init 83 = .ok (.aload_n 0, 1) := by decide +kernel
theorem dX4_init_84 : decode cX4_init 84 = .ok (.iconst 0, 1) := by decide +kernel
theorem dX4_init_85 : decode cX4_init 85 = .ok (.putfield 56, 3) := by decide +kernel
theorem dX4_init_88 : decode cX4_init 88 = .ok (.return_, 1) := by decide +kernel
theorem dX4_reset_0 : decode cX4_reset 0 = .ok (.iload_n 1, 1) := by decide +kernel
theorem dX4_reset_1 : decode cX4_reset 1 = .ok (.iconst 1, 1) := by decide +kernel
theorem dX4_reset_2 : decode cX4_reset 2 = .ok (.bipush 8, 2) := by decide +kernel
theorem dX4_reset_4 : decode cX4_reset 4 = .ok (.invokestatic 59, 3) := by decide +kernel
theorem dX4_reset_7 : decode cX4_reset 7 = .ok (.ifCond .eq 13, 3) := by decide +kernel
theorem dX4_reset_10 : decode cX4_reset 10 = .ok (.iload_n 2, 1) := by decide +kernel
theorem dX4_reset_11 : decode cX4_reset 11 = .ok (.iconst 1, 1) := by decide +kernel
theorem dX4_reset_12 : decode cX4_reset 12 = .ok (.bipush 8, 2) := by decide +kernel
theorem dX4_reset_14 : decode cX4_reset 14 = .ok (.invokestatic 59, 3) := by decide +kernel
theorem dX4_reset_17 : decode cX4_reset 17 = .ok (.ifCond .ne 6, 3) := by decide +kernel
theorem dX4_reset_20 : decode cX4_reset 20 = .ok (.bipush (-2), 2) := by decide +kernel
theorem dX4_reset_22 : decode cX4_reset 22 = .ok (.ireturn, 1) := by decide +kernel
theorem dX4_reset_23 : decode cX4_reset 23 = .ok (.aload_n 0, 1) := by decide +kernel
theorem dX4_reset_24 : decode cX4_reset 24 = .ok (.getfield 12, 3) := by decide +kernel
theorem dX4_reset_27 : decode cX4_reset 27 = .ok (.iload_n 1, 1) := by decide +kernel
theorem dX4_reset_28 : decode cX4_reset 28 = .ok (.iload_n 2, 1) := by decide +kernel
theorem dX4_reset_29 : decode cX4_reset 29 = .ok (.invokevirtual 63, 3) := by decide +kernel
theorem dX4_reset_32 : decode cX4_reset 32 = .ok (.aload_n 0, 1) := by decide +kernel
theorem dX4_reset_33 : decode cX4_reset 33 = .ok (.getfield 19, 3) := by decide +kernel
theorem dX4_reset_36 : decode cX4_reset 36 = .ok (.invokevirtual 67, 3) := by decide +kernel
theorem dX4_reset_39 : decode cX4_reset 39 = .ok (.aload_n 0, 1) := by decide +kernel
theorem dX4_reset_40 : decode cX4_reset 40 = .ok (.getfield 28, 3) := by decide +kernel
theorem dX4_reset_43 : decode cX4_reset 43 = .ok (.invokevirtual 70, 3) := by decide +kernel
theorem dX4_reset_46 : decode cX4_reset 46 = .ok (.iconst 0, 1) := by decide +kernel
theorem dX4_reset_47 : decode cX4_reset 47 = .ok (.istore_n 3, 1) := by decide +kernel
theorem dX4_reset_48 : decode cX4_reset 48 = .ok (.iload_n 3, 1) := by decide +kernel
theorem dX4_reset_49 : decode cX4_reset 49 = .ok (.bipush 64, 2) := by decide +kernel
theorem dX4_reset_51 : decode cX4_reset 51 = .ok (.if_icmp .ge 16, 3) := by decide +kernel
theorem dX4_reset_54 : decode cX4_reset 54 = .ok (.aload_n 0, 1) := by decide +kernel
theorem dX4_reset_55 : decode cX4_reset 55 = .ok (.getfield 32, 3) := by decide +kernel
theorem dX4_reset_58 : decode cX4_reset 58 = .ok (.iload_n 3, 1) := by decide +kernel
theorem dX4_reset_59 : decode cX4_reset 59 = .ok (.iconst 0, 1) := by decide +kernel
theorem dX4_reset_60 : decode cX4_reset 60 = .ok (.iastore, 1) := by decide +kernel
theorem dX4_reset_61 : decode cX4_reset 61 = .ok (.iinc 3 1, 3) := by decide +kernel
theorem dX4_reset_64 : decode cX4_reset 64 = .ok (.goto (-16), 3) := by decide +kernel
theorem dX4_reset_67 : decode cX4_reset 67 = .ok (.aload_n 0, 1) := by decide +kernel
theorem dX4_reset_68 : decode cX4_reset 68 = .ok (.iconst 0, 1) := by decide +kernel
theorem dX4_reset_69 : decode cX4_reset 69 = .ok (.putfield 39, 3) := by decide +kernel
theorem dX4_reset_72 : decode cX4_reset 72 = .ok (.aload_n 0, 1) := by decide +kernel
theorem dX4_reset_73 : decode cX4_reset 73 = .ok (.iconst 0, 1) := by decide +kernel
theorem dX4_reset_74 : decode cX4_reset 74 = .ok (.putfield 53, 3) := by decide +kernel
theorem dX4_reset_77 : decode cX4_reset 77 = .ok (.aload_n 0, 1) := by decide +kernel
theorem dX4_reset_78 : decode cX4_reset 78 = .ok (.iconst 0, 1) := by decide +kernel
theorem dX4_reset_79 : decode cX4_reset 79 = .ok (.putfield 56, 3) := by decide +kernel
theorem dX4_reset_82 : decode cX4_reset 82 = .ok (.aload_n 0, 1) := by decide +kernel
theorem dX4_reset_83 : decode cX4_reset 83 = .ok (.getfield 12, 3) := by decide +kernel
theorem dX4_reset_86 : decode cX4_reset 86 = .ok (.invokevirtual 73, 3) := by decide +kernel
theorem dX4_reset_89 : decode cX4_reset 89 = .ok (.ireturn, 1) := by decide +kernel
theorem dX4_setDiodes_0 : decode cX4_setDiodes 0 = .ok (.aload_n 0, 1) := by decide +kernel
theorem dX4_setDiodes_1 : decode cX4_setDiodes 1 = .ok (.getfield 12, 3) := by decide +kernel
theorem dX4_setDiodes_4 : decode cX4_setDiodes 4 = .ok (.iload_n 1, 1) := by decide +kernel
theorem dX4_setDiodes_5 : decode cX4_setDiodes 5 = .ok (.putfield 77, 3) := by decide +kernel
theorem dX4_setDiodes_8 : decode cX4_setDiodes 8 = .ok (.aload_n 0, 1) := by decide +kernel
theorem dX4_setDiodes_9 : decode cX4_setDiodes 9 = .ok (.getfield 12, 3) := by decide +kernel
theorem dX4_setDiodes_12 : decode cX4_setDiodes 12 = .ok (.invokevirtual 80, 3) := by decide +kernel
theorem dX4_setDiodes_15 : decode cX4_setDiodes 15 = .ok (.ireturn, 1) := by decide +kernel
theorem dX4_setBlocking_0 : decode cX4_setBlocking 0 = .ok (.aload_n 0, 1) := by decide +kernel
theorem dX4_setBlocking_1 : decode cX4_setBlocking 1 = .ok (.getfield 46, 3) := by decide +kernel
theorem dX4_setBlocking_4 : decode cX4_setBlocking 4 = .ok (.iload_n 1, 1) := by decide +kernel
theorem dX4_setBlocking_5 : decode cX4_setBlocking 5 = .ok (.if_icmp .eq 7, 3) := by decide +kernel
theorem dX4_setBlocking_8 : decode cX4_setBlocking 8 = .ok (.iconst 1, 1) := by decide +kernel
theorem dX4_setBlocking_9 : decode cX4_setBlocking 9 = .ok (.goto 4, 3) := by decide +kernel
theorem dX4_setBlocking_12 : decode cX4_setBlocking 12 = .ok (.iconst 0, 1) := by decide +kernel
theorem dX4_setBlocking_13 : decode cX4_setBlocking 13 = .ok (.invokestatic 83, 3) := by decide +kernel
theorem dX4_setBlocking_16 : decode cX4_setBlocking 16 = .ok (.istore_n 2, 1) := by decide +kernel
theorem dX4_setBlocking_17 : decode cX4_setBlocking 17 = .ok (.aload_n 0, 1) := by decide +kernel
theorem dX4_setBlocking_18 : decode cX4_setBlocking 18 = .ok (.iload_n 1, 1) := by decide +kernel
theorem dX4_setBlocking_19 : decode cX4_setBlocking 19 = .ok (.putfield 46, 3) := by decide +kernel
theorem dX4_setBlocking_22 : decode cX4_setBlocking 22 = .ok (.iload_n 2, 1) := by decide +kernel
theorem dX4_setBlocking_23 : decode cX4_setBlocking 23 = .ok (.ireturn, 1) := by decide +kernel
theorem dX4_setLateRelease_0 : decode cX4_setLateRelease 0 = .ok (.aload_n 0, 1) := by decide +kernel
theorem dX4_setLateRelease_1 : decode cX4_setLateRelease 1 = .ok (.getfield 50, 3) := by decide +kernel
theorem dX4_setLateRelease_4 : decode cX4_setLateRelease 4 = .ok (.iload_n 1, 1) := by decide +kernel
theorem dX4_setLateRelease_5 : decode cX4_setLateRelease 5 = .ok (.if_icmp .eq 7, 3) := by decide +kernel
theorem dX4_setLateRelease_8 : decode cX4_setLateRelease 8 = .ok (.iconst 1, 1) := by decide +kernel
theorem dX4_setLateRelease_9 : decode cX4_setLateRelease 9 = .ok (.goto 4, 3) := by decide +kernel
theorem dX4_setLateRelease_12 : decode cX4_setLateRelease 12 = .ok (.iconst 0, 1) := by decide +kernel
theorem dX4_setLateRelease_13 : decode cX4_setLateRelease 13 = .ok (.invokestatic 83, 3) := by decide +kernel
theorem dX4_setLateRelease_16 : decode cX4_setLateRelease 16 = .ok (.istore_n 2, 1) := by decide +kernel
theorem dX4_setLateRelease_17 : decode cX4_setLateRelease 17 = .ok (.aload_n 0, 1) := by decide +kernel
theorem dX4_setLateRelease_18 : decode cX4_setLateRelease 18 = .ok (.iload_n 1, 1) := by decide +kernel
theorem dX4_setLateRelease_19 : decode cX4_setLateRelease 19 = .ok (.putfield 50, 3) := by decide +kernel
theorem dX4_setLateRelease_22 : decode cX4_setLateRelease 22 = .ok (.iload_n 2, 1) := by decide +kernel
theorem dX4_setLateRelease_23 : decode cX4_setLateRelease 23 = .ok (.ireturn, 1) := by decide +kernel
theorem dX4_setSlope_0 : decode cX4_setSlope 0 = .ok (.iload_n 1, 1) := by decide +kernel
theorem dX4_setSlope_1 : decode cX4_setSlope 1 = .ok (.iconst 1, 1) := by decide +kernel
theorem dX4_setSlope_2 : decode cX4_setSlope 2 = .ok (.bipush 64, 2) := by decide +kernel
theorem dX4_setSlope_4 : decode cX4_setSlope 4 = .ok (.invokestatic 59, 3) := by decide +kernel
theorem dX4_setSlope_7 : decode cX4_setSlope 7 = .ok (.ifCond .ne 6, 3) := by decide +kernel
theorem dX4_setSlope_10 : decode cX4_setSlope 10 = .ok (.bipush (-2), 2) := by decide +kernel
theorem dX4_setSlope_12 : decode cX4_setSlope 12 = .ok (.ireturn, 1) := by decide +kernel
theorem dX4_setSlope_13 : decode cX4_setSlope 13 = .ok (.aload_n 0, 1) := by decide +kernel
theorem dX4_setSlope_14 : decode cX4_setSlope 14 = .ok (.getfield 43, 3) := by decide +kernel
theorem dX4_setSlope_17 : decode cX4_setSlope 17 = .ok (.istore_n 2, 1) := by decide +kernel
theorem dX4_setSlope_18 : decode cX4_setSlope 18 = .ok (.aload_n 0, 1) := by decide +kernel
theorem dX4_setSlope_19 : decode cX4_setSlope 19 = .ok (.iload_n 1, 1) := by decide +kernel
theorem dX4_setSlope_20 : decode cX4_setSlope 20 = .ok (.putfield 43, 3) := by decide +kernel
theorem dX4_setSlope_23 : decode cX4_setSlope 23 = .ok (.iload_n 2, 1) := by decide +kernel
theorem dX4_setSlope_24 : decode cX4_setSlope 24 = .ok (.ireturn, 1) := by decide +kernel
theorem dX4_setVoices_0 : decode cX4_setVoices 0 = .ok (.iload_n 1, 1) := by decide +kernel
theorem dX4_setVoices_1 : decode cX4_setVoices 1 = .ok (.iconst 1, 1) := by decide +kernel
theorem dX4_setVoices_2 : decode cX4_setVoices 2 = .ok (.bipush 8, 2) := by decide +kernel
theorem dX4_setVoices_4 : decode cX4_setVoices 4 = .ok (.invokestatic 59, 3) := by decide +kernel
theorem dX4_setVoices_7 : decode cX4_setVoices 7 = .ok (.ifCond .eq 12, 3) := by decide +kernel
theorem dX4_setVoices_10 : decode cX4_setVoices 10 = .ok (.iload_n 2, 1) := by decide +kernel
theorem dX4_setVoices_11 : decode cX4_setVoices 11 = .ok (.iconst 0, 1) := by decide +kernel
theorem dX4_setVoices_12 : decode cX4_setVoices 12 = .ok (.iconst 2, 1) := by decide +kernel
theorem dX4_setVoices_13 : decode cX4_setVoices 13 = .ok (.invokestatic 59, 3) := by decide +kernel
theorem dX4_setVoices_16 : decode cX4_setVoices 16 = .ok (.ifCond .ne 6, 3) := by decide +kernel
theorem dX4_setVoices_19 : decode cX4_setVoices 19 = .ok (.bipush (-2), 2) := by decide +kernel
theorem dX4_setVoices_21 : decode cX4_setVoices 21 = .ok (.ireturn, 1) := by decide +kernel
theorem dX4_setVoices_22 : decode cX4_setVoices 22 = .ok (.aload_n 0, 1) := by decide +kernel
theorem dX4_setVoices_23 : decode cX4_setVoices 23 = .ok (.getfield 28, 3) := by decide +kernel
theorem dX4_setVoices_26 : decode cX4_setVoices 26 = .ok (.getfield 87, 3) := by decide +kernel
theorem dX4_setVoices_29 : decode cX4_setVoices 29 = .ok (.istore_n 3, 1) := by decide +kernel
theorem dX4_setVoices_30 : decode cX4_setVoices 30 = .ok (.aload_n 0, 1) := by decide +kernel
theorem dX4_setVoices_31 : decode cX4_setVoices 31 = .ok (.getfield 28, 3) := by decide +kernel
theorem dX4_setVoices_34 : decode cX4_setVoices 34 = .ok (.iload_n 1, 1) := by decide +kernel
theorem dX4_setVoices_35 : decode cX4_setVoices 35 = .ok (.aload_n 0, 1) := by decide +kernel
theorem dX4_setVoices_36 : decode cX4_setVoices 36 = .ok (.getfield 39, 3) := by decide +kernel
theorem dX4_setVoices_39 : decode cX4_setVoices 39 = .ok (.invokevirtual 90, 3) := by decide +kernel
theorem dX4_setVoices_42 : decode cX4_setVoices 42 = .ok (.aload_n 0, 1) := by decide +kernel
theorem dX4_setVoices_43 : decode cX4_setVoices 43 = .ok (.getfield 28, 3) := by decide +kernel
theorem dX4_setVoices_46 : decode cX4_setVoices 46 = .ok (.iload_n 2, 1) := by decide +kernel
theorem dX4_setVoices_47 : decode cX4_setVoices 47 = .ok (.putfield 93, 3) := by decide +kernel
theorem dX4_setVoices_50 : decode cX4_setVoices 50 = .ok (.iload_n 3, 1) := by decide +kernel
theorem dX4_setVoices_51 : decode cX4_setVoices 51 = .ok (.ireturn, 1) := by decide +kernel
theorem dX4_setKey_0 : decode cX4_setKey 0 = .ok (.aload_n 0, 1) := by decide +kernel
theorem dX4_setKey_1 : decode cX4_setKey 1 = .ok (.getfield 12, 3) := by decide +kernel
theorem dX4_setKey_4 : decode cX4_setKey 4 = .ok (.iload_n 1, 1) := by decide +kernel
theorem dX4_setKey_5 : decode cX4_setKey 5 = .ok (.invokevirtual 96, 3) := by decide +kernel
theorem dX4_setKey_8 : decode cX4_setKey 8 = .ok (.ifCond .ne 5, 3) := by decide +kernel
theorem dX4_setKey_11 : decode cX4_setKey 11 = .ok (.iconst (-1), 1) := by decide +kernel
theorem dX4_setKey_12 : decode cX4_setKey 12 = .ok (.ireturn, 1) := by decide +kernel
theorem dX4_setKey_13 : decode cX4_setKey 13 = .ok (.iload_n 2, 1) := by decide +kernel
theorem dX4_setKey_14 : decode cX4_setKey 14 = .ok (.iconst 0, 1) := by decide +kernel
theorem dX4_setKey_15 : decode cX4_setKey 15 = .ok (.iconst 2, 1) := by decide +kernel
theorem dX4_setKey_16 : decode cX4_setKey 16 = .ok (.invokestatic 59, 3) := by decide +kernel
theorem dX4_setKey_19 : decode cX4_setKey 19 = .ok (.ifCond .ne 6, 3) := by decide +kernel
theorem dX4_setKey_22 : decode cX4_setKey 22 = .ok (.bipush (-2), 2) := by decide +kernel
theorem dX4_setKey_24 : decode cX4_setKey 24 = .ok (.ireturn, 1) := by decide +kernel
theorem dX4_setKey_25 : decode cX4_setKey 25 = .ok (.aload_n 0, 1) := by decide +kernel
theorem dX4_setKey_26 : decode cX4_setKey 26 = .ok (.getfield 12, 3) := by decide +kernel
theorem dX4_setKey_29 : decode cX4_setKey 29 = .ok (.getfield 100, 3) := by decide +kernel
theorem dX4_setKey_32 : decode cX4_setKey 32 = .ok (.iload_n 1, 1) := by decide +kernel
theorem dX4_setKey_33 : decode cX4_setKey 33 = .ok (.iaload, 1) := by decide +kernel
theorem dX4_setKey_34 : decode cX4_setKey 34 = .ok (.istore_n 3, 1) := by decide +kernel
theorem dX4_setKey_35 : decode cX4_setKey 35 = .ok (.aload_n 0, 1) := by decide +kernel
theorem dX4_setKey_36 : decode cX4_setKey 36 = .ok (.getfield 12, 3) := by decide +kernel
theorem dX4_setKey_39 : decode cX4_setKey 39 = .ok (.iload_n 1, 1) := by decide +kernel
theorem dX4_setKey_40 : decode cX4_setKey 40 = .ok (.iload_n 2, 1) := by decide +kernel
theorem dX4_setKey_41 : decode cX4_setKey 41 = .ok (.invokevirtual 103, 3) := by decide +kernel
theorem dX4_setKey_44 : decode cX4_setKey 44 = .ok (.iload_n 3, 1) := by decide +kernel
theorem dX4_setKey_45 : decode cX4_setKey 45 = .ok (.ireturn, 1) := by decide +kernel
theorem dX4_liftAll_0 : decode cX4_liftAll 0 = .ok (.aload_n 0, 1) := by decide +kernel
theorem dX4_liftAll_1 : decode cX4_liftAll 1 = .ok (.getfield 12, 3) := by decide +kernel
theorem dX4_liftAll_4 : decode cX4_liftAll 4 = .ok (.invokevirtual 106, 3) := by decide +kernel
theorem dX4_liftAll_7 : decode cX4_liftAll 7 = .ok (.istore_n 1, 1) := by decide +kernel
theorem dX4_liftAll_8 : decode cX4_liftAll 8 = .ok (.aload_n 0, 1) := by decide +kernel
theorem dX4_liftAll_9 : decode cX4_liftAll 9 = .ok (.getfield 12, 3) := by decide +kernel
theorem dX4_liftAll_12 : decode cX4_liftAll 12 = .ok (.invokevirtual 109, 3) := by decide +kernel
theorem dX4_liftAll_15 : decode cX4_liftAll 15 = .ok (.iload_n 1, 1) := by decide +kernel
theorem dX4_liftAll_16 : decode cX4_liftAll 16 = .ok (.ireturn, 1) := by decide +kernel
theorem dX4_sustain_0 : decode cX4_sustain 0 = .ok (.aload_n 0, 1) := by decide +kernel
theorem dX4_sustain_1 : decode cX4_sustain 1 = .ok (.getfield 28, 3) := by decide +kernel
theorem dX4_sustain_4 : decode cX4_sustain 4 = .ok (.iload_n 1, 1) := by decide +kernel
theorem dX4_sustain_5 : decode cX4_sustain 5 = .ok (.aload_n 0, 1) := by decide +kernel
theorem dX4_sustain_6 : decode cX4_sustain 6 = .ok (.getfield 39, 3) := by decide +kernel
theorem dX4_sustain_9 : decode cX4_sustain 9 = .ok (.invokevirtual 112, 3) := by decide +kernel
theorem dX4_sustain_12 : decode cX4_sustain 12 = .ok (.ireturn, 1) := by decide +kernel
theorem dX4_sostenuto_0 : decode cX4_sostenuto 0 = .ok (.aload_n 0, 1) := by decide +kernel
theorem dX4_sostenuto_1 : decode cX4_sostenuto 1 = .ok (.getfield 28, 3) := by decide +kernel
theorem dX4_sostenuto_4 : decode cX4_sostenuto 4 = .ok (.iload_n 1, 1) := by decide +kernel
theorem dX4_sostenuto_5 : decode cX4_sostenuto 5 = .ok (.aload_n 0, 1) := by decide +kernel
theorem dX4_sostenuto_6 : decode cX4_sostenuto 6 = .ok (.getfield 39, 3) := by decide +kernel
theorem dX4_sostenuto_9 : decode cX4_sostenuto 9 = .ok (.invokevirtual 116, 3) := by decide +kernel
theorem dX4_sostenuto_12 : decode cX4_sostenuto 12 = .ok (.ireturn, 1) := by decide +kernel
theorem dX4_tick_0 : decode cX4_tick 0 = .ok (.iload_n 1, 1) := by decide +kernel
theorem dX4_tick_1 : decode cX4_tick 1 = .ok (.iconst 1, 1) := by decide +kernel
theorem dX4_tick_2 : decode cX4_tick 2 = .ok (.sipush 1000, 3) := by decide +kernel
theorem dX4_tick_5 : decode cX4_tick 5 = .ok (.invokestatic 59, 3) := by decide +kernel
theorem dX4_tick_8 : decode cX4_tick 8 = .ok (.ifCond .ne 6, 3) := by decide +kernel
theorem dX4_tick_11 : decode cX4_tick 11 = .ok (.bipush (-2), 2) := by decide +kernel
theorem dX4_tick_13 : decode cX4_tick 13 = .ok (.ireturn, 1) := by decide +kernel
theorem dX4_tick_14 : decode cX4_tick 14 = .ok (.iload_n 1, 1) := by decide +kernel
theorem dX4_tick_15 : decode cX4_tick 15 = .ok (.aload_n 0, 1) := by decide +kernel
theorem dX4_tick_16 : decode cX4_tick 16 = .ok (.getfield 12, 3) := by decide +kernel
theorem dX4_tick_19 : decode cX4_tick 19 = .ok (.getfield 119, 3) := by decide +kernel
theorem dX4_tick_22 : decode cX4_tick 22 = .ok (.invokestatic 122, 3) := by decide +kernel
theorem dX4_tick_25 : decode cX4_tick 25 = .ok (.istore_n 2, 1) := by decide +kernel
theorem dX4_tick_26 : decode cX4_tick 26 = .ok (.iconst 0, 1) := by decide +kernel
theorem dX4_tick_27 : decode cX4_tick 27 = .ok (.istore_n 3, 1) := by decide +kernel
theorem dX4_tick_28 : decode cX4_tick 28 = .ok (.iload_n 3, 1) := by decide +kernel
theorem dX4_tick_29 : decode cX4_tick 29 = .ok (.iload_n 2, 1) := by decide +kernel
theorem dX4_tick_30 : decode cX4_tick 30 = .ok (.if_icmp .ge 37, 3) := by decide +kernel
theorem dX4_tick_33 : decode cX4_tick 33 = .ok (.aload_n 0, 1) := by decide +kernel
theorem dX4_tick_34 : decode cX4_tick 34 = .ok (.aload_n 0, 1) := by decide +kernel
theorem dX4_tick_35 : decode cX4_tick 35 = .ok (.getfield 39, 3) := by decide +kernel
theorem dX4_tick_38 : decode cX4_tick 38 = .ok (.aload_n 0, 1) := by decide +kernel
theorem dX4_tick_39 : decode cX4_tick 39 = .ok (.getfield 12, 3) := by decide +kernel
theorem dX4_tick_42 : decode cX4_tick 42 = .ok (.getfield 119, 3) := by decide +kernel
theorem dX4_tick_45 : decode cX4_tick 45 = .ok (.invokestatic 128, 3) := by decide +kernel
theorem dX4_tick_48 : decode cX4_tick 48 = .ok (.invokevirtual 131, 3) := by decide +kernel
theorem dX4_tick_51 : decode cX4_tick 51 = .ok (.aload_n 0, 1) := by decide +kernel
theorem dX4_tick_52 : decode cX4_tick 52 = .ok (.dup, 1) := by decide +kernel
theorem dX4_tick_53 : decode cX4_tick 53 = .ok (.getfield 39, 3) := by decide +kernel
theorem dX4_tick_56 : decode cX4_tick 56 = .ok (.iconst 1, 1) := by decide +kernel
theorem dX4_tick_57 : decode cX4_tick 57 = .ok (.iadd, 1) := by decide +kernel
theorem dX4_tick_58 : decode cX4_tick 58 = .ok (.putfield 39, 3) := by decide +kernel
theorem dX4_tick_61 : decode cX4_tick 61 = .ok (.iinc 3 1, 3) := by decide +kernel
theorem dX4_tick_64 : decode cX4_tick 64 = .ok (.goto (-36), 3) := by decide +kernel
theorem dX4_tick_67 : decode cX4_tick 67 = .ok (.aload_n 0, 1) := by decide +kernel
theorem dX4_tick_68 : decode cX4_tick 68 = .ok (.dup, 1) := by decide +kernel
theorem dX4_tick_69 : decode cX4_tick 69 = .ok (.getfield 39, 3) := by decide +kernel
theorem dX4_tick_72 : decode cX4_tick 72 = .ok (.iload_n 1, 1) := by decide +kernel
theorem dX4_tick_73 : decode cX4_tick 73 = .ok (.iload_n 2, 1) := by decide +kernel
theorem dX4_tick_74 : decode cX4_tick 74 = .ok (.isub, 1) := by decide +kernel
theorem dX4_tick_75 : decode cX4_tick 75 = .ok (.iadd, 1) := by decide +kernel
theorem dX4_tick_76 : decode cX4_tick 76 = .ok (.putfield 39, 3) := by decide +kernel
theorem dX4_tick_79 : decode cX4_tick 79 = .ok (.aload_n 0, 1) := by decide +kernel
theorem dX4_tick_80 : decode cX4_tick 80 = .ok (.getfield 39, 3) := by decide +kernel
theorem dX4_tick_83 : decode cX4_tick 83 = .ok (.ireturn, 1) := by decide +kernel
theorem dX4_key_0 : decode cX4_key 0 = .ok (.aload_n 0, 1) := by decide +kernel
theorem dX4_key_1 : decode cX4_key 1 = .ok (.getfield 12, 3) := by decide +kernel
theorem dX4_key_4 : decode cX4_key 4 = .ok (.iload_n 1, 1) := by decide +kernel
theorem dX4_key_5 : decode cX4_key 5 = .ok (.invokevirtual 96, 3) := by decide +kernel
theorem dX4_key_8 : decode cX4_key 8 = .ok (.ifCond .ne 5, 3) := by decide +kernel
theorem dX4_key_11 : decode cX4_key 11 = .ok (.iconst (-1), 1) := by decide +kernel
theorem dX4_key_12 : decode cX4_key 12 = .ok (.ireturn, 1) := by decide +kernel
theorem dX4_key_13 : decode cX4_key 13 = .ok (.iload_n 2, 1) := by decide +kernel
theorem dX4_key_14 : decode cX4_key 14 = .ok (.tableswitch 140 0 7 #[46, 56, 63, 83, 92, 104, 116, 128], 46) := by decide +kernel
theorem dX4_key_60 : decode cX4_key 60 = .ok (.aload_n 0, 1) := by decide +kernel
theorem dX4_key_61 : decode cX4_key 61 = .ok (.getfield 12, 3) := by decide +kernel
theorem dX4_key_64 : decode cX4_key 64 = .ok (.getfield 100, 3) := by decide +kernel
theorem dX4_key_67 : decode cX4_key 67 = .ok (.iload_n 1, 1) := by decide +kernel
theorem dX4_key_68 : decode cX4_key 68 = .ok (.iaload, 1) := by decide +kernel
theorem dX4_key_69 : decode cX4_key 69 = .ok (.ireturn, 1) := by decide +kernel
theorem dX4_key_70 : decode cX4_key 70 = .ok (.aload_n 0, 1) := by decide +kernel
theorem dX4_key_71 : decode cX4_key 71 = .ok (.getfield 32, 3) := by decide +kernel
theorem dX4_key_74 : decode cX4_key 74 = .ok (.iload_n 1, 1) := by decide +kernel
theorem dX4_key_75 : decode cX4_key 75 = .ok (.iaload, 1) := by decide +kernel
theorem dX4_key_76 : decode cX4_key 76 = .ok (.ireturn, 1) := by decide +kernel
theorem dX4_key_77 : decode cX4_key 77 = .ok (.aload_n 0, 1) := by decide +kernel
theorem dX4_key_78 : decode cX4_key 78 = .ok (.getfield 32, 3) := by decide +kernel
theorem dX4_key_81 : decode cX4_key 81 = .ok (.iload_n 1, 1) := by decide +kernel
theorem dX4_key_82 : decode cX4_key 82 = .ok (.iaload, 1) := by decide +kernel
theorem dX4_key_83 : decode cX4_key 83 = .ok (.ifCond .ne 7, 3) := by decide +kernel
theorem dX4_key_86 : decode cX4_key 86 = .ok (.iconst 0, 1) := by decide +kernel
theorem dX4_key_87 : decode cX4_key 87 = .ok (.goto 9, 3) := by decide +kernel
theorem dX4_key_90 : decode cX4_key 90 = .ok (.aload_n 0, 1) := by decide +kernel
theorem dX4_key_91 : decode cX4_key 91 = .ok (.getfield 36, 3) := by decide +kernel
theorem dX4_key_94 : decode cX4_key 94 = .ok (.iload_n 1, 1) := by decide +kernel
theorem dX4_key_95 : decode cX4_key 95 = .ok (.iaload, 1) := by decide +kernel
theorem dX4_key_96 : decode cX4_key 96 = .ok (.ireturn, 1) := by decide +kernel
theorem dX4_key_97 : decode cX4_key 97 = .ok (.aload_n 0, 1) := by decide +kernel
theorem dX4_key_98 : decode cX4_key 98 = .ok (.getfield 28, 3) := by decide +kernel
theorem dX4_key_101 : decode cX4_key 101 = .ok (.iload_n 1, 1) := by decide +kernel
theorem dX4_key_102 : decode cX4_key 102 = .ok (.invokevirtual 135, 3) := by decide +kernel
theorem dX4_key_105 : decode cX4_key 105 = .ok (.ireturn, 1) := by decide +kernel
theorem dX4_key_106 : decode cX4_key 106 = .ok (.aload_n 0, 1) := by decide +kernel
theorem dX4_key_107 : decode cX4_key 107 = .ok (.getfield 12, 3) := by decide +kernel
theorem dX4_key_110 : decode cX4_key 110 = .ok (.iload_n 1, 1) := by decide +kernel
theorem dX4_key_111 : decode cX4_key 111 = .ok (.invokevirtual 139, 3) := by decide +kernel
theorem dX4_key_114 : decode cX4_key 114 = .ok (.invokestatic 83, 3) := by decide +kernel
theorem dX4_key_117 : decode cX4_key 117 = .ok (.ireturn, 1) := by decide +kernel
theorem dX4_key_118 : decode cX4_key 118 = .ok (.aload_n 0, 1) := by decide +kernel
theorem dX4_key_119 : decode cX4_key 119 = .ok (.getfield 12, 3) := by decide +kernel
theorem dX4_key_122 : decode cX4_key 122 = .ok (.iload_n 1, 1) := by decide +kernel
theorem dX4_key_123 : decode cX4_key 123 = .ok (.invokevirtual 142, 3) := by decide +kernel
theorem dX4_key_126 : decode cX4_key 126 = .ok (.invokestatic 83, 3) := by decide +kernel
theorem dX4_key_129 : decode cX4_key 129 = .ok (.ireturn, 1) := by decide +kernel
theorem dX4_key_130 : decode cX4_key 130 = .ok (.aload_n 0, 1) := by decide +kernel
theorem dX4_key_131 : decode cX4_key 131 = .ok (.getfield 12, 3) := by decide +kernel
theorem dX4_key_134 : decode cX4_key 134 = .ok (.iload_n 1, 1) := by decide +kernel
theorem dX4_key_135 : decode cX4_key 135 = .ok (.invokevirtual 145, 3) := by decide +kernel
theorem dX4_key_138 : decode cX4_key 138 = .ok (.invokestatic 83, 3) := by decide +kernel
theorem dX4_key_141 : decode cX4_key 141 = .ok (.ireturn, 1) := by decide +kernel
theorem dX4_key_142 : decode cX4_key 142 = .ok (.aload_n 0, 1) := by decide +kernel
theorem dX4_key_143 : decode cX4_key 143 = .ok (.getfield 12, 3) := by decide +kernel
theorem dX4_key_146 : decode cX4_key 146 = .ok (.iload_n 1, 1) := by decide +kernel
theorem dX4_key_147 : decode cX4_key 147 = .ok (.invokevirtual 148, 3) := by decide +kernel
theorem dX4_key_150 : decode cX4_key 150 = .ok (.invokestatic 83, 3) := by decide +kernel
theorem dX4_key_153 : decode cX4_key 153 = .ok (.ireturn, 1) := by decide +kernel
theorem dX4_key_154 : decode cX4_key 154 = .ok (.bipush (-2), 2) := by decide +kernel
theorem dX4_key_156 : decode cX4_key 156 = .ok (.ireturn, 1) := by decide +kernel
theorem dX4_voice_0 : decode cX4_voice 0 = .ok (.iload_n 1, 1) := by decide +kernel
theorem dX4_voice_1 : decode cX4_voice 1 = .ok (.ifCond .lt 14, 3) := by decide +kernel
theorem dX4_voice_4 : decode cX4_voice 4 = .ok (.iload_n 1, 1) := by decide +kernel
theorem dX4_voice_5 : decode cX4_voice 5 = .ok (.aload_n 0, 1) := by decide +kernel
theorem dX4_voice_6 : decode cX4_voice 6 = .ok (.getfield 28, 3) := by decide +kernel
theorem dX4_voice_9 : decode cX4_voice 9 = .ok (.getfield 87, 3) := by decide +kernel
theorem dX4_voice_12 : decode cX4_voice 12 = .ok (.if_icmp .lt 5, 3) := by decide +kernel
theorem dX4_voice_15 : decode cX4_voice 15 = .ok (.iconst (-1), 1) := by decide +kernel
theorem dX4_voice_16 : decode cX4_voice 16 = .ok (.ireturn, 1) := by decide +kernel
theorem dX4_voice_17 : decode cX4_voice 17 = .ok (.aload_n 0, 1) := by decide +kernel
theorem dX4_voice_18 : decode cX4_voice 18 = .ok (.getfield 28, 3) := by decide +kernel
theorem dX4_voice_21 : decode cX4_voice 21 = .ok (.getfield 151, 3) := by decide +kernel
theorem dX4_voice_24 : decode cX4_voice 24 = .ok (.iload_n 1, 1) := by decide +kernel
theorem dX4_voice_25 : decode cX4_voice 25 = .ok (.iaload, 1) := by decide +kernel
theorem dX4_voice_26 : decode cX4_voice 26 = .ok (.ifCond .ne 7, 3) := by decide +kernel
theorem dX4_voice_29 : decode cX4_voice 29 = .ok (.iconst 1, 1) := by decide +kernel
theorem dX4_voice_30 : decode cX4_voice 30 = .ok (.goto 4, 3) := by decide +kernel
theorem dX4_voice_33 : decode cX4_voice 33 = .ok (.iconst 0, 1) := by decide +kernel
theorem dX4_voice_34 : decode cX4_voice 34 = .ok (.istore_n 3, 1) := by decide +kernel
theorem dX4_voice_35 : decode cX4_voice 35 = .ok (.iload_n 2, 1) := by decide +kernel
theorem dX4_voice_36 : decode cX4_voice 36 = .ok (.tableswitch 116 0 4 #[36, 46, 65, 84, 103], 36) := by decide +kernel
theorem dX4_voice_72 : decode cX4_voice 72 = .ok (.aload_n 0, 1) := by decide +kernel
theorem dX4_voice_73 : decode cX4_voice 73 = .ok (.getfield 28, 3) := by decide +kernel
theorem dX4_voice_76 : decode cX4_voice 76 = .ok (.getfield 151, 3) := by decide +kernel
theorem dX4_voice_79 : decode cX4_voice 79 = .ok (.iload_n 1, 1) := by decide +kernel
theorem dX4_voice_80 : decode cX4_voice 80 = .ok (.iaload, 1) := by decide +kernel
theorem dX4_voice_81 : decode cX4_voice 81 = .ok (.ireturn, 1) := by decide +kernel
theorem dX4_voice_82 : decode cX4_voice 82 = .ok (.iload_n 3, 1) := by decide +kernel
theorem dX4_voice_83 : decode cX4_voice 83 = .ok (.ifCond .eq 8, 3) := by decide +kernel
theorem dX4_voice_86 : decode cX4_voice 86 = .ok (.bipush (-3), 2) := by decide +kernel
theorem dX4_voice_88 : decode cX4_voice 88 = .ok (.goto 12, 3) := by decide +kernel
theorem dX4_voice_91 : decode cX4_voice 91 = .ok (.aload_n 0, 1) := by decide +kernel
theorem dX4_voice_92 : decode cX4_voice 92 = .ok (.getfield 28, 3) := by decide +kernel
theorem dX4_voice_95 : decode cX4_voice 95 = .ok (.getfield 154, 3) := by decide +kernel
theorem dX4_voice_98 : decode cX4_voice 98 = .ok (.iload_n 1, 1) := by decide +kernel
theorem dX4_voice_99 : decode cX4_voice 99 = .ok (.iaload, 1) := by decide +kernel
theorem dX4_voice_100 : decode cX4_voice 100 = .ok (.ireturn, 1) := by decide +kernel
theorem dX4_voice_101 : decode cX4_voice 101 = .ok (.iload_n 3, 1) := by decide +kernel
theorem dX4_voice_102 : decode cX4_voice 102 = .ok (.ifCond .eq 8, 3) := by decide +kernel
theorem dX4_voice_105 : decode cX4_voice 105 = .ok (.bipush (-3), 2) := by decide +kernel
theorem dX4_voice_107 : decode cX4_voice 107 = .ok (.goto 12, 3) := by decide +kernel
theorem dX4_voice_110 : decode cX4_voice 110 = .ok (.aload_n 0, 1) := by decide +kernel
theorem dX4_voice_111 : decode cX4_voice 111 = .ok (.getfield 28, 3) := by decide +kernel
theorem dX4_voice_114 : decode cX4_voice 114 = .ok (.getfield 157, 3) := by decide +kernel
theorem dX4_voice_117 : decode cX4_voice 117 = .ok (.iload_n 1, 1) := by decide +kernel
theorem dX4_voice_118 : decode cX4_voice 118 = .ok (.iaload, 1) := by decide +kernel
theorem dX4_voice_119 : decode cX4_voice 119 = .ok (.ireturn, 1) := by decide +kernel
theorem dX4_voice_120 : decode cX4_voice 120 = .ok (.iload_n 3, 1) := by decide +kernel
theorem dX4_voice_121 : decode cX4_voice 121 = .ok (.ifCond .eq 8, 3) := by decide +kernel
theorem dX4_voice_124 : decode cX4_voice 124 = .ok (.bipush (-3), 2) := by decide +kernel
theorem dX4_voice_126 : decode cX4_voice 126 = .ok (.goto 12, 3) := by decide +kernel
theorem dX4_voice_129 : decode cX4_voice 129 = .ok (.aload_n 0, 1) := by decide +kernel
theorem dX4_voice_130 : decode cX4_voice 130 = .ok (.getfield 28, 3) := by decide +kernel
theorem dX4_voice_133 : decode cX4_voice 133 = .ok (.getfield 160, 3) := by decide +kernel
theorem dX4_voice_136 : decode cX4_voice 136 = .ok (.iload_n 1, 1) := by decide +kernel
theorem dX4_voice_137 : decode cX4_voice 137 = .ok (.iaload, 1) := by decide +kernel
theorem dX4_voice_138 : decode cX4_voice 138 = .ok (.ireturn, 1) := by decide +kernel
theorem dX4_voice_139 : decode cX4_voice 139 = .ok (.aload_n 0, 1) := by decide +kernel
theorem dX4_voice_140 : decode cX4_voice 140 = .ok (.getfield 28, 3) := by decide +kernel
theorem dX4_voice_143 : decode cX4_voice 143 = .ok (.getfield 163, 3) := by decide +kernel
theorem dX4_voice_146 : decode cX4_voice 146 = .ok (.iload_n 1, 1) := by decide +kernel
theorem dX4_voice_147 : decode cX4_voice 147 = .ok (.baload, 1) := by decide +kernel
theorem dX4_voice_148 : decode cX4_voice 148 = .ok (.invokestatic 83, 3) := by decide +kernel
theorem dX4_voice_151 : decode cX4_voice 151 = .ok (.ireturn, 1) := by decide +kernel
theorem dX4_voice_152 : decode cX4_voice 152 = .ok (.bipush (-2), 2) := by decide +kernel
theorem dX4_voice_154 : decode cX4_voice 154 = .ok (.ireturn, 1) := by decide +kernel
theorem dX4_count_0 : decode cX4_count 0 = .ok (.iload_n 1, 1) := by decide +kernel
theorem dX4_count_1 : decode cX4_count 1 = .ok (.tableswitch 160 0 11 #[63, 68, 76, 84, 92, 100, 108, 125, 134, 142, 147, 152], 63) := by decide +kernel
theorem dX4_count_64 : decode cX4_count 64 = .ok (.aload_n 0, 1) := by decide +kernel
theorem dX4_count_65 : decode cX4_count 65 = .ok (.getfield 39, 3) := by decide +kernel
theorem dX4_count_68 : decode cX4_count 68 = .ok (.ireturn, 1) := by decide +kernel
theorem dX4_count_69 : decode cX4_count 69 = .ok (.aload_n 0, 1) := by decide +kernel
theorem dX4_count_70 : decode cX4_count 70 = .ok (.getfield 12, 3) := by decide +kernel
theorem dX4_count_73 : decode cX4_count 73 = .ok (.invokevirtual 73, 3) := by decide +kernel
theorem dX4_count_76 : decode cX4_count 76 = .ok (.ireturn, 1) := by decide +kernel
theorem dX4_count_77 : decode cX4_count 77 = .ok (.aload_n 0, 1) := by decide +kernel
theorem dX4_count_78 : decode cX4_count 78 = .ok (.getfield 12, 3) := by decide +kernel
theorem dX4_count_81 : decode cX4_count 81 = .ok (.invokevirtual 106, 3) := by decide +kernel
theorem dX4_count_84 : decode cX4_count 84 = .ok (.ireturn, 1) := by decide +kernel
theorem dX4_count_85 : decode cX4_count 85 = .ok (.aload_n 0, 1) := by decide +kernel
theorem dX4_count_86 : decode cX4_count 86 = .ok (.getfield 12, 3) := by decide +kernel
theorem dX4_count_89 : decode cX4_count 89 = .ok (.invokevirtual 80, 3) := by decide +kernel
theorem dX4_count_92 : decode cX4_count 92 = .ok (.ireturn, 1) := by decide +kernel
theorem dX4_count_93 : decode cX4_count 93 = .ok (.aload_n 0, 1) := by decide +kernel
theorem dX4_count_94 : decode cX4_count 94 = .ok (.getfield 12, 3) := by decide +kernel
theorem dX4_count_97 : decode cX4_count 97 = .ok (.invokevirtual 167, 3) := by decide +kernel
theorem dX4_count_100 : decode cX4_count 100 = .ok (.ireturn, 1) := by decide +kernel
theorem dX4_count_101 : decode cX4_count 101 = .ok (.aload_n 0, 1) := by decide +kernel
theorem dX4_count_102 : decode cX4_count 102 = .ok (.getfield 28, 3) := by decide +kernel
theorem dX4_count_105 : decode cX4_count 105 = .ok (.getfield 87, 3) := by decide +kernel
theorem dX4_count_108 : decode cX4_count 108 = .ok (.ireturn, 1) := by decide +kernel
theorem dX4_count_109 : decode cX4_count 109 = .ok (.aload_n 0, 1) := by decide +kernel
theorem dX4_count_110 : decode cX4_count 110 = .ok (.getfield 28, 3) := by decide +kernel
theorem dX4_count_113 : decode cX4_count 113 = .ok (.getfield 87, 3) := by decide +kernel
theorem dX4_count_116 : decode cX4_count 116 = .ok (.aload_n 0, 1) := by decide +kernel
theorem dX4_count_117 : decode cX4_count 117 = .ok (.getfield 28, 3) := by decide +kernel
theorem dX4_count_120 : decode cX4_count 120 = .ok (.iconst 0, 1) := by decide +kernel
theorem dX4_count_121 : decode cX4_count 121 = .ok (.invokevirtual 170, 3) := by decide +kernel
theorem dX4_count_124 : decode cX4_count 124 = .ok (.isub, 1) := by decide +kernel
theorem dX4_count_125 : decode cX4_count 125 = .ok (.ireturn, 1) := by decide +kernel
theorem dX4_count_126 : decode cX4_count 126 = .ok (.aload_n 0, 1) := by decide +kernel
theorem dX4_count_127 : decode cX4_count 127 = .ok (.getfield 28, 3) := by decide +kernel
theorem dX4_count_130 : decode cX4_count 130 = .ok (.iconst 2, 1) := by decide +kernel
theorem dX4_count_131 : decode cX4_count 131 = .ok (.invokevirtual 170, 3) := by decide +kernel
theorem dX4_count_134 : decode cX4_count 134 = .ok (.ireturn, 1) := by decide +kernel
theorem dX4_count_135 : decode cX4_count 135 = .ok (.aload_n 0, 1) := by decide +kernel
theorem dX4_count_136 : decode cX4_count 136 = .ok (.getfield 19, 3) := by decide +kernel
theorem dX4_count_139 : decode cX4_count 139 = .ok (.getfield 173, 3) := by decide +kernel
theorem dX4_count_142 : decode cX4_count 142 = .ok (.ireturn, 1) := by decide +kernel
theorem dX4_count_143 : decode cX4_count 143 = .ok (.aload_n 0, 1) := by decide +kernel
theorem dX4_count_144 : decode cX4_count 144 = .ok (.getfield 53, 3) := by decide +kernel
theorem dX4_count_147 : decode cX4_count 147 = .ok (.ireturn, 1) := by decide +kernel
theorem dX4_count_148 : decode cX4_count 148 = .ok (.aload_n 0, 1) := by decide +kernel
theorem dX4_count_149 : decode cX4_count 149 = .ok (.getfield 56, 3) := by decide +kernel
theorem dX4_count_152 : decode cX4_count 152 = .ok (.ireturn, 1) := by decide +kernel
theorem dX4_count_153 : decode cX4_count 153 = .ok (.aload_n 0, 1) := by decide +kernel
theorem dX4_count_154 : decode cX4_count 154 = .ok (.getfield 28, 3) := by decide +kernel
theorem dX4_count_157 : decode cX4_count 157 = .ok (.getfield 176, 3) := by decide +kernel
theorem dX4_count_160 : decode cX4_count 160 = .ok (.ireturn, 1) := by decide +kernel
theorem dX4_count_161 : decode cX4_count 161 = .ok (.bipush (-2), 2) := by decide +kernel
theorem dX4_count_163 : decode cX4_count 163 = .ok (.ireturn, 1) := by decide +kernel
theorem dX4_log_0 : decode cX4_log 0 = .ok (.iload_n 1, 1) := by decide +kernel
theorem dX4_log_1 : decode cX4_log 1 = .ok (.ifCond .lt 12, 3) := by decide +kernel
theorem dX4_log_4 : decode cX4_log 4 = .ok (.iload_n 2, 1) := by decide +kernel
theorem dX4_log_5 : decode cX4_log 5 = .ok (.iconst 0, 1) := by decide +kernel
theorem dX4_log_6 : decode cX4_log 6 = .ok (.iconst 2, 1) := by decide +kernel
theorem dX4_log_7 : decode cX4_log 7 = .ok (.invokestatic 59, 3) := by decide +kernel
theorem dX4_log_10 : decode cX4_log 10 = .ok (.ifCond .ne 6, 3) := by decide +kernel
theorem dX4_log_13 : decode cX4_log 13 = .ok (.bipush (-2), 2) := by decide +kernel
theorem dX4_log_15 : decode cX4_log 15 = .ok (.ireturn, 1) := by decide +kernel
theorem dX4_log_16 : decode cX4_log 16 = .ok (.iload_n 1, 1) := by decide +kernel
theorem dX4_log_17 : decode cX4_log 17 = .ok (.aload_n 0, 1) := by decide +kernel
theorem dX4_log_18 : decode cX4_log 18 = .ok (.getfield 19, 3) := by decide +kernel
theorem dX4_log_21 : decode cX4_log 21 = .ok (.invokevirtual 179, 3) := by decide +kernel
theorem dX4_log_24 : decode cX4_log 24 = .ok (.if_icmp .lt 6, 3) := by decide +kernel
theorem dX4_log_27 : decode cX4_log 27 = .ok (.bipush (-3), 2) := by decide +kernel
theorem dX4_log_29 : decode cX4_log 29 = .ok (.ireturn, 1) := by decide +kernel
theorem dX4_log_30 : decode cX4_log 30 = .ok (.aload_n 0, 1) := by decide +kernel
theorem dX4_log_31 : decode cX4_log 31 = .ok (.getfield 19, 3) := by decide +kernel
theorem dX4_log_34 : decode cX4_log 34 = .ok (.iload_n 1, 1) := by decide +kernel
theorem dX4_log_35 : decode cX4_log 35 = .ok (.invokevirtual 180, 3) := by decide +kernel
theorem dX4_log_38 : decode cX4_log 38 = .ok (.istore_n 3, 1) := by decide +kernel
theorem dX4_log_39 : decode cX4_log 39 = .ok (.iload_n 2, 1) := by decide +kernel
theorem dX4_log_40 : decode cX4_log 40 = .ok (.lookupswitch 48 #[(0, 28), (1, 38)], 28) := by decide +kernel
theorem dX4_log_68 : decode cX4_log 68 = .ok (.aload_n 0, 1) := by decide +kernel
theorem dX4_log_69 : decode cX4_log 69 = .ok (.getfield 19, 3) := by decide +kernel
theorem dX4_log_72 : decode cX4_log 72 = .ok (.getfield 183, 3) := by decide +kernel
theorem dX4_log_75 : decode cX4_log 75 = .ok (.iload_n 3, 1) := by decide +kernel
theorem dX4_log_76 : decode cX4_log 76 = .ok (.iaload, 1) := by decide +kernel
theorem dX4_log_77 : decode cX4_log 77 = .ok (.ireturn, 1) := by decide +kernel
theorem dX4_log_78 : decode cX4_log 78 = .ok (.aload_n 0, 1) := by decide +kernel
theorem dX4_log_79 : decode cX4_log 79 = .ok (.getfield 19, 3) := by decide +kernel
theorem dX4_log_82 : decode cX4_log 82 = .ok (.getfield 186, 3) := by decide +kernel
theorem dX4_log_85 : decode cX4_log 85 = .ok (.iload_n 3, 1) := by decide +kernel
theorem dX4_log_86 : decode cX4_log 86 = .ok (.iaload, 1) := by decide +kernel
theorem dX4_log_87 : decode cX4_log 87 = .ok (.ireturn, 1) := by decide +kernel
theorem dX4_log_88 : decode cX4_log 88 = .ok (.aload_n 0, 1) := by decide +kernel
theorem dX4_log_89 : decode cX4_log 89 = .ok (.getfield 19, 3) := by decide +kernel
theorem dX4_log_92 : decode cX4_log 92 = .ok (.getfield 189, 3) := by decide +kernel
theorem dX4_log_95 : decode cX4_log 95 = .ok (.iload_n 3, 1) := by decide +kernel
theorem dX4_log_96 : decode cX4_log 96 = .ok (.iaload, 1) := by decide +kernel
theorem dX4_log_97 : decode cX4_log 97 = .ok (.ireturn, 1) := by decide +kernel
theorem dX4_velocity_0 : decode cX4_velocity 0 = .ok (.iload_n 1, 1) := by decide +kernel
theorem dX4_velocity_1 : decode cX4_velocity 1 = .ok (.iconst 0, 1) := by decide +kernel
theorem dX4_velocity_2 : decode cX4_velocity 2 = .ok (.sipush 1000, 3) := by decide +kernel
theorem dX4_velocity_5 : decode cX4_velocity 5 = .ok (.invokestatic 59, 3) := by decide +kernel
theorem dX4_velocity_8 : decode cX4_velocity 8 = .ok (.ifCond .eq 11, 3) := by decide +kernel
theorem dX4_velocity_11 : decode cX4_velocity 11 = .ok (.aload_n 0, 1) := by decide +kernel
theorem dX4_velocity_12 : decode cX4_velocity 12 = .ok (.iload_n 1, 1) := by decide +kernel
theorem dX4_velocity_13 : decode cX4_velocity 13 = .ok (.invokevirtual 190, 3) := by decide +kernel
theorem dX4_velocity_16 : decode cX4_velocity 16 = .ok (.goto 5, 3) := by decide +kernel
theorem dX4_velocity_19 : decode cX4_velocity 19 = .ok (.bipush (-2), 2) := by decide +kernel
theorem dX4_velocity_21 : decode cX4_velocity 21 = .ok (.ireturn, 1) := by decide +kernel
theorem dX4_nextTaken_0 : decode cX4_nextTaken 0 = .ok (.aload_n 0, 1) := by decide +kernel
theorem dX4_nextTaken_1 : decode cX4_nextTaken 1 = .ok (.getfield 28, 3) := by decide +kernel
theorem dX4_nextTaken_4 : decode cX4_nextTaken 4 = .ok (.invokevirtual 193, 3) := by decide +kernel
theorem dX4_nextTaken_7 : decode cX4_nextTaken 7 = .ok (.bipush (-3), 2) := by decide +kernel
theorem dX4_nextTaken_9 : decode cX4_nextTaken 9 = .ok (.if_icmp .ne 13, 3) := by decide +kernel
theorem dX4_nextTaken_12 : decode cX4_nextTaken 12 = .ok (.aload_n 0, 1) := by decide +kernel
theorem dX4_nextTaken_13 : decode cX4_nextTaken 13 = .ok (.getfield 28, 3) := by decide +kernel
theorem dX4_nextTaken_16 : decode cX4_nextTaken 16 = .ok (.invokevirtual 196, 3) := by decide +kernel
theorem dX4_nextTaken_19 : decode cX4_nextTaken 19 = .ok (.goto 5, 3) := by decide +kernel
theorem dX4_nextTaken_22 : decode cX4_nextTaken 22 = .ok (.bipush (-3), 2) := by decide +kernel
theorem dX4_nextTaken_24 : decode cX4_nextTaken 24 = .ok (.ireturn, 1) := by decide +kernel
theorem dX4_connected_0 : decode cX4_connected 0 = .ok (.iload_n 1, 1) := by decide +kernel
theorem dX4_connected_1 : decode cX4_connected 1 = .ok (.ifCond .lt 14, 3) := by decide +kernel
theorem dX4_connected_4 : decode cX4_connected 4 = .ok (.iload_n 1, 1) := by decide +kernel
theorem dX4_connected_5 : decode cX4_connected 5 = .ok (.aload_n 0, 1) := by decide +kernel
theorem dX4_connected_6 : decode cX4_connected 6 = .ok (.getfield 12, 3) := by decide +kernel
theorem dX4_connected_9 : decode cX4_connected 9 = .ok (.getfield 119, 3) := by decide +kernel
theorem dX4_connected_12 : decode cX4_connected 12 = .ok (.if_icmp .lt 6, 3) := by decide +kernel
theorem dX4_connected_15 : decode cX4_connected 15 = .ok (.bipush (-2), 2) := by decide +kernel
theorem dX4_connected_17 : decode cX4_connected 17 = .ok (.ireturn, 1) := by decide +kernel
theorem dX4_connected_18 : decode cX4_connected 18 = .ok (.aload_n 0, 1) := by decide +kernel
theorem dX4_connected_19 : decode cX4_connected 19 = .ok (.getfield 12, 3) := by decide +kernel
theorem dX4_connected_22 : decode cX4_connected 22 = .ok (.getfield 199, 3) := by decide +kernel
theorem dX4_connected_25 : decode cX4_connected 25 = .ok (.iload_n 1, 1) := by decide +kernel
theorem dX4_connected_26 : decode cX4_connected 26 = .ok (.invokevirtual 203, 3) := by decide +kernel
theorem dX4_connected_29 : decode cX4_connected 29 = .ok (.aload_n 0, 1) := by decide +kernel
theorem dX4_connected_30 : decode cX4_connected 30 = .ok (.getfield 12, 3) := by decide +kernel
theorem dX4_connected_33 : decode cX4_connected 33 = .ok (.getfield 199, 3) := by decide +kernel
theorem dX4_connected_36 : decode cX4_connected 36 = .ok (.getfield 208, 3) := by decide +kernel
theorem dX4_connected_39 : decode cX4_connected 39 = .ok (.iload_n 1, 1) := by decide +kernel
theorem dX4_connected_40 : decode cX4_connected 40 = .ok (.iaload, 1) := by decide +kernel
theorem dX4_connected_41 : decode cX4_connected 41 = .ok (.bipush 8, 2) := by decide +kernel
theorem dX4_connected_43 : decode cX4_connected 43 = .ok (.ishl, 1) := by decide +kernel
theorem dX4_connected_44 : decode cX4_connected 44 = .ok (.ior, 1) := by decide +kernel
theorem dX4_connected_45 : decode cX4_connected 45 = .ok (.ireturn, 1) := by decide +kernel
theorem dX4_worstKey_0 : decode cX4_worstKey 0 = .ok (.bipush (-3), 2) := by decide +kernel
theorem dX4_worstKey_2 : decode cX4_worstKey 2 = .ok (.istore_n 1, 1) := by decide +kernel
theorem dX4_worstKey_3 : decode cX4_worstKey 3 = .ok (.aload_n 0, 1) := by decide +kernel
theorem dX4_worstKey_4 : decode cX4_worstKey 4 = .ok (.getfield 12, 3) := by decide +kernel
theorem dX4_worstKey_7 : decode cX4_worstKey 7 = .ok (.invokevirtual 80, 3) := by decide +kernel
theorem dX4_worstKey_10 : decode cX4_worstKey 10 = .ok (.istore_n 2, 1) := by decide +kernel
theorem dX4_worstKey_11 : decode cX4_worstKey 11 = .ok (.iconst 0, 1) := by decide +kernel
theorem dX4_worstKey_12 : decode cX4_worstKey 12 = .ok (.istore_n 3, 1) := by decide +kernel
theorem dX4_worstKey_13 : decode cX4_worstKey 13 = .ok (.iload_n 3, 1) := by decide +kernel
theorem dX4_worstKey_14 : decode cX4_worstKey 14 = .ok (.aload_n 0, 1) := by decide +kernel
theorem dX4_worstKey_15 : decode cX4_worstKey 15 = .ok (.getfield 12, 3) := by decide +kernel
theorem dX4_worstKey_18 : decode cX4_worstKey 18 = .ok (.invokevirtual 73, 3) := by decide +kernel
theorem dX4_worstKey_21 : decode cX4_worstKey 21 = .ok (.if_icmp .ge 46, 3) := by decide +kernel
theorem dX4_worstKey_24 : decode cX4_worstKey 24 = .ok (.iload_n 2, 1) := by decide +kernel
theorem dX4_worstKey_25 : decode cX4_worstKey 25 = .ok (.ifCond .le 42, 3) := by decide +kernel
theorem dX4_worstKey_28 : decode cX4_worstKey 28 = .ok (.aload_n 0, 1) := by decide +kernel
theorem dX4_worstKey_29 : decode cX4_worstKey 29 = .ok (.getfield 12, 3) := by decide +kernel
theorem dX4_worstKey_32 : decode cX4_worstKey 32 = .ok (.getfield 100, 3) := by decide +kernel
theorem dX4_worstKey_35 : decode cX4_worstKey 35 = .ok (.iload_n 3, 1) := by decide +kernel
theorem dX4_worstKey_36 : decode cX4_worstKey 36 = .ok (.iaload, 1) := by decide +kernel
theorem dX4_worstKey_37 : decode cX4_worstKey 37 = .ok (.ifCond .eq 24, 3) := by decide +kernel
theorem dX4_worstKey_40 : decode cX4_worstKey 40 = .ok (.aload_n 0, 1) := by decide +kernel
theorem dX4_worstKey_41 : decode cX4_worstKey 41 = .ok (.getfield 12, 3) := by decide +kernel
theorem dX4_worstKey_44 : decode cX4_worstKey 44 = .ok (.iload_n 3, 1) := by decide +kernel
theorem dX4_worstKey_45 : decode cX4_worstKey 45 = .ok (.invokevirtual 211, 3) := by decide +kernel
theorem dX4_worstKey_48 : decode cX4_worstKey 48 = .ok (.istore 4, 2) := by decide +kernel
theorem dX4_worstKey_50 : decode cX4_worstKey 50 = .ok (.iload 4, 2) := by decide +kernel
theorem dX4_worstKey_52 : decode cX4_worstKey 52 = .ok (.iload_n 2, 1) := by decide +kernel
theorem dX4_worstKey_53 : decode cX4_worstKey 53 = .ok (.if_icmp .ge 8, 3) := by decide +kernel
theorem dX4_worstKey_56 : decode cX4_worstKey 56 = .ok (.iload 4, 2) := by decide +kernel
theorem dX4_worstKey_58 : decode cX4_worstKey 58 = .ok (.istore_n 2, 1) := by decide +kernel
theorem dX4_worstKey_59 : decode cX4_worstKey 59 = .ok (.iload_n 3, 1) := by decide +kernel
theorem dX4_worstKey_60 : decode cX4_worstKey 60 = .ok (.istore_n 1, 1) := by decide +kernel
theorem dX4_worstKey_61 : decode cX4_worstKey 61 = .ok (.iinc 3 1, 3) := by decide +kernel
theorem dX4_worstKey_64 : decode cX4_worstKey 64 = .ok (.goto (-51), 3) := by decide +kernel
theorem dX4_worstKey_67 : decode cX4_worstKey 67 = .ok (.iload_n 1, 1) := by decide +kernel
theorem dX4_worstKey_68 : decode cX4_worstKey 68 = .ok (.ireturn, 1) := by decide +kernel
theorem dX4_restAfter_0 : decode cX4_restAfter 0 = .ok (.iload_n 1, 1) := by decide +kernel
theorem dX4_restAfter_1 : decode cX4_restAfter 1 = .ok (.iconst 1, 1) := by decide +kernel
theorem dX4_restAfter_2 : decode cX4_restAfter 2 = .ok (.sipush 1000, 3) := by decide +kernel
theorem dX4_restAfter_5 : decode cX4_restAfter 5 = .ok (.invokestatic 59, 3) := by decide +kernel
theorem dX4_restAfter_8 : decode cX4_restAfter 8 = .ok (.ifCond .ne 6, 3) := by decide +kernel
theorem dX4_restAfter_11 : decode cX4_restAfter 11 = .ok (.bipush (-2), 2) := by decide +kernel
theorem dX4_restAfter_13 : decode cX4_restAfter 13 = .ok (.ireturn, 1) := by decide +kernel
theorem dX4_restAfter_14 : decode cX4_restAfter 14 = .ok (.iload_n 1, 1) := by decide +kernel
theorem dX4_restAfter_15 : decode cX4_restAfter 15 = .ok (.aload_n 0, 1) := by decide +kernel
theorem dX4_restAfter_16 : decode cX4_restAfter 16 = .ok (.getfield 12, 3) := by decide +kernel
theorem dX4_restAfter_19 : decode cX4_restAfter 19 = .ok (.getfield 119, 3) := by decide +kernel
theorem dX4_restAfter_22 : decode cX4_restAfter 22 = .ok (.invokestatic 122, 3) := by decide +kernel
theorem dX4_restAfter_25 : decode cX4_restAfter 25 = .ok (.istore_n 2, 1) := by decide +kernel
theorem dX4_restAfter_26 : decode cX4_restAfter 26 = .ok (.iconst 0, 1) := by decide +kernel
theorem dX4_restAfter_27 : decode cX4_restAfter 27 = .ok (.istore_n 3, 1) := by decide +kernel
theorem dX4_restAfter_28 : decode cX4_restAfter 28 = .ok (.iload_n 3, 1) := by decide +kernel
theorem dX4_restAfter_29 : decode cX4_restAfter 29 = .ok (.iload_n 2, 1) := by decide +kernel
theorem dX4_restAfter_30 : decode cX4_restAfter 30 = .ok (.if_icmp .gt 19, 3) := by decide +kernel
theorem dX4_restAfter_33 : decode cX4_restAfter 33 = .ok (.aload_n 0, 1) := by decide +kernel
theorem dX4_restAfter_34 : decode cX4_restAfter 34 = .ok (.iload_n 3, 1) := by decide +kernel
theorem dX4_restAfter_35 : decode cX4_restAfter 35 = .ok (.invokevirtual 214, 3) := by decide +kernel
theorem dX4_restAfter_38 : decode cX4_restAfter 38 = .ok (.ifCond .eq 5, 3) := by decide +kernel
theorem dX4_restAfter_41 : decode cX4_restAfter 41 = .ok (.iload_n 3, 1) := by decide +kernel
theorem dX4_restAfter_42 : decode cX4_restAfter 42 = .ok (.ireturn, 1) := by decide +kernel
theorem dX4_restAfter_43 : decode cX4_restAfter 43 = .ok (.iinc 3 1, 3) := by decide +kernel
theorem dX4_restAfter_46 : decode cX4_restAfter 46 = .ok (.goto (-18), 3) := by decide +kernel
theorem dX4_restAfter_49 : decode cX4_restAfter 49 = .ok (.bipush (-3), 2) := by decide +kernel
theorem dX4_restAfter_51 : decode cX4_restAfter 51 = .ok (.ireturn, 1) := by decide +kernel
theorem dX4_scanRow_0 : decode cX4_scanRow 0 = .ok (.iload_n 1, 1) := by decide +kernel
theorem dX4_scanRow_1 : decode cX4_scanRow 1 = .ok (.aload_n 0, 1) := by decide +kernel
theorem dX4_scanRow_2 : decode cX4_scanRow 2 = .ok (.getfield 12, 3) := by decide +kernel
theorem dX4_scanRow_5 : decode cX4_scanRow 5 = .ok (.getfield 217, 3) := by decide +kernel
theorem dX4_scanRow_8 : decode cX4_scanRow 8 = .ok (.imul, 1) := by decide +kernel
theorem dX4_scanRow_9 : decode cX4_scanRow 9 = .ok (.istore_n 2, 1) := by decide +kernel
theorem dX4_scanRow_10 : decode cX4_scanRow 10 = .ok (.iconst 0, 1) := by decide +kernel
theorem dX4_scanRow_11 : decode cX4_scanRow 11 = .ok (.istore_n 3, 1) := by decide +kernel
theorem dX4_scanRow_12 : decode cX4_scanRow 12 = .ok (.iload_n 3, 1) := by decide +kernel
theorem dX4_scanRow_13 : decode cX4_scanRow 13 = .ok (.aload_n 0, 1) := by decide +kernel
theorem dX4_scanRow_14 : decode cX4_scanRow 14 = .ok (.getfield 12, 3) := by decide +kernel
theorem dX4_scanRow_17 : decode cX4_scanRow 17 = .ok (.getfield 217, 3) := by decide +kernel
theorem dX4_scanRow_20 : decode cX4_scanRow 20 = .ok (.if_icmp .ge 16, 3) := by decide +kernel
theorem dX4_scanRow_23 : decode cX4_scanRow 23 = .ok (.aload_n 0, 1) := by decide +kernel
theorem dX4_scanRow_24 : decode cX4_scanRow 24 = .ok (.iload_n 2, 1) := by decide +kernel
theorem dX4_scanRow_25 : decode cX4_scanRow 25 = .ok (.iload_n 3, 1) := by decide +kernel
theorem dX4_scanRow_26 : decode cX4_scanRow 26 = .ok (.iadd, 1) := by decide +kernel
theorem dX4_scanRow_27 : decode cX4_scanRow 27 = .ok (.invokevirtual 220, 3) := by decide +kernel
theorem dX4_scanRow_30 : decode cX4_scanRow 30 = .ok (.iinc 3 1, 3) := by decide +kernel
theorem dX4_scanRow_33 : decode cX4_scanRow 33 = .ok (.goto (-21), 3) := by decide +kernel
theorem dX4_scanRow_36 : decode cX4_scanRow 36 = .ok (.return_, 1) := by decide +kernel
theorem dX4_scanKey_0 : decode cX4_scanKey 0 = .ok (.aload_n 0, 1) := by decide +kernel
theorem dX4_scanKey_1 : decode cX4_scanKey 1 = .ok (.getfield 12, 3) := by decide +kernel
theorem dX4_scanKey_4 : decode cX4_scanKey 4 = .ok (.iload_n 1, 1) := by decide +kernel
theorem dX4_scanKey_5 : decode cX4_scanKey 5 = .ok (.invokevirtual 139, 3) := by decide +kernel
theorem dX4_scanKey_8 : decode cX4_scanKey 8 = .ok (.istore_n 2, 1) := by decide +kernel
theorem dX4_scanKey_9 : decode cX4_scanKey 9 = .ok (.aload_n 0, 1) := by decide +kernel
theorem dX4_scanKey_10 : decode cX4_scanKey 10 = .ok (.getfield 12, 3) := by decide +kernel
theorem dX4_scanKey_13 : decode cX4_scanKey 13 = .ok (.iload_n 1, 1) := by decide +kernel
theorem dX4_scanKey_14 : decode cX4_scanKey 14 = .ok (.invokevirtual 142, 3) := by decide +kernel
theorem dX4_scanKey_17 : decode cX4_scanKey 17 = .ok (.istore_n 3, 1) := by decide +kernel
theorem dX4_scanKey_18 : decode cX4_scanKey 18 = .ok (.aload_n 0, 1) := by decide +kernel
theorem dX4_scanKey_19 : decode cX4_scanKey 19 = .ok (.getfield 32, 3) := by decide +kernel
theorem dX4_scanKey_22 : decode cX4_scanKey 22 = .ok (.iload_n 1, 1) := by decide +kernel
theorem dX4_scanKey_23 : decode cX4_scanKey 23 = .ok (.iaload, 1) := by decide +kernel
theorem dX4_scanKey_24 : decode cX4_scanKey 24 = .ok (.iconst 2, 1) := by decide +kernel
theorem dX4_scanKey_25 : decode cX4_scanKey 25 = .ok (.if_icmp .ne 7, 3) := by decide +kernel
theorem dX4_scanKey_28 : decode cX4_scanKey 28 = .ok (.iconst 1, 1) := by decide +kernel
theorem dX4_scanKey_29 : decode cX4_scanKey 29 = .ok (.goto 4, 3) := by decide +kernel
theorem dX4_scanKey_32 : decode cX4_scanKey 32 = .ok (.iconst 0, 1) := by decide +kernel
theorem dX4_scanKey_33 : decode cX4_scanKey 33 = .ok (.istore 4, 2) := by decide +kernel
theorem dX4_scanKey_35 : decode cX4_scanKey 35 = .ok (.aload_n 0, 1) := by decide +kernel
theorem dX4_scanKey_36 : decode cX4_scanKey 36 = .ok (.getfield 32, 3) := by decide +kernel
theorem dX4_scanKey_39 : decode cX4_scanKey 39 = .ok (.iload_n 1, 1) := by decide +kernel
theorem dX4_scanKey_40 : decode cX4_scanKey 40 = .ok (.iaload, 1) := by decide +kernel
theorem dX4_scanKey_41 : decode cX4_scanKey 41 = .ok (.ifCond .ne 13, 3) := by decide +kernel
theorem dX4_scanKey_44 : decode cX4_scanKey 44 = .ok (.iload_n 2, 1) := by decide +kernel
theorem dX4_scanKey_45 : decode cX4_scanKey 45 = .ok (.ifCond .eq 9, 3) := by decide +kernel
theorem dX4_scanKey_48 : decode cX4_scanKey 48 = .ok (.aload_n 0, 1) := by decide +kernel
theorem dX4_scanKey_49 : decode cX4_scanKey 49 = .ok (.iload_n 1, 1) := by decide +kernel
theorem dX4_scanKey_50 : decode cX4_scanKey 50 = .ok (.iconst 1, 1) := by decide +kernel
theorem dX4_scanKey_51 : decode cX4_scanKey 51 = .ok (.invokevirtual 223, 3) := by decide +kernel
theorem dX4_scanKey_54 : decode cX4_scanKey 54 = .ok (.aload_n 0, 1) := by decide +kernel
theorem dX4_scanKey_55 : decode cX4_scanKey 55 = .ok (.getfield 32, 3) := by decide +kernel
theorem dX4_scanKey_58 : decode cX4_scanKey 58 = .ok (.iload_n 1, 1) := by decide +kernel
theorem dX4_scanKey_59 : decode cX4_scanKey 59 = .ok (.iaload, 1) := by decide +kernel
theorem dX4_scanKey_60 : decode cX4_scanKey 60 = .ok (.iconst 1, 1) := by decide +kernel
theorem dX4_scanKey_61 : decode cX4_scanKey 61 = .ok (.if_icmp .ne 26, 3) := by decide +kernel
theorem dX4_scanKey_64 : decode cX4_scanKey 64 = .ok (.iload_n 3, 1) := by decide +kernel
theorem dX4_scanKey_65 : decode cX4_scanKey 65 = .ok (.ifCond .eq 11, 3) := by decide +kernel
theorem dX4_scanKey_68 : decode cX4_scanKey 68 = .ok (.aload_n 0, 1) := by decide +kernel
theorem dX4_scanKey_69 : decode cX4_scanKey 69 = .ok (.iload_n 1, 1) := by decide +kernel
theorem dX4_scanKey_70 : decode cX4_scanKey 70 = .ok (.invokevirtual 226, 3) := by decide +kernel
theorem dX4_scanKey_73 : decode cX4_scanKey 73 = .ok (.goto 14, 3) := by decide +kernel
theorem dX4_scanKey_76 : decode cX4_scanKey 76 = .ok (.iload_n 2, 1) := by decide +kernel
theorem dX4_scanKey_77 : decode cX4_scanKey 77 = .ok (.ifCond .ne 10, 3) := by decide +kernel
theorem dX4_scanKey_80 : decode cX4_scanKey 80 = .ok (.aload_n 0, 1) := by decide +kernel
theorem dX4_scanKey_81 : decode cX4_scanKey 81 = .ok (.getfield 32, 3) := by decide +kernel
theorem dX4_scanKey_84 : decode cX4_scanKey 84 = .ok (.iload_n 1, 1) := by decide +kernel
theorem dX4_scanKey_85 : decode cX4_scanKey 85 = .ok (.iconst 0, 1) := by decide +kernel
theorem dX4_scanKey_86 : decode cX4_scanKey 86 = .ok (.iastore, 1) := by decide +kernel
theorem dX4_scanKey_87 : decode cX4_scanKey 87 = .ok (.iload 4, 2) := by decide +kernel
theorem dX4_scanKey_89 : decode cX4_scanKey 89 = .ok (.ifCond .eq 32, 3) := by decide +kernel
theorem dX4_scanKey_92 : decode cX4_scanKey 92 = .ok (.iload_n 3, 1) := by decide +kernel
theorem dX4_scanKey_93 : decode cX4_scanKey 93 = .ok (.ifCond .ne 28, 3) := by decide +kernel
theorem dX4_scanKey_96 : decode cX4_scanKey 96 = .ok (.aload_n 0, 1) := by decide +kernel
theorem dX4_scanKey_97 : decode cX4_scanKey 97 = .ok (.getfield 50, 3) := by decide +kernel
theorem dX4_scanKey_100 : decode cX4_scanKey 100 = .ok (.ifCond .ne 15, 3) := by decide +kernel
theorem dX4_scanKey_103 : decode cX4_scanKey 103 = .ok (.aload_n 0, 1) := by decide +kernel
theorem dX4_scanKey_104 : decode cX4_scanKey 104 = .ok (.getfield 28, 3) := by decide +kernel
theorem dX4_scanKey_107 : decode cX4_scanKey 107 = .ok (.iload_n 1, 1) := by decide +kernel
theorem dX4_scanKey_108 : decode cX4_scanKey 108 = .ok (.aload_n 0, 1) := by decide +kernel
theorem dX4_scanKey_109 : decode cX4_scanKey 109 = .ok (.getfield 39, 3) := by decide +kernel
theorem dX4_scanKey_112 : decode cX4_scanKey 112 = .ok (.invokevirtual 229, 3) := by decide +kernel
theorem dX4_scanKey_115 : decode cX4_scanKey 115 = .ok (.aload_n 0, 1) := by decide +kernel
theorem dX4_scanKey_116 : decode cX4_scanKey 116 = .ok (.iload_n 1, 1) := by decide +kernel
theorem dX4_scanKey_117 : decode cX4_scanKey 117 = .ok (.iconst 3, 1) := by decide +kernel
theorem dX4_scanKey_118 : decode cX4_scanKey 118 = .ok (.invokevirtual 223, 3) := by decide +kernel
theorem dX4_scanKey_121 : decode cX4_scanKey 121 = .ok (.aload_n 0, 1) := by decide +kernel
theorem dX4_scanKey_122 : decode cX4_scanKey 122 = .ok (.getfield 32, 3) := by decide +kernel
theorem dX4_scanKey_125 : decode cX4_scanKey 125 = .ok (.iload_n 1, 1) := by decide +kernel
theorem dX4_scanKey_126 : decode cX4_scanKey 126 = .ok (.iaload, 1) := by decide +kernel
theorem dX4_scanKey_127 : decode cX4_scanKey 127 = .ok (.iconst 3, 1) := by decide +kernel
theorem dX4_scanKey_128 : decode cX4_scanKey 128 = .ok (.if_icmp .ne 38, 3) := by decide +kernel
theorem dX4_scanKey_131 : decode cX4_scanKey 131 = .ok (.iload_n 3, 1) := by decide +kernel
theorem dX4_scanKey_132 : decode cX4_scanKey 132 = .ok (.ifCond .eq 11, 3) := by decide +kernel
theorem dX4_scanKey_135 : decode cX4_scanKey 135 = .ok (.aload_n 0, 1) := by decide +kernel
theorem dX4_scanKey_136 : decode cX4_scanKey 136 = .ok (.iload_n 1, 1) := by decide +kernel
theorem dX4_scanKey_137 : decode cX4_scanKey 137 = .ok (.invokevirtual 226, 3) := by decide +kernel
theorem dX4_scanKey_140 : decode cX4_scanKey 140 = .ok (.goto 26, 3) := by decide +kernel
theorem dX4_scanKey_143 : decode cX4_scanKey 143 = .ok (.iload_n 2, 1) := by decide +kernel
theorem dX4_scanKey_144 : decode cX4_scanKey 144 = .ok (.ifCond .ne 22, 3) := by decide +kernel
theorem dX4_scanKey_147 : decode cX4_scanKey 147 = .ok (.aload_n 0, 1) := by decide +kernel
theorem dX4_scanKey_148 : decode cX4_scanKey 148 = .ok (.getfield 28, 3) := by decide +kernel
theorem dX4_scanKey_151 : decode cX4_scanKey 151 = .ok (.iload_n 1, 1) := by decide +kernel
theorem dX4_scanKey_152 : decode cX4_scanKey 152 = .ok (.aload_n 0, 1) := by decide +kernel
theorem dX4_scanKey_153 : decode cX4_scanKey 153 = .ok (.getfield 39, 3) := by decide +kernel
theorem dX4_scanKey_156 : decode cX4_scanKey 156 = .ok (.invokevirtual 229, 3) := by decide +kernel
theorem dX4_scanKey_159 : decode cX4_scanKey 159 = .ok (.aload_n 0, 1) := by decide +kernel
theorem dX4_scanKey_160 : decode cX4_scanKey 160 = .ok (.getfield 32, 3) := by decide +kernel
theorem dX4_scanKey_163 : decode cX4_scanKey 163 = .ok (.iload_n 1, 1) := by decide +kernel
theorem dX4_scanKey_164 : decode cX4_scanKey 164 = .ok (.iconst 0, 1) := by decide +kernel
theorem dX4_scanKey_165 : decode cX4_scanKey 165 = .ok (.iastore, 1) := by decide +kernel
theorem dX4_scanKey_166 : decode cX4_scanKey 166 = .ok (.return_, 1) := by decide +kernel
theorem dX4_enter_0 : decode cX4_enter 0 = .ok (.aload_n 0, 1) := by decide +kernel
theorem dX4_enter_1 : decode cX4_enter 1 = .ok (.getfield 32, 3) := by decide +kernel
theorem dX4_enter_4 : decode cX4_enter 4 = .ok (.iload_n 1, 1) := by decide +kernel
theorem dX4_enter_5 : decode cX4_enter 5 = .ok (.iload_n 2, 1) := by decide +kernel
theorem dX4_enter_6 : decode cX4_enter 6 = .ok (.iastore, 1) := by decide +kernel
theorem dX4_enter_7 : decode cX4_enter 7 = .ok (.aload_n 0, 1) := by decide +kernel
theorem dX4_enter_8 : decode cX4_enter 8 = .ok (.getfield 36, 3) := by decide +kernel
theorem dX4_enter_11 : decode cX4_enter 11 = .ok (.iload_n 1, 1) := by decide +kernel
theorem dX4_enter_12 : decode cX4_enter 12 = .ok (.aload_n 0, 1) := by decide +kernel
theorem dX4_enter_13 : decode cX4_enter 13 = .ok (.getfield 39, 3) := by decide +kernel
theorem dX4_enter_16 : decode cX4_enter 16 = .ok (.iastore, 1) := by decide +kernel
theorem dX4_enter_17 : decode cX4_enter 17 = .ok (.return_, 1) := by decide +kernel
theorem dX4_strike_0 : decode cX4_strike 0 = .ok (.aload_n 0, 1) := by decide +kernel
theorem dX4_strike_1 : decode cX4_strike 1 = .ok (.getfield 32, 3) := by decide +kernel
theorem dX4_strike_4 : decode cX4_strike 4 = .ok (.iload_n 1, 1) := by decide +kernel
theorem dX4_strike_5 : decode cX4_strike 5 = .ok (.iconst 2, 1) := by decide +kernel
theorem dX4_strike_6 : decode cX4_strike 6 = .ok (.iastore, 1) := by decide +kernel
theorem dX4_strike_7 : decode cX4_strike 7 = .ok (.aload_n 0, 1) := by decide +kernel
theorem dX4_strike_8 : decode cX4_strike 8 = .ok (.getfield 46, 3) := by decide +kernel
theorem dX4_strike_11 : decode cX4_strike 11 = .ok (.ifCond .eq 40, 3) := by decide +kernel
theorem dX4_strike_14 : decode cX4_strike 14 = .ok (.aload_n 0, 1) := by decide +kernel
theorem dX4_strike_15 : decode cX4_strike 15 = .ok (.getfield 12, 3) := by decide +kernel
theorem dX4_strike_18 : decode cX4_strike 18 = .ok (.iload_n 1, 1) := by decide +kernel
theorem dX4_strike_19 : decode cX4_strike 19 = .ok (.invokevirtual 148, 3) := by decide +kernel
theorem dX4_strike_22 : decode cX4_strike 22 = .ok (.ifCond .eq 29, 3) := by decide +kernel
theorem dX4_strike_25 : decode cX4_strike 25 = .ok (.aload_n 0, 1) := by decide +kernel
theorem dX4_strike_26 : decode cX4_strike 26 = .ok (.dup, 1) := by decide +kernel
theorem dX4_strike_27 : decode cX4_strike 27 = .ok (.getfield 56, 3) := by decide +kernel
theorem dX4_strike_30 : decode cX4_strike 30 = .ok (.iconst 1, 1) := by decide +kernel
theorem dX4_strike_31 : decode cX4_strike 31 = .ok (.iadd, 1) := by decide +kernel
theorem dX4_strike_32 : decode cX4_strike 32 = .ok (.putfield 56, 3) := by decide +kernel
theorem dX4_strike_35 : decode cX4_strike 35 = .ok (.aload_n 0, 1) := by decide +kernel
theorem dX4_strike_36 : decode cX4_strike 36 = .ok (.getfield 19, 3) := by decide +kernel
theorem dX4_strike_39 : decode cX4_strike 39 = .ok (.aload_n 0, 1) := by decide +kernel
theorem dX4_strike_40 : decode cX4_strike 40 = .ok (.getfield 39, 3) := by decide +kernel
theorem dX4_strike_43 : decode cX4_strike 43 = .ok (.iconst 4, 1) := by decide +kernel
theorem dX4_strike_44 : decode cX4_strike 44 = .ok (.iload_n 1, 1) := by decide +kernel
theorem dX4_strike_45 : decode cX4_strike 45 = .ok (.invokevirtual 232, 3) := by decide +kernel
theorem dX4_strike_48 : decode cX4_strike 48 = .ok (.goto 48, 3) := by decide +kernel
theorem dX4_strike_51 : decode cX4_strike 51 = .ok (.aload_n 0, 1) := by decide +kernel
theorem dX4_strike_52 : decode cX4_strike 52 = .ok (.dup, 1) := by decide +kernel
theorem dX4_strike_53 : decode cX4_strike 53 = .ok (.getfield 53, 3) := by decide +kernel
theorem dX4_strike_56 : decode cX4_strike 56 = .ok (.iconst 1, 1) := by decide +kernel
theorem dX4_strike_57 : decode cX4_strike 57 = .ok (.iadd, 1) := by decide +kernel
theorem dX4_strike_58 : decode cX4_strike 58 = .ok (.putfield 53, 3) := by decide +kernel
theorem dX4_strike_61 : decode cX4_strike 61 = .ok (.aload_n 0, 1) := by decide +kernel
theorem dX4_strike_62 : decode cX4_strike 62 = .ok (.getfield 28, 3) := by decide +kernel
theorem dX4_strike_65 : decode cX4_strike 65 = .ok (.iload_n 1, 1) := by decide +kernel
theorem dX4_strike_66 : decode cX4_strike 66 = .ok (.aload_n 0, 1) := by decide +kernel
theorem dX4_strike_67 : decode cX4_strike 67 = .ok (.aload_n 0, 1) := by decide +kernel
theorem dX4_strike_68 : decode cX4_strike 68 = .ok (.getfield 39, 3) := by decide +kernel
theorem dX4_strike_71 : decode cX4_strike 71 = .ok (.aload_n 0, 1) := by decide +kernel
theorem dX4_strike_72 : decode cX4_strike 72 = .ok (.getfield 36, 3) := by decide +kernel
theorem dX4_strike_75 : decode cX4_strike 75 = .ok (.iload_n 1, 1) := by decide +kernel
theorem dX4_strike_76 : decode cX4_strike 76 = .ok (.iaload, 1) := by decide +kernel
theorem dX4_strike_77 : decode cX4_strike 77 = .ok (.isub, 1) := by decide +kernel
theorem dX4_strike_78 : decode cX4_strike 78 = .ok (.aload_n 0, 1) := by decide +kernel
theorem dX4_strike_79 : decode cX4_strike 79 = .ok (.getfield 12, 3) := by decide +kernel
theorem dX4_strike_82 : decode cX4_strike 82 = .ok (.getfield 119, 3) := by decide +kernel
theorem dX4_strike_85 : decode cX4_strike 85 = .ok (.idiv, 1) := by decide +kernel
theorem dX4_strike_86 : decode cX4_strike 86 = .ok (.invokevirtual 190, 3) := by decide +kernel
theorem dX4_strike_89 : decode cX4_strike 89 = .ok (.aload_n 0, 1) := by decide +kernel
theorem dX4_strike_90 : decode cX4_strike 90 = .ok (.getfield 39, 3) := by decide +kernel
theorem dX4_strike_93 : decode cX4_strike 93 = .ok (.invokevirtual 236, 3) := by decide +kernel
theorem dX4_strike_96 : decode cX4_strike 96 = .ok (.return_, 1) := by decide +kernel
theorem dX4_velocityAfter_0 : decode cX4_velocityAfter 0 = .ok (.iconst 1, 1) := by decide +kernel
theorem dX4_velocityAfter_1 : decode cX4_velocityAfter 1 = .ok (.bipush 127, 2) := by decide +kernel
theorem dX4_velocityAfter_3 : decode cX4_velocityAfter 3 = .ok (.sipush 128, 3) := by decide +kernel
theorem dX4_velocityAfter_6 : decode cX4_velocityAfter 6 = .ok (.aload_n 0, 1) := by decide +kernel
theorem dX4_velocityAfter_7 : decode cX4_velocityAfter 7 = .ok (.getfield 43, 3) := by decide +kernel
theorem dX4_velocityAfter_10 : decode cX4_velocityAfter 10 = .ok (.iload_n 1, 1) := by decide +kernel
theorem dX4_velocityAfter_11 : decode cX4_velocityAfter 11 = .ok (.imul, 1) := by decide +kernel
theorem dX4_velocityAfter_12 : decode cX4_velocityAfter 12 = .ok (.isub, 1) := by decide +kernel
theorem dX4_velocityAfter_13 : decode cX4_velocityAfter 13 = .ok (.invokestatic 122, 3) := by decide +kernel
theorem dX4_velocityAfter_16 : decode cX4_velocityAfter 16 = .ok (.invokestatic 239, 3) := by decide +kernel
theorem dX4_velocityAfter_19 : decode cX4_velocityAfter 19 = .ok (.ireturn, 1) := by decide +kernel
theorem dX4_allRestBehind_0 : decode cX4_allRestBehind 0 = .ok (.iconst 0, 1) := by decide +kernel
theorem dX4_allRestBehind_1 : decode cX4_allRestBehind 1 = .ok (.istore_n 2, 1) := by decide +kernel
theorem dX4_allRestBehind_2 : decode cX4_allRestBehind 2 = .ok (.iload_n 2, 1) := by decide +kernel
theorem dX4_allRestBehind_3 : decode cX4_allRestBehind 3 = .ok (.aload_n 0, 1) := by decide +kernel
theorem dX4_allRestBehind_4 : decode cX4_allRestBehind 4 = .ok (.getfield 12, 3) := by decide +kernel
theorem dX4_allRestBehind_7 : decode cX4_allRestBehind 7 = .ok (.getfield 119, 3) := by decide +kernel
theorem dX4_allRestBehind_10 : decode cX4_allRestBehind 10 = .ok (.if_icmp .ge 79, 3) := by decide +kernel
theorem dX4_allRestBehind_13 : decode cX4_allRestBehind 13 = .ok (.iload_n 2, 1) := by decide +kernel
theorem dX4_allRestBehind_14 : decode cX4_allRestBehind 14 = .ok (.aload_n 0, 1) := by decide +kernel
theorem dX4_allRestBehind_15 : decode cX4_allRestBehind 15 = .ok (.getfield 39, 3) := by decide +kernel
theorem dX4_allRestBehind_18 : decode cX4_allRestBehind 18 = .ok (.isub, 1) := by decide +kernel
theorem dX4_allRestBehind_19 : decode cX4_allRestBehind 19 = .ok (.aload_n 0, 1) := by decide +kernel
theorem dX4_allRestBehind_20 : decode cX4_allRestBehind 20 = .ok (.getfield 12, 3) := by decide +kernel
theorem dX4_allRestBehind_23 : decode cX4_allRestBehind 23 = .ok (.getfield 119, 3) := by decide +kernel
theorem dX4_allRestBehind_26 : decode cX4_allRestBehind 26 = .ok (.invokestatic 128, 3) := by decide +kernel
theorem dX4_allRestBehind_29 : decode cX4_allRestBehind 29 = .ok (.iload_n 1, 1) := by decide +kernel
theorem dX4_allRestBehind_30 : decode cX4_allRestBehind 30 = .ok (.if_icmp .ge 7, 3) := by decide +kernel
theorem dX4_allRestBehind_33 : decode cX4_allRestBehind 33 = .ok (.iconst 1, 1) := by decide +kernel
theorem dX4_allRestBehind_34 : decode cX4_allRestBehind 34 = .ok (.goto 4, 3) := by decide +kernel
theorem dX4_allRestBehind_37 : decode cX4_allRestBehind 37 = .ok (.iconst 0, 1) := by decide +kernel
theorem dX4_allRestBehind_38 : decode cX4_allRestBehind 38 = .ok (.istore_n 3, 1) := by decide +kernel
theorem dX4_allRestBehind_39 : decode cX4_allRestBehind 39 = .ok (.iload_n 3, 1) := by decide +kernel
theorem dX4_allRestBehind_40 : decode cX4_allRestBehind 40 = .ok (.ifCond .eq 29, 3) := by decide +kernel
theorem dX4_allRestBehind_43 : decode cX4_allRestBehind 43 = .ok (.aload_n 0, 1) := by decide +kernel
theorem dX4_allRestBehind_44 : decode cX4_allRestBehind 44 = .ok (.getfield 12, 3) := by decide +kernel
theorem dX4_allRestBehind_47 : decode cX4_allRestBehind 47 = .ok (.aload_n 0, 1) := by decide +kernel
theorem dX4_allRestBehind_48 : decode cX4_allRestBehind 48 = .ok (.getfield 12, 3) := by decide +kernel
theorem dX4_allRestBehind_51 : decode cX4_allRestBehind 51 = .ok (.getfield 199, 3) := by decide +kernel
theorem dX4_allRestBehind_54 : decode cX4_allRestBehind 54 = .ok (.iload_n 2, 1) := by decide +kernel
theorem dX4_allRestBehind_55 : decode cX4_allRestBehind 55 = .ok (.invokevirtual 242, 3) := by decide +kernel
theorem dX4_allRestBehind_58 : decode cX4_allRestBehind 58 = .ok (.ifCond .ne 7, 3) := by decide +kernel
theorem dX4_allRestBehind_61 : decode cX4_allRestBehind 61 = .ok (.iconst 1, 1) := by decide +kernel
theorem dX4_allRestBehind_62 : decode cX4_allRestBehind 62 = .ok (.goto 12, 3) := by decide +kernel
theorem dX4_allRestBehind_65 : decode cX4_allRestBehind 65 = .ok (.iconst 0, 1) := by decide +kernel
theorem dX4_allRestBehind_66 : decode cX4_allRestBehind 66 = .ok (.goto 8, 3) := by decide +kernel
theorem dX4_allRestBehind_69 : decode cX4_allRestBehind 69 = .ok (.aload_n 0, 1) := by decide +kernel
theorem dX4_allRestBehind_70 : decode cX4_allRestBehind 70 = .ok (.iload_n 2, 1) := by decide +kernel
theorem dX4_allRestBehind_71 : decode cX4_allRestBehind 71 = .ok (.invokevirtual 246, 3) := by decide +kernel
theorem dX4_allRestBehind_74 : decode cX4_allRestBehind 74 = .ok (.istore 4, 2) := by decide +kernel
theorem dX4_allRestBehind_76 : decode cX4_allRestBehind 76 = .ok (.iload 4, 2) := by decide +kernel
theorem dX4_allRestBehind_78 : decode cX4_allRestBehind 78 = .ok (.ifCond .ne 5, 3) := by decide +kernel
theorem dX4_allRestBehind_81 : decode cX4_allRestBehind 81 = .ok (.iconst 0, 1) := by decide +kernel
theorem dX4_allRestBehind_82 : decode cX4_allRestBehind 82 = .ok (.ireturn, 1) := by decide +kernel
theorem dX4_allRestBehind_83 : decode cX4_allRestBehind 83 = .ok (.iinc 2 1, 3) := by decide +kernel
theorem dX4_allRestBehind_86 : decode cX4_allRestBehind 86 = .ok (.goto (-84), 3) := by decide +kernel
theorem dX4_allRestBehind_89 : decode cX4_allRestBehind 89 = .ok (.iconst 1, 1) := by decide +kernel
theorem dX4_allRestBehind_90 : decode cX4_allRestBehind 90 = .ok (.ireturn, 1) := by decide +kernel
theorem dX4_rowRests_0 : decode cX4_rowRests 0 = .ok (.iload_n 1, 1) := by decide +kernel
theorem dX4_rowRests_1 : decode cX4_rowRests 1 = .ok (.aload_n 0, 1) := by decide +kernel
theorem dX4_rowRests_2 : decode cX4_rowRests 2 = .ok (.getfield 12, 3) := by decide +kernel
theorem dX4_rowRests_5 : decode cX4_rowRests 5 = .ok (.getfield 217, 3) := by decide +kernel
theorem dX4_rowRests_8 : decode cX4_rowRests 8 = .ok (.imul, 1) := by decide +kernel
theorem dX4_rowRests_9 : decode cX4_rowRests 9 = .ok (.istore_n 2, 1) := by decide +kernel
theorem dX4_rowRests_10 : decode cX4_rowRests 10 = .ok (.iconst 0, 1) := by decide +kernel
theorem dX4_rowRests_11 : decode cX4_rowRests 11 = .ok (.istore_n 3, 1) := by decide +kernel
theorem dX4_rowRests_12 : decode cX4_rowRests 12 = .ok (.iload_n 3, 1) := by decide +kernel
theorem dX4_rowRests_13 : decode cX4_rowRests 13 = .ok (.aload_n 0, 1) := by decide +kernel
theorem dX4_rowRests_14 : decode cX4_rowRests 14 = .ok (.getfield 12, 3) := by decide +kernel
theorem dX4_rowRests_17 : decode cX4_rowRests 17 = .ok (.getfield 217, 3) := by decide +kernel
theorem dX4_rowRests_20 : decode cX4_rowRests 20 = .ok (.if_icmp .ge 22, 3) := by decide +kernel
theorem dX4_rowRests_23 : decode cX4_rowRests 23 = .ok (.aload_n 0, 1) := by decide +kernel
theorem dX4_rowRests_24 : decode cX4_rowRests 24 = .ok (.getfield 32, 3) := by decide +kernel
theorem dX4_rowRests_27 : decode cX4_rowRests 27 = .ok (.iload_n 2, 1) := by decide +kernel
theorem dX4_rowRests_28 : decode cX4_rowRests 28 = .ok (.iload_n 3, 1) := by decide +kernel
theorem dX4_rowRests_29 : decode cX4_rowRests 29 = .ok (.iadd, 1) := by decide +kernel
theorem dX4_rowRests_30 : decode cX4_rowRests 30 = .ok (.iaload, 1) := by decide +kernel
theorem dX4_rowRests_31 : decode cX4_rowRests 31 = .ok (.ifCond .eq 5, 3) := by decide +kernel
theorem dX4_rowRests_34 : decode cX4_rowRests 34 = .ok (.iconst 0, 1) := by decide +kernel
theorem dX4_rowRests_35 : decode cX4_rowRests 35 = .ok (.ireturn, 1) := by decide +kernel
theorem dX4_rowRests_36 : decode cX4_rowRests 36 = .ok (.iinc 3 1, 3) := by decide +kernel
theorem dX4_rowRests_39 : decode cX4_rowRests 39 = .ok (.goto (-27), 3) := by decide +kernel
theorem dX4_rowRests_42 : decode cX4_rowRests 42 = .ok (.iconst 1, 1) := by decide +kernel
theorem dX4_rowRests_43 : decode cX4_rowRests 43 = .ok (.ireturn, 1) := by decide +kernel
theorem dX4_within_0 : decode cX4_within 0 = .ok (.iload_n 0, 1) := by decide +kernel
theorem dX4_within_1 : decode cX4_within 1 = .ok (.iload_n 1, 1) := by decide +kernel
theorem dX4_within_2 : decode cX4_within 2 = .ok (.if_icmp .lt 12, 3) := by decide +kernel
theorem dX4_within_5 : decode cX4_within 5 = .ok (.iload_n 0, 1) := by decide +kernel
theorem dX4_within_6 : decode cX4_within 6 = .ok (.iload_n 2, 1) := by decide +kernel
theorem dX4_within_7 : decode cX4_within 7 = .ok (.if_icmp .gt 7, 3) := by decide +kernel
theorem dX4_within_10 : decode cX4_within 10 = .ok (.iconst 1, 1) := by decide +kernel
theorem dX4_within_11 : decode cX4_within 11 = .ok (.goto 4, 3) := by decide +kernel
theorem dX4_within_14 : decode cX4_within 14 = .ok (.iconst 0, 1) := by decide +kernel
theorem dX4_within_15 : decode cX4_within 15 = .ok (.ireturn, 1) := by decide +kernel
theorem dX4_one_0 : decode cX4_one 0 = .ok (.iload_n 0, 1) := by decide +kernel
theorem dX4_one_1 : decode cX4_one 1 = .ok (.ifCond .eq 7, 3) := by decide +kernel
theorem dX4_one_4 : decode cX4_one 4 = .ok (.iconst 1, 1) := by decide +kernel
theorem dX4_one_5 : decode cX4_one 5 = .ok (.goto 4, 3) := by decide +kernel
theorem dX4_one_8 : decode cX4_one 8 = .ok (.iconst 0, 1) := by decide +kernel
theorem dX4_one_9 : decode cX4_one 9 = .ok (.ireturn, 1) := by decide +kernel
theorem dX5_init_0 : decode cX5_init 0 = .ok (.aload_n 0, 1) := by decide +kernel
theorem dX5_init_1 : decode cX5_init 1 = .ok (.invokespecial 1, 3) := by decide +kernel
theorem dX5_init_4 : decode cX5_init 4 = .ok (.aload_n 0, 1) := by decide +kernel
theorem dX5_init_5 : decode cX5_init 5 = .ok (.bipush 8, 2) := by decide +kernel
theorem dX5_init_7 : decode cX5_init 7 = .ok (.putfield 7, 3) := by decide +kernel
theorem dX5_init_10 : decode cX5_init 10 = .ok (.aload_n 0, 1) := by decide +kernel
theorem dX5_init_11 : decode cX5_init 11 = .ok (.iconst 4, 1) := by decide +kernel
theorem dX5_init_12 : decode cX5_init 12 = .ok (.putfield 13, 3) := by decide +kernel
theorem dX5_init_15 : decode cX5_init 15 = .ok (.aload_n 0, 1) := by decide +kernel
theorem dX5_init_16 : decode cX5_init 16 = .ok (.bipush 64, 2) := by decide +kernel
theorem dX5_init_18 : decode cX5_init 18 = .ok (.newarray .int, 2) := by decide +kernel
theorem dX5_init_20 : decode cX5_init 20 = .ok (.putfield 16, 3) := by decide +kernel
theorem dX5_init_23 : decode cX5_init 23 = .ok (.aload_n 0, 1) := by decide +kernel
theorem dX5_init_24 : decode cX5_init 24 = .ok (.bipush 64, 2) := by decide +kernel
theorem dX5_init_26 : decode cX5_init 26 = .ok (.newarray .int, 2) := by decide +kernel
theorem dX5_init_28 : decode cX5_init 28 = .ok (.putfield 20, 3) := by decide +kernel
theorem dX5_init_31 : decode cX5_init 31 = .ok (.aload_n 0, 1) := by decide +kernel
theorem dX5_init_32 : decode cX5_init 32 = .ok (.bipush 64, 2) := by decide +kernel
theorem dX5_init_34 : decode cX5_init 34 = .ok (.newarray .int, 2) := by decide +kernel
theorem dX5_init_36 : decode cX5_init 36 = .ok (.putfield 23, 3) := by decide +kernel
theorem dX5_init_39 : decode cX5_init 39 = .ok (.aload_n 0, 1) := by decide +kernel
theorem dX5_init_40 : decode cX5_init 40 = .ok (.bipush 64, 2) := by decide +kernel
theorem dX5_init_42 : decode cX5_init 42 = .ok (.newarray .boolean, 2) := by decide +kernel
theorem dX5_init_44 : decode cX5_init 44 = .ok (.putfield 26, 3) := by decide +kernel
theorem dX5_init_47 : decode cX5_init 47 = .ok (.aload_n 0, 1) := by decide +kernel
theorem dX5_init_48 : decode cX5_init 48 = .ok (.bipush 64, 2) := by decide +kernel
theorem dX5_init_50 : decode cX5_init 50 = .ok (.newarray .boolean, 2) := by decide +kernel
theorem dX5_init_52 : decode cX5_init 52 = .ok (.putfield 30, 3) := by decide +kernel
theorem dX5_init_55 : decode cX5_init 55 = .ok (.aload_n 0, 1) := by decide +kernel
theorem dX5_init_56 : decode cX5_init 56 = .ok (.bipush 8, 2) := by decide +kernel
theorem dX5_init_58 : decode cX5_init 58 = .ok (.newarray .int, 2) := by decide +kernel
theorem dX5_init_60 : decode cX5_init 60 = .ok (.putfield 33, 3) := by decide +kernel
theorem dX5_init_63 : decode cX5_init 63 = .ok (.aload_n 0, 1) := by decide +kernel
theorem dX5_init_64 : decode cX5_init 64 = .ok (.bipush 8, 2) := by decide +kernel
theorem dX5_init_66 : decode cX5_init 66 = .ok (.newarray .int, 2) := by decide +kernel
theorem dX5_init_68 : decode cX5_init 68 = .ok (.putfield 36, 3) := by decide +kernel
theorem dX5_init_71 : decode cX5_init 71 = .ok (.aload_n 0, 1) := by decide +kernel
theorem dX5_init_72 : decode cX5_init 72 = .ok (.bipush 8, 2) := by decide +kernel
theorem dX5_init_74 : decode cX5_init 74 = .ok (.newarray .int, 2) := by decide +kernel
theorem dX5_init_76 : decode cX5_init 76 = .ok (.putfield 39, 3) := by decide +kernel
theorem dX5_init_79 : decode cX5_init 79 = .ok (.aload_n 0, 1) := by decide +kernel
theorem dX5_init_80 : decode cX5_init 80 = .ok (.bipush 8, 2) := by decide +kernel
theorem dX5_init_82 : decode cX5_init 82 = .ok (.newarray .int, 2) := by decide +kernel
theorem dX5_init_84 : decode cX5_init 84 = .ok (.putfield 42, 3) := by decide +kernel
theorem dX5_init_87 : decode cX5_init 87 = .ok (.aload_n 0, 1) := by decide +kernel
theorem dX5_init_88 : decode cX5_init 88 = .ok (.bipush 8, 2) := by decide +kernel
theorem dX5_init_90 : decode cX5_init 90 = .ok (.newarray .boolean, 2) := by decide +kernel
theorem dX5_init_92 : decode cX5_init 92 = .ok (.putfield 45, 3) := by decide +kernel
theorem dX5_init_95 : decode cX5_init 95 = .ok (.aload_n 0, 1) := by decide +kernel
theorem dX5_init_96 : decode cX5_init 96 = .ok (.bipush 48, 2) := by decide +kernel
theorem dX5_init_98 : decode cX5_init 98 = .ok (.newarray .int, 2) := by decide +kernel
theorem dX5_init_100 : decode cX5_init 100 = .ok (.putfield 48, 3) := by decide +kernel
theorem dX5_init_103 : decode cX5_init 103 = .ok (.aload_n 0, 1) := by decide +kernel
theorem dX5_init_104 : decode cX5_init 104 = .ok (.bipush 64, 2) := by decide +kernel
theorem dX5_init_106 : decode cX5_init 106 = .ok (.newarray .int, 2) := by decide +kernel
theorem dX5_init_108 : decode cX5_init 108 = .ok (.putfield 51, 3) := by decide +kernel
theorem dX5_init_111 : decode cX5_init 111 = .ok (.aload_n 0, 1) := by decide +kernel
theorem dX5_init_112 : decode cX5_init 112 = .ok (.bipush 64, 2) := by decide +kernel
theorem dX5_init_114 : decode cX5_init 114 = .ok (.newarray .int, 2) := by decide +kernel
theorem dX5_init_116 : decode cX5_init 116 = .ok (.putfield 54, 3) := by decide +kernel
theorem dX5_init_119 : decode cX5_init 119 = .ok (.aload_n 0, 1) := by decide +kernel
theorem dX5_init_120 : decode cX5_init 120 = .ok (.iconst 4, 1) := by decide +kernel
theorem dX5_init_121 : decode cX5_init 121 = .ok (.iconst 4, 1) := by decide +kernel
theorem dX5_init_122 : decode cX5_init 122 = .ok (.invokevirtual 57, 3) := by decide +kernel
theorem dX5_init_125 : decode cX5_init 125 = .ok (.return_, 1) := by decide +kernel
theorem dX5_in_0 : decode cX5_in 0 = .ok (.iload_n 0, 1) := by decide +kernel
theorem dX5_in_1 : decode cX5_in 1 = .ok (.iload_n 1, 1) := by decide +kernel
theorem dX5_in_2 : decode cX5_in 2 = .ok (.if_icmp .lt 12, 3) := by decide +kernel
theorem dX5_in_5 : decode cX5_in 5 = .ok (.iload_n 0, 1) := by decide +kernel
theorem dX5_in_6 : decode cX5_in 6 = .ok (.iload_n 2, 1) := by decide +kernel
theorem dX5_in_7 : decode cX5_in 7 = .ok (.if_icmp .gt 7, 3) := by decide +kernel
theorem dX5_in_10 : decode cX5_in 10 = .ok (.iconst 1, 1) := by decide +kernel
theorem dX5_in_11 : decode cX5_in 11 = .ok (.goto 4, 3) := by decide +kernel
theorem dX5_in_14 : decode cX5_in 14 = .ok (.iconst 0, 1) := by decide +kernel
theorem dX5_in_15 : decode cX5_in 15 = .ok (.ireturn, 1) := by decide +kernel
theorem dX5_begin_0 : decode cX5_begin 0 = .ok (.aload_n 0, 1) := by decide +kernel
theorem dX5_begin_1 : decode cX5_begin 1 = .ok (.iload_n 1, 1) := by decide +kernel
theorem dX5_begin_2 : decode cX5_begin 2 = .ok (.putfield 61, 3) := by decide +kernel
theorem dX5_begin_5 : decode cX5_begin 5 = .ok (.aload_n 0, 1) := by decide +kernel
theorem dX5_begin_6 : decode cX5_begin 6 = .ok (.iload_n 2, 1) := by decide +kernel
theorem dX5_begin_7 : decode cX5_begin 7 = .ok (.putfield 64, 3) := by decide +kernel
theorem dX5_begin_10 : decode cX5_begin 10 = .ok (.aload_n 0, 1) := by decide +kernel
theorem dX5_begin_11 : decode cX5_begin 11 = .ok (.iconst 0, 1) := by decide +kernel
theorem dX5_begin_12 : decode cX5_begin 12 = .ok (.putfield 67, 3) := by decide +kernel
theorem dX5_begin_15 : decode cX5_begin 15 = .ok (.aload_n 0, 1) := by decide +kernel
theorem dX5_begin_16 : decode cX5_begin 16 = .ok (.iconst 0, 1) := by decide +kernel
theorem dX5_begin_17 : decode cX5_begin 17 = .ok (.putfield 71, 3) := by decide +kernel
theorem dX5_begin_20 : decode cX5_begin 20 = .ok (.aload_n 0, 1) := by decide +kernel
theorem dX5_begin_21 : decode cX5_begin 21 = .ok (.iconst 0, 1) := by decide +kernel
theorem dX5_begin_22 : decode cX5_begin 22 = .ok (.putfield 74, 3) := by decide +kernel
theorem dX5_begin_25 : decode cX5_begin 25 = .ok (.iconst 0, 1) := by decide +kernel
theorem dX5_begin_26 : decode cX5_begin 26 = .ok (.istore_n 3, 1) := by decide +kernel
theorem dX5_begin_27 : decode cX5_begin 27 = .ok (.iload_n 3, 1) := by decide +kernel
theorem dX5_begin_28 : decode cX5_begin 28 = .ok (.bipush 64, 2) := by decide +kernel
theorem dX5_begin_30 : decode cX5_begin 30 = .ok (.if_icmp .ge 30, 3) := by decide +kernel
theorem dX5_begin_33 : decode cX5_begin 33 = .ok (.aload_n 0, 1) := by decide +kernel
theorem dX5_begin_34 : decode cX5_begin 34 = .ok (.getfield 16, 3) := by decide +kernel
theorem dX5_begin_37 : decode cX5_begin 37 = .ok (.iload_n 3, 1) := by decide +kernel
theorem dX5_begin_38 : decode cX5_begin 38 = .ok (.iconst 0, 1) := by decide +kernel
theorem dX5_begin_39 : decode cX5_begin 39 = .ok (.iastore, 1) := by decide +kernel
theorem dX5_begin_40 : decode cX5_begin 40 = .ok (.aload_n 0, 1) := by decide +kernel
theorem dX5_begin_41 : decode cX5_begin 41 = .ok (.getfield 20, 3) := by decide +kernel
theorem dX5_begin_44 : decode cX5_begin 44 = .ok (.iload_n 3, 1) := by decide +kernel
theorem dX5_begin_45 : decode cX5_begin 45 = .ok (.iconst 0, 1) := by decide +kernel
theorem dX5_begin_46 : decode cX5_begin 46 = .ok (.iastore, 1) := by decide +kernel
theorem dX5_begin_47 : decode cX5_begin 47 = .ok (.aload_n 0, 1) := by decide +kernel
theorem dX5_begin_48 : decode cX5_begin 48 = .ok (.getfield 23, 3) := by decide +kernel
theorem dX5_begin_51 : decode cX5_begin 51 = .ok (.iload_n 3, 1) := by decide +kernel
theorem dX5_begin_52 : decode cX5_begin 52 = .ok (.iconst 0, 1) := by decide +kernel
theorem dX5_begin_53 : decode cX5_begin 53 = .ok (.iastore, 1) := by decide +kernel
theorem dX5_begin_54 : decode cX5_begin 54 = .ok (.iinc 3 1, 3) := by decide +kernel
theorem dX5_begin_57 : decode cX5_begin 57 = .ok (.goto (-30), 3) := by decide +kernel
theorem dX5_begin_60 : decode cX5_begin 60 = .ok (.iconst 0, 1) := by decide +kernel
theorem dX5_begin_61 : decode cX5_begin 61 = .ok (.istore_n 3, 1) := by decide +kernel
theorem dX5_begin_62 : decode cX5_begin 62 = .ok (.iload_n 3, 1) := by decide +kernel
theorem dX5_begin_63 : decode cX5_begin 63 = .ok (.bipush 8, 2) := by decide +kernel
theorem dX5_begin_65 : decode cX5_begin 65 = .ok (.if_icmp .ge 23, 3) := by decide +kernel
theorem dX5_begin_68 : decode cX5_begin 68 = .ok (.aload_n 0, 1) := by decide +kernel
theorem dX5_begin_69 : decode cX5_begin 69 = .ok (.getfield 33, 3) := by decide +kernel
theorem dX5_begin_72 : decode cX5_begin 72 = .ok (.iload_n 3, 1) := by decide +kernel
theorem dX5_begin_73 : decode cX5_begin 73 = .ok (.iconst 0, 1) := by decide +kernel
theorem dX5_begin_74 : decode cX5_begin 74 = .ok (.iastore, 1) := by decide +kernel
theorem dX5_begin_75 : decode cX5_begin 75 = .ok (.aload_n 0, 1) := by decide +kernel
theorem dX5_begin_76 : decode cX5_begin 76 = .ok (.getfield 45, 3) := by decide +kernel
theorem dX5_begin_79 : decode cX5_begin 79 = .ok (.iload_n 3, 1) := by decide +kernel
theorem dX5_begin_80 : decode cX5_begin 80 = .ok (.iconst 0, 1) := by decide +kernel
theorem dX5_begin_81 : decode cX5_begin 81 = .ok (.bastore, 1) := by decide +kernel
theorem dX5_begin_82 : decode cX5_begin 82 = .ok (.iinc 3 1, 3) := by decide +kernel
end
section
theorem dX5_begin_85 : decode cX5_begin 85 = .ok (.goto (-23), 3) := by decide +kernel
theorem dX5_begin_88 : decode cX5_begin 88 = .ok (.aload_n 0, 1) := by decide +kernel
theorem dX5_begin_89 : decode cX5_begin 89 = .ok (.iconst 0, 1) := by decide +kernel
theorem dX5_begin_90 : decode cX5_begin 90 = .ok (.putfield 77, 3) := by decide +kernel
theorem dX5_begin_93 : decode cX5_begin 93 = .ok (.aload_n 0, 1) := by decide +kernel
theorem dX5_begin_94 : decode cX5_begin 94 = .ok (.iconst 0, 1) := by decide +kernel
theorem dX5_begin_95 : decode cX5_begin 95 = .ok (.putfield 80, 3) := by decide +kernel
theorem dX5_begin_98 : decode cX5_begin 98 = .ok (.aload_n 0, 1) := by decide +kernel
theorem dX5_begin_99 : decode cX5_begin 99 = .ok (.iconst 0, 1) := by decide +kernel
theorem dX5_begin_100 : decode cX5_begin 100 = .ok (.putfield 83, 3) := by decide +kernel
theorem dX5_begin_103 : decode cX5_begin 103 = .ok (.aload_n 0, 1) := by decide +kernel
theorem dX5_begin_104 : decode cX5_begin 104 = .ok (.iconst 0, 1) := by decide +kernel
theorem dX5_begin_105 : decode cX5_begin 105 = .ok (.putfield 86, 3) := by decide +kernel
theorem dX5_begin_108 : decode cX5_begin 108 = .ok (.aload_n 0, 1) := by decide +kernel
theorem dX5_begin_109 : decode cX5_begin 109 = .ok (.invokevirtual 89, 3) := by decide +kernel
theorem dX5_begin_112 : decode cX5_begin 112 = .ok (.return_, 1) := by decide +kernel
theorem dX5_reset_0 : decode cX5_reset 0 = .ok (.iload_n 1, 1) := by decide +kernel
theorem dX5_reset_1 : decode cX5_reset 1 = .ok (.iconst 1, 1) := by decide +kernel
theorem dX5_reset_2 : decode cX5_reset 2 = .ok (.bipush 8, 2) := by decide +kernel
theorem dX5_reset_4 : decode cX5_reset 4 = .ok (.invokestatic 92, 3) := by decide +kernel
theorem dX5_reset_7 : decode cX5_reset 7 = .ok (.ifCond .eq 13, 3) := by decide +kernel
theorem dX5_reset_10 : decode cX5_reset 10 = .ok (.iload_n 2, 1) := by decide +kernel
theorem dX5_reset_11 : decode cX5_reset 11 = .ok (.iconst 1, 1) := by decide +kernel
theorem dX5_reset_12 : decode cX5_reset 12 = .ok (.bipush 8, 2) := by decide +kernel
theorem dX5_reset_14 : decode cX5_reset 14 = .ok (.invokestatic 92, 3) := by decide +kernel
theorem dX5_reset_17 : decode cX5_reset 17 = .ok (.ifCond .ne 6, 3) := by decide +kernel
theorem dX5_reset_20 : decode cX5_reset 20 = .ok (.bipush (-2), 2) := by decide +kernel
theorem dX5_reset_22 : decode cX5_reset 22 = .ok (.ireturn, 1) := by decide +kernel
theorem dX5_reset_23 : decode cX5_reset 23 = .ok (.aload_n 0, 1) := by decide +kernel
theorem dX5_reset_24 : decode cX5_reset 24 = .ok (.iload_n 1, 1) := by decide +kernel
theorem dX5_reset_25 : decode cX5_reset 25 = .ok (.iload_n 2, 1) := by decide +kernel
theorem dX5_reset_26 : decode cX5_reset 26 = .ok (.invokevirtual 57, 3) := by decide +kernel
theorem dX5_reset_29 : decode cX5_reset 29 = .ok (.aload_n 0, 1) := by decide +kernel
theorem dX5_reset_30 : decode cX5_reset 30 = .ok (.invokevirtual 96, 3) := by decide +kernel
theorem dX5_reset_33 : decode cX5_reset 33 = .ok (.ireturn, 1) := by decide +kernel
theorem dX5_keys_0 : decode cX5_keys 0 = .ok (.aload_n 0, 1) := by decide +kernel
theorem dX5_keys_1 : decode cX5_keys 1 = .ok (.getfield 61, 3) := by decide +kernel
theorem dX5_keys_4 : decode cX5_keys 4 = .ok (.aload_n 0, 1) := by decide +kernel
theorem dX5_keys_5 : decode cX5_keys 5 = .ok (.getfield 64, 3) := by decide +kernel
theorem dX5_keys_8 : decode cX5_keys 8 = .ok (.imul, 1) := by decide +kernel
theorem dX5_keys_9 : decode cX5_keys 9 = .ok (.ireturn, 1) := by decide +kernel
theorem dX5_connect_0 : decode cX5_connect 0 = .ok (.aload_n 0, 1) := by decide +kernel
theorem dX5_connect_1 : decode cX5_connect 1 = .ok (.iconst 1, 1) := by decide +kernel
theorem dX5_connect_2 : decode cX5_connect 2 = .ok (.iload_n 1, 1) := by decide +kernel
theorem dX5_connect_3 : decode cX5_connect 3 = .ok (.ishl, 1) := by decide +kernel
theorem dX5_connect_4 : decode cX5_connect 4 = .ok (.putfield 100, 3) := by decide +kernel
theorem dX5_connect_7 : decode cX5_connect 7 = .ok (.aload_n 0, 1) := by decide +kernel
theorem dX5_connect_8 : decode cX5_connect 8 = .ok (.iconst 0, 1) := by decide +kernel
theorem dX5_connect_9 : decode cX5_connect 9 = .ok (.putfield 103, 3) := by decide +kernel
theorem dX5_connect_12 : decode cX5_connect 12 = .ok (.iconst 1, 1) := by decide +kernel
theorem dX5_connect_13 : decode cX5_connect 13 = .ok (.istore_n 3, 1) := by decide +kernel
theorem dX5_connect_14 : decode cX5_connect 14 = .ok (.iload_n 3, 1) := by decide +kernel
theorem dX5_connect_15 : decode cX5_connect 15 = .ok (.ifCond .eq 132, 3) := by decide +kernel
theorem dX5_connect_18 : decode cX5_connect 18 = .ok (.iconst 0, 1) := by decide +kernel
theorem dX5_connect_19 : decode cX5_connect 19 = .ok (.istore_n 3, 1) := by decide +kernel
theorem dX5_connect_20 : decode cX5_connect 20 = .ok (.iconst 0, 1) := by decide +kernel
theorem dX5_connect_21 : decode cX5_connect 21 = .ok (.istore 4, 2) := by decide +kernel
theorem dX5_connect_23 : decode cX5_connect 23 = .ok (.iload 4, 2) := by decide +kernel
theorem dX5_connect_25 : decode cX5_connect 25 = .ok (.aload_n 0, 1) := by decide +kernel
theorem dX5_connect_26 : decode cX5_connect 26 = .ok (.invokevirtual 96, 3) := by decide +kernel
theorem dX5_connect_29 : decode cX5_connect 29 = .ok (.if_icmp .ge 115, 3) := by decide +kernel
theorem dX5_connect_32 : decode cX5_connect 32 = .ok (.aload_n 0, 1) := by decide +kernel
theorem dX5_connect_33 : decode cX5_connect 33 = .ok (.getfield 100, 3) := by decide +kernel
theorem dX5_connect_36 : decode cX5_connect 36 = .ok (.iload 4, 2) := by decide +kernel
theorem dX5_connect_38 : decode cX5_connect 38 = .ok (.aload_n 0, 1) := by decide +kernel
theorem dX5_connect_39 : decode cX5_connect 39 = .ok (.getfield 64, 3) := by decide +kernel
theorem dX5_connect_42 : decode cX5_connect 42 = .ok (.idiv, 1) := by decide +kernel
theorem dX5_connect_43 : decode cX5_connect 43 = .ok (.ishr, 1) := by decide +kernel
theorem dX5_connect_44 : decode cX5_connect 44 = .ok (.iconst 1, 1) := by decide +kernel
theorem dX5_connect_45 : decode cX5_connect 45 = .ok (.iand, 1) := by decide +kernel
theorem dX5_connect_46 : decode cX5_connect 46 = .ok (.iconst 1, 1) := by decide +kernel
theorem dX5_connect_47 : decode cX5_connect 47 = .ok (.if_icmp .ne 7, 3) := by decide +kernel
theorem dX5_connect_50 : decode cX5_connect 50 = .ok (.iconst 1, 1) := by decide +kernel
theorem dX5_connect_51 : decode cX5_connect 51 = .ok (.goto 4, 3) := by decide +kernel
theorem dX5_connect_54 : decode cX5_connect 54 = .ok (.iconst 0, 1) := by decide +kernel
theorem dX5_connect_55 : decode cX5_connect 55 = .ok (.istore 5, 2) := by decide +kernel
theorem dX5_connect_57 : decode cX5_connect 57 = .ok (.aload_n 0, 1) := by decide +kernel
theorem dX5_connect_58 : decode cX5_connect 58 = .ok (.getfield 103, 3) := by decide +kernel
theorem dX5_connect_61 : decode cX5_connect 61 = .ok (.iload 4, 2) := by decide +kernel
theorem dX5_connect_63 : decode cX5_connect 63 = .ok (.aload_n 0, 1) := by decide +kernel
theorem dX5_connect_64 : decode cX5_connect 64 = .ok (.getfield 64, 3) := by decide +kernel
theorem dX5_connect_67 : decode cX5_connect 67 = .ok (.irem, 1) := by decide +kernel
theorem dX5_connect_68 : decode cX5_connect 68 = .ok (.ishr, 1) := by decide +kernel
theorem dX5_connect_69 : decode cX5_connect 69 = .ok (.iconst 1, 1) := by decide +kernel
theorem dX5_connect_70 : decode cX5_connect 70 = .ok (.iand, 1) := by decide +kernel
theorem dX5_connect_71 : decode cX5_connect 71 = .ok (.iconst 1, 1) := by decide +kernel
theorem dX5_connect_72 : decode cX5_connect 72 = .ok (.if_icmp .ne 7, 3) := by decide +kernel
theorem dX5_connect_75 : decode cX5_connect 75 = .ok (.iconst 1, 1) := by decide +kernel
theorem dX5_connect_76 : decode cX5_connect 76 = .ok (.goto 4, 3) := by decide +kernel
theorem dX5_connect_79 : decode cX5_connect 79 = .ok (.iconst 0, 1) := by decide +kernel
theorem dX5_connect_80 : decode cX5_connect 80 = .ok (.istore 6, 2) := by decide +kernel
theorem dX5_connect_82 : decode cX5_connect 82 = .ok (.aload_n 0, 1) := by decide +kernel
theorem dX5_connect_83 : decode cX5_connect 83 = .ok (.getfield 16, 3) := by decide +kernel
theorem dX5_connect_86 : decode cX5_connect 86 = .ok (.iload 4, 2) := by decide +kernel
theorem dX5_connect_88 : decode cX5_connect 88 = .ok (.iaload, 1) := by decide +kernel
theorem dX5_connect_89 : decode cX5_connect 89 = .ok (.iload_n 2, 1) := by decide +kernel
theorem dX5_connect_90 : decode cX5_connect 90 = .ok (.if_icmp .lt 48, 3) := by decide +kernel
theorem dX5_connect_93 : decode cX5_connect 93 = .ok (.iload 5, 2) := by decide +kernel
theorem dX5_connect_95 : decode cX5_connect 95 = .ok (.iload 6, 2) := by decide +kernel
theorem dX5_connect_97 : decode cX5_connect 97 = .ok (.if_icmp .eq 41, 3) := by decide +kernel
theorem dX5_connect_100 : decode cX5_connect 100 = .ok (.aload_n 0, 1) := by decide +kernel
theorem dX5_connect_101 : decode cX5_connect 101 = .ok (.dup, 1) := by decide +kernel
theorem dX5_connect_102 : decode cX5_connect 102 = .ok (.getfield 100, 3) := by decide +kernel
theorem dX5_connect_105 : decode cX5_connect 105 = .ok (.iconst 1, 1) := by decide +kernel
theorem dX5_connect_106 : decode cX5_connect 106 = .ok (.iload 4, 2) := by decide +kernel
theorem dX5_connect_108 : decode cX5_connect 108 = .ok (.aload_n 0, 1) := by decide +kernel
theorem dX5_connect_109 : decode cX5_connect 109 = .ok (.getfield 64, 3) := by decide +kernel
theorem dX5_connect_112 : decode cX5_connect 112 = .ok (.idiv, 1) := by decide +kernel
theorem dX5_connect_113 : decode cX5_connect 113 = .ok (.ishl, 1) := by decide +kernel
theorem dX5_connect_114 : decode cX5_connect 114 = .ok (.ior, 1) := by decide +kernel
theorem dX5_connect_115 : decode cX5_connect 115 = .ok (.putfield 100, 3) := by decide +kernel
theorem dX5_connect_118 : decode cX5_connect 118 = .ok (.aload_n 0, 1) := by decide +kernel
theorem dX5_connect_119 : decode cX5_connect 119 = .ok (.dup, 1) := by decide +kernel
theorem dX5_connect_120 : decode cX5_connect 120 = .ok (.getfield 103, 3) := by decide +kernel
theorem dX5_connect_123 : decode cX5_connect 123 = .ok (.iconst 1, 1) := by decide +kernel
theorem dX5_connect_124 : decode cX5_connect 124 = .ok (.iload 4, 2) := by decide +kernel
theorem dX5_connect_126 : decode cX5_connect 126 = .ok (.aload_n 0, 1) := by decide +kernel
theorem dX5_connect_127 : decode cX5_connect 127 = .ok (.getfield 64, 3) := by decide +kernel
theorem dX5_connect_130 : decode cX5_connect 130 = .ok (.irem, 1) := by decide +kernel
theorem dX5_connect_131 : decode cX5_connect 131 = .ok (.ishl, 1) := by decide +kernel
theorem dX5_connect_132 : decode cX5_connect 132 = .ok (.ior, 1) := by decide +kernel
theorem dX5_connect_133 : decode cX5_connect 133 = .ok (.putfield 103, 3) := by decide +kernel
theorem dX5_connect_136 : decode cX5_connect 136 = .ok (.iconst 1, 1) := by decide +kernel
theorem dX5_connect_137 : decode cX5_connect 137 = .ok (.istore_n 3, 1) := by decide +kernel
theorem dX5_connect_138 : decode cX5_connect 138 = .ok (.iinc 4 1, 3) := by decide +kernel
theorem dX5_connect_141 : decode cX5_connect 141 = .ok (.goto (-118), 3) := by decide +kernel
theorem dX5_connect_144 : decode cX5_connect 144 = .ok (.goto (-130), 3) := by decide +kernel
theorem dX5_connect_147 : decode cX5_connect 147 = .ok (.return_, 1) := by decide +kernel
theorem dX5_appear_0 : decode cX5_appear 0 = .ok (.iconst 0, 1) := by decide +kernel
theorem dX5_appear_1 : decode cX5_appear 1 = .ok (.istore_n 1, 1) := by decide +kernel
theorem dX5_appear_2 : decode cX5_appear 2 = .ok (.iload_n 1, 1) := by decide +kernel
theorem dX5_appear_3 : decode cX5_appear 3 = .ok (.aload_n 0, 1) := by decide +kernel
theorem dX5_appear_4 : decode cX5_appear 4 = .ok (.getfield 61, 3) := by decide +kernel
theorem dX5_appear_7 : decode cX5_appear 7 = .ok (.if_icmp .ge 153, 3) := by decide +kernel
theorem dX5_appear_10 : decode cX5_appear 10 = .ok (.aload_n 0, 1) := by decide +kernel
theorem dX5_appear_11 : decode cX5_appear 11 = .ok (.iload_n 1, 1) := by decide +kernel
theorem dX5_appear_12 : decode cX5_appear 12 = .ok (.iconst 1, 1) := by decide +kernel
theorem dX5_appear_13 : decode cX5_appear 13 = .ok (.invokevirtual 106, 3) := by decide +kernel
theorem dX5_appear_16 : decode cX5_appear 16 = .ok (.aload_n 0, 1) := by decide +kernel
theorem dX5_appear_17 : decode cX5_appear 17 = .ok (.getfield 103, 3) := by decide +kernel
theorem dX5_appear_20 : decode cX5_appear 20 = .ok (.istore_n 2, 1) := by decide +kernel
theorem dX5_appear_21 : decode cX5_appear 21 = .ok (.aload_n 0, 1) := by decide +kernel
theorem dX5_appear_22 : decode cX5_appear 22 = .ok (.iload_n 1, 1) := by decide +kernel
theorem dX5_appear_23 : decode cX5_appear 23 = .ok (.iconst 2, 1) := by decide +kernel
theorem dX5_appear_24 : decode cX5_appear 24 = .ok (.invokevirtual 106, 3) := by decide +kernel
theorem dX5_appear_27 : decode cX5_appear 27 = .ok (.iconst 0, 1) := by decide +kernel
theorem dX5_appear_28 : decode cX5_appear 28 = .ok (.istore_n 3, 1) := by decide +kernel
theorem dX5_appear_29 : decode cX5_appear 29 = .ok (.iload_n 3, 1) := by decide +kernel
theorem dX5_appear_30 : decode cX5_appear 30 = .ok (.aload_n 0, 1) := by decide +kernel
theorem dX5_appear_31 : decode cX5_appear 31 = .ok (.getfield 64, 3) := by decide +kernel
theorem dX5_appear_34 : decode cX5_appear 34 = .ok (.if_icmp .ge 120, 3) := by decide +kernel
theorem dX5_appear_37 : decode cX5_appear 37 = .ok (.iload_n 1, 1) := by decide +kernel
theorem dX5_appear_38 : decode cX5_appear 38 = .ok (.aload_n 0, 1) := by decide +kernel
theorem dX5_appear_39 : decode cX5_appear 39 = .ok (.getfield 64, 3) := by decide +kernel
theorem dX5_appear_42 : decode cX5_appear 42 = .ok (.imul, 1) := by decide +kernel
theorem dX5_appear_43 : decode cX5_appear 43 = .ok (.iload_n 3, 1) := by decide +kernel
theorem dX5_appear_44 : decode cX5_appear 44 = .ok (.iadd, 1) := by decide +kernel
theorem dX5_appear_45 : decode cX5_appear 45 = .ok (.istore 4, 2) := by decide +kernel
theorem dX5_appear_47 : decode cX5_appear 47 = .ok (.aload_n 0, 1) := by decide +kernel
theorem dX5_appear_48 : decode cX5_appear 48 = .ok (.getfield 30, 3) := by decide +kernel
theorem dX5_appear_51 : decode cX5_appear 51 = .ok (.iload 4, 2) := by decide +kernel
theorem dX5_appear_53 : decode cX5_appear 53 = .ok (.aload_n 0, 1) := by decide +kernel
theorem dX5_appear_54 : decode cX5_appear 54 = .ok (.getfield 109, 3) := by decide +kernel
theorem dX5_appear_57 : decode cX5_appear 57 = .ok (.ifCond .eq 22, 3) := by decide +kernel
theorem dX5_appear_60 : decode cX5_appear 60 = .ok (.aload_n 0, 1) := by decide +kernel
theorem dX5_appear_61 : decode cX5_appear 61 = .ok (.getfield 16, 3) := by decide +kernel
theorem dX5_appear_64 : decode cX5_appear 64 = .ok (.iload 4, 2) := by decide +kernel
theorem dX5_appear_66 : decode cX5_appear 66 = .ok (.iaload, 1) := by decide +kernel
theorem dX5_appear_67 : decode cX5_appear 67 = .ok (.iconst 2, 1) := by decide +kernel
theorem dX5_appear_68 : decode cX5_appear 68 = .ok (.if_icmp .ne 7, 3) := by decide +kernel
theorem dX5_appear_71 : decode cX5_appear 71 = .ok (.iconst 1, 1) := by decide +kernel
theorem dX5_appear_72 : decode cX5_appear 72 = .ok (.goto 24, 3) := by decide +kernel
theorem dX5_appear_75 : decode cX5_appear 75 = .ok (.iconst 0, 1) := by decide +kernel
theorem dX5_appear_76 : decode cX5_appear 76 = .ok (.goto 20, 3) := by decide +kernel
theorem dX5_appear_79 : decode cX5_appear 79 = .ok (.aload_n 0, 1) := by decide +kernel
theorem dX5_appear_80 : decode cX5_appear 80 = .ok (.getfield 103, 3) := by decide +kernel
theorem dX5_appear_83 : decode cX5_appear 83 = .ok (.iload_n 3, 1) := by decide +kernel
theorem dX5_appear_84 : decode cX5_appear 84 = .ok (.ishr, 1) := by decide +kernel
theorem dX5_appear_85 : decode cX5_appear 85 = .ok (.iconst 1, 1) := by decide +kernel
theorem dX5_appear_86 : decode cX5_appear 86 = .ok (.iand, 1) := by decide +kernel
theorem dX5_appear_87 : decode cX5_appear 87 = .ok (.iconst 1, 1) := by decide +kernel
theorem dX5_appear_88 : decode cX5_appear 88 = .ok (.if_icmp .ne 7, 3) := by decide +kernel
theorem dX5_appear_91 : decode cX5_appear 91 = .ok (.iconst 1, 1) := by decide +kernel
theorem dX5_appear_92 : decode cX5_appear 92 = .ok (.goto 4, 3) := by decide +kernel
theorem dX5_appear_95 : decode cX5_appear 95 = .ok (.iconst 0, 1) := by decide +kernel
theorem dX5_appear_96 : decode cX5_appear 96 = .ok (.bastore, 1) := by decide +kernel
theorem dX5_appear_97 : decode cX5_appear 97 = .ok (.aload_n 0, 1) := by decide +kernel
theorem dX5_appear_98 : decode cX5_appear 98 = .ok (.getfield 26, 3) := by decide +kernel
theorem dX5_appear_101 : decode cX5_appear 101 = .ok (.iload 4, 2) := by decide +kernel
theorem dX5_appear_103 : decode cX5_appear 103 = .ok (.aload_n 0, 1) := by decide +kernel
theorem dX5_appear_104 : decode cX5_appear 104 = .ok (.getfield 30, 3) := by decide +kernel
theorem dX5_appear_107 : decode cX5_appear 107 = .ok (.iload 4, 2) := by decide +kernel
theorem dX5_appear_109 : decode cX5_appear 109 = .ok (.baload, 1) := by decide +kernel
theorem dX5_appear_110 : decode cX5_appear 110 = .ok (.ifCond .ne 32, 3) := by decide +kernel
theorem dX5_appear_113 : decode cX5_appear 113 = .ok (.aload_n 0, 1) := by decide +kernel
theorem dX5_appear_114 : decode cX5_appear 114 = .ok (.getfield 109, 3) := by decide +kernel
theorem dX5_appear_117 : decode cX5_appear 117 = .ok (.ifCond .eq 16, 3) := by decide +kernel
theorem dX5_appear_120 : decode cX5_appear 120 = .ok (.aload_n 0, 1) := by decide +kernel
theorem dX5_appear_121 : decode cX5_appear 121 = .ok (.getfield 16, 3) := by decide +kernel
theorem dX5_appear_124 : decode cX5_appear 124 = .ok (.iload 4, 2) := by decide +kernel
theorem dX5_appear_126 : decode cX5_appear 126 = .ok (.iaload, 1) := by decide +kernel
theorem dX5_appear_127 : decode cX5_appear 127 = .ok (.ifCond .le 19, 3) := by decide +kernel
theorem dX5_appear_130 : decode cX5_appear 130 = .ok (.goto 12, 3) := by decide +kernel
theorem dX5_appear_133 : decode cX5_appear 133 = .ok (.iload_n 2, 1) := by decide +kernel
theorem dX5_appear_134 : decode cX5_appear 134 = .ok (.iload_n 3, 1) := by decide +kernel
theorem dX5_appear_135 : decode cX5_appear 135 = .ok (.ishr, 1) := by decide +kernel
theorem dX5_appear_136 : decode cX5_appear 136 = .ok (.iconst 1, 1) := by decide +kernel
theorem dX5_appear_137 : decode cX5_appear 137 = .ok (.iand, 1) := by decide +kernel
theorem dX5_appear_138 : decode cX5_appear 138 = .ok (.iconst 1, 1) := by decide +kernel
theorem dX5_appear_139 : decode cX5_appear 139 = .ok (.if_icmp .ne 7, 3) := by decide +kernel
theorem dX5_appear_142 : decode cX5_appear 142 = .ok (.iconst 1, 1) := by decide +kernel
theorem dX5_appear_143 : decode cX5_appear 143 = .ok (.goto 4, 3) := by decide +kernel
theorem dX5_appear_146 : decode cX5_appear 146 = .ok (.iconst 0, 1) := by decide +kernel
theorem dX5_appear_147 : decode cX5_appear 147 = .ok (.bastore, 1) := by decide +kernel
theorem dX5_appear_148 : decode cX5_appear 148 = .ok (.iinc 3 1, 3) := by decide +kernel
theorem dX5_appear_151 : decode cX5_appear 151 = .ok (.goto (-122), 3) := by decide +kernel
theorem dX5_appear_154 : decode cX5_appear 154 = .ok (.iinc 1 1, 3) := by decide +kernel
theorem dX5_appear_157 : decode cX5_appear 157 = .ok (.goto (-155), 3) := by decide +kernel
theorem dX5_appear_160 : decode cX5_appear 160 = .ok (.return_, 1) := by decide +kernel
theorem dX5_isGhost_0 : decode cX5_isGhost 0 = .ok (.aload_n 0, 1) := by decide +kernel
theorem dX5_isGhost_1 : decode cX5_isGhost 1 = .ok (.getfield 26, 3) := by decide +kernel
theorem dX5_isGhost_4 : decode cX5_isGhost 4 = .ok (.iload_n 1, 1) := by decide +kernel
theorem dX5_isGhost_5 : decode cX5_isGhost 5 = .ok (.baload, 1) := by decide +kernel
theorem dX5_isGhost_6 : decode cX5_isGhost 6 = .ok (.ifCond .eq 12, 3) := by decide +kernel
theorem dX5_isGhost_9 : decode cX5_isGhost 9 = .ok (.aload_n 0, 1) := by decide +kernel
theorem dX5_isGhost_10 : decode cX5_isGhost 10 = .ok (.getfield 16, 3) := by decide +kernel
theorem dX5_isGhost_13 : decode cX5_isGhost 13 = .ok (.iload_n 1, 1) := by decide +kernel
theorem dX5_isGhost_14 : decode cX5_isGhost 14 = .ok (.iaload, 1) := by decide +kernel
theorem dX5_isGhost_15 : decode cX5_isGhost 15 = .ok (.ifCond .eq 22, 3) := by decide +kernel
theorem dX5_isGhost_18 : decode cX5_isGhost 18 = .ok (.aload_n 0, 1) := by decide +kernel
theorem dX5_isGhost_19 : decode cX5_isGhost 19 = .ok (.getfield 30, 3) := by decide +kernel
theorem dX5_isGhost_22 : decode cX5_isGhost 22 = .ok (.iload_n 1, 1) := by decide +kernel
theorem dX5_isGhost_23 : decode cX5_isGhost 23 = .ok (.baload, 1) := by decide +kernel
theorem dX5_isGhost_24 : decode cX5_isGhost 24 = .ok (.ifCond .eq 17, 3) := by decide +kernel
theorem dX5_isGhost_27 : decode cX5_isGhost 27 = .ok (.aload_n 0, 1) := by decide +kernel
theorem dX5_isGhost_28 : decode cX5_isGhost 28 = .ok (.getfield 16, 3) := by decide +kernel
theorem dX5_isGhost_31 : decode cX5_isGhost 31 = .ok (.iload_n 1, 1) := by decide +kernel
theorem dX5_isGhost_32 : decode cX5_isGhost 32 = .ok (.iaload, 1) := by decide +kernel
theorem dX5_isGhost_33 : decode cX5_isGhost 33 = .ok (.iconst 2, 1) := by decide +kernel
theorem dX5_isGhost_34 : decode cX5_isGhost 34 = .ok (.if_icmp .ge 7, 3) := by decide +kernel
theorem dX5_isGhost_37 : decode cX5_isGhost 37 = .ok (.iconst 1, 1) := by decide +kernel
theorem dX5_isGhost_38 : decode cX5_isGhost 38 = .ok (.goto 4, 3) := by decide +kernel
theorem dX5_isGhost_41 : decode cX5_isGhost 41 = .ok (.iconst 0, 1) := by decide +kernel
theorem dX5_isGhost_42 : decode cX5_isGhost 42 = .ok (.ireturn, 1) := by decide +kernel
theorem dX5_isDoubtful_0 : decode cX5_isDoubtful 0 = .ok (.aload_n 0, 1) := by decide +kernel
theorem dX5_isDoubtful_1 : decode cX5_isDoubtful 1 = .ok (.getfield 26, 3) := by decide +kernel
theorem dX5_isDoubtful_4 : decode cX5_isDoubtful 4 = .ok (.iload_n 1, 1) := by decide +kernel
theorem dX5_isDoubtful_5 : decode cX5_isDoubtful 5 = .ok (.baload, 1) := by decide +kernel
theorem dX5_isDoubtful_6 : decode cX5_isDoubtful 6 = .ok (.ifCond .ne 5, 3) := by decide +kernel
theorem dX5_isDoubtful_9 : decode cX5_isDoubtful 9 = .ok (.iconst 0, 1) := by decide +kernel
theorem dX5_isDoubtful_10 : decode cX5_isDoubtful 10 = .ok (.ireturn, 1) := by decide +kernel
theorem dX5_isDoubtful_11 : decode cX5_isDoubtful 11 = .ok (.iconst 0, 1) := by decide +kernel
theorem dX5_isDoubtful_12 : decode cX5_isDoubtful 12 = .ok (.istore_n 2, 1) := by decide +kernel
theorem dX5_isDoubtful_13 : decode cX5_isDoubtful 13 = .ok (.iload_n 2, 1) := by decide +kernel
theorem dX5_isDoubtful_14 : decode cX5_isDoubtful 14 = .ok (.aload_n 0, 1) := by decide +kernel
theorem dX5_isDoubtful_15 : decode cX5_isDoubtful 15 = .ok (.invokevirtual 96, 3) := by decide +kernel
theorem dX5_isDoubtful_18 : decode cX5_isDoubtful 18 = .ok (.if_icmp .ge 111, 3) := by decide +kernel
theorem dX5_isDoubtful_21 : decode cX5_isDoubtful 21 = .ok (.iload_n 2, 1) := by decide +kernel
theorem dX5_isDoubtful_22 : decode cX5_isDoubtful 22 = .ok (.aload_n 0, 1) := by decide +kernel
theorem dX5_isDoubtful_23 : decode cX5_isDoubtful 23 = .ok (.getfield 64, 3) := by decide +kernel
theorem dX5_isDoubtful_26 : decode cX5_isDoubtful 26 = .ok (.idiv, 1) := by decide +kernel
theorem dX5_isDoubtful_27 : decode cX5_isDoubtful 27 = .ok (.istore_n 3, 1) := by decide +kernel
theorem dX5_isDoubtful_28 : decode cX5_isDoubtful 28 = .ok (.iload_n 2, 1) := by decide +kernel
theorem dX5_isDoubtful_29 : decode cX5_isDoubtful 29 = .ok (.aload_n 0, 1) := by decide +kernel
theorem dX5_isDoubtful_30 : decode cX5_isDoubtful 30 = .ok (.getfield 64, 3) := by decide +kernel
theorem dX5_isDoubtful_33 : decode cX5_isDoubtful 33 = .ok (.irem, 1) := by decide +kernel
theorem dX5_isDoubtful_34 : decode cX5_isDoubtful 34 = .ok (.istore 4, 2) := by decide +kernel
theorem dX5_isDoubtful_36 : decode cX5_isDoubtful 36 = .ok (.iload_n 3, 1) := by decide +kernel
theorem dX5_isDoubtful_37 : decode cX5_isDoubtful 37 = .ok (.iload_n 1, 1) := by decide +kernel
theorem dX5_isDoubtful_38 : decode cX5_isDoubtful 38 = .ok (.aload_n 0, 1) := by decide +kernel
theorem dX5_isDoubtful_39 : decode cX5_isDoubtful 39 = .ok (.getfield 64, 3) := by decide +kernel
theorem dX5_isDoubtful_42 : decode cX5_isDoubtful 42 = .ok (.idiv, 1) := by decide +kernel
theorem dX5_isDoubtful_43 : decode cX5_isDoubtful 43 = .ok (.if_icmp .eq 18, 3) := by decide +kernel
theorem dX5_isDoubtful_46 : decode cX5_isDoubtful 46 = .ok (.iload 4, 2) := by decide +kernel
theorem dX5_isDoubtful_48 : decode cX5_isDoubtful 48 = .ok (.iload_n 1, 1) := by decide +kernel
theorem dX5_isDoubtful_49 : decode cX5_isDoubtful 49 = .ok (.aload_n 0, 1) := by decide +kernel
theorem dX5_isDoubtful_50 : decode cX5_isDoubtful 50 = .ok (.getfield 64, 3) := by decide +kernel
theorem dX5_isDoubtful_53 : decode cX5_isDoubtful 53 = .ok (.irem, 1) := by decide +kernel
theorem dX5_isDoubtful_54 : decode cX5_isDoubtful 54 = .ok (.if_icmp .eq 7, 3) := by decide +kernel
theorem dX5_isDoubtful_57 : decode cX5_isDoubtful 57 = .ok (.iconst 1, 1) := by decide +kernel
theorem dX5_isDoubtful_58 : decode cX5_isDoubtful 58 = .ok (.goto 4, 3) := by decide +kernel
theorem dX5_isDoubtful_61 : decode cX5_isDoubtful 61 = .ok (.iconst 0, 1) := by decide +kernel
theorem dX5_isDoubtful_62 : decode cX5_isDoubtful 62 = .ok (.istore 5, 2) := by decide +kernel
theorem dX5_isDoubtful_64 : decode cX5_isDoubtful 64 = .ok (.iload 5, 2) := by decide +kernel
theorem dX5_isDoubtful_66 : decode cX5_isDoubtful 66 = .ok (.ifCond .eq 57, 3) := by decide +kernel
theorem dX5_isDoubtful_69 : decode cX5_isDoubtful 69 = .ok (.aload_n 0, 1) := by decide +kernel
theorem dX5_isDoubtful_70 : decode cX5_isDoubtful 70 = .ok (.getfield 26, 3) := by decide +kernel
theorem dX5_isDoubtful_73 : decode cX5_isDoubtful 73 = .ok (.iload_n 2, 1) := by decide +kernel
theorem dX5_isDoubtful_74 : decode cX5_isDoubtful 74 = .ok (.baload, 1) := by decide +kernel
theorem dX5_isDoubtful_75 : decode cX5_isDoubtful 75 = .ok (.ifCond .eq 48, 3) := by decide +kernel
theorem dX5_isDoubtful_78 : decode cX5_isDoubtful 78 = .ok (.aload_n 0, 1) := by decide +kernel
theorem dX5_isDoubtful_79 : decode cX5_isDoubtful 79 = .ok (.getfield 26, 3) := by decide +kernel
theorem dX5_isDoubtful_82 : decode cX5_isDoubtful 82 = .ok (.iload_n 3, 1) := by decide +kernel
theorem dX5_isDoubtful_83 : decode cX5_isDoubtful 83 = .ok (.aload_n 0, 1) := by decide +kernel
theorem dX5_isDoubtful_84 : decode cX5_isDoubtful 84 = .ok (.getfield 64, 3) := by decide +kernel
theorem dX5_isDoubtful_87 : decode cX5_isDoubtful 87 = .ok (.imul, 1) := by decide +kernel
theorem dX5_isDoubtful_88 : decode cX5_isDoubtful 88 = .ok (.iload_n 1, 1) := by decide +kernel
theorem dX5_isDoubtful_89 : decode cX5_isDoubtful 89 = .ok (.aload_n 0, 1) := by decide +kernel
theorem dX5_isDoubtful_90 : decode cX5_isDoubtful 90 = .ok (.getfield 64, 3) := by decide +kernel
theorem dX5_isDoubtful_93 : decode cX5_isDoubtful 93 = .ok (.irem, 1) := by decide +kernel
theorem dX5_isDoubtful_94 : decode cX5_isDoubtful 94 = .ok (.iadd, 1) := by decide +kernel
theorem dX5_isDoubtful_95 : decode cX5_isDoubtful 95 = .ok (.baload, 1) := by decide +kernel
theorem dX5_isDoubtful_96 : decode cX5_isDoubtful 96 = .ok (.ifCond .eq 27, 3) := by decide +kernel
theorem dX5_isDoubtful_99 : decode cX5_isDoubtful 99 = .ok (.aload_n 0, 1) := by decide +kernel
theorem dX5_isDoubtful_100 : decode cX5_isDoubtful 100 = .ok (.getfield 26, 3) := by decide +kernel
theorem dX5_isDoubtful_103 : decode cX5_isDoubtful 103 = .ok (.iload_n 1, 1) := by decide +kernel
theorem dX5_isDoubtful_104 : decode cX5_isDoubtful 104 = .ok (.aload_n 0, 1) := by decide +kernel
theorem dX5_isDoubtful_105 : decode cX5_isDoubtful 105 = .ok (.getfield 64, 3) := by decide +kernel
theorem dX5_isDoubtful_108 : decode cX5_isDoubtful 108 = .ok (.idiv, 1) := by decide +kernel
theorem dX5_isDoubtful_109 : decode cX5_isDoubtful 109 = .ok (.aload_n 0, 1) := by decide +kernel
theorem dX5_isDoubtful_110 : decode cX5_isDoubtful 110 = .ok (.getfield 64, 3) := by decide +kernel
theorem dX5_isDoubtful_113 : decode cX5_isDoubtful 113 = .ok (.imul, 1) := by decide +kernel
theorem dX5_isDoubtful_114 : decode cX5_isDoubtful 114 = .ok (.iload 4, 2) := by decide +kernel
theorem dX5_isDoubtful_116 : decode cX5_isDoubtful 116 = .ok (.iadd, 1) := by decide +kernel
theorem dX5_isDoubtful_117 : decode cX5_isDoubtful 117 = .ok (.baload, 1) := by decide +kernel
theorem dX5_isDoubtful_118 : decode cX5_isDoubtful 118 = .ok (.ifCond .eq 5, 3) := by decide +kernel
theorem dX5_isDoubtful_121 : decode cX5_isDoubtful 121 = .ok (.iconst 1, 1) := by decide +kernel
theorem dX5_isDoubtful_122 : decode cX5_isDoubtful 122 = .ok (.ireturn, 1) := by decide +kernel
theorem dX5_isDoubtful_123 : decode cX5_isDoubtful 123 = .ok (.iinc 2 1, 3) := by decide +kernel
theorem dX5_isDoubtful_126 : decode cX5_isDoubtful 126 = .ok (.goto (-113), 3) := by decide +kernel
theorem dX5_isDoubtful_129 : decode cX5_isDoubtful 129 = .ok (.iconst 0, 1) := by decide +kernel
theorem dX5_isDoubtful_130 : decode cX5_isDoubtful 130 = .ok (.ireturn, 1) := by decide +kernel
theorem dX5_ghosts_0 : decode cX5_ghosts 0 = .ok (.iconst 0, 1) := by decide +kernel
theorem dX5_ghosts_1 : decode cX5_ghosts 1 = .ok (.istore_n 1, 1) := by decide +kernel
theorem dX5_ghosts_2 : decode cX5_ghosts 2 = .ok (.iconst 0, 1) := by decide +kernel
theorem dX5_ghosts_3 : decode cX5_ghosts 3 = .ok (.istore_n 2, 1) := by decide +kernel
theorem dX5_ghosts_4 : decode cX5_ghosts 4 = .ok (.iload_n 2, 1) := by decide +kernel
theorem dX5_ghosts_5 : decode cX5_ghosts 5 = .ok (.aload_n 0, 1) := by decide +kernel
theorem dX5_ghosts_6 : decode cX5_ghosts 6 = .ok (.invokevirtual 96, 3) := by decide +kernel
theorem dX5_ghosts_9 : decode cX5_ghosts 9 = .ok (.if_icmp .ge 25, 3) := by decide +kernel
theorem dX5_ghosts_12 : decode cX5_ghosts 12 = .ok (.iload_n 1, 1) := by decide +kernel
theorem dX5_ghosts_13 : decode cX5_ghosts 13 = .ok (.aload_n 0, 1) := by decide +kernel
theorem dX5_ghosts_14 : decode cX5_ghosts 14 = .ok (.iload_n 2, 1) := by decide +kernel
theorem dX5_ghosts_15 : decode cX5_ghosts 15 = .ok (.invokevirtual 112, 3) := by decide +kernel
theorem dX5_ghosts_18 : decode cX5_ghosts 18 = .ok (.ifCond .eq 7, 3) := by decide +kernel
theorem dX5_ghosts_21 : decode cX5_ghosts 21 = .ok (.iconst 1, 1) := by decide +kernel
theorem dX5_ghosts_22 : decode cX5_ghosts 22 = .ok (.goto 4, 3) := by decide +kernel
theorem dX5_ghosts_25 : decode cX5_ghosts 25 = .ok (.iconst 0, 1) := by decide +kernel
theorem dX5_ghosts_26 : decode cX5_ghosts 26 = .ok (.iadd, 1) := by decide +kernel
theorem dX5_ghosts_27 : decode cX5_ghosts 27 = .ok (.istore_n 1, 1) := by decide +kernel
theorem dX5_ghosts_28 : decode cX5_ghosts 28 = .ok (.iinc 2 1, 3) := by decide +kernel
theorem dX5_ghosts_31 : decode cX5_ghosts 31 = .ok (.goto (-27), 3) := by decide +kernel
theorem dX5_ghosts_34 : decode cX5_ghosts 34 = .ok (.iload_n 1, 1) := by decide +kernel
theorem dX5_ghosts_35 : decode cX5_ghosts 35 = .ok (.ireturn, 1) := by decide +kernel
theorem dX5_setDiodes_0 : decode cX5_setDiodes 0 = .ok (.aload_n 0, 1) := by decide +kernel
theorem dX5_setDiodes_1 : decode cX5_setDiodes 1 = .ok (.iload_n 1, 1) := by decide +kernel
theorem dX5_setDiodes_2 : decode cX5_setDiodes 2 = .ok (.putfield 109, 3) := by decide +kernel
theorem dX5_setDiodes_5 : decode cX5_setDiodes 5 = .ok (.aload_n 0, 1) := by decide +kernel
theorem dX5_setDiodes_6 : decode cX5_setDiodes 6 = .ok (.invokevirtual 89, 3) := by decide +kernel
theorem dX5_setDiodes_9 : decode cX5_setDiodes 9 = .ok (.aload_n 0, 1) := by decide +kernel
theorem dX5_setDiodes_10 : decode cX5_setDiodes 10 = .ok (.invokevirtual 116, 3) := by decide +kernel
theorem dX5_setDiodes_13 : decode cX5_setDiodes 13 = .ok (.ireturn, 1) := by decide +kernel
theorem dX5_setBlocking_0 : decode cX5_setBlocking 0 = .ok (.aload_n 0, 1) := by decide +kernel
theorem dX5_setBlocking_1 : decode cX5_setBlocking 1 = .ok (.getfield 119, 3) := by decide +kernel
theorem dX5_setBlocking_4 : decode cX5_setBlocking 4 = .ok (.iload_n 1, 1) := by decide +kernel
theorem dX5_setBlocking_5 : decode cX5_setBlocking 5 = .ok (.if_icmp .eq 7, 3) := by decide +kernel
theorem dX5_setBlocking_8 : decode cX5_setBlocking 8 = .ok (.iconst 1, 1) := by decide +kernel
theorem dX5_setBlocking_9 : decode cX5_setBlocking 9 = .ok (.goto 4, 3) := by decide +kernel
theorem dX5_setBlocking_12 : decode cX5_setBlocking 12 = .ok (.iconst 0, 1) := by decide +kernel
theorem dX5_setBlocking_13 : decode cX5_setBlocking 13 = .ok (.istore_n 2, 1) := by decide +kernel
theorem dX5_setBlocking_14 : decode cX5_setBlocking 14 = .ok (.aload_n 0, 1) := by decide +kernel
theorem dX5_setBlocking_15 : decode cX5_setBlocking 15 = .ok (.iload_n 1, 1) := by decide +kernel
theorem dX5_setBlocking_16 : decode cX5_setBlocking 16 = .ok (.putfield 119, 3) := by decide +kernel
theorem dX5_setBlocking_19 : decode cX5_setBlocking 19 = .ok (.iload_n 2, 1) := by decide +kernel
theorem dX5_setBlocking_20 : decode cX5_setBlocking 20 = .ok (.ireturn, 1) := by decide +kernel
theorem dX5_setLateRelease_0 : decode cX5_setLateRelease 0 = .ok (.aload_n 0, 1) := by decide +kernel
theorem dX5_setLateRelease_1 : decode cX5_setLateRelease 1 = .ok (.getfield 122, 3) := by decide +kernel
theorem dX5_setLateRelease_4 : decode cX5_setLateRelease 4 = .ok (.iload_n 1, 1) := by decide +kernel
theorem dX5_setLateRelease_5 : decode cX5_setLateRelease 5 = .ok (.if_icmp .eq 7, 3) := by decide +kernel
theorem dX5_setLateRelease_8 : decode cX5_setLateRelease 8 = .ok (.iconst 1, 1) := by decide +kernel
theorem dX5_setLateRelease_9 : decode cX5_setLateRelease 9 = .ok (.goto 4, 3) := by decide +kernel
theorem dX5_setLateRelease_12 : decode cX5_setLateRelease 12 = .ok (.iconst 0, 1) := by decide +kernel
theorem dX5_setLateRelease_13 : decode cX5_setLateRelease 13 = .ok (.istore_n 2, 1) := by decide +kernel
theorem dX5_setLateRelease_14 : decode cX5_setLateRelease 14 = .ok (.aload_n 0, 1) := by decide +kernel
theorem dX5_setLateRelease_15 : decode cX5_setLateRelease 15 = .ok (.iload_n 1, 1) := by decide +kernel
theorem dX5_setLateRelease_16 : decode cX5_setLateRelease 16 = .ok (.putfield 122, 3) := by decide +kernel
theorem dX5_setLateRelease_19 : decode cX5_setLateRelease 19 = .ok (.iload_n 2, 1) := by decide +kernel
theorem dX5_setLateRelease_20 : decode cX5_setLateRelease 20 = .ok (.ireturn, 1) := by decide +kernel
theorem dX5_setSlope_0 : decode cX5_setSlope 0 = .ok (.iload_n 1, 1) := by decide +kernel
theorem dX5_setSlope_1 : decode cX5_setSlope 1 = .ok (.iconst 1, 1) := by decide +kernel
theorem dX5_setSlope_2 : decode cX5_setSlope 2 = .ok (.bipush 64, 2) := by decide +kernel
theorem dX5_setSlope_4 : decode cX5_setSlope 4 = .ok (.invokestatic 92, 3) := by decide +kernel
theorem dX5_setSlope_7 : decode cX5_setSlope 7 = .ok (.ifCond .ne 6, 3) := by decide +kernel
theorem dX5_setSlope_10 : decode cX5_setSlope 10 = .ok (.bipush (-2), 2) := by decide +kernel
theorem dX5_setSlope_12 : decode cX5_setSlope 12 = .ok (.ireturn, 1) := by decide +kernel
theorem dX5_setSlope_13 : decode cX5_setSlope 13 = .ok (.aload_n 0, 1) := by decide +kernel
theorem dX5_setSlope_14 : decode cX5_setSlope 14 = .ok (.getfield 7, 3) := by decide +kernel
theorem dX5_setSlope_17 : decode cX5_setSlope 17 = .ok (.istore_n 2, 1) := by decide +kernel
theorem dX5_setSlope_18 : decode cX5_setSlope 18 = .ok (.aload_n 0, 1) := by decide +kernel
theorem dX5_setSlope_19 : decode cX5_setSlope 19 = .ok (.iload_n 1, 1) := by decide +kernel
theorem dX5_setSlope_20 : decode cX5_setSlope 20 = .ok (.putfield 7, 3) := by decide +kernel
theorem dX5_setSlope_23 : decode cX5_setSlope 23 = .ok (.iload_n 2, 1) := by decide +kernel
theorem dX5_setSlope_24 : decode cX5_setSlope 24 = .ok (.ireturn, 1) := by decide +kernel
theorem dX5_setVoices_0 : decode cX5_setVoices 0 = .ok (.iload_n 1, 1) := by decide +kernel
theorem dX5_setVoices_1 : decode cX5_setVoices 1 = .ok (.iconst 1, 1) := by decide +kernel
theorem dX5_setVoices_2 : decode cX5_setVoices 2 = .ok (.bipush 8, 2) := by decide +kernel
theorem dX5_setVoices_4 : decode cX5_setVoices 4 = .ok (.invokestatic 92, 3) := by decide +kernel
theorem dX5_setVoices_7 : decode cX5_setVoices 7 = .ok (.ifCond .eq 12, 3) := by decide +kernel
theorem dX5_setVoices_10 : decode cX5_setVoices 10 = .ok (.iload_n 2, 1) := by decide +kernel
theorem dX5_setVoices_11 : decode cX5_setVoices 11 = .ok (.iconst 0, 1) := by decide +kernel
theorem dX5_setVoices_12 : decode cX5_setVoices 12 = .ok (.iconst 2, 1) := by decide +kernel
theorem dX5_setVoices_13 : decode cX5_setVoices 13 = .ok (.invokestatic 92, 3) := by decide +kernel
theorem dX5_setVoices_16 : decode cX5_setVoices 16 = .ok (.ifCond .ne 6, 3) := by decide +kernel
theorem dX5_setVoices_19 : decode cX5_setVoices 19 = .ok (.bipush (-2), 2) := by decide +kernel
theorem dX5_setVoices_21 : decode cX5_setVoices 21 = .ok (.ireturn, 1) := by decide +kernel
theorem dX5_setVoices_22 : decode cX5_setVoices 22 = .ok (.aload_n 0, 1) := by decide +kernel
theorem dX5_setVoices_23 : decode cX5_setVoices 23 = .ok (.getfield 13, 3) := by decide +kernel
theorem dX5_setVoices_26 : decode cX5_setVoices 26 = .ok (.istore_n 3, 1) := by decide +kernel
theorem dX5_setVoices_27 : decode cX5_setVoices 27 = .ok (.iload_n 1, 1) := by decide +kernel
theorem dX5_setVoices_28 : decode cX5_setVoices 28 = .ok (.istore 4, 2) := by decide +kernel
theorem dX5_setVoices_30 : decode cX5_setVoices 30 = .ok (.iload 4, 2) := by decide +kernel
theorem dX5_setVoices_32 : decode cX5_setVoices 32 = .ok (.aload_n 0, 1) := by decide +kernel
theorem dX5_setVoices_33 : decode cX5_setVoices 33 = .ok (.getfield 13, 3) := by decide +kernel
theorem dX5_setVoices_36 : decode cX5_setVoices 36 = .ok (.if_icmp .ge 16, 3) := by decide +kernel
theorem dX5_setVoices_39 : decode cX5_setVoices 39 = .ok (.aload_n 0, 1) := by decide +kernel
theorem dX5_setVoices_40 : decode cX5_setVoices 40 = .ok (.iload 4, 2) := by decide +kernel
theorem dX5_setVoices_42 : decode cX5_setVoices 42 = .ok (.invokevirtual 125, 3) := by decide +kernel
theorem dX5_setVoices_45 : decode cX5_setVoices 45 = .ok (.pop, 1) := by decide +kernel
theorem dX5_setVoices_46 : decode cX5_setVoices 46 = .ok (.iinc 4 1, 3) := by decide +kernel
theorem dX5_setVoices_49 : decode cX5_setVoices 49 = .ok (.goto (-19), 3) := by decide +kernel
theorem dX5_setVoices_52 : decode cX5_setVoices 52 = .ok (.aload_n 0, 1) := by decide +kernel
theorem dX5_setVoices_53 : decode cX5_setVoices 53 = .ok (.iload_n 1, 1) := by decide +kernel
theorem dX5_setVoices_54 : decode cX5_setVoices 54 = .ok (.putfield 13, 3) := by decide +kernel
theorem dX5_setVoices_57 : decode cX5_setVoices 57 = .ok (.aload_n 0, 1) := by decide +kernel
theorem dX5_setVoices_58 : decode cX5_setVoices 58 = .ok (.iload_n 2, 1) := by decide +kernel
theorem dX5_setVoices_59 : decode cX5_setVoices 59 = .ok (.putfield 129, 3) := by decide +kernel
theorem dX5_setVoices_62 : decode cX5_setVoices 62 = .ok (.iload_n 3, 1) := by decide +kernel
theorem dX5_setVoices_63 : decode cX5_setVoices 63 = .ok (.ireturn, 1) := by decide +kernel
theorem dX5_enter_0 : decode cX5_enter 0 = .ok (.bipush 47, 2) := by decide +kernel
theorem dX5_enter_2 : decode cX5_enter 2 = .ok (.istore_n 3, 1) := by decide +kernel
theorem dX5_enter_3 : decode cX5_enter 3 = .ok (.iload_n 3, 1) := by decide +kernel
theorem dX5_enter_4 : decode cX5_enter 4 = .ok (.iconst 3, 1) := by decide +kernel
theorem dX5_enter_5 : decode cX5_enter 5 = .ok (.if_icmp .lt 23, 3) := by decide +kernel
theorem dX5_enter_8 : decode cX5_enter 8 = .ok (.aload_n 0, 1) := by decide +kernel
theorem dX5_enter_9 : decode cX5_enter 9 = .ok (.getfield 48, 3) := by decide +kernel
theorem dX5_enter_12 : decode cX5_enter 12 = .ok (.iload_n 3, 1) := by decide +kernel
theorem dX5_enter_13 : decode cX5_enter 13 = .ok (.aload_n 0, 1) := by decide +kernel
theorem dX5_enter_14 : decode cX5_enter 14 = .ok (.getfield 48, 3) := by decide +kernel
theorem dX5_enter_17 : decode cX5_enter 17 = .ok (.iload_n 3, 1) := by decide +kernel
theorem dX5_enter_18 : decode cX5_enter 18 = .ok (.iconst 3, 1) := by decide +kernel
theorem dX5_enter_19 : decode cX5_enter 19 = .ok (.isub, 1) := by decide +kernel
theorem dX5_enter_20 : decode cX5_enter 20 = .ok (.iaload, 1) := by decide +kernel
theorem dX5_enter_21 : decode cX5_enter 21 = .ok (.iastore, 1) := by decide +kernel
theorem dX5_enter_22 : decode cX5_enter 22 = .ok (.iinc 3 (-1), 3) := by decide +kernel
theorem dX5_enter_25 : decode cX5_enter 25 = .ok (.goto (-22), 3) := by decide +kernel
theorem dX5_enter_28 : decode cX5_enter 28 = .ok (.aload_n 0, 1) := by decide +kernel
theorem dX5_enter_29 : decode cX5_enter 29 = .ok (.getfield 48, 3) := by decide +kernel
theorem dX5_enter_32 : decode cX5_enter 32 = .ok (.iconst 0, 1) := by decide +kernel
theorem dX5_enter_33 : decode cX5_enter 33 = .ok (.aload_n 0, 1) := by decide +kernel
theorem dX5_enter_34 : decode cX5_enter 34 = .ok (.getfield 74, 3) := by decide +kernel
theorem dX5_enter_37 : decode cX5_enter 37 = .ok (.iastore, 1) := by decide +kernel
theorem dX5_enter_38 : decode cX5_enter 38 = .ok (.aload_n 0, 1) := by decide +kernel
theorem dX5_enter_39 : decode cX5_enter 39 = .ok (.getfield 48, 3) := by decide +kernel
theorem dX5_enter_42 : decode cX5_enter 42 = .ok (.iconst 1, 1) := by decide +kernel
theorem dX5_enter_43 : decode cX5_enter 43 = .ok (.iload_n 1, 1) := by decide +kernel
theorem dX5_enter_44 : decode cX5_enter 44 = .ok (.iastore, 1) := by decide +kernel
theorem dX5_enter_45 : decode cX5_enter 45 = .ok (.aload_n 0, 1) := by decide +kernel
theorem dX5_enter_46 : decode cX5_enter 46 = .ok (.getfield 48, 3) := by decide +kernel
theorem dX5_enter_49 : decode cX5_enter 49 = .ok (.iconst 2, 1) := by decide +kernel
theorem dX5_enter_50 : decode cX5_enter 50 = .ok (.iload_n 2, 1) := by decide +kernel
theorem dX5_enter_51 : decode cX5_enter 51 = .ok (.iastore, 1) := by decide +kernel
theorem dX5_enter_52 : decode cX5_enter 52 = .ok (.aload_n 0, 1) := by decide +kernel
theorem dX5_enter_53 : decode cX5_enter 53 = .ok (.dup, 1) := by decide +kernel
theorem dX5_enter_54 : decode cX5_enter 54 = .ok (.getfield 77, 3) := by decide +kernel
theorem dX5_enter_57 : decode cX5_enter 57 = .ok (.iconst 1, 1) := by decide +kernel
theorem dX5_enter_58 : decode cX5_enter 58 = .ok (.iadd, 1) := by decide +kernel
theorem dX5_enter_59 : decode cX5_enter 59 = .ok (.putfield 77, 3) := by decide +kernel
theorem dX5_enter_62 : decode cX5_enter 62 = .ok (.return_, 1) := by decide +kernel
theorem dX5_frees_0 : decode cX5_frees 0 = .ok (.aload_n 0, 1) := by decide +kernel
theorem dX5_frees_1 : decode cX5_frees 1 = .ok (.getfield 33, 3) := by decide +kernel
theorem dX5_frees_4 : decode cX5_frees 4 = .ok (.iload_n 1, 1) := by decide +kernel
theorem dX5_frees_5 : decode cX5_frees 5 = .ok (.iaload, 1) := by decide +kernel
theorem dX5_frees_6 : decode cX5_frees 6 = .ok (.ifCond .ne 5, 3) := by decide +kernel
theorem dX5_frees_9 : decode cX5_frees 9 = .ok (.iconst 0, 1) := by decide +kernel
theorem dX5_frees_10 : decode cX5_frees 10 = .ok (.ireturn, 1) := by decide +kernel
theorem dX5_frees_11 : decode cX5_frees 11 = .ok (.aload_n 0, 1) := by decide +kernel
theorem dX5_frees_12 : decode cX5_frees 12 = .ok (.getfield 33, 3) := by decide +kernel
theorem dX5_frees_15 : decode cX5_frees 15 = .ok (.iload_n 1, 1) := by decide +kernel
theorem dX5_frees_16 : decode cX5_frees 16 = .ok (.iconst 0, 1) := by decide +kernel
theorem dX5_frees_17 : decode cX5_frees 17 = .ok (.iastore, 1) := by decide +kernel
theorem dX5_frees_18 : decode cX5_frees 18 = .ok (.aload_n 0, 1) := by decide +kernel
theorem dX5_frees_19 : decode cX5_frees 19 = .ok (.getfield 45, 3) := by decide +kernel
theorem dX5_frees_22 : decode cX5_frees 22 = .ok (.iload_n 1, 1) := by decide +kernel
theorem dX5_frees_23 : decode cX5_frees 23 = .ok (.iconst 0, 1) := by decide +kernel
theorem dX5_frees_24 : decode cX5_frees 24 = .ok (.bastore, 1) := by decide +kernel
theorem dX5_frees_25 : decode cX5_frees 25 = .ok (.aload_n 0, 1) := by decide +kernel
theorem dX5_frees_26 : decode cX5_frees 26 = .ok (.iconst 2, 1) := by decide +kernel
theorem dX5_frees_27 : decode cX5_frees 27 = .ok (.aload_n 0, 1) := by decide +kernel
theorem dX5_frees_28 : decode cX5_frees 28 = .ok (.getfield 36, 3) := by decide +kernel
theorem dX5_frees_31 : decode cX5_frees 31 = .ok (.iload_n 1, 1) := by decide +kernel
theorem dX5_frees_32 : decode cX5_frees 32 = .ok (.iaload, 1) := by decide +kernel
theorem dX5_frees_33 : decode cX5_frees 33 = .ok (.invokevirtual 132, 3) := by decide +kernel
theorem dX5_frees_36 : decode cX5_frees 36 = .ok (.iconst 1, 1) := by decide +kernel
theorem dX5_frees_37 : decode cX5_frees 37 = .ok (.ireturn, 1) := by decide +kernel
theorem dX5_voiceOf_0 : decode cX5_voiceOf 0 = .ok (.iconst 0, 1) := by decide +kernel
theorem dX5_voiceOf_1 : decode cX5_voiceOf 1 = .ok (.istore_n 2, 1) := by decide +kernel
theorem dX5_voiceOf_2 : decode cX5_voiceOf 2 = .ok (.iload_n 2, 1) := by decide +kernel
theorem dX5_voiceOf_3 : decode cX5_voiceOf 3 = .ok (.aload_n 0, 1) := by decide +kernel
theorem dX5_voiceOf_4 : decode cX5_voiceOf 4 = .ok (.getfield 13, 3) := by decide +kernel
theorem dX5_voiceOf_7 : decode cX5_voiceOf 7 = .ok (.if_icmp .ge 30, 3) := by decide +kernel
theorem dX5_voiceOf_10 : decode cX5_voiceOf 10 = .ok (.aload_n 0, 1) := by decide +kernel
theorem dX5_voiceOf_11 : decode cX5_voiceOf 11 = .ok (.getfield 33, 3) := by decide +kernel
theorem dX5_voiceOf_14 : decode cX5_voiceOf 14 = .ok (.iload_n 2, 1) := by decide +kernel
theorem dX5_voiceOf_15 : decode cX5_voiceOf 15 = .ok (.iaload, 1) := by decide +kernel
theorem dX5_voiceOf_16 : decode cX5_voiceOf 16 = .ok (.ifCond .eq 15, 3) := by decide +kernel
theorem dX5_voiceOf_19 : decode cX5_voiceOf 19 = .ok (.aload_n 0, 1) := by decide +kernel
theorem dX5_voiceOf_20 : decode cX5_voiceOf 20 = .ok (.getfield 36, 3) := by decide +kernel
theorem dX5_voiceOf_23 : decode cX5_voiceOf 23 = .ok (.iload_n 2, 1) := by decide +kernel
theorem dX5_voiceOf_24 : decode cX5_voiceOf 24 = .ok (.iaload, 1) := by decide +kernel
theorem dX5_voiceOf_25 : decode cX5_voiceOf 25 = .ok (.iload_n 1, 1) := by decide +kernel
theorem dX5_voiceOf_26 : decode cX5_voiceOf 26 = .ok (.if_icmp .ne 5, 3) := by decide +kernel
theorem dX5_voiceOf_29 : decode cX5_voiceOf 29 = .ok (.iload_n 2, 1) := by decide +kernel
theorem dX5_voiceOf_30 : decode cX5_voiceOf 30 = .ok (.ireturn, 1) := by decide +kernel
theorem dX5_voiceOf_31 : decode cX5_voiceOf 31 = .ok (.iinc 2 1, 3) := by decide +kernel
theorem dX5_voiceOf_34 : decode cX5_voiceOf 34 = .ok (.goto (-32), 3) := by decide +kernel
theorem dX5_voiceOf_37 : decode cX5_voiceOf 37 = .ok (.bipush (-3), 2) := by decide +kernel
theorem dX5_voiceOf_39 : decode cX5_voiceOf 39 = .ok (.ireturn, 1) := by decide +kernel
theorem dX5_freeVoice_0 : decode cX5_freeVoice 0 = .ok (.iconst 0, 1) := by decide +kernel
theorem dX5_freeVoice_1 : decode cX5_freeVoice 1 = .ok (.istore_n 1, 1) := by decide +kernel
theorem dX5_freeVoice_2 : decode cX5_freeVoice 2 = .ok (.iload_n 1, 1) := by decide +kernel
theorem dX5_freeVoice_3 : decode cX5_freeVoice 3 = .ok (.aload_n 0, 1) := by decide +kernel
theorem dX5_freeVoice_4 : decode cX5_freeVoice 4 = .ok (.getfield 13, 3) := by decide +kernel
theorem dX5_freeVoice_7 : decode cX5_freeVoice 7 = .ok (.if_icmp .ge 20, 3) := by decide +kernel
theorem dX5_freeVoice_10 : decode cX5_freeVoice 10 = .ok (.aload_n 0, 1) := by decide +kernel
theorem dX5_freeVoice_11 : decode cX5_freeVoice 11 = .ok (.getfield 33, 3) := by decide +kernel
theorem dX5_freeVoice_14 : decode cX5_freeVoice 14 = .ok (.iload_n 1, 1) := by decide +kernel
theorem dX5_freeVoice_15 : decode cX5_freeVoice 15 = .ok (.iaload, 1) := by decide +kernel
theorem dX5_freeVoice_16 : decode cX5_freeVoice 16 = .ok (.ifCond .ne 5, 3) := by decide +kernel
theorem dX5_freeVoice_19 : decode cX5_freeVoice 19 = .ok (.iload_n 1, 1) := by decide +kernel
theorem dX5_freeVoice_20 : decode cX5_freeVoice 20 = .ok (.ireturn, 1) := by decide +kernel
theorem dX5_freeVoice_21 : decode cX5_freeVoice 21 = .ok (.iinc 1 1, 3) := by decide +kernel
theorem dX5_freeVoice_24 : decode cX5_freeVoice 24 = .ok (.goto (-22), 3) := by decide +kernel
theorem dX5_freeVoice_27 : decode cX5_freeVoice 27 = .ok (.bipush (-3), 2) := by decide +kernel
theorem dX5_freeVoice_29 : decode cX5_freeVoice 29 = .ok (.ireturn, 1) := by decide +kernel
theorem dX5_isWeaker_0 : decode cX5_isWeaker 0 = .ok (.aload_n 0, 1) := by decide +kernel
theorem dX5_isWeaker_1 : decode cX5_isWeaker 1 = .ok (.getfield 129, 3) := by decide +kernel
theorem dX5_isWeaker_4 : decode cX5_isWeaker 4 = .ok (.iconst 1, 1) := by decide +kernel
theorem dX5_isWeaker_5 : decode cX5_isWeaker 5 = .ok (.if_icmp .ne 39, 3) := by decide +kernel
theorem dX5_isWeaker_8 : decode cX5_isWeaker 8 = .ok (.aload_n 0, 1) := by decide +kernel
theorem dX5_isWeaker_9 : decode cX5_isWeaker 9 = .ok (.getfield 39, 3) := by decide +kernel
theorem dX5_isWeaker_12 : decode cX5_isWeaker 12 = .ok (.iload_n 1, 1) := by decide +kernel
theorem dX5_isWeaker_13 : decode cX5_isWeaker 13 = .ok (.iaload, 1) := by decide +kernel
theorem dX5_isWeaker_14 : decode cX5_isWeaker 14 = .ok (.aload_n 0, 1) := by decide +kernel
theorem dX5_isWeaker_15 : decode cX5_isWeaker 15 = .ok (.getfield 39, 3) := by decide +kernel
theorem dX5_isWeaker_18 : decode cX5_isWeaker 18 = .ok (.iload_n 2, 1) := by decide +kernel
theorem dX5_isWeaker_19 : decode cX5_isWeaker 19 = .ok (.iaload, 1) := by decide +kernel
theorem dX5_isWeaker_20 : decode cX5_isWeaker 20 = .ok (.if_icmp .eq 24, 3) := by decide +kernel
theorem dX5_isWeaker_23 : decode cX5_isWeaker 23 = .ok (.aload_n 0, 1) := by decide +kernel
theorem dX5_isWeaker_24 : decode cX5_isWeaker 24 = .ok (.getfield 39, 3) := by decide +kernel
theorem dX5_isWeaker_27 : decode cX5_isWeaker 27 = .ok (.iload_n 1, 1) := by decide +kernel
theorem dX5_isWeaker_28 : decode cX5_isWeaker 28 = .ok (.iaload, 1) := by decide +kernel
theorem dX5_isWeaker_29 : decode cX5_isWeaker 29 = .ok (.aload_n 0, 1) := by decide +kernel
theorem dX5_isWeaker_30 : decode cX5_isWeaker 30 = .ok (.getfield 39, 3) := by decide +kernel
theorem dX5_isWeaker_33 : decode cX5_isWeaker 33 = .ok (.iload_n 2, 1) := by decide +kernel
theorem dX5_isWeaker_34 : decode cX5_isWeaker 34 = .ok (.iaload, 1) := by decide +kernel
theorem dX5_isWeaker_35 : decode cX5_isWeaker 35 = .ok (.if_icmp .ge 7, 3) := by decide +kernel
theorem dX5_isWeaker_38 : decode cX5_isWeaker 38 = .ok (.iconst 1, 1) := by decide +kernel
theorem dX5_isWeaker_39 : decode cX5_isWeaker 39 = .ok (.goto 4, 3) := by decide +kernel
theorem dX5_isWeaker_42 : decode cX5_isWeaker 42 = .ok (.iconst 0, 1) := by decide +kernel
theorem dX5_isWeaker_43 : decode cX5_isWeaker 43 = .ok (.ireturn, 1) := by decide +kernel
theorem dX5_isWeaker_44 : decode cX5_isWeaker 44 = .ok (.aload_n 0, 1) := by decide +kernel
theorem dX5_isWeaker_45 : decode cX5_isWeaker 45 = .ok (.getfield 42, 3) := by decide +kernel
theorem dX5_isWeaker_48 : decode cX5_isWeaker 48 = .ok (.iload_n 1, 1) := by decide +kernel
theorem dX5_isWeaker_49 : decode cX5_isWeaker 49 = .ok (.iaload, 1) := by decide +kernel
theorem dX5_isWeaker_50 : decode cX5_isWeaker 50 = .ok (.aload_n 0, 1) := by decide +kernel
theorem dX5_isWeaker_51 : decode cX5_isWeaker 51 = .ok (.getfield 42, 3) := by decide +kernel
theorem dX5_isWeaker_54 : decode cX5_isWeaker 54 = .ok (.iload_n 2, 1) := by decide +kernel
theorem dX5_isWeaker_55 : decode cX5_isWeaker 55 = .ok (.iaload, 1) := by decide +kernel
theorem dX5_isWeaker_56 : decode cX5_isWeaker 56 = .ok (.if_icmp .ge 7, 3) := by decide +kernel
theorem dX5_isWeaker_59 : decode cX5_isWeaker 59 = .ok (.iconst 1, 1) := by decide +kernel
theorem dX5_isWeaker_60 : decode cX5_isWeaker 60 = .ok (.goto 4, 3) := by decide +kernel
theorem dX5_isWeaker_63 : decode cX5_isWeaker 63 = .ok (.iconst 0, 1) := by decide +kernel
theorem dX5_isWeaker_64 : decode cX5_isWeaker 64 = .ok (.ireturn, 1) := by decide +kernel
theorem dX5_weakest_0 : decode cX5_weakest 0 = .ok (.bipush (-3), 2) := by decide +kernel
theorem dX5_weakest_2 : decode cX5_weakest 2 = .ok (.istore_n 2, 1) := by decide +kernel
theorem dX5_weakest_3 : decode cX5_weakest 3 = .ok (.iconst 0, 1) := by decide +kernel
theorem dX5_weakest_4 : decode cX5_weakest 4 = .ok (.istore_n 3, 1) := by decide +kernel
theorem dX5_weakest_5 : decode cX5_weakest 5 = .ok (.iload_n 3, 1) := by decide +kernel
theorem dX5_weakest_6 : decode cX5_weakest 6 = .ok (.aload_n 0, 1) := by decide +kernel
theorem dX5_weakest_7 : decode cX5_weakest 7 = .ok (.getfield 13, 3) := by decide +kernel
theorem dX5_weakest_10 : decode cX5_weakest 10 = .ok (.if_icmp .ge 42, 3) := by decide +kernel
theorem dX5_weakest_13 : decode cX5_weakest 13 = .ok (.iload_n 1, 1) := by decide +kernel
theorem dX5_weakest_14 : decode cX5_weakest 14 = .ok (.ifCond .eq 13, 3) := by decide +kernel
theorem dX5_weakest_17 : decode cX5_weakest 17 = .ok (.aload_n 0, 1) := by decide +kernel
theorem dX5_weakest_18 : decode cX5_weakest 18 = .ok (.getfield 33, 3) := by decide +kernel
theorem dX5_weakest_21 : decode cX5_weakest 21 = .ok (.iload_n 3, 1) := by decide +kernel
theorem dX5_weakest_22 : decode cX5_weakest 22 = .ok (.iaload, 1) := by decide +kernel
theorem dX5_weakest_23 : decode cX5_weakest 23 = .ok (.iconst 2, 1) := by decide +kernel
theorem dX5_weakest_24 : decode cX5_weakest 24 = .ok (.if_icmp .ne 22, 3) := by decide +kernel
theorem dX5_weakest_27 : decode cX5_weakest 27 = .ok (.iload_n 2, 1) := by decide +kernel
theorem dX5_weakest_28 : decode cX5_weakest 28 = .ok (.ifCond .lt 12, 3) := by decide +kernel
theorem dX5_weakest_31 : decode cX5_weakest 31 = .ok (.aload_n 0, 1) := by decide +kernel
theorem dX5_weakest_32 : decode cX5_weakest 32 = .ok (.iload_n 3, 1) := by decide +kernel
theorem dX5_weakest_33 : decode cX5_weakest 33 = .ok (.iload_n 2, 1) := by decide +kernel
theorem dX5_weakest_34 : decode cX5_weakest 34 = .ok (.invokevirtual 135, 3) := by decide +kernel
theorem dX5_weakest_37 : decode cX5_weakest 37 = .ok (.ifCond .eq 7, 3) := by decide +kernel
theorem dX5_weakest_40 : decode cX5_weakest 40 = .ok (.iload_n 3, 1) := by decide +kernel
theorem dX5_weakest_41 : decode cX5_weakest 41 = .ok (.goto 4, 3) := by decide +kernel
theorem dX5_weakest_44 : decode cX5_weakest 44 = .ok (.iload_n 2, 1) := by decide +kernel
theorem dX5_weakest_45 : decode cX5_weakest 45 = .ok (.istore_n 2, 1) := by decide +kernel
theorem dX5_weakest_46 : decode cX5_weakest 46 = .ok (.iinc 3 1, 3) := by decide +kernel
theorem dX5_weakest_49 : decode cX5_weakest 49 = .ok (.goto (-44), 3) := by decide +kernel
theorem dX5_weakest_52 : decode cX5_weakest 52 = .ok (.iload_n 2, 1) := by decide +kernel
theorem dX5_weakest_53 : decode cX5_weakest 53 = .ok (.ireturn, 1) := by decide +kernel
theorem dX5_taken_0 : decode cX5_taken 0 = .ok (.aload_n 0, 1) := by decide +kernel
theorem dX5_taken_1 : decode cX5_taken 1 = .ok (.getfield 129, 3) := by decide +kernel
theorem dX5_taken_4 : decode cX5_taken 4 = .ok (.iconst 2, 1) := by decide +kernel
theorem dX5_taken_5 : decode cX5_taken 5 = .ok (.if_icmp .ne 11, 3) := by decide +kernel
theorem dX5_taken_8 : decode cX5_taken 8 = .ok (.aload_n 0, 1) := by decide +kernel
theorem dX5_taken_9 : decode cX5_taken 9 = .ok (.iconst 1, 1) := by decide +kernel
theorem dX5_taken_10 : decode cX5_taken 10 = .ok (.invokevirtual 139, 3) := by decide +kernel
theorem dX5_taken_13 : decode cX5_taken 13 = .ok (.goto 5, 3) := by decide +kernel
theorem dX5_taken_16 : decode cX5_taken 16 = .ok (.bipush (-3), 2) := by decide +kernel
theorem dX5_taken_18 : decode cX5_taken 18 = .ok (.istore_n 1, 1) := by decide +kernel
theorem dX5_taken_19 : decode cX5_taken 19 = .ok (.iload_n 1, 1) := by decide +kernel
theorem dX5_taken_20 : decode cX5_taken 20 = .ok (.ifCond .lt 7, 3) := by decide +kernel
theorem dX5_taken_23 : decode cX5_taken 23 = .ok (.iload_n 1, 1) := by decide +kernel
theorem dX5_taken_24 : decode cX5_taken 24 = .ok (.goto 8, 3) := by decide +kernel
theorem dX5_taken_27 : decode cX5_taken 27 = .ok (.aload_n 0, 1) := by decide +kernel
theorem dX5_taken_28 : decode cX5_taken 28 = .ok (.iconst 0, 1) := by decide +kernel
theorem dX5_taken_29 : decode cX5_taken 29 = .ok (.invokevirtual 139, 3) := by decide +kernel
theorem dX5_taken_32 : decode cX5_taken 32 = .ok (.ireturn, 1) := by decide +kernel
theorem dX5_velocityAfter_0 : decode cX5_velocityAfter 0 = .ok (.sipush 128, 3) := by decide +kernel
theorem dX5_velocityAfter_3 : decode cX5_velocityAfter 3 = .ok (.aload_n 0, 1) := by decide +kernel
theorem dX5_velocityAfter_4 : decode cX5_velocityAfter 4 = .ok (.getfield 7, 3) := by decide +kernel
theorem dX5_velocityAfter_7 : decode cX5_velocityAfter 7 = .ok (.iload_n 1, 1) := by decide +kernel
theorem dX5_velocityAfter_8 : decode cX5_velocityAfter 8 = .ok (.imul, 1) := by decide +kernel
theorem dX5_velocityAfter_9 : decode cX5_velocityAfter 9 = .ok (.isub, 1) := by decide +kernel
theorem dX5_velocityAfter_10 : decode cX5_velocityAfter 10 = .ok (.istore_n 2, 1) := by decide +kernel
theorem dX5_velocityAfter_11 : decode cX5_velocityAfter 11 = .ok (.iload_n 2, 1) := by decide +kernel
theorem dX5_velocityAfter_12 : decode cX5_velocityAfter 12 = .ok (.bipush 127, 2) := by decide +kernel
theorem dX5_velocityAfter_14 : decode cX5_velocityAfter 14 = .ok (.if_icmp .le 8, 3) := by decide +kernel
theorem dX5_velocityAfter_17 : decode cX5_velocityAfter 17 = .ok (.bipush 127, 2) := by decide +kernel
theorem dX5_velocityAfter_19 : decode cX5_velocityAfter 19 = .ok (.goto 13, 3) := by decide +kernel
theorem dX5_velocityAfter_22 : decode cX5_velocityAfter 22 = .ok (.iload_n 2, 1) := by decide +kernel
theorem dX5_velocityAfter_23 : decode cX5_velocityAfter 23 = .ok (.iconst 1, 1) := by decide +kernel
theorem dX5_velocityAfter_24 : decode cX5_velocityAfter 24 = .ok (.if_icmp .ge 7, 3) := by decide +kernel
theorem dX5_velocityAfter_27 : decode cX5_velocityAfter 27 = .ok (.iconst 1, 1) := by decide +kernel
theorem dX5_velocityAfter_28 : decode cX5_velocityAfter 28 = .ok (.goto 4, 3) := by decide +kernel
theorem dX5_velocityAfter_31 : decode cX5_velocityAfter 31 = .ok (.iload_n 2, 1) := by decide +kernel
theorem dX5_velocityAfter_32 : decode cX5_velocityAfter 32 = .ok (.ireturn, 1) := by decide +kernel
theorem dX5_strike_0 : decode cX5_strike 0 = .ok (.aload_n 0, 1) := by decide +kernel
theorem dX5_strike_1 : decode cX5_strike 1 = .ok (.getfield 119, 3) := by decide +kernel
theorem dX5_strike_4 : decode cX5_strike 4 = .ok (.ifCond .eq 28, 3) := by decide +kernel
theorem dX5_strike_7 : decode cX5_strike 7 = .ok (.aload_n 0, 1) := by decide +kernel
theorem dX5_strike_8 : decode cX5_strike 8 = .ok (.iload_n 1, 1) := by decide +kernel
theorem dX5_strike_9 : decode cX5_strike 9 = .ok (.invokevirtual 143, 3) := by decide +kernel
theorem dX5_strike_12 : decode cX5_strike 12 = .ok (.ifCond .eq 20, 3) := by decide +kernel
theorem dX5_strike_15 : decode cX5_strike 15 = .ok (.aload_n 0, 1) := by decide +kernel
theorem dX5_strike_16 : decode cX5_strike 16 = .ok (.dup, 1) := by decide +kernel
theorem dX5_strike_17 : decode cX5_strike 17 = .ok (.getfield 83, 3) := by decide +kernel
theorem dX5_strike_20 : decode cX5_strike 20 = .ok (.iconst 1, 1) := by decide +kernel
theorem dX5_strike_21 : decode cX5_strike 21 = .ok (.iadd, 1) := by decide +kernel
theorem dX5_strike_22 : decode cX5_strike 22 = .ok (.putfield 83, 3) := by decide +kernel
theorem dX5_strike_25 : decode cX5_strike 25 = .ok (.aload_n 0, 1) := by decide +kernel
theorem dX5_strike_26 : decode cX5_strike 26 = .ok (.iconst 4, 1) := by decide +kernel
theorem dX5_strike_27 : decode cX5_strike 27 = .ok (.iload_n 1, 1) := by decide +kernel
theorem dX5_strike_28 : decode cX5_strike 28 = .ok (.invokevirtual 132, 3) := by decide +kernel
theorem dX5_strike_31 : decode cX5_strike 31 = .ok (.return_, 1) := by decide +kernel
theorem dX5_strike_32 : decode cX5_strike 32 = .ok (.aload_n 0, 1) := by decide +kernel
theorem dX5_strike_33 : decode cX5_strike 33 = .ok (.iload_n 1, 1) := by decide +kernel
theorem dX5_strike_34 : decode cX5_strike 34 = .ok (.invokevirtual 146, 3) := by decide +kernel
theorem dX5_strike_37 : decode cX5_strike 37 = .ok (.istore_n 2, 1) := by decide +kernel
theorem dX5_strike_38 : decode cX5_strike 38 = .ok (.iload_n 2, 1) := by decide +kernel
theorem dX5_strike_39 : decode cX5_strike 39 = .ok (.ifCond .ge 10, 3) := by decide +kernel
theorem dX5_strike_42 : decode cX5_strike 42 = .ok (.aload_n 0, 1) := by decide +kernel
theorem dX5_strike_43 : decode cX5_strike 43 = .ok (.invokevirtual 149, 3) := by decide +kernel
theorem dX5_strike_46 : decode cX5_strike 46 = .ok (.goto 4, 3) := by decide +kernel
theorem dX5_strike_49 : decode cX5_strike 49 = .ok (.iload_n 2, 1) := by decide +kernel
theorem dX5_strike_50 : decode cX5_strike 50 = .ok (.istore_n 2, 1) := by decide +kernel
theorem dX5_strike_51 : decode cX5_strike 51 = .ok (.iload_n 2, 1) := by decide +kernel
theorem dX5_strike_52 : decode cX5_strike 52 = .ok (.ifCond .ge 29, 3) := by decide +kernel
theorem dX5_strike_55 : decode cX5_strike 55 = .ok (.aload_n 0, 1) := by decide +kernel
theorem dX5_strike_56 : decode cX5_strike 56 = .ok (.invokevirtual 152, 3) := by decide +kernel
theorem dX5_strike_59 : decode cX5_strike 59 = .ok (.istore_n 2, 1) := by decide +kernel
theorem dX5_strike_60 : decode cX5_strike 60 = .ok (.aload_n 0, 1) := by decide +kernel
theorem dX5_strike_61 : decode cX5_strike 61 = .ok (.dup, 1) := by decide +kernel
theorem dX5_strike_62 : decode cX5_strike 62 = .ok (.getfield 86, 3) := by decide +kernel
theorem dX5_strike_65 : decode cX5_strike 65 = .ok (.iconst 1, 1) := by decide +kernel
theorem dX5_strike_66 : decode cX5_strike 66 = .ok (.iadd, 1) := by decide +kernel
theorem dX5_strike_67 : decode cX5_strike 67 = .ok (.putfield 86, 3) := by decide +kernel
theorem dX5_strike_70 : decode cX5_strike 70 = .ok (.aload_n 0, 1) := by decide +kernel
theorem dX5_strike_71 : decode cX5_strike 71 = .ok (.iconst 3, 1) := by decide +kernel
theorem dX5_strike_72 : decode cX5_strike 72 = .ok (.aload_n 0, 1) := by decide +kernel
theorem dX5_strike_73 : decode cX5_strike 73 = .ok (.getfield 36, 3) := by decide +kernel
theorem dX5_strike_76 : decode cX5_strike 76 = .ok (.iload_n 2, 1) := by decide +kernel
theorem dX5_strike_77 : decode cX5_strike 77 = .ok (.iaload, 1) := by decide +kernel
theorem dX5_strike_78 : decode cX5_strike 78 = .ok (.invokevirtual 132, 3) := by decide +kernel
theorem dX5_strike_81 : decode cX5_strike 81 = .ok (.aload_n 0, 1) := by decide +kernel
theorem dX5_strike_82 : decode cX5_strike 82 = .ok (.getfield 33, 3) := by decide +kernel
theorem dX5_strike_85 : decode cX5_strike 85 = .ok (.iload_n 2, 1) := by decide +kernel
theorem dX5_strike_86 : decode cX5_strike 86 = .ok (.iconst 1, 1) := by decide +kernel
theorem dX5_strike_87 : decode cX5_strike 87 = .ok (.iastore, 1) := by decide +kernel
theorem dX5_strike_88 : decode cX5_strike 88 = .ok (.aload_n 0, 1) := by decide +kernel
theorem dX5_strike_89 : decode cX5_strike 89 = .ok (.getfield 36, 3) := by decide +kernel
theorem dX5_strike_92 : decode cX5_strike 92 = .ok (.iload_n 2, 1) := by decide +kernel
theorem dX5_strike_93 : decode cX5_strike 93 = .ok (.iload_n 1, 1) := by decide +kernel
theorem dX5_strike_94 : decode cX5_strike 94 = .ok (.iastore, 1) := by decide +kernel
theorem dX5_strike_95 : decode cX5_strike 95 = .ok (.aload_n 0, 1) := by decide +kernel
theorem dX5_strike_96 : decode cX5_strike 96 = .ok (.getfield 39, 3) := by decide +kernel
theorem dX5_strike_99 : decode cX5_strike 99 = .ok (.iload_n 2, 1) := by decide +kernel
theorem dX5_strike_100 : decode cX5_strike 100 = .ok (.aload_n 0, 1) := by decide +kernel
theorem dX5_strike_101 : decode cX5_strike 101 = .ok (.aload_n 0, 1) := by decide +kernel
theorem dX5_strike_102 : decode cX5_strike 102 = .ok (.getfield 74, 3) := by decide +kernel
theorem dX5_strike_105 : decode cX5_strike 105 = .ok (.aload_n 0, 1) := by decide +kernel
theorem dX5_strike_106 : decode cX5_strike 106 = .ok (.getfield 23, 3) := by decide +kernel
theorem dX5_strike_109 : decode cX5_strike 109 = .ok (.iload_n 1, 1) := by decide +kernel
theorem dX5_strike_110 : decode cX5_strike 110 = .ok (.iaload, 1) := by decide +kernel
theorem dX5_strike_111 : decode cX5_strike 111 = .ok (.isub, 1) := by decide +kernel
theorem dX5_strike_112 : decode cX5_strike 112 = .ok (.aload_n 0, 1) := by decide +kernel
theorem dX5_strike_113 : decode cX5_strike 113 = .ok (.getfield 61, 3) := by decide +kernel
theorem dX5_strike_116 : decode cX5_strike 116 = .ok (.idiv, 1) := by decide +kernel
theorem dX5_strike_117 : decode cX5_strike 117 = .ok (.invokevirtual 155, 3) := by decide +kernel
theorem dX5_strike_120 : decode cX5_strike 120 = .ok (.iastore, 1) := by decide +kernel
theorem dX5_strike_121 : decode cX5_strike 121 = .ok (.aload_n 0, 1) := by decide +kernel
theorem dX5_strike_122 : decode cX5_strike 122 = .ok (.getfield 42, 3) := by decide +kernel
theorem dX5_strike_125 : decode cX5_strike 125 = .ok (.iload_n 2, 1) := by decide +kernel
theorem dX5_strike_126 : decode cX5_strike 126 = .ok (.aload_n 0, 1) := by decide +kernel
theorem dX5_strike_127 : decode cX5_strike 127 = .ok (.getfield 74, 3) := by decide +kernel
theorem dX5_strike_130 : decode cX5_strike 130 = .ok (.iastore, 1) := by decide +kernel
theorem dX5_strike_131 : decode cX5_strike 131 = .ok (.aload_n 0, 1) := by decide +kernel
theorem dX5_strike_132 : decode cX5_strike 132 = .ok (.getfield 45, 3) := by decide +kernel
theorem dX5_strike_135 : decode cX5_strike 135 = .ok (.iload_n 2, 1) := by decide +kernel
theorem dX5_strike_136 : decode cX5_strike 136 = .ok (.iconst 0, 1) := by decide +kernel
theorem dX5_strike_137 : decode cX5_strike 137 = .ok (.bastore, 1) := by decide +kernel
theorem dX5_strike_138 : decode cX5_strike 138 = .ok (.aload_n 0, 1) := by decide +kernel
theorem dX5_strike_139 : decode cX5_strike 139 = .ok (.dup, 1) := by decide +kernel
theorem dX5_strike_140 : decode cX5_strike 140 = .ok (.getfield 80, 3) := by decide +kernel
theorem dX5_strike_143 : decode cX5_strike 143 = .ok (.iconst 1, 1) := by decide +kernel
theorem dX5_strike_144 : decode cX5_strike 144 = .ok (.iadd, 1) := by decide +kernel
theorem dX5_strike_145 : decode cX5_strike 145 = .ok (.putfield 80, 3) := by decide +kernel
theorem dX5_strike_148 : decode cX5_strike 148 = .ok (.aload_n 0, 1) := by decide +kernel
theorem dX5_strike_149 : decode cX5_strike 149 = .ok (.iconst 1, 1) := by decide +kernel
theorem dX5_strike_150 : decode cX5_strike 150 = .ok (.iload_n 1, 1) := by decide +kernel
theorem dX5_strike_151 : decode cX5_strike 151 = .ok (.invokevirtual 132, 3) := by decide +kernel
theorem dX5_strike_154 : decode cX5_strike 154 = .ok (.return_, 1) := by decide +kernel
theorem dX5_release_0 : decode cX5_release 0 = .ok (.aload_n 0, 1) := by decide +kernel
theorem dX5_release_1 : decode cX5_release 1 = .ok (.iload_n 1, 1) := by decide +kernel
theorem dX5_release_2 : decode cX5_release 2 = .ok (.invokevirtual 146, 3) := by decide +kernel
theorem dX5_release_5 : decode cX5_release 5 = .ok (.istore_n 2, 1) := by decide +kernel
theorem dX5_release_6 : decode cX5_release 6 = .ok (.iload_n 2, 1) := by decide +kernel
theorem dX5_release_7 : decode cX5_release 7 = .ok (.ifCond .lt 13, 3) := by decide +kernel
theorem dX5_release_10 : decode cX5_release 10 = .ok (.aload_n 0, 1) := by decide +kernel
theorem dX5_release_11 : decode cX5_release 11 = .ok (.getfield 33, 3) := by decide +kernel
theorem dX5_release_14 : decode cX5_release 14 = .ok (.iload_n 2, 1) := by decide +kernel
theorem dX5_release_15 : decode cX5_release 15 = .ok (.iaload, 1) := by decide +kernel
theorem dX5_release_16 : decode cX5_release 16 = .ok (.iconst 1, 1) := by decide +kernel
theorem dX5_release_17 : decode cX5_release 17 = .ok (.if_icmp .eq 4, 3) := by decide +kernel
theorem dX5_release_20 : decode cX5_release 20 = .ok (.return_, 1) := by decide +kernel
theorem dX5_release_21 : decode cX5_release 21 = .ok (.aload_n 0, 1) := by decide +kernel
theorem dX5_release_22 : decode cX5_release 22 = .ok (.getfield 67, 3) := by decide +kernel
theorem dX5_release_25 : decode cX5_release 25 = .ok (.ifCond .ne 19, 3) := by decide +kernel
theorem dX5_release_28 : decode cX5_release 28 = .ok (.aload_n 0, 1) := by decide +kernel
theorem dX5_release_29 : decode cX5_release 29 = .ok (.getfield 71, 3) := by decide +kernel
theorem dX5_release_32 : decode cX5_release 32 = .ok (.ifCond .eq 22, 3) := by decide +kernel
theorem dX5_release_35 : decode cX5_release 35 = .ok (.aload_n 0, 1) := by decide +kernel
theorem dX5_release_36 : decode cX5_release 36 = .ok (.getfield 45, 3) := by decide +kernel
theorem dX5_release_39 : decode cX5_release 39 = .ok (.iload_n 2, 1) := by decide +kernel
theorem dX5_release_40 : decode cX5_release 40 = .ok (.baload, 1) := by decide +kernel
theorem dX5_release_41 : decode cX5_release 41 = .ok (.ifCond .eq 13, 3) := by decide +kernel
theorem dX5_release_44 : decode cX5_release 44 = .ok (.aload_n 0, 1) := by decide +kernel
theorem dX5_release_45 : decode cX5_release 45 = .ok (.getfield 33, 3) := by decide +kernel
theorem dX5_release_48 : decode cX5_release 48 = .ok (.iload_n 2, 1) := by decide +kernel
theorem dX5_release_49 : decode cX5_release 49 = .ok (.iconst 2, 1) := by decide +kernel
theorem dX5_release_50 : decode cX5_release 50 = .ok (.iastore, 1) := by decide +kernel
theorem dX5_release_51 : decode cX5_release 51 = .ok (.goto 9, 3) := by decide +kernel
theorem dX5_release_54 : decode cX5_release 54 = .ok (.aload_n 0, 1) := by decide +kernel
theorem dX5_release_55 : decode cX5_release 55 = .ok (.iload_n 2, 1) := by decide +kernel
theorem dX5_release_56 : decode cX5_release 56 = .ok (.invokevirtual 125, 3) := by decide +kernel
theorem dX5_release_59 : decode cX5_release 59 = .ok (.pop, 1) := by decide +kernel
theorem dX5_release_60 : decode cX5_release 60 = .ok (.return_, 1) := by decide +kernel
theorem dX5_scan_0 : decode cX5_scan 0 = .ok (.aload_n 0, 1) := by decide +kernel
theorem dX5_scan_1 : decode cX5_scan 1 = .ok (.getfield 20, 3) := by decide +kernel
theorem dX5_scan_4 : decode cX5_scan 4 = .ok (.iload_n 1, 1) := by decide +kernel
theorem dX5_scan_5 : decode cX5_scan 5 = .ok (.iaload, 1) := by decide +kernel
theorem dX5_scan_6 : decode cX5_scan 6 = .ok (.istore_n 3, 1) := by decide +kernel
theorem dX5_scan_7 : decode cX5_scan 7 = .ok (.aload_n 0, 1) := by decide +kernel
theorem dX5_scan_8 : decode cX5_scan 8 = .ok (.getfield 20, 3) := by decide +kernel
theorem dX5_scan_11 : decode cX5_scan 11 = .ok (.iload_n 1, 1) := by decide +kernel
theorem dX5_scan_12 : decode cX5_scan 12 = .ok (.iaload, 1) := by decide +kernel
theorem dX5_scan_13 : decode cX5_scan 13 = .ok (.ifCond .ne 29, 3) := by decide +kernel
theorem dX5_scan_16 : decode cX5_scan 16 = .ok (.aload_n 0, 1) := by decide +kernel
theorem dX5_scan_17 : decode cX5_scan 17 = .ok (.getfield 26, 3) := by decide +kernel
theorem dX5_scan_20 : decode cX5_scan 20 = .ok (.iload_n 1, 1) := by decide +kernel
theorem dX5_scan_21 : decode cX5_scan 21 = .ok (.baload, 1) := by decide +kernel
theorem dX5_scan_22 : decode cX5_scan 22 = .ok (.ifCond .eq 20, 3) := by decide +kernel
theorem dX5_scan_25 : decode cX5_scan 25 = .ok (.aload_n 0, 1) := by decide +kernel
theorem dX5_scan_26 : decode cX5_scan 26 = .ok (.getfield 20, 3) := by decide +kernel
theorem dX5_scan_29 : decode cX5_scan 29 = .ok (.iload_n 1, 1) := by decide +kernel
theorem dX5_scan_30 : decode cX5_scan 30 = .ok (.iconst 1, 1) := by decide +kernel
theorem dX5_scan_31 : decode cX5_scan 31 = .ok (.iastore, 1) := by decide +kernel
theorem dX5_scan_32 : decode cX5_scan 32 = .ok (.aload_n 0, 1) := by decide +kernel
theorem dX5_scan_33 : decode cX5_scan 33 = .ok (.getfield 23, 3) := by decide +kernel
theorem dX5_scan_36 : decode cX5_scan 36 = .ok (.iload_n 1, 1) := by decide +kernel
theorem dX5_scan_37 : decode cX5_scan 37 = .ok (.aload_n 0, 1) := by decide +kernel
theorem dX5_scan_38 : decode cX5_scan 38 = .ok (.getfield 74, 3) := by decide +kernel
theorem dX5_scan_41 : decode cX5_scan 41 = .ok (.iastore, 1) := by decide +kernel
theorem dX5_scan_42 : decode cX5_scan 42 = .ok (.aload_n 0, 1) := by decide +kernel
theorem dX5_scan_43 : decode cX5_scan 43 = .ok (.getfield 20, 3) := by decide +kernel
theorem dX5_scan_46 : decode cX5_scan 46 = .ok (.iload_n 1, 1) := by decide +kernel
theorem dX5_scan_47 : decode cX5_scan 47 = .ok (.iaload, 1) := by decide +kernel
theorem dX5_scan_48 : decode cX5_scan 48 = .ok (.iconst 1, 1) := by decide +kernel
theorem dX5_scan_49 : decode cX5_scan 49 = .ok (.if_icmp .ne 37, 3) := by decide +kernel
theorem dX5_scan_52 : decode cX5_scan 52 = .ok (.aload_n 0, 1) := by decide +kernel
theorem dX5_scan_53 : decode cX5_scan 53 = .ok (.getfield 30, 3) := by decide +kernel
theorem dX5_scan_56 : decode cX5_scan 56 = .ok (.iload_n 1, 1) := by decide +kernel
theorem dX5_scan_57 : decode cX5_scan 57 = .ok (.baload, 1) := by decide +kernel
theorem dX5_scan_58 : decode cX5_scan 58 = .ok (.ifCond .eq 12, 3) := by decide +kernel
theorem dX5_scan_61 : decode cX5_scan 61 = .ok (.aload_n 0, 1) := by decide +kernel
theorem dX5_scan_62 : decode cX5_scan 62 = .ok (.iload_n 1, 1) := by decide +kernel
theorem dX5_scan_63 : decode cX5_scan 63 = .ok (.iload_n 2, 1) := by decide +kernel
theorem dX5_scan_64 : decode cX5_scan 64 = .ok (.invokevirtual 158, 3) := by decide +kernel
theorem dX5_scan_67 : decode cX5_scan 67 = .ok (.goto 19, 3) := by decide +kernel
theorem dX5_scan_70 : decode cX5_scan 70 = .ok (.aload_n 0, 1) := by decide +kernel
theorem dX5_scan_71 : decode cX5_scan 71 = .ok (.getfield 26, 3) := by decide +kernel
theorem dX5_scan_74 : decode cX5_scan 74 = .ok (.iload_n 1, 1) := by decide +kernel
theorem dX5_scan_75 : decode cX5_scan 75 = .ok (.baload, 1) := by decide +kernel
theorem dX5_scan_76 : decode cX5_scan 76 = .ok (.ifCond .ne 10, 3) := by decide +kernel
theorem dX5_scan_79 : decode cX5_scan 79 = .ok (.aload_n 0, 1) := by decide +kernel
theorem dX5_scan_80 : decode cX5_scan 80 = .ok (.getfield 20, 3) := by decide +kernel
theorem dX5_scan_83 : decode cX5_scan 83 = .ok (.iload_n 1, 1) := by decide +kernel
theorem dX5_scan_84 : decode cX5_scan 84 = .ok (.iconst 0, 1) := by decide +kernel
theorem dX5_scan_85 : decode cX5_scan 85 = .ok (.iastore, 1) := by decide +kernel
theorem dX5_scan_86 : decode cX5_scan 86 = .ok (.iload_n 3, 1) := by decide +kernel
theorem dX5_scan_87 : decode cX5_scan 87 = .ok (.iconst 2, 1) := by decide +kernel
theorem dX5_scan_88 : decode cX5_scan 88 = .ok (.if_icmp .ne 45, 3) := by decide +kernel
theorem dX5_scan_91 : decode cX5_scan 91 = .ok (.aload_n 0, 1) := by decide +kernel
theorem dX5_scan_92 : decode cX5_scan 92 = .ok (.getfield 30, 3) := by decide +kernel
theorem dX5_scan_95 : decode cX5_scan 95 = .ok (.iload_n 1, 1) := by decide +kernel
theorem dX5_scan_96 : decode cX5_scan 96 = .ok (.baload, 1) := by decide +kernel
theorem dX5_scan_97 : decode cX5_scan 97 = .ok (.ifCond .ne 36, 3) := by decide +kernel
theorem dX5_scan_100 : decode cX5_scan 100 = .ok (.aload_n 0, 1) := by decide +kernel
theorem dX5_scan_101 : decode cX5_scan 101 = .ok (.getfield 122, 3) := by decide +kernel
theorem dX5_scan_104 : decode cX5_scan 104 = .ok (.ifCond .ne 12, 3) := by decide +kernel
theorem dX5_scan_107 : decode cX5_scan 107 = .ok (.iload_n 2, 1) := by decide +kernel
theorem dX5_scan_108 : decode cX5_scan 108 = .ok (.ifCond .eq 8, 3) := by decide +kernel
theorem dX5_scan_111 : decode cX5_scan 111 = .ok (.aload_n 0, 1) := by decide +kernel
theorem dX5_scan_112 : decode cX5_scan 112 = .ok (.iload_n 1, 1) := by decide +kernel
theorem dX5_scan_113 : decode cX5_scan 113 = .ok (.invokevirtual 162, 3) := by decide +kernel
theorem dX5_scan_116 : decode cX5_scan 116 = .ok (.aload_n 0, 1) := by decide +kernel
theorem dX5_scan_117 : decode cX5_scan 117 = .ok (.getfield 20, 3) := by decide +kernel
theorem dX5_scan_120 : decode cX5_scan 120 = .ok (.iload_n 1, 1) := by decide +kernel
theorem dX5_scan_121 : decode cX5_scan 121 = .ok (.iconst 3, 1) := by decide +kernel
theorem dX5_scan_122 : decode cX5_scan 122 = .ok (.iastore, 1) := by decide +kernel
theorem dX5_scan_123 : decode cX5_scan 123 = .ok (.aload_n 0, 1) := by decide +kernel
theorem dX5_scan_124 : decode cX5_scan 124 = .ok (.getfield 23, 3) := by decide +kernel
theorem dX5_scan_127 : decode cX5_scan 127 = .ok (.iload_n 1, 1) := by decide +kernel
theorem dX5_scan_128 : decode cX5_scan 128 = .ok (.aload_n 0, 1) := by decide +kernel
theorem dX5_scan_129 : decode cX5_scan 129 = .ok (.getfield 74, 3) := by decide +kernel
theorem dX5_scan_132 : decode cX5_scan 132 = .ok (.iastore, 1) := by decide +kernel
theorem dX5_scan_133 : decode cX5_scan 133 = .ok (.aload_n 0, 1) := by decide +kernel
theorem dX5_scan_134 : decode cX5_scan 134 = .ok (.getfield 20, 3) := by decide +kernel
theorem dX5_scan_137 : decode cX5_scan 137 = .ok (.iload_n 1, 1) := by decide +kernel
theorem dX5_scan_138 : decode cX5_scan 138 = .ok (.iaload, 1) := by decide +kernel
theorem dX5_scan_139 : decode cX5_scan 139 = .ok (.iconst 3, 1) := by decide +kernel
theorem dX5_scan_140 : decode cX5_scan 140 = .ok (.if_icmp .ne 46, 3) := by decide +kernel
theorem dX5_scan_143 : decode cX5_scan 143 = .ok (.aload_n 0, 1) := by decide +kernel
theorem dX5_scan_144 : decode cX5_scan 144 = .ok (.getfield 30, 3) := by decide +kernel
theorem dX5_scan_147 : decode cX5_scan 147 = .ok (.iload_n 1, 1) := by decide +kernel
theorem dX5_scan_148 : decode cX5_scan 148 = .ok (.baload, 1) := by decide +kernel
theorem dX5_scan_149 : decode cX5_scan 149 = .ok (.ifCond .eq 12, 3) := by decide +kernel
theorem dX5_scan_152 : decode cX5_scan 152 = .ok (.aload_n 0, 1) := by decide +kernel
theorem dX5_scan_153 : decode cX5_scan 153 = .ok (.iload_n 1, 1) := by decide +kernel
theorem dX5_scan_154 : decode cX5_scan 154 = .ok (.iload_n 2, 1) := by decide +kernel
theorem dX5_scan_155 : decode cX5_scan 155 = .ok (.invokevirtual 158, 3) := by decide +kernel
theorem dX5_scan_158 : decode cX5_scan 158 = .ok (.goto 28, 3) := by decide +kernel
theorem dX5_scan_161 : decode cX5_scan 161 = .ok (.aload_n 0, 1) := by decide +kernel
theorem dX5_scan_162 : decode cX5_scan 162 = .ok (.getfield 26, 3) := by decide +kernel
theorem dX5_scan_165 : decode cX5_scan 165 = .ok (.iload_n 1, 1) := by decide +kernel
theorem dX5_scan_166 : decode cX5_scan 166 = .ok (.baload, 1) := by decide +kernel
theorem dX5_scan_167 : decode cX5_scan 167 = .ok (.ifCond .ne 19, 3) := by decide +kernel
theorem dX5_scan_170 : decode cX5_scan 170 = .ok (.iload_n 2, 1) := by decide +kernel
theorem dX5_scan_171 : decode cX5_scan 171 = .ok (.ifCond .eq 8, 3) := by decide +kernel
theorem dX5_scan_174 : decode cX5_scan 174 = .ok (.aload_n 0, 1) := by decide +kernel
theorem dX5_scan_175 : decode cX5_scan 175 = .ok (.iload_n 1, 1) := by decide +kernel
theorem dX5_scan_176 : decode cX5_scan 176 = .ok (.invokevirtual 162, 3) := by decide +kernel
theorem dX5_scan_179 : decode cX5_scan 179 = .ok (.aload_n 0, 1) := by decide +kernel
theorem dX5_scan_180 : decode cX5_scan 180 = .ok (.getfield 20, 3) := by decide +kernel
theorem dX5_scan_183 : decode cX5_scan 183 = .ok (.iload_n 1, 1) := by decide +kernel
theorem dX5_scan_184 : decode cX5_scan 184 = .ok (.iconst 0, 1) := by decide +kernel
theorem dX5_scan_185 : decode cX5_scan 185 = .ok (.iastore, 1) := by decide +kernel
theorem dX5_scan_186 : decode cX5_scan 186 = .ok (.return_, 1) := by decide +kernel
theorem dX5_hits_0 : decode cX5_hits 0 = .ok (.iload_n 2, 1) := by decide +kernel
theorem dX5_hits_1 : decode cX5_hits 1 = .ok (.ifCond .eq 8, 3) := by decide +kernel
theorem dX5_hits_4 : decode cX5_hits 4 = .ok (.aload_n 0, 1) := by decide +kernel
theorem dX5_hits_5 : decode cX5_hits 5 = .ok (.iload_n 1, 1) := by decide +kernel
theorem dX5_hits_6 : decode cX5_hits 6 = .ok (.invokevirtual 166, 3) := by decide +kernel
theorem dX5_hits_9 : decode cX5_hits 9 = .ok (.aload_n 0, 1) := by decide +kernel
theorem dX5_hits_10 : decode cX5_hits 10 = .ok (.getfield 20, 3) := by decide +kernel
theorem dX5_hits_13 : decode cX5_hits 13 = .ok (.iload_n 1, 1) := by decide +kernel
theorem dX5_hits_14 : decode cX5_hits 14 = .ok (.iconst 2, 1) := by decide +kernel
theorem dX5_hits_15 : decode cX5_hits 15 = .ok (.iastore, 1) := by decide +kernel
theorem dX5_hits_16 : decode cX5_hits 16 = .ok (.return_, 1) := by decide +kernel
theorem dX5_pass_0 : decode cX5_pass 0 = .ok (.aload_n 0, 1) := by decide +kernel
theorem dX5_pass_1 : decode cX5_pass 1 = .ok (.getfield 74, 3) := by decide +kernel
theorem dX5_pass_4 : decode cX5_pass 4 = .ok (.aload_n 0, 1) := by decide +kernel
theorem dX5_pass_5 : decode cX5_pass 5 = .ok (.getfield 61, 3) := by decide +kernel
theorem dX5_pass_8 : decode cX5_pass 8 = .ok (.irem, 1) := by decide +kernel
theorem dX5_pass_9 : decode cX5_pass 9 = .ok (.istore_n 2, 1) := by decide +kernel
theorem dX5_pass_10 : decode cX5_pass 10 = .ok (.iconst 0, 1) := by decide +kernel
theorem dX5_pass_11 : decode cX5_pass 11 = .ok (.istore_n 3, 1) := by decide +kernel
theorem dX5_pass_12 : decode cX5_pass 12 = .ok (.iload_n 3, 1) := by decide +kernel
theorem dX5_pass_13 : decode cX5_pass 13 = .ok (.aload_n 0, 1) := by decide +kernel
theorem dX5_pass_14 : decode cX5_pass 14 = .ok (.getfield 64, 3) := by decide +kernel
theorem dX5_pass_17 : decode cX5_pass 17 = .ok (.if_icmp .ge 22, 3) := by decide +kernel
theorem dX5_pass_20 : decode cX5_pass 20 = .ok (.aload_n 0, 1) := by decide +kernel
theorem dX5_pass_21 : decode cX5_pass 21 = .ok (.iload_n 2, 1) := by decide +kernel
theorem dX5_pass_22 : decode cX5_pass 22 = .ok (.aload_n 0, 1) := by decide +kernel
theorem dX5_pass_23 : decode cX5_pass 23 = .ok (.getfield 64, 3) := by decide +kernel
theorem dX5_pass_26 : decode cX5_pass 26 = .ok (.imul, 1) := by decide +kernel
theorem dX5_pass_27 : decode cX5_pass 27 = .ok (.iload_n 3, 1) := by decide +kernel
theorem dX5_pass_28 : decode cX5_pass 28 = .ok (.iadd, 1) := by decide +kernel
theorem dX5_pass_29 : decode cX5_pass 29 = .ok (.iload_n 1, 1) := by decide +kernel
theorem dX5_pass_30 : decode cX5_pass 30 = .ok (.invokevirtual 169, 3) := by decide +kernel
theorem dX5_pass_33 : decode cX5_pass 33 = .ok (.iinc 3 1, 3) := by decide +kernel
theorem dX5_pass_36 : decode cX5_pass 36 = .ok (.goto (-24), 3) := by decide +kernel
theorem dX5_pass_39 : decode cX5_pass 39 = .ok (.aload_n 0, 1) := by decide +kernel
theorem dX5_pass_40 : decode cX5_pass 40 = .ok (.dup, 1) := by decide +kernel
theorem dX5_pass_41 : decode cX5_pass 41 = .ok (.getfield 74, 3) := by decide +kernel
theorem dX5_pass_44 : decode cX5_pass 44 = .ok (.iconst 1, 1) := by decide +kernel
theorem dX5_pass_45 : decode cX5_pass 45 = .ok (.iadd, 1) := by decide +kernel
theorem dX5_pass_46 : decode cX5_pass 46 = .ok (.putfield 74, 3) := by decide +kernel
theorem dX5_pass_49 : decode cX5_pass 49 = .ok (.return_, 1) := by decide +kernel
theorem dX5_tick_0 : decode cX5_tick 0 = .ok (.iload_n 1, 1) := by decide +kernel
theorem dX5_tick_1 : decode cX5_tick 1 = .ok (.iconst 1, 1) := by decide +kernel
theorem dX5_tick_2 : decode cX5_tick 2 = .ok (.sipush 1000, 3) := by decide +kernel
theorem dX5_tick_5 : decode cX5_tick 5 = .ok (.invokestatic 92, 3) := by decide +kernel
theorem dX5_tick_8 : decode cX5_tick 8 = .ok (.ifCond .ne 6, 3) := by decide +kernel
theorem dX5_tick_11 : decode cX5_tick 11 = .ok (.bipush (-2), 2) := by decide +kernel
theorem dX5_tick_13 : decode cX5_tick 13 = .ok (.ireturn, 1) := by decide +kernel
theorem dX5_tick_14 : decode cX5_tick 14 = .ok (.iconst 0, 1) := by decide +kernel
theorem dX5_tick_15 : decode cX5_tick 15 = .ok (.istore_n 2, 1) := by decide +kernel
theorem dX5_tick_16 : decode cX5_tick 16 = .ok (.iload_n 2, 1) := by decide +kernel
theorem dX5_tick_17 : decode cX5_tick 17 = .ok (.iload_n 1, 1) := by decide +kernel
theorem dX5_tick_18 : decode cX5_tick 18 = .ok (.if_icmp .ge 14, 3) := by decide +kernel
theorem dX5_tick_21 : decode cX5_tick 21 = .ok (.aload_n 0, 1) := by decide +kernel
theorem dX5_tick_22 : decode cX5_tick 22 = .ok (.iconst 1, 1) := by decide +kernel
theorem dX5_tick_23 : decode cX5_tick 23 = .ok (.invokevirtual 172, 3) := by decide +kernel
theorem dX5_tick_26 : decode cX5_tick 26 = .ok (.iinc 2 1, 3) := by decide +kernel
theorem dX5_tick_29 : decode cX5_tick 29 = .ok (.goto (-13), 3) := by decide +kernel
theorem dX5_tick_32 : decode cX5_tick 32 = .ok (.aload_n 0, 1) := by decide +kernel
theorem dX5_tick_33 : decode cX5_tick 33 = .ok (.getfield 74, 3) := by decide +kernel
theorem dX5_tick_36 : decode cX5_tick 36 = .ok (.ireturn, 1) := by decide +kernel
theorem dX5_noKey_0 : decode cX5_noKey 0 = .ok (.iload_n 1, 1) := by decide +kernel
theorem dX5_noKey_1 : decode cX5_noKey 1 = .ok (.iconst 0, 1) := by decide +kernel
theorem dX5_noKey_2 : decode cX5_noKey 2 = .ok (.aload_n 0, 1) := by decide +kernel
theorem dX5_noKey_3 : decode cX5_noKey 3 = .ok (.invokevirtual 96, 3) := by decide +kernel
theorem dX5_noKey_6 : decode cX5_noKey 6 = .ok (.iconst 1, 1) := by decide +kernel
theorem dX5_noKey_7 : decode cX5_noKey 7 = .ok (.isub, 1) := by decide +kernel
theorem dX5_noKey_8 : decode cX5_noKey 8 = .ok (.invokestatic 92, 3) := by decide +kernel
theorem dX5_noKey_11 : decode cX5_noKey 11 = .ok (.ifCond .ne 7, 3) := by decide +kernel
theorem dX5_noKey_14 : decode cX5_noKey 14 = .ok (.iconst 1, 1) := by decide +kernel
theorem dX5_noKey_15 : decode cX5_noKey 15 = .ok (.goto 4, 3) := by decide +kernel
theorem dX5_noKey_18 : decode cX5_noKey 18 = .ok (.iconst 0, 1) := by decide +kernel
theorem dX5_noKey_19 : decode cX5_noKey 19 = .ok (.ireturn, 1) := by decide +kernel
theorem dX5_setKey_0 : decode cX5_setKey 0 = .ok (.aload_n 0, 1) := by decide +kernel
theorem dX5_setKey_1 : decode cX5_setKey 1 = .ok (.iload_n 1, 1) := by decide +kernel
theorem dX5_setKey_2 : decode cX5_setKey 2 = .ok (.invokevirtual 176, 3) := by decide +kernel
theorem dX5_setKey_5 : decode cX5_setKey 5 = .ok (.ifCond .eq 5, 3) := by decide +kernel
theorem dX5_setKey_8 : decode cX5_setKey 8 = .ok (.iconst (-1), 1) := by decide +kernel
theorem dX5_setKey_9 : decode cX5_setKey 9 = .ok (.ireturn, 1) := by decide +kernel
theorem dX5_setKey_10 : decode cX5_setKey 10 = .ok (.iload_n 2, 1) := by decide +kernel
theorem dX5_setKey_11 : decode cX5_setKey 11 = .ok (.iconst 0, 1) := by decide +kernel
theorem dX5_setKey_12 : decode cX5_setKey 12 = .ok (.iconst 2, 1) := by decide +kernel
theorem dX5_setKey_13 : decode cX5_setKey 13 = .ok (.invokestatic 92, 3) := by decide +kernel
theorem dX5_setKey_16 : decode cX5_setKey 16 = .ok (.ifCond .ne 6, 3) := by decide +kernel
theorem dX5_setKey_19 : decode cX5_setKey 19 = .ok (.bipush (-2), 2) := by decide +kernel
theorem dX5_setKey_21 : decode cX5_setKey 21 = .ok (.ireturn, 1) := by decide +kernel
theorem dX5_setKey_22 : decode cX5_setKey 22 = .ok (.aload_n 0, 1) := by decide +kernel
theorem dX5_setKey_23 : decode cX5_setKey 23 = .ok (.getfield 16, 3) := by decide +kernel
theorem dX5_setKey_26 : decode cX5_setKey 26 = .ok (.iload_n 1, 1) := by decide +kernel
theorem dX5_setKey_27 : decode cX5_setKey 27 = .ok (.iaload, 1) := by decide +kernel
theorem dX5_setKey_28 : decode cX5_setKey 28 = .ok (.istore_n 3, 1) := by decide +kernel
theorem dX5_setKey_29 : decode cX5_setKey 29 = .ok (.aload_n 0, 1) := by decide +kernel
theorem dX5_setKey_30 : decode cX5_setKey 30 = .ok (.getfield 16, 3) := by decide +kernel
theorem dX5_setKey_33 : decode cX5_setKey 33 = .ok (.iload_n 1, 1) := by decide +kernel
theorem dX5_setKey_34 : decode cX5_setKey 34 = .ok (.iload_n 2, 1) := by decide +kernel
theorem dX5_setKey_35 : decode cX5_setKey 35 = .ok (.iastore, 1) := by decide +kernel
theorem dX5_setKey_36 : decode cX5_setKey 36 = .ok (.aload_n 0, 1) := by decide +kernel
theorem dX5_setKey_37 : decode cX5_setKey 37 = .ok (.invokevirtual 89, 3) := by decide +kernel
theorem dX5_setKey_40 : decode cX5_setKey 40 = .ok (.iload_n 3, 1) := by decide +kernel
theorem dX5_setKey_41 : decode cX5_setKey 41 = .ok (.ireturn, 1) := by decide +kernel
theorem dX5_pressed_0 : decode cX5_pressed 0 = .ok (.iconst 0, 1) := by decide +kernel
theorem dX5_pressed_1 : decode cX5_pressed 1 = .ok (.istore_n 1, 1) := by decide +kernel
theorem dX5_pressed_2 : decode cX5_pressed 2 = .ok (.iconst 0, 1) := by decide +kernel
theorem dX5_pressed_3 : decode cX5_pressed 3 = .ok (.istore_n 2, 1) := by decide +kernel
theorem dX5_pressed_4 : decode cX5_pressed 4 = .ok (.iload_n 2, 1) := by decide +kernel
theorem dX5_pressed_5 : decode cX5_pressed 5 = .ok (.aload_n 0, 1) := by decide +kernel
theorem dX5_pressed_6 : decode cX5_pressed 6 = .ok (.invokevirtual 96, 3) := by decide +kernel
theorem dX5_pressed_9 : decode cX5_pressed 9 = .ok (.if_icmp .ge 26, 3) := by decide +kernel
theorem dX5_pressed_12 : decode cX5_pressed 12 = .ok (.iload_n 1, 1) := by decide +kernel
theorem dX5_pressed_13 : decode cX5_pressed 13 = .ok (.aload_n 0, 1) := by decide +kernel
theorem dX5_pressed_14 : decode cX5_pressed 14 = .ok (.getfield 16, 3) := by decide +kernel
theorem dX5_pressed_17 : decode cX5_pressed 17 = .ok (.iload_n 2, 1) := by decide +kernel
theorem dX5_pressed_18 : decode cX5_pressed 18 = .ok (.iaload, 1) := by decide +kernel
theorem dX5_pressed_19 : decode cX5_pressed 19 = .ok (.ifCond .le 7, 3) := by decide +kernel
theorem dX5_pressed_22 : decode cX5_pressed 22 = .ok (.iconst 1, 1) := by decide +kernel
theorem dX5_pressed_23 : decode cX5_pressed 23 = .ok (.goto 4, 3) := by decide +kernel
theorem dX5_pressed_26 : decode cX5_pressed 26 = .ok (.iconst 0, 1) := by decide +kernel
theorem dX5_pressed_27 : decode cX5_pressed 27 = .ok (.iadd, 1) := by decide +kernel
end
section
theorem dX5_pressed_28 : decode cX5_pressed 28 = .ok (.istore_n 1, 1) := by decide +kernel
theorem dX5_pressed_29 : decode cX5_pressed 29 = .ok (.iinc 2 1, 3) := by decide +kernel
theorem dX5_pressed_32 : decode cX5_pressed 32 = .ok (.goto (-28), 3) := by decide +kernel
theorem dX5_pressed_35 : decode cX5_pressed 35 = .ok (.iload_n 1, 1) := by decide +kernel
theorem dX5_pressed_36 : decode cX5_pressed 36 = .ok (.ireturn, 1) := by decide +kernel
theorem dX5_liftAll_0 : decode cX5_liftAll 0 = .ok (.aload_n 0, 1) := by decide +kernel
theorem dX5_liftAll_1 : decode cX5_liftAll 1 = .ok (.invokevirtual 179, 3) := by decide +kernel
theorem dX5_liftAll_4 : decode cX5_liftAll 4 = .ok (.istore_n 1, 1) := by decide +kernel
theorem dX5_liftAll_5 : decode cX5_liftAll 5 = .ok (.iconst 0, 1) := by decide +kernel
theorem dX5_liftAll_6 : decode cX5_liftAll 6 = .ok (.istore_n 2, 1) := by decide +kernel
theorem dX5_liftAll_7 : decode cX5_liftAll 7 = .ok (.iload_n 2, 1) := by decide +kernel
theorem dX5_liftAll_8 : decode cX5_liftAll 8 = .ok (.aload_n 0, 1) := by decide +kernel
theorem dX5_liftAll_9 : decode cX5_liftAll 9 = .ok (.invokevirtual 96, 3) := by decide +kernel
theorem dX5_liftAll_12 : decode cX5_liftAll 12 = .ok (.if_icmp .ge 16, 3) := by decide +kernel
theorem dX5_liftAll_15 : decode cX5_liftAll 15 = .ok (.aload_n 0, 1) := by decide +kernel
theorem dX5_liftAll_16 : decode cX5_liftAll 16 = .ok (.getfield 16, 3) := by decide +kernel
theorem dX5_liftAll_19 : decode cX5_liftAll 19 = .ok (.iload_n 2, 1) := by decide +kernel
theorem dX5_liftAll_20 : decode cX5_liftAll 20 = .ok (.iconst 0, 1) := by decide +kernel
theorem dX5_liftAll_21 : decode cX5_liftAll 21 = .ok (.iastore, 1) := by decide +kernel
theorem dX5_liftAll_22 : decode cX5_liftAll 22 = .ok (.iinc 2 1, 3) := by decide +kernel
theorem dX5_liftAll_25 : decode cX5_liftAll 25 = .ok (.goto (-18), 3) := by decide +kernel
theorem dX5_liftAll_28 : decode cX5_liftAll 28 = .ok (.aload_n 0, 1) := by decide +kernel
theorem dX5_liftAll_29 : decode cX5_liftAll 29 = .ok (.invokevirtual 89, 3) := by decide +kernel
theorem dX5_liftAll_32 : decode cX5_liftAll 32 = .ok (.iload_n 1, 1) := by decide +kernel
theorem dX5_liftAll_33 : decode cX5_liftAll 33 = .ok (.ireturn, 1) := by decide +kernel
theorem dX5_dropKept_0 : decode cX5_dropKept 0 = .ok (.iconst 0, 1) := by decide +kernel
theorem dX5_dropKept_1 : decode cX5_dropKept 1 = .ok (.istore_n 1, 1) := by decide +kernel
theorem dX5_dropKept_2 : decode cX5_dropKept 2 = .ok (.iconst 0, 1) := by decide +kernel
theorem dX5_dropKept_3 : decode cX5_dropKept 3 = .ok (.istore_n 2, 1) := by decide +kernel
theorem dX5_dropKept_4 : decode cX5_dropKept 4 = .ok (.iload_n 2, 1) := by decide +kernel
theorem dX5_dropKept_5 : decode cX5_dropKept 5 = .ok (.aload_n 0, 1) := by decide +kernel
theorem dX5_dropKept_6 : decode cX5_dropKept 6 = .ok (.getfield 13, 3) := by decide +kernel
theorem dX5_dropKept_9 : decode cX5_dropKept 9 = .ok (.if_icmp .ge 50, 3) := by decide +kernel
theorem dX5_dropKept_12 : decode cX5_dropKept 12 = .ok (.aload_n 0, 1) := by decide +kernel
theorem dX5_dropKept_13 : decode cX5_dropKept 13 = .ok (.getfield 33, 3) := by decide +kernel
theorem dX5_dropKept_16 : decode cX5_dropKept 16 = .ok (.iload_n 2, 1) := by decide +kernel
theorem dX5_dropKept_17 : decode cX5_dropKept 17 = .ok (.iaload, 1) := by decide +kernel
theorem dX5_dropKept_18 : decode cX5_dropKept 18 = .ok (.iconst 2, 1) := by decide +kernel
theorem dX5_dropKept_19 : decode cX5_dropKept 19 = .ok (.if_icmp .ne 34, 3) := by decide +kernel
theorem dX5_dropKept_22 : decode cX5_dropKept 22 = .ok (.aload_n 0, 1) := by decide +kernel
theorem dX5_dropKept_23 : decode cX5_dropKept 23 = .ok (.getfield 67, 3) := by decide +kernel
theorem dX5_dropKept_26 : decode cX5_dropKept 26 = .ok (.ifCond .ne 27, 3) := by decide +kernel
theorem dX5_dropKept_29 : decode cX5_dropKept 29 = .ok (.aload_n 0, 1) := by decide +kernel
theorem dX5_dropKept_30 : decode cX5_dropKept 30 = .ok (.getfield 71, 3) := by decide +kernel
theorem dX5_dropKept_33 : decode cX5_dropKept 33 = .ok (.ifCond .eq 12, 3) := by decide +kernel
theorem dX5_dropKept_36 : decode cX5_dropKept 36 = .ok (.aload_n 0, 1) := by decide +kernel
theorem dX5_dropKept_37 : decode cX5_dropKept 37 = .ok (.getfield 45, 3) := by decide +kernel
theorem dX5_dropKept_40 : decode cX5_dropKept 40 = .ok (.iload_n 2, 1) := by decide +kernel
theorem dX5_dropKept_41 : decode cX5_dropKept 41 = .ok (.baload, 1) := by decide +kernel
theorem dX5_dropKept_42 : decode cX5_dropKept 42 = .ok (.ifCond .ne 11, 3) := by decide +kernel
theorem dX5_dropKept_45 : decode cX5_dropKept 45 = .ok (.iload_n 1, 1) := by decide +kernel
theorem dX5_dropKept_46 : decode cX5_dropKept 46 = .ok (.aload_n 0, 1) := by decide +kernel
theorem dX5_dropKept_47 : decode cX5_dropKept 47 = .ok (.iload_n 2, 1) := by decide +kernel
theorem dX5_dropKept_48 : decode cX5_dropKept 48 = .ok (.invokevirtual 125, 3) := by decide +kernel
theorem dX5_dropKept_51 : decode cX5_dropKept 51 = .ok (.iadd, 1) := by decide +kernel
theorem dX5_dropKept_52 : decode cX5_dropKept 52 = .ok (.istore_n 1, 1) := by decide +kernel
theorem dX5_dropKept_53 : decode cX5_dropKept 53 = .ok (.iinc 2 1, 3) := by decide +kernel
theorem dX5_dropKept_56 : decode cX5_dropKept 56 = .ok (.goto (-52), 3) := by decide +kernel
theorem dX5_dropKept_59 : decode cX5_dropKept 59 = .ok (.iload_n 1, 1) := by decide +kernel
theorem dX5_dropKept_60 : decode cX5_dropKept 60 = .ok (.ireturn, 1) := by decide +kernel
theorem dX5_sustain_0 : decode cX5_sustain 0 = .ok (.aload_n 0, 1) := by decide +kernel
theorem dX5_sustain_1 : decode cX5_sustain 1 = .ok (.iload_n 1, 1) := by decide +kernel
theorem dX5_sustain_2 : decode cX5_sustain 2 = .ok (.putfield 67, 3) := by decide +kernel
theorem dX5_sustain_5 : decode cX5_sustain 5 = .ok (.aload_n 0, 1) := by decide +kernel
theorem dX5_sustain_6 : decode cX5_sustain 6 = .ok (.invokevirtual 182, 3) := by decide +kernel
theorem dX5_sustain_9 : decode cX5_sustain 9 = .ok (.ireturn, 1) := by decide +kernel
theorem dX5_sostenuto_0 : decode cX5_sostenuto 0 = .ok (.aload_n 0, 1) := by decide +kernel
theorem dX5_sostenuto_1 : decode cX5_sostenuto 1 = .ok (.getfield 71, 3) := by decide +kernel
theorem dX5_sostenuto_4 : decode cX5_sostenuto 4 = .ok (.iload_n 1, 1) := by decide +kernel
theorem dX5_sostenuto_5 : decode cX5_sostenuto 5 = .ok (.if_icmp .ne 5, 3) := by decide +kernel
theorem dX5_sostenuto_8 : decode cX5_sostenuto 8 = .ok (.iconst 0, 1) := by decide +kernel
theorem dX5_sostenuto_9 : decode cX5_sostenuto 9 = .ok (.ireturn, 1) := by decide +kernel
theorem dX5_sostenuto_10 : decode cX5_sostenuto 10 = .ok (.aload_n 0, 1) := by decide +kernel
theorem dX5_sostenuto_11 : decode cX5_sostenuto 11 = .ok (.iload_n 1, 1) := by decide +kernel
theorem dX5_sostenuto_12 : decode cX5_sostenuto 12 = .ok (.putfield 71, 3) := by decide +kernel
theorem dX5_sostenuto_15 : decode cX5_sostenuto 15 = .ok (.iconst 0, 1) := by decide +kernel
theorem dX5_sostenuto_16 : decode cX5_sostenuto 16 = .ok (.istore_n 2, 1) := by decide +kernel
theorem dX5_sostenuto_17 : decode cX5_sostenuto 17 = .ok (.iconst 0, 1) := by decide +kernel
theorem dX5_sostenuto_18 : decode cX5_sostenuto 18 = .ok (.istore_n 3, 1) := by decide +kernel
theorem dX5_sostenuto_19 : decode cX5_sostenuto 19 = .ok (.iload_n 3, 1) := by decide +kernel
theorem dX5_sostenuto_20 : decode cX5_sostenuto 20 = .ok (.aload_n 0, 1) := by decide +kernel
theorem dX5_sostenuto_21 : decode cX5_sostenuto 21 = .ok (.getfield 13, 3) := by decide +kernel
theorem dX5_sostenuto_24 : decode cX5_sostenuto 24 = .ok (.if_icmp .ge 51, 3) := by decide +kernel
theorem dX5_sostenuto_27 : decode cX5_sostenuto 27 = .ok (.aload_n 0, 1) := by decide +kernel
theorem dX5_sostenuto_28 : decode cX5_sostenuto 28 = .ok (.getfield 45, 3) := by decide +kernel
theorem dX5_sostenuto_31 : decode cX5_sostenuto 31 = .ok (.iload_n 3, 1) := by decide +kernel
theorem dX5_sostenuto_32 : decode cX5_sostenuto 32 = .ok (.iload_n 1, 1) := by decide +kernel
theorem dX5_sostenuto_33 : decode cX5_sostenuto 33 = .ok (.ifCond .eq 17, 3) := by decide +kernel
theorem dX5_sostenuto_36 : decode cX5_sostenuto 36 = .ok (.aload_n 0, 1) := by decide +kernel
theorem dX5_sostenuto_37 : decode cX5_sostenuto 37 = .ok (.getfield 33, 3) := by decide +kernel
theorem dX5_sostenuto_40 : decode cX5_sostenuto 40 = .ok (.iload_n 3, 1) := by decide +kernel
theorem dX5_sostenuto_41 : decode cX5_sostenuto 41 = .ok (.iaload, 1) := by decide +kernel
theorem dX5_sostenuto_42 : decode cX5_sostenuto 42 = .ok (.iconst 1, 1) := by decide +kernel
theorem dX5_sostenuto_43 : decode cX5_sostenuto 43 = .ok (.if_icmp .ne 7, 3) := by decide +kernel
theorem dX5_sostenuto_46 : decode cX5_sostenuto 46 = .ok (.iconst 1, 1) := by decide +kernel
theorem dX5_sostenuto_47 : decode cX5_sostenuto 47 = .ok (.goto 4, 3) := by decide +kernel
theorem dX5_sostenuto_50 : decode cX5_sostenuto 50 = .ok (.iconst 0, 1) := by decide +kernel
theorem dX5_sostenuto_51 : decode cX5_sostenuto 51 = .ok (.bastore, 1) := by decide +kernel
theorem dX5_sostenuto_52 : decode cX5_sostenuto 52 = .ok (.iload_n 2, 1) := by decide +kernel
theorem dX5_sostenuto_53 : decode cX5_sostenuto 53 = .ok (.aload_n 0, 1) := by decide +kernel
theorem dX5_sostenuto_54 : decode cX5_sostenuto 54 = .ok (.getfield 45, 3) := by decide +kernel
theorem dX5_sostenuto_57 : decode cX5_sostenuto 57 = .ok (.iload_n 3, 1) := by decide +kernel
theorem dX5_sostenuto_58 : decode cX5_sostenuto 58 = .ok (.baload, 1) := by decide +kernel
theorem dX5_sostenuto_59 : decode cX5_sostenuto 59 = .ok (.ifCond .eq 7, 3) := by decide +kernel
theorem dX5_sostenuto_62 : decode cX5_sostenuto 62 = .ok (.iconst 1, 1) := by decide +kernel
theorem dX5_sostenuto_63 : decode cX5_sostenuto 63 = .ok (.goto 4, 3) := by decide +kernel
theorem dX5_sostenuto_66 : decode cX5_sostenuto 66 = .ok (.iconst 0, 1) := by decide +kernel
theorem dX5_sostenuto_67 : decode cX5_sostenuto 67 = .ok (.iadd, 1) := by decide +kernel
theorem dX5_sostenuto_68 : decode cX5_sostenuto 68 = .ok (.istore_n 2, 1) := by decide +kernel
theorem dX5_sostenuto_69 : decode cX5_sostenuto 69 = .ok (.iinc 3 1, 3) := by decide +kernel
theorem dX5_sostenuto_72 : decode cX5_sostenuto 72 = .ok (.goto (-53), 3) := by decide +kernel
theorem dX5_sostenuto_75 : decode cX5_sostenuto 75 = .ok (.iload_n 1, 1) := by decide +kernel
theorem dX5_sostenuto_76 : decode cX5_sostenuto 76 = .ok (.ifCond .eq 7, 3) := by decide +kernel
theorem dX5_sostenuto_79 : decode cX5_sostenuto 79 = .ok (.iload_n 2, 1) := by decide +kernel
theorem dX5_sostenuto_80 : decode cX5_sostenuto 80 = .ok (.goto 7, 3) := by decide +kernel
theorem dX5_sostenuto_83 : decode cX5_sostenuto 83 = .ok (.aload_n 0, 1) := by decide +kernel
theorem dX5_sostenuto_84 : decode cX5_sostenuto 84 = .ok (.invokevirtual 182, 3) := by decide +kernel
theorem dX5_sostenuto_87 : decode cX5_sostenuto 87 = .ok (.ireturn, 1) := by decide +kernel
theorem dX5_key_0 : decode cX5_key 0 = .ok (.aload_n 0, 1) := by decide +kernel
theorem dX5_key_1 : decode cX5_key 1 = .ok (.iload_n 1, 1) := by decide +kernel
theorem dX5_key_2 : decode cX5_key 2 = .ok (.invokevirtual 176, 3) := by decide +kernel
theorem dX5_key_5 : decode cX5_key 5 = .ok (.ifCond .eq 5, 3) := by decide +kernel
theorem dX5_key_8 : decode cX5_key 8 = .ok (.iconst (-1), 1) := by decide +kernel
theorem dX5_key_9 : decode cX5_key 9 = .ok (.ireturn, 1) := by decide +kernel
theorem dX5_key_10 : decode cX5_key 10 = .ok (.iload_n 2, 1) := by decide +kernel
theorem dX5_key_11 : decode cX5_key 11 = .ok (.tableswitch 143 0 7 #[45, 52, 59, 79, 85, 100, 115, 129], 45) := by decide +kernel
theorem dX5_key_56 : decode cX5_key 56 = .ok (.aload_n 0, 1) := by decide +kernel
theorem dX5_key_57 : decode cX5_key 57 = .ok (.getfield 16, 3) := by decide +kernel
theorem dX5_key_60 : decode cX5_key 60 = .ok (.iload_n 1, 1) := by decide +kernel
theorem dX5_key_61 : decode cX5_key 61 = .ok (.iaload, 1) := by decide +kernel
theorem dX5_key_62 : decode cX5_key 62 = .ok (.ireturn, 1) := by decide +kernel
theorem dX5_key_63 : decode cX5_key 63 = .ok (.aload_n 0, 1) := by decide +kernel
theorem dX5_key_64 : decode cX5_key 64 = .ok (.getfield 20, 3) := by decide +kernel
theorem dX5_key_67 : decode cX5_key 67 = .ok (.iload_n 1, 1) := by decide +kernel
theorem dX5_key_68 : decode cX5_key 68 = .ok (.iaload, 1) := by decide +kernel
theorem dX5_key_69 : decode cX5_key 69 = .ok (.ireturn, 1) := by decide +kernel
theorem dX5_key_70 : decode cX5_key 70 = .ok (.aload_n 0, 1) := by decide +kernel
theorem dX5_key_71 : decode cX5_key 71 = .ok (.getfield 20, 3) := by decide +kernel
theorem dX5_key_74 : decode cX5_key 74 = .ok (.iload_n 1, 1) := by decide +kernel
theorem dX5_key_75 : decode cX5_key 75 = .ok (.iaload, 1) := by decide +kernel
theorem dX5_key_76 : decode cX5_key 76 = .ok (.ifCond .ne 7, 3) := by decide +kernel
theorem dX5_key_79 : decode cX5_key 79 = .ok (.iconst 0, 1) := by decide +kernel
theorem dX5_key_80 : decode cX5_key 80 = .ok (.goto 9, 3) := by decide +kernel
theorem dX5_key_83 : decode cX5_key 83 = .ok (.aload_n 0, 1) := by decide +kernel
theorem dX5_key_84 : decode cX5_key 84 = .ok (.getfield 23, 3) := by decide +kernel
theorem dX5_key_87 : decode cX5_key 87 = .ok (.iload_n 1, 1) := by decide +kernel
theorem dX5_key_88 : decode cX5_key 88 = .ok (.iaload, 1) := by decide +kernel
theorem dX5_key_89 : decode cX5_key 89 = .ok (.ireturn, 1) := by decide +kernel
theorem dX5_key_90 : decode cX5_key 90 = .ok (.aload_n 0, 1) := by decide +kernel
theorem dX5_key_91 : decode cX5_key 91 = .ok (.iload_n 1, 1) := by decide +kernel
theorem dX5_key_92 : decode cX5_key 92 = .ok (.invokevirtual 146, 3) := by decide +kernel
theorem dX5_key_95 : decode cX5_key 95 = .ok (.ireturn, 1) := by decide +kernel
theorem dX5_key_96 : decode cX5_key 96 = .ok (.aload_n 0, 1) := by decide +kernel
theorem dX5_key_97 : decode cX5_key 97 = .ok (.getfield 26, 3) := by decide +kernel
theorem dX5_key_100 : decode cX5_key 100 = .ok (.iload_n 1, 1) := by decide +kernel
theorem dX5_key_101 : decode cX5_key 101 = .ok (.baload, 1) := by decide +kernel
theorem dX5_key_102 : decode cX5_key 102 = .ok (.ifCond .eq 7, 3) := by decide +kernel
theorem dX5_key_105 : decode cX5_key 105 = .ok (.iconst 1, 1) := by decide +kernel
theorem dX5_key_106 : decode cX5_key 106 = .ok (.goto 4, 3) := by decide +kernel
theorem dX5_key_109 : decode cX5_key 109 = .ok (.iconst 0, 1) := by decide +kernel
theorem dX5_key_110 : decode cX5_key 110 = .ok (.ireturn, 1) := by decide +kernel
theorem dX5_key_111 : decode cX5_key 111 = .ok (.aload_n 0, 1) := by decide +kernel
theorem dX5_key_112 : decode cX5_key 112 = .ok (.getfield 30, 3) := by decide +kernel
theorem dX5_key_115 : decode cX5_key 115 = .ok (.iload_n 1, 1) := by decide +kernel
theorem dX5_key_116 : decode cX5_key 116 = .ok (.baload, 1) := by decide +kernel
theorem dX5_key_117 : decode cX5_key 117 = .ok (.ifCond .eq 7, 3) := by decide +kernel
theorem dX5_key_120 : decode cX5_key 120 = .ok (.iconst 1, 1) := by decide +kernel
theorem dX5_key_121 : decode cX5_key 121 = .ok (.goto 4, 3) := by decide +kernel
theorem dX5_key_124 : decode cX5_key 124 = .ok (.iconst 0, 1) := by decide +kernel
theorem dX5_key_125 : decode cX5_key 125 = .ok (.ireturn, 1) := by decide +kernel
theorem dX5_key_126 : decode cX5_key 126 = .ok (.aload_n 0, 1) := by decide +kernel
theorem dX5_key_127 : decode cX5_key 127 = .ok (.iload_n 1, 1) := by decide +kernel
theorem dX5_key_128 : decode cX5_key 128 = .ok (.invokevirtual 112, 3) := by decide +kernel
theorem dX5_key_131 : decode cX5_key 131 = .ok (.ifCond .eq 7, 3) := by decide +kernel
theorem dX5_key_134 : decode cX5_key 134 = .ok (.iconst 1, 1) := by decide +kernel
theorem dX5_key_135 : decode cX5_key 135 = .ok (.goto 4, 3) := by decide +kernel
theorem dX5_key_138 : decode cX5_key 138 = .ok (.iconst 0, 1) := by decide +kernel
theorem dX5_key_139 : decode cX5_key 139 = .ok (.ireturn, 1) := by decide +kernel
theorem dX5_key_140 : decode cX5_key 140 = .ok (.aload_n 0, 1) := by decide +kernel
theorem dX5_key_141 : decode cX5_key 141 = .ok (.iload_n 1, 1) := by decide +kernel
theorem dX5_key_142 : decode cX5_key 142 = .ok (.invokevirtual 143, 3) := by decide +kernel
theorem dX5_key_145 : decode cX5_key 145 = .ok (.ifCond .eq 7, 3) := by decide +kernel
theorem dX5_key_148 : decode cX5_key 148 = .ok (.iconst 1, 1) := by decide +kernel
theorem dX5_key_149 : decode cX5_key 149 = .ok (.goto 4, 3) := by decide +kernel
theorem dX5_key_152 : decode cX5_key 152 = .ok (.iconst 0, 1) := by decide +kernel
theorem dX5_key_153 : decode cX5_key 153 = .ok (.ireturn, 1) := by decide +kernel
theorem dX5_key_154 : decode cX5_key 154 = .ok (.bipush (-2), 2) := by decide +kernel
theorem dX5_key_156 : decode cX5_key 156 = .ok (.ireturn, 1) := by decide +kernel
theorem dX5_voice_0 : decode cX5_voice 0 = .ok (.iload_n 1, 1) := by decide +kernel
theorem dX5_voice_1 : decode cX5_voice 1 = .ok (.iconst 0, 1) := by decide +kernel
theorem dX5_voice_2 : decode cX5_voice 2 = .ok (.aload_n 0, 1) := by decide +kernel
theorem dX5_voice_3 : decode cX5_voice 3 = .ok (.getfield 13, 3) := by decide +kernel
theorem dX5_voice_6 : decode cX5_voice 6 = .ok (.iconst 1, 1) := by decide +kernel
theorem dX5_voice_7 : decode cX5_voice 7 = .ok (.isub, 1) := by decide +kernel
theorem dX5_voice_8 : decode cX5_voice 8 = .ok (.invokestatic 92, 3) := by decide +kernel
theorem dX5_voice_11 : decode cX5_voice 11 = .ok (.ifCond .ne 5, 3) := by decide +kernel
theorem dX5_voice_14 : decode cX5_voice 14 = .ok (.iconst (-1), 1) := by decide +kernel
theorem dX5_voice_15 : decode cX5_voice 15 = .ok (.ireturn, 1) := by decide +kernel
theorem dX5_voice_16 : decode cX5_voice 16 = .ok (.iload_n 2, 1) := by decide +kernel
theorem dX5_voice_17 : decode cX5_voice 17 = .ok (.iconst 1, 1) := by decide +kernel
theorem dX5_voice_18 : decode cX5_voice 18 = .ok (.iconst 3, 1) := by decide +kernel
theorem dX5_voice_19 : decode cX5_voice 19 = .ok (.invokestatic 92, 3) := by decide +kernel
theorem dX5_voice_22 : decode cX5_voice 22 = .ok (.ifCond .eq 15, 3) := by decide +kernel
theorem dX5_voice_25 : decode cX5_voice 25 = .ok (.aload_n 0, 1) := by decide +kernel
theorem dX5_voice_26 : decode cX5_voice 26 = .ok (.getfield 33, 3) := by decide +kernel
theorem dX5_voice_29 : decode cX5_voice 29 = .ok (.iload_n 1, 1) := by decide +kernel
theorem dX5_voice_30 : decode cX5_voice 30 = .ok (.iaload, 1) := by decide +kernel
theorem dX5_voice_31 : decode cX5_voice 31 = .ok (.ifCond .ne 6, 3) := by decide +kernel
theorem dX5_voice_34 : decode cX5_voice 34 = .ok (.bipush (-3), 2) := by decide +kernel
theorem dX5_voice_36 : decode cX5_voice 36 = .ok (.ireturn, 1) := by decide +kernel
theorem dX5_voice_37 : decode cX5_voice 37 = .ok (.iload_n 2, 1) := by decide +kernel
theorem dX5_voice_38 : decode cX5_voice 38 = .ok (.tableswitch 77 0 4 #[34, 41, 48, 55, 62], 34) := by decide +kernel
theorem dX5_voice_72 : decode cX5_voice 72 = .ok (.aload_n 0, 1) := by decide +kernel
theorem dX5_voice_73 : decode cX5_voice 73 = .ok (.getfield 33, 3) := by decide +kernel
theorem dX5_voice_76 : decode cX5_voice 76 = .ok (.iload_n 1, 1) := by decide +kernel
theorem dX5_voice_77 : decode cX5_voice 77 = .ok (.iaload, 1) := by decide +kernel
theorem dX5_voice_78 : decode cX5_voice 78 = .ok (.ireturn, 1) := by decide +kernel
theorem dX5_voice_79 : decode cX5_voice 79 = .ok (.aload_n 0, 1) := by decide +kernel
theorem dX5_voice_80 : decode cX5_voice 80 = .ok (.getfield 36, 3) := by decide +kernel
theorem dX5_voice_83 : decode cX5_voice 83 = .ok (.iload_n 1, 1) := by decide +kernel
theorem dX5_voice_84 : decode cX5_voice 84 = .ok (.iaload, 1) := by decide +kernel
theorem dX5_voice_85 : decode cX5_voice 85 = .ok (.ireturn, 1) := by decide +kernel
theorem dX5_voice_86 : decode cX5_voice 86 = .ok (.aload_n 0, 1) := by decide +kernel
theorem dX5_voice_87 : decode cX5_voice 87 = .ok (.getfield 39, 3) := by decide +kernel
theorem dX5_voice_90 : decode cX5_voice 90 = .ok (.iload_n 1, 1) := by decide +kernel
theorem dX5_voice_91 : decode cX5_voice 91 = .ok (.iaload, 1) := by decide +kernel
theorem dX5_voice_92 : decode cX5_voice 92 = .ok (.ireturn, 1) := by decide +kernel
theorem dX5_voice_93 : decode cX5_voice 93 = .ok (.aload_n 0, 1) := by decide +kernel
theorem dX5_voice_94 : decode cX5_voice 94 = .ok (.getfield 42, 3) := by decide +kernel
theorem dX5_voice_97 : decode cX5_voice 97 = .ok (.iload_n 1, 1) := by decide +kernel
theorem dX5_voice_98 : decode cX5_voice 98 = .ok (.iaload, 1) := by decide +kernel
theorem dX5_voice_99 : decode cX5_voice 99 = .ok (.ireturn, 1) := by decide +kernel
theorem dX5_voice_100 : decode cX5_voice 100 = .ok (.aload_n 0, 1) := by decide +kernel
theorem dX5_voice_101 : decode cX5_voice 101 = .ok (.getfield 45, 3) := by decide +kernel
theorem dX5_voice_104 : decode cX5_voice 104 = .ok (.iload_n 1, 1) := by decide +kernel
theorem dX5_voice_105 : decode cX5_voice 105 = .ok (.baload, 1) := by decide +kernel
theorem dX5_voice_106 : decode cX5_voice 106 = .ok (.ifCond .eq 7, 3) := by decide +kernel
theorem dX5_voice_109 : decode cX5_voice 109 = .ok (.iconst 1, 1) := by decide +kernel
theorem dX5_voice_110 : decode cX5_voice 110 = .ok (.goto 4, 3) := by decide +kernel
theorem dX5_voice_113 : decode cX5_voice 113 = .ok (.iconst 0, 1) := by decide +kernel
theorem dX5_voice_114 : decode cX5_voice 114 = .ok (.ireturn, 1) := by decide +kernel
theorem dX5_voice_115 : decode cX5_voice 115 = .ok (.bipush (-2), 2) := by decide +kernel
theorem dX5_voice_117 : decode cX5_voice 117 = .ok (.ireturn, 1) := by decide +kernel
theorem dX5_count_0 : decode cX5_count 0 = .ok (.iconst 0, 1) := by decide +kernel
theorem dX5_count_1 : decode cX5_count 1 = .ok (.istore_n 2, 1) := by decide +kernel
theorem dX5_count_2 : decode cX5_count 2 = .ok (.iconst 0, 1) := by decide +kernel
theorem dX5_count_3 : decode cX5_count 3 = .ok (.istore_n 3, 1) := by decide +kernel
theorem dX5_count_4 : decode cX5_count 4 = .ok (.iload_n 3, 1) := by decide +kernel
theorem dX5_count_5 : decode cX5_count 5 = .ok (.aload_n 0, 1) := by decide +kernel
theorem dX5_count_6 : decode cX5_count 6 = .ok (.invokevirtual 96, 3) := by decide +kernel
theorem dX5_count_9 : decode cX5_count 9 = .ok (.if_icmp .ge 25, 3) := by decide +kernel
theorem dX5_count_12 : decode cX5_count 12 = .ok (.iload_n 2, 1) := by decide +kernel
theorem dX5_count_13 : decode cX5_count 13 = .ok (.aload_n 0, 1) := by decide +kernel
theorem dX5_count_14 : decode cX5_count 14 = .ok (.iload_n 3, 1) := by decide +kernel
theorem dX5_count_15 : decode cX5_count 15 = .ok (.invokevirtual 143, 3) := by decide +kernel
theorem dX5_count_18 : decode cX5_count 18 = .ok (.ifCond .eq 7, 3) := by decide +kernel
theorem dX5_count_21 : decode cX5_count 21 = .ok (.iconst 1, 1) := by decide +kernel
theorem dX5_count_22 : decode cX5_count 22 = .ok (.goto 4, 3) := by decide +kernel
theorem dX5_count_25 : decode cX5_count 25 = .ok (.iconst 0, 1) := by decide +kernel
theorem dX5_count_26 : decode cX5_count 26 = .ok (.iadd, 1) := by decide +kernel
theorem dX5_count_27 : decode cX5_count 27 = .ok (.istore_n 2, 1) := by decide +kernel
theorem dX5_count_28 : decode cX5_count 28 = .ok (.iinc 3 1, 3) := by decide +kernel
theorem dX5_count_31 : decode cX5_count 31 = .ok (.goto (-27), 3) := by decide +kernel
theorem dX5_count_34 : decode cX5_count 34 = .ok (.iconst 0, 1) := by decide +kernel
theorem dX5_count_35 : decode cX5_count 35 = .ok (.istore_n 3, 1) := by decide +kernel
theorem dX5_count_36 : decode cX5_count 36 = .ok (.iconst 0, 1) := by decide +kernel
theorem dX5_count_37 : decode cX5_count 37 = .ok (.istore 4, 2) := by decide +kernel
theorem dX5_count_39 : decode cX5_count 39 = .ok (.iconst 0, 1) := by decide +kernel
theorem dX5_count_40 : decode cX5_count 40 = .ok (.istore 5, 2) := by decide +kernel
theorem dX5_count_42 : decode cX5_count 42 = .ok (.iload 5, 2) := by decide +kernel
theorem dX5_count_44 : decode cX5_count 44 = .ok (.aload_n 0, 1) := by decide +kernel
theorem dX5_count_45 : decode cX5_count 45 = .ok (.getfield 13, 3) := by decide +kernel
theorem dX5_count_48 : decode cX5_count 48 = .ok (.if_icmp .ge 48, 3) := by decide +kernel
theorem dX5_count_51 : decode cX5_count 51 = .ok (.iload_n 3, 1) := by decide +kernel
theorem dX5_count_52 : decode cX5_count 52 = .ok (.aload_n 0, 1) := by decide +kernel
theorem dX5_count_53 : decode cX5_count 53 = .ok (.getfield 33, 3) := by decide +kernel
theorem dX5_count_56 : decode cX5_count 56 = .ok (.iload 5, 2) := by decide +kernel
theorem dX5_count_58 : decode cX5_count 58 = .ok (.iaload, 1) := by decide +kernel
theorem dX5_count_59 : decode cX5_count 59 = .ok (.ifCond .ne 7, 3) := by decide +kernel
theorem dX5_count_62 : decode cX5_count 62 = .ok (.iconst 0, 1) := by decide +kernel
theorem dX5_count_63 : decode cX5_count 63 = .ok (.goto 4, 3) := by decide +kernel
theorem dX5_count_66 : decode cX5_count 66 = .ok (.iconst 1, 1) := by decide +kernel
theorem dX5_count_67 : decode cX5_count 67 = .ok (.iadd, 1) := by decide +kernel
theorem dX5_count_68 : decode cX5_count 68 = .ok (.istore_n 3, 1) := by decide +kernel
theorem dX5_count_69 : decode cX5_count 69 = .ok (.iload 4, 2) := by decide +kernel
theorem dX5_count_71 : decode cX5_count 71 = .ok (.aload_n 0, 1) := by decide +kernel
theorem dX5_count_72 : decode cX5_count 72 = .ok (.getfield 33, 3) := by decide +kernel
theorem dX5_count_75 : decode cX5_count 75 = .ok (.iload 5, 2) := by decide +kernel
theorem dX5_count_77 : decode cX5_count 77 = .ok (.iaload, 1) := by decide +kernel
theorem dX5_count_78 : decode cX5_count 78 = .ok (.iconst 2, 1) := by decide +kernel
theorem dX5_count_79 : decode cX5_count 79 = .ok (.if_icmp .ne 7, 3) := by decide +kernel
theorem dX5_count_82 : decode cX5_count 82 = .ok (.iconst 1, 1) := by decide +kernel
theorem dX5_count_83 : decode cX5_count 83 = .ok (.goto 4, 3) := by decide +kernel
theorem dX5_count_86 : decode cX5_count 86 = .ok (.iconst 0, 1) := by decide +kernel
theorem dX5_count_87 : decode cX5_count 87 = .ok (.iadd, 1) := by decide +kernel
theorem dX5_count_88 : decode cX5_count 88 = .ok (.istore 4, 2) := by decide +kernel
theorem dX5_count_90 : decode cX5_count 90 = .ok (.iinc 5 1, 3) := by decide +kernel
theorem dX5_count_93 : decode cX5_count 93 = .ok (.goto (-51), 3) := by decide +kernel
theorem dX5_count_96 : decode cX5_count 96 = .ok (.iload_n 1, 1) := by decide +kernel
theorem dX5_count_97 : decode cX5_count 97 = .ok (.tableswitch 115 0 11 #[63, 68, 73, 78, 83, 85, 90, 92, 95, 100, 105, 110], 63) := by decide +kernel
theorem dX5_count_160 : decode cX5_count 160 = .ok (.aload_n 0, 1) := by decide +kernel
theorem dX5_count_161 : decode cX5_count 161 = .ok (.getfield 74, 3) := by decide +kernel
theorem dX5_count_164 : decode cX5_count 164 = .ok (.ireturn, 1) := by decide +kernel
theorem dX5_count_165 : decode cX5_count 165 = .ok (.aload_n 0, 1) := by decide +kernel
theorem dX5_count_166 : decode cX5_count 166 = .ok (.invokevirtual 96, 3) := by decide +kernel
theorem dX5_count_169 : decode cX5_count 169 = .ok (.ireturn, 1) := by decide +kernel
theorem dX5_count_170 : decode cX5_count 170 = .ok (.aload_n 0, 1) := by decide +kernel
theorem dX5_count_171 : decode cX5_count 171 = .ok (.invokevirtual 179, 3) := by decide +kernel
theorem dX5_count_174 : decode cX5_count 174 = .ok (.ireturn, 1) := by decide +kernel
theorem dX5_count_175 : decode cX5_count 175 = .ok (.aload_n 0, 1) := by decide +kernel
theorem dX5_count_176 : decode cX5_count 176 = .ok (.invokevirtual 116, 3) := by decide +kernel
theorem dX5_count_179 : decode cX5_count 179 = .ok (.ireturn, 1) := by decide +kernel
theorem dX5_count_180 : decode cX5_count 180 = .ok (.iload_n 2, 1) := by decide +kernel
theorem dX5_count_181 : decode cX5_count 181 = .ok (.ireturn, 1) := by decide +kernel
theorem dX5_count_182 : decode cX5_count 182 = .ok (.aload_n 0, 1) := by decide +kernel
theorem dX5_count_183 : decode cX5_count 183 = .ok (.getfield 13, 3) := by decide +kernel
theorem dX5_count_186 : decode cX5_count 186 = .ok (.ireturn, 1) := by decide +kernel
theorem dX5_count_187 : decode cX5_count 187 = .ok (.iload_n 3, 1) := by decide +kernel
theorem dX5_count_188 : decode cX5_count 188 = .ok (.ireturn, 1) := by decide +kernel
theorem dX5_count_189 : decode cX5_count 189 = .ok (.iload 4, 2) := by decide +kernel
theorem dX5_count_191 : decode cX5_count 191 = .ok (.ireturn, 1) := by decide +kernel
theorem dX5_count_192 : decode cX5_count 192 = .ok (.aload_n 0, 1) := by decide +kernel
theorem dX5_count_193 : decode cX5_count 193 = .ok (.getfield 77, 3) := by decide +kernel
theorem dX5_count_196 : decode cX5_count 196 = .ok (.ireturn, 1) := by decide +kernel
theorem dX5_count_197 : decode cX5_count 197 = .ok (.aload_n 0, 1) := by decide +kernel
theorem dX5_count_198 : decode cX5_count 198 = .ok (.getfield 80, 3) := by decide +kernel
theorem dX5_count_201 : decode cX5_count 201 = .ok (.ireturn, 1) := by decide +kernel
theorem dX5_count_202 : decode cX5_count 202 = .ok (.aload_n 0, 1) := by decide +kernel
theorem dX5_count_203 : decode cX5_count 203 = .ok (.getfield 83, 3) := by decide +kernel
theorem dX5_count_206 : decode cX5_count 206 = .ok (.ireturn, 1) := by decide +kernel
theorem dX5_count_207 : decode cX5_count 207 = .ok (.aload_n 0, 1) := by decide +kernel
theorem dX5_count_208 : decode cX5_count 208 = .ok (.getfield 86, 3) := by decide +kernel
theorem dX5_count_211 : decode cX5_count 211 = .ok (.ireturn, 1) := by decide +kernel
theorem dX5_count_212 : decode cX5_count 212 = .ok (.bipush (-2), 2) := by decide +kernel
theorem dX5_count_214 : decode cX5_count 214 = .ok (.ireturn, 1) := by decide +kernel
theorem dX5_log_0 : decode cX5_log 0 = .ok (.iload_n 1, 1) := by decide +kernel
theorem dX5_log_1 : decode cX5_log 1 = .ok (.ifCond .lt 12, 3) := by decide +kernel
theorem dX5_log_4 : decode cX5_log 4 = .ok (.iload_n 2, 1) := by decide +kernel
theorem dX5_log_5 : decode cX5_log 5 = .ok (.iconst 0, 1) := by decide +kernel
theorem dX5_log_6 : decode cX5_log 6 = .ok (.iconst 2, 1) := by decide +kernel
theorem dX5_log_7 : decode cX5_log 7 = .ok (.invokestatic 92, 3) := by decide +kernel
theorem dX5_log_10 : decode cX5_log 10 = .ok (.ifCond .ne 6, 3) := by decide +kernel
theorem dX5_log_13 : decode cX5_log 13 = .ok (.bipush (-2), 2) := by decide +kernel
theorem dX5_log_15 : decode cX5_log 15 = .ok (.ireturn, 1) := by decide +kernel
theorem dX5_log_16 : decode cX5_log 16 = .ok (.iload_n 1, 1) := by decide +kernel
theorem dX5_log_17 : decode cX5_log 17 = .ok (.bipush 16, 2) := by decide +kernel
theorem dX5_log_19 : decode cX5_log 19 = .ok (.if_icmp .ge 24, 3) := by decide +kernel
theorem dX5_log_22 : decode cX5_log 22 = .ok (.iload_n 1, 1) := by decide +kernel
theorem dX5_log_23 : decode cX5_log 23 = .ok (.aload_n 0, 1) := by decide +kernel
theorem dX5_log_24 : decode cX5_log 24 = .ok (.getfield 77, 3) := by decide +kernel
theorem dX5_log_27 : decode cX5_log 27 = .ok (.if_icmp .ge 16, 3) := by decide +kernel
theorem dX5_log_30 : decode cX5_log 30 = .ok (.aload_n 0, 1) := by decide +kernel
theorem dX5_log_31 : decode cX5_log 31 = .ok (.getfield 48, 3) := by decide +kernel
theorem dX5_log_34 : decode cX5_log 34 = .ok (.iconst 3, 1) := by decide +kernel
theorem dX5_log_35 : decode cX5_log 35 = .ok (.iload_n 1, 1) := by decide +kernel
theorem dX5_log_36 : decode cX5_log 36 = .ok (.imul, 1) := by decide +kernel
theorem dX5_log_37 : decode cX5_log 37 = .ok (.iload_n 2, 1) := by decide +kernel
theorem dX5_log_38 : decode cX5_log 38 = .ok (.iadd, 1) := by decide +kernel
theorem dX5_log_39 : decode cX5_log 39 = .ok (.iaload, 1) := by decide +kernel
theorem dX5_log_40 : decode cX5_log 40 = .ok (.goto 5, 3) := by decide +kernel
theorem dX5_log_43 : decode cX5_log 43 = .ok (.bipush (-3), 2) := by decide +kernel
theorem dX5_log_45 : decode cX5_log 45 = .ok (.ireturn, 1) := by decide +kernel
theorem dX5_velocity_0 : decode cX5_velocity 0 = .ok (.iload_n 1, 1) := by decide +kernel
theorem dX5_velocity_1 : decode cX5_velocity 1 = .ok (.iconst 0, 1) := by decide +kernel
theorem dX5_velocity_2 : decode cX5_velocity 2 = .ok (.sipush 1000, 3) := by decide +kernel
theorem dX5_velocity_5 : decode cX5_velocity 5 = .ok (.invokestatic 92, 3) := by decide +kernel
theorem dX5_velocity_8 : decode cX5_velocity 8 = .ok (.ifCond .eq 11, 3) := by decide +kernel
theorem dX5_velocity_11 : decode cX5_velocity 11 = .ok (.aload_n 0, 1) := by decide +kernel
theorem dX5_velocity_12 : decode cX5_velocity 12 = .ok (.iload_n 1, 1) := by decide +kernel
theorem dX5_velocity_13 : decode cX5_velocity 13 = .ok (.invokevirtual 155, 3) := by decide +kernel
theorem dX5_velocity_16 : decode cX5_velocity 16 = .ok (.goto 5, 3) := by decide +kernel
theorem dX5_velocity_19 : decode cX5_velocity 19 = .ok (.bipush (-2), 2) := by decide +kernel
theorem dX5_velocity_21 : decode cX5_velocity 21 = .ok (.ireturn, 1) := by decide +kernel
theorem dX5_nextTaken_0 : decode cX5_nextTaken 0 = .ok (.aload_n 0, 1) := by decide +kernel
theorem dX5_nextTaken_1 : decode cX5_nextTaken 1 = .ok (.invokevirtual 149, 3) := by decide +kernel
theorem dX5_nextTaken_4 : decode cX5_nextTaken 4 = .ok (.ifCond .lt 8, 3) := by decide +kernel
theorem dX5_nextTaken_7 : decode cX5_nextTaken 7 = .ok (.bipush (-3), 2) := by decide +kernel
theorem dX5_nextTaken_9 : decode cX5_nextTaken 9 = .ok (.goto 7, 3) := by decide +kernel
theorem dX5_nextTaken_12 : decode cX5_nextTaken 12 = .ok (.aload_n 0, 1) := by decide +kernel
theorem dX5_nextTaken_13 : decode cX5_nextTaken 13 = .ok (.invokevirtual 152, 3) := by decide +kernel
theorem dX5_nextTaken_16 : decode cX5_nextTaken 16 = .ok (.ireturn, 1) := by decide +kernel
theorem dX5_connected_0 : decode cX5_connected 0 = .ok (.iload_n 1, 1) := by decide +kernel
theorem dX5_connected_1 : decode cX5_connected 1 = .ok (.iconst 0, 1) := by decide +kernel
theorem dX5_connected_2 : decode cX5_connected 2 = .ok (.aload_n 0, 1) := by decide +kernel
theorem dX5_connected_3 : decode cX5_connected 3 = .ok (.getfield 61, 3) := by decide +kernel
theorem dX5_connected_6 : decode cX5_connected 6 = .ok (.iconst 1, 1) := by decide +kernel
theorem dX5_connected_7 : decode cX5_connected 7 = .ok (.isub, 1) := by decide +kernel
theorem dX5_connected_8 : decode cX5_connected 8 = .ok (.invokestatic 92, 3) := by decide +kernel
theorem dX5_connected_11 : decode cX5_connected 11 = .ok (.ifCond .ne 6, 3) := by decide +kernel
theorem dX5_connected_14 : decode cX5_connected 14 = .ok (.bipush (-2), 2) := by decide +kernel
theorem dX5_connected_16 : decode cX5_connected 16 = .ok (.ireturn, 1) := by decide +kernel
theorem dX5_connected_17 : decode cX5_connected 17 = .ok (.aload_n 0, 1) := by decide +kernel
theorem dX5_connected_18 : decode cX5_connected 18 = .ok (.iload_n 1, 1) := by decide +kernel
theorem dX5_connected_19 : decode cX5_connected 19 = .ok (.iconst 1, 1) := by decide +kernel
theorem dX5_connected_20 : decode cX5_connected 20 = .ok (.invokevirtual 106, 3) := by decide +kernel
theorem dX5_connected_23 : decode cX5_connected 23 = .ok (.aload_n 0, 1) := by decide +kernel
theorem dX5_connected_24 : decode cX5_connected 24 = .ok (.getfield 100, 3) := by decide +kernel
theorem dX5_connected_27 : decode cX5_connected 27 = .ok (.sipush 256, 3) := by decide +kernel
theorem dX5_connected_30 : decode cX5_connected 30 = .ok (.aload_n 0, 1) := by decide +kernel
theorem dX5_connected_31 : decode cX5_connected 31 = .ok (.getfield 103, 3) := by decide +kernel
theorem dX5_connected_34 : decode cX5_connected 34 = .ok (.imul, 1) := by decide +kernel
theorem dX5_connected_35 : decode cX5_connected 35 = .ok (.iadd, 1) := by decide +kernel
theorem dX5_connected_36 : decode cX5_connected 36 = .ok (.ireturn, 1) := by decide +kernel
theorem dX5_worstKey_0 : decode cX5_worstKey 0 = .ok (.aload_n 0, 1) := by decide +kernel
theorem dX5_worstKey_1 : decode cX5_worstKey 1 = .ok (.invokevirtual 116, 3) := by decide +kernel
theorem dX5_worstKey_4 : decode cX5_worstKey 4 = .ok (.istore_n 1, 1) := by decide +kernel
theorem dX5_worstKey_5 : decode cX5_worstKey 5 = .ok (.bipush (-3), 2) := by decide +kernel
theorem dX5_worstKey_7 : decode cX5_worstKey 7 = .ok (.istore_n 2, 1) := by decide +kernel
theorem dX5_worstKey_8 : decode cX5_worstKey 8 = .ok (.iconst 0, 1) := by decide +kernel
theorem dX5_worstKey_9 : decode cX5_worstKey 9 = .ok (.istore_n 3, 1) := by decide +kernel
theorem dX5_worstKey_10 : decode cX5_worstKey 10 = .ok (.iload_n 3, 1) := by decide +kernel
theorem dX5_worstKey_11 : decode cX5_worstKey 11 = .ok (.aload_n 0, 1) := by decide +kernel
theorem dX5_worstKey_12 : decode cX5_worstKey 12 = .ok (.invokevirtual 96, 3) := by decide +kernel
theorem dX5_worstKey_15 : decode cX5_worstKey 15 = .ok (.if_icmp .ge 72, 3) := by decide +kernel
theorem dX5_worstKey_18 : decode cX5_worstKey 18 = .ok (.aload_n 0, 1) := by decide +kernel
theorem dX5_worstKey_19 : decode cX5_worstKey 19 = .ok (.getfield 16, 3) := by decide +kernel
theorem dX5_worstKey_22 : decode cX5_worstKey 22 = .ok (.iload_n 3, 1) := by decide +kernel
theorem dX5_worstKey_23 : decode cX5_worstKey 23 = .ok (.iaload, 1) := by decide +kernel
theorem dX5_worstKey_24 : decode cX5_worstKey 24 = .ok (.istore 4, 2) := by decide +kernel
theorem dX5_worstKey_26 : decode cX5_worstKey 26 = .ok (.iload 4, 2) := by decide +kernel
theorem dX5_worstKey_28 : decode cX5_worstKey 28 = .ok (.ifCond .le 53, 3) := by decide +kernel
theorem dX5_worstKey_31 : decode cX5_worstKey 31 = .ok (.aload_n 0, 1) := by decide +kernel
theorem dX5_worstKey_32 : decode cX5_worstKey 32 = .ok (.getfield 16, 3) := by decide +kernel
theorem dX5_worstKey_35 : decode cX5_worstKey 35 = .ok (.iload_n 3, 1) := by decide +kernel
theorem dX5_worstKey_36 : decode cX5_worstKey 36 = .ok (.iconst 0, 1) := by decide +kernel
theorem dX5_worstKey_37 : decode cX5_worstKey 37 = .ok (.iastore, 1) := by decide +kernel
theorem dX5_worstKey_38 : decode cX5_worstKey 38 = .ok (.aload_n 0, 1) := by decide +kernel
theorem dX5_worstKey_39 : decode cX5_worstKey 39 = .ok (.invokevirtual 89, 3) := by decide +kernel
theorem dX5_worstKey_42 : decode cX5_worstKey 42 = .ok (.aload_n 0, 1) := by decide +kernel
theorem dX5_worstKey_43 : decode cX5_worstKey 43 = .ok (.invokevirtual 116, 3) := by decide +kernel
theorem dX5_worstKey_46 : decode cX5_worstKey 46 = .ok (.iload_n 1, 1) := by decide +kernel
theorem dX5_worstKey_47 : decode cX5_worstKey 47 = .ok (.if_icmp .ge 7, 3) := by decide +kernel
theorem dX5_worstKey_50 : decode cX5_worstKey 50 = .ok (.iload_n 3, 1) := by decide +kernel
theorem dX5_worstKey_51 : decode cX5_worstKey 51 = .ok (.goto 4, 3) := by decide +kernel
theorem dX5_worstKey_54 : decode cX5_worstKey 54 = .ok (.iload_n 2, 1) := by decide +kernel
theorem dX5_worstKey_55 : decode cX5_worstKey 55 = .ok (.istore_n 2, 1) := by decide +kernel
theorem dX5_worstKey_56 : decode cX5_worstKey 56 = .ok (.aload_n 0, 1) := by decide +kernel
theorem dX5_worstKey_57 : decode cX5_worstKey 57 = .ok (.invokevirtual 116, 3) := by decide +kernel
theorem dX5_worstKey_60 : decode cX5_worstKey 60 = .ok (.iload_n 1, 1) := by decide +kernel
theorem dX5_worstKey_61 : decode cX5_worstKey 61 = .ok (.if_icmp .ge 10, 3) := by decide +kernel
theorem dX5_worstKey_64 : decode cX5_worstKey 64 = .ok (.aload_n 0, 1) := by decide +kernel
theorem dX5_worstKey_65 : decode cX5_worstKey 65 = .ok (.invokevirtual 116, 3) := by decide +kernel
theorem dX5_worstKey_68 : decode cX5_worstKey 68 = .ok (.goto 4, 3) := by decide +kernel
theorem dX5_worstKey_71 : decode cX5_worstKey 71 = .ok (.iload_n 1, 1) := by decide +kernel
theorem dX5_worstKey_72 : decode cX5_worstKey 72 = .ok (.istore_n 1, 1) := by decide +kernel
theorem dX5_worstKey_73 : decode cX5_worstKey 73 = .ok (.aload_n 0, 1) := by decide +kernel
theorem dX5_worstKey_74 : decode cX5_worstKey 74 = .ok (.getfield 16, 3) := by decide +kernel
theorem dX5_worstKey_77 : decode cX5_worstKey 77 = .ok (.iload_n 3, 1) := by decide +kernel
theorem dX5_worstKey_78 : decode cX5_worstKey 78 = .ok (.iload 4, 2) := by decide +kernel
theorem dX5_worstKey_80 : decode cX5_worstKey 80 = .ok (.iastore, 1) := by decide +kernel
theorem dX5_worstKey_81 : decode cX5_worstKey 81 = .ok (.iinc 3 1, 3) := by decide +kernel
theorem dX5_worstKey_84 : decode cX5_worstKey 84 = .ok (.goto (-74), 3) := by decide +kernel
theorem dX5_worstKey_87 : decode cX5_worstKey 87 = .ok (.aload_n 0, 1) := by decide +kernel
theorem dX5_worstKey_88 : decode cX5_worstKey 88 = .ok (.invokevirtual 89, 3) := by decide +kernel
theorem dX5_worstKey_91 : decode cX5_worstKey 91 = .ok (.iload_n 2, 1) := by decide +kernel
theorem dX5_worstKey_92 : decode cX5_worstKey 92 = .ok (.ireturn, 1) := by decide +kernel
theorem dX5_areAtRest_0 : decode cX5_areAtRest 0 = .ok (.iconst 1, 1) := by decide +kernel
theorem dX5_areAtRest_1 : decode cX5_areAtRest 1 = .ok (.istore_n 1, 1) := by decide +kernel
theorem dX5_areAtRest_2 : decode cX5_areAtRest 2 = .ok (.iconst 0, 1) := by decide +kernel
theorem dX5_areAtRest_3 : decode cX5_areAtRest 3 = .ok (.istore_n 2, 1) := by decide +kernel
theorem dX5_areAtRest_4 : decode cX5_areAtRest 4 = .ok (.iload_n 2, 1) := by decide +kernel
theorem dX5_areAtRest_5 : decode cX5_areAtRest 5 = .ok (.aload_n 0, 1) := by decide +kernel
theorem dX5_areAtRest_6 : decode cX5_areAtRest 6 = .ok (.invokevirtual 96, 3) := by decide +kernel
theorem dX5_areAtRest_9 : decode cX5_areAtRest 9 = .ok (.if_icmp .ge 28, 3) := by decide +kernel
theorem dX5_areAtRest_12 : decode cX5_areAtRest 12 = .ok (.iload_n 1, 1) := by decide +kernel
theorem dX5_areAtRest_13 : decode cX5_areAtRest 13 = .ok (.ifCond .eq 16, 3) := by decide +kernel
theorem dX5_areAtRest_16 : decode cX5_areAtRest 16 = .ok (.aload_n 0, 1) := by decide +kernel
theorem dX5_areAtRest_17 : decode cX5_areAtRest 17 = .ok (.getfield 20, 3) := by decide +kernel
theorem dX5_areAtRest_20 : decode cX5_areAtRest 20 = .ok (.iload_n 2, 1) := by decide +kernel
theorem dX5_areAtRest_21 : decode cX5_areAtRest 21 = .ok (.iaload, 1) := by decide +kernel
theorem dX5_areAtRest_22 : decode cX5_areAtRest 22 = .ok (.ifCond .ne 7, 3) := by decide +kernel
theorem dX5_areAtRest_25 : decode cX5_areAtRest 25 = .ok (.iconst 1, 1) := by decide +kernel
theorem dX5_areAtRest_26 : decode cX5_areAtRest 26 = .ok (.goto 4, 3) := by decide +kernel
theorem dX5_areAtRest_29 : decode cX5_areAtRest 29 = .ok (.iconst 0, 1) := by decide +kernel
theorem dX5_areAtRest_30 : decode cX5_areAtRest 30 = .ok (.istore_n 1, 1) := by decide +kernel
theorem dX5_areAtRest_31 : decode cX5_areAtRest 31 = .ok (.iinc 2 1, 3) := by decide +kernel
theorem dX5_areAtRest_34 : decode cX5_areAtRest 34 = .ok (.goto (-30), 3) := by decide +kernel
theorem dX5_areAtRest_37 : decode cX5_areAtRest 37 = .ok (.iload_n 1, 1) := by decide +kernel
theorem dX5_areAtRest_38 : decode cX5_areAtRest 38 = .ok (.ireturn, 1) := by decide +kernel
theorem dX5_restAfter_0 : decode cX5_restAfter 0 = .ok (.iload_n 1, 1) := by decide +kernel
theorem dX5_restAfter_1 : decode cX5_restAfter 1 = .ok (.iconst 1, 1) := by decide +kernel
theorem dX5_restAfter_2 : decode cX5_restAfter 2 = .ok (.sipush 1000, 3) := by decide +kernel
theorem dX5_restAfter_5 : decode cX5_restAfter 5 = .ok (.invokestatic 92, 3) := by decide +kernel
theorem dX5_restAfter_8 : decode cX5_restAfter 8 = .ok (.ifCond .ne 6, 3) := by decide +kernel
theorem dX5_restAfter_11 : decode cX5_restAfter 11 = .ok (.bipush (-2), 2) := by decide +kernel
theorem dX5_restAfter_13 : decode cX5_restAfter 13 = .ok (.ireturn, 1) := by decide +kernel
theorem dX5_restAfter_14 : decode cX5_restAfter 14 = .ok (.iconst 0, 1) := by decide +kernel
theorem dX5_restAfter_15 : decode cX5_restAfter 15 = .ok (.istore_n 2, 1) := by decide +kernel
theorem dX5_restAfter_16 : decode cX5_restAfter 16 = .ok (.iload_n 2, 1) := by decide +kernel
theorem dX5_restAfter_17 : decode cX5_restAfter 17 = .ok (.bipush 64, 2) := by decide +kernel
theorem dX5_restAfter_19 : decode cX5_restAfter 19 = .ok (.if_icmp .ge 33, 3) := by decide +kernel
theorem dX5_restAfter_22 : decode cX5_restAfter 22 = .ok (.aload_n 0, 1) := by decide +kernel
theorem dX5_restAfter_23 : decode cX5_restAfter 23 = .ok (.getfield 51, 3) := by decide +kernel
theorem dX5_restAfter_26 : decode cX5_restAfter 26 = .ok (.iload_n 2, 1) := by decide +kernel
theorem dX5_restAfter_27 : decode cX5_restAfter 27 = .ok (.aload_n 0, 1) := by decide +kernel
theorem dX5_restAfter_28 : decode cX5_restAfter 28 = .ok (.getfield 20, 3) := by decide +kernel
theorem dX5_restAfter_31 : decode cX5_restAfter 31 = .ok (.iload_n 2, 1) := by decide +kernel
theorem dX5_restAfter_32 : decode cX5_restAfter 32 = .ok (.iaload, 1) := by decide +kernel
theorem dX5_restAfter_33 : decode cX5_restAfter 33 = .ok (.iastore, 1) := by decide +kernel
theorem dX5_restAfter_34 : decode cX5_restAfter 34 = .ok (.aload_n 0, 1) := by decide +kernel
theorem dX5_restAfter_35 : decode cX5_restAfter 35 = .ok (.getfield 54, 3) := by decide +kernel
theorem dX5_restAfter_38 : decode cX5_restAfter 38 = .ok (.iload_n 2, 1) := by decide +kernel
theorem dX5_restAfter_39 : decode cX5_restAfter 39 = .ok (.aload_n 0, 1) := by decide +kernel
theorem dX5_restAfter_40 : decode cX5_restAfter 40 = .ok (.getfield 23, 3) := by decide +kernel
theorem dX5_restAfter_43 : decode cX5_restAfter 43 = .ok (.iload_n 2, 1) := by decide +kernel
theorem dX5_restAfter_44 : decode cX5_restAfter 44 = .ok (.iaload, 1) := by decide +kernel
theorem dX5_restAfter_45 : decode cX5_restAfter 45 = .ok (.iastore, 1) := by decide +kernel
theorem dX5_restAfter_46 : decode cX5_restAfter 46 = .ok (.iinc 2 1, 3) := by decide +kernel
theorem dX5_restAfter_49 : decode cX5_restAfter 49 = .ok (.goto (-33), 3) := by decide +kernel
theorem dX5_restAfter_52 : decode cX5_restAfter 52 = .ok (.aload_n 0, 1) := by decide +kernel
theorem dX5_restAfter_53 : decode cX5_restAfter 53 = .ok (.getfield 74, 3) := by decide +kernel
theorem dX5_restAfter_56 : decode cX5_restAfter 56 = .ok (.istore_n 2, 1) := by decide +kernel
theorem dX5_restAfter_57 : decode cX5_restAfter 57 = .ok (.iconst 0, 1) := by decide +kernel
theorem dX5_restAfter_58 : decode cX5_restAfter 58 = .ok (.istore_n 3, 1) := by decide +kernel
theorem dX5_restAfter_59 : decode cX5_restAfter 59 = .ok (.aload_n 0, 1) := by decide +kernel
theorem dX5_restAfter_60 : decode cX5_restAfter 60 = .ok (.invokevirtual 185, 3) := by decide +kernel
theorem dX5_restAfter_63 : decode cX5_restAfter 63 = .ok (.istore 4, 2) := by decide +kernel
theorem dX5_restAfter_65 : decode cX5_restAfter 65 = .ok (.iload 4, 2) := by decide +kernel
theorem dX5_restAfter_67 : decode cX5_restAfter 67 = .ok (.ifCond .ne 25, 3) := by decide +kernel
theorem dX5_restAfter_70 : decode cX5_restAfter 70 = .ok (.iload_n 3, 1) := by decide +kernel
theorem dX5_restAfter_71 : decode cX5_restAfter 71 = .ok (.iload_n 1, 1) := by decide +kernel
theorem dX5_restAfter_72 : decode cX5_restAfter 72 = .ok (.if_icmp .ge 20, 3) := by decide +kernel
theorem dX5_restAfter_75 : decode cX5_restAfter 75 = .ok (.aload_n 0, 1) := by decide +kernel
theorem dX5_restAfter_76 : decode cX5_restAfter 76 = .ok (.iconst 0, 1) := by decide +kernel
theorem dX5_restAfter_77 : decode cX5_restAfter 77 = .ok (.invokevirtual 172, 3) := by decide +kernel
theorem dX5_restAfter_80 : decode cX5_restAfter 80 = .ok (.iinc 3 1, 3) := by decide +kernel
theorem dX5_restAfter_83 : decode cX5_restAfter 83 = .ok (.aload_n 0, 1) := by decide +kernel
theorem dX5_restAfter_84 : decode cX5_restAfter 84 = .ok (.invokevirtual 185, 3) := by decide +kernel
theorem dX5_restAfter_87 : decode cX5_restAfter 87 = .ok (.istore 4, 2) := by decide +kernel
theorem dX5_restAfter_89 : decode cX5_restAfter 89 = .ok (.goto (-24), 3) := by decide +kernel
theorem dX5_restAfter_92 : decode cX5_restAfter 92 = .ok (.aload_n 0, 1) := by decide +kernel
theorem dX5_restAfter_93 : decode cX5_restAfter 93 = .ok (.iload_n 2, 1) := by decide +kernel
theorem dX5_restAfter_94 : decode cX5_restAfter 94 = .ok (.putfield 74, 3) := by decide +kernel
theorem dX5_restAfter_97 : decode cX5_restAfter 97 = .ok (.iconst 0, 1) := by decide +kernel
theorem dX5_restAfter_98 : decode cX5_restAfter 98 = .ok (.istore 5, 2) := by decide +kernel
theorem dX5_restAfter_100 : decode cX5_restAfter 100 = .ok (.iload 5, 2) := by decide +kernel
theorem dX5_restAfter_102 : decode cX5_restAfter 102 = .ok (.bipush 64, 2) := by decide +kernel
theorem dX5_restAfter_104 : decode cX5_restAfter 104 = .ok (.if_icmp .ge 37, 3) := by decide +kernel
theorem dX5_restAfter_107 : decode cX5_restAfter 107 = .ok (.aload_n 0, 1) := by decide +kernel
theorem dX5_restAfter_108 : decode cX5_restAfter 108 = .ok (.getfield 20, 3) := by decide +kernel
theorem dX5_restAfter_111 : decode cX5_restAfter 111 = .ok (.iload 5, 2) := by decide +kernel
theorem dX5_restAfter_113 : decode cX5_restAfter 113 = .ok (.aload_n 0, 1) := by decide +kernel
theorem dX5_restAfter_114 : decode cX5_restAfter 114 = .ok (.getfield 51, 3) := by decide +kernel
theorem dX5_restAfter_117 : decode cX5_restAfter 117 = .ok (.iload 5, 2) := by decide +kernel
theorem dX5_restAfter_119 : decode cX5_restAfter 119 = .ok (.iaload, 1) := by decide +kernel
theorem dX5_restAfter_120 : decode cX5_restAfter 120 = .ok (.iastore, 1) := by decide +kernel
theorem dX5_restAfter_121 : decode cX5_restAfter 121 = .ok (.aload_n 0, 1) := by decide +kernel
theorem dX5_restAfter_122 : decode cX5_restAfter 122 = .ok (.getfield 23, 3) := by decide +kernel
theorem dX5_restAfter_125 : decode cX5_restAfter 125 = .ok (.iload 5, 2) := by decide +kernel
theorem dX5_restAfter_127 : decode cX5_restAfter 127 = .ok (.aload_n 0, 1) := by decide +kernel
theorem dX5_restAfter_128 : decode cX5_restAfter 128 = .ok (.getfield 54, 3) := by decide +kernel
theorem dX5_restAfter_131 : decode cX5_restAfter 131 = .ok (.iload 5, 2) := by decide +kernel
theorem dX5_restAfter_133 : decode cX5_restAfter 133 = .ok (.iaload, 1) := by decide +kernel
theorem dX5_restAfter_134 : decode cX5_restAfter 134 = .ok (.iastore, 1) := by decide +kernel
theorem dX5_restAfter_135 : decode cX5_restAfter 135 = .ok (.iinc 5 1, 3) := by decide +kernel
theorem dX5_restAfter_138 : decode cX5_restAfter 138 = .ok (.goto (-38), 3) := by decide +kernel
theorem dX5_restAfter_141 : decode cX5_restAfter 141 = .ok (.iload 4, 2) := by decide +kernel
theorem dX5_restAfter_143 : decode cX5_restAfter 143 = .ok (.ifCond .eq 7, 3) := by decide +kernel
theorem dX5_restAfter_146 : decode cX5_restAfter 146 = .ok (.iload_n 3, 1) := by decide +kernel
theorem dX5_restAfter_147 : decode cX5_restAfter 147 = .ok (.goto 5, 3) := by decide +kernel
theorem dX5_restAfter_150 : decode cX5_restAfter 150 = .ok (.bipush (-3), 2) := by decide +kernel
theorem dX5_restAfter_152 : decode cX5_restAfter 152 = .ok (.ireturn, 1) := by decide +kernel
theorem dJ6_bitCount_0f7a4_0 : decode cJ6_bitCount_0f7a4 0 = .ok (.iload_n 0, 1) := by decide +kernel
theorem dJ6_bitCount_0f7a4_1 : decode cJ6_bitCount_0f7a4 1 = .ok (.iload_n 0, 1) := by decide +kernel
theorem dJ6_bitCount_0f7a4_2 : decode cJ6_bitCount_0f7a4 2 = .ok (.iconst 1, 1) := by decide +kernel
theorem dJ6_bitCount_0f7a4_3 : decode cJ6_bitCount_0f7a4 3 = .ok (.iushr, 1) := by decide +kernel
theorem dJ6_bitCount_0f7a4_4 : decode cJ6_bitCount_0f7a4 4 = .ok (.ldc_w 265, 3) := by decide +kernel
theorem dJ6_bitCount_0f7a4_7 : decode cJ6_bitCount_0f7a4 7 = .ok (.iand, 1) := by decide +kernel
theorem dJ6_bitCount_0f7a4_8 : decode cJ6_bitCount_0f7a4 8 = .ok (.isub, 1) := by decide +kernel
theorem dJ6_bitCount_0f7a4_9 : decode cJ6_bitCount_0f7a4 9 = .ok (.istore_n 0, 1) := by decide +kernel
theorem dJ6_bitCount_0f7a4_10 : decode cJ6_bitCount_0f7a4 10 = .ok (.iload_n 0, 1) := by decide +kernel
theorem dJ6_bitCount_0f7a4_11 : decode cJ6_bitCount_0f7a4 11 = .ok (.ldc_w 266, 3) := by decide +kernel
theorem dJ6_bitCount_0f7a4_14 : decode cJ6_bitCount_0f7a4 14 = .ok (.iand, 1) := by decide +kernel
theorem dJ6_bitCount_0f7a4_15 : decode cJ6_bitCount_0f7a4 15 = .ok (.iload_n 0, 1) := by decide +kernel
theorem dJ6_bitCount_0f7a4_16 : decode cJ6_bitCount_0f7a4 16 = .ok (.iconst 2, 1) := by decide +kernel
theorem dJ6_bitCount_0f7a4_17 : decode cJ6_bitCount_0f7a4 17 = .ok (.iushr, 1) := by decide +kernel
theorem dJ6_bitCount_0f7a4_18 : decode cJ6_bitCount_0f7a4 18 = .ok (.ldc_w 266, 3) := by decide +kernel
theorem dJ6_bitCount_0f7a4_21 : decode cJ6_bitCount_0f7a4 21 = .ok (.iand, 1) := by decide +kernel
theorem dJ6_bitCount_0f7a4_22 : decode cJ6_bitCount_0f7a4 22 = .ok (.iadd, 1) := by decide +kernel
theorem dJ6_bitCount_0f7a4_23 : decode cJ6_bitCount_0f7a4 23 = .ok (.istore_n 0, 1) := by decide +kernel
theorem dJ6_bitCount_0f7a4_24 : decode cJ6_bitCount_0f7a4 24 = .ok (.iload_n 0, 1) := by decide +kernel
theorem dJ6_bitCount_0f7a4_25 : decode cJ6_bitCount_0f7a4 25 = .ok (.iload_n 0, 1) := by decide +kernel
theorem dJ6_bitCount_0f7a4_26 : decode cJ6_bitCount_0f7a4 26 = .ok (.iconst 4, 1) := by decide +kernel
theorem dJ6_bitCount_0f7a4_27 : decode cJ6_bitCount_0f7a4 27 = .ok (.iushr, 1) := by decide +kernel
theorem dJ6_bitCount_0f7a4_28 : decode cJ6_bitCount_0f7a4 28 = .ok (.iadd, 1) := by decide +kernel
theorem dJ6_bitCount_0f7a4_29 : decode cJ6_bitCount_0f7a4 29 = .ok (.ldc_w 267, 3) := by decide +kernel
theorem dJ6_bitCount_0f7a4_32 : decode cJ6_bitCount_0f7a4 32 = .ok (.iand, 1) := by decide +kernel
theorem dJ6_bitCount_0f7a4_33 : decode cJ6_bitCount_0f7a4 33 = .ok (.istore_n 0, 1) := by decide +kernel
theorem dJ6_bitCount_0f7a4_34 : decode cJ6_bitCount_0f7a4 34 = .ok (.iload_n 0, 1) := by decide +kernel
theorem dJ6_bitCount_0f7a4_35 : decode cJ6_bitCount_0f7a4 35 = .ok (.iload_n 0, 1) := by decide +kernel
theorem dJ6_bitCount_0f7a4_36 : decode cJ6_bitCount_0f7a4 36 = .ok (.bipush 8, 2) := by decide +kernel
theorem dJ6_bitCount_0f7a4_38 : decode cJ6_bitCount_0f7a4 38 = .ok (.iushr, 1) := by decide +kernel
theorem dJ6_bitCount_0f7a4_39 : decode cJ6_bitCount_0f7a4 39 = .ok (.iadd, 1) := by decide +kernel
theorem dJ6_bitCount_0f7a4_40 : decode cJ6_bitCount_0f7a4 40 = .ok (.istore_n 0, 1) := by decide +kernel
theorem dJ6_bitCount_0f7a4_41 : decode cJ6_bitCount_0f7a4 41 = .ok (.iload_n 0, 1) := by decide +kernel
theorem dJ6_bitCount_0f7a4_42 : decode cJ6_bitCount_0f7a4 42 = .ok (.iload_n 0, 1) := by decide +kernel
theorem dJ6_bitCount_0f7a4_43 : decode cJ6_bitCount_0f7a4 43 = .ok (.bipush 16, 2) := by decide +kernel
theorem dJ6_bitCount_0f7a4_45 : decode cJ6_bitCount_0f7a4 45 = .ok (.iushr, 1) := by decide +kernel
theorem dJ6_bitCount_0f7a4_46 : decode cJ6_bitCount_0f7a4 46 = .ok (.iadd, 1) := by decide +kernel
theorem dJ6_bitCount_0f7a4_47 : decode cJ6_bitCount_0f7a4 47 = .ok (.istore_n 0, 1) := by decide +kernel
theorem dJ6_bitCount_0f7a4_48 : decode cJ6_bitCount_0f7a4 48 = .ok (.iload_n 0, 1) := by decide +kernel
theorem dJ6_bitCount_0f7a4_49 : decode cJ6_bitCount_0f7a4 49 = .ok (.bipush 63, 2) := by decide +kernel
theorem dJ6_bitCount_0f7a4_51 : decode cJ6_bitCount_0f7a4 51 = .ok (.iand, 1) := by decide +kernel
theorem dJ6_bitCount_0f7a4_52 : decode cJ6_bitCount_0f7a4 52 = .ok (.ireturn, 1) := by decide +kernel
theorem dJ9_floorMod_7cf53_0 : decode cJ9_floorMod_7cf53 0 = .ok (.iload_n 0, 1) := by decide +kernel
theorem dJ9_floorMod_7cf53_1 : decode cJ9_floorMod_7cf53 1 = .ok (.iload_n 1, 1) := by decide +kernel
theorem dJ9_floorMod_7cf53_2 : decode cJ9_floorMod_7cf53 2 = .ok (.irem, 1) := by decide +kernel
theorem dJ9_floorMod_7cf53_3 : decode cJ9_floorMod_7cf53 3 = .ok (.istore_n 2, 1) := by decide +kernel
theorem dJ9_floorMod_7cf53_4 : decode cJ9_floorMod_7cf53 4 = .ok (.iload_n 0, 1) := by decide +kernel
theorem dJ9_floorMod_7cf53_5 : decode cJ9_floorMod_7cf53 5 = .ok (.iload_n 1, 1) := by decide +kernel
theorem dJ9_floorMod_7cf53_6 : decode cJ9_floorMod_7cf53 6 = .ok (.ixor, 1) := by decide +kernel
theorem dJ9_floorMod_7cf53_7 : decode cJ9_floorMod_7cf53 7 = .ok (.ifCond .ge 11, 3) := by decide +kernel
theorem dJ9_floorMod_7cf53_10 : decode cJ9_floorMod_7cf53 10 = .ok (.iload_n 2, 1) := by decide +kernel
theorem dJ9_floorMod_7cf53_11 : decode cJ9_floorMod_7cf53 11 = .ok (.ifCond .eq 7, 3) := by decide +kernel
theorem dJ9_floorMod_7cf53_14 : decode cJ9_floorMod_7cf53 14 = .ok (.iload_n 2, 1) := by decide +kernel
theorem dJ9_floorMod_7cf53_15 : decode cJ9_floorMod_7cf53 15 = .ok (.iload_n 1, 1) := by decide +kernel
theorem dJ9_floorMod_7cf53_16 : decode cJ9_floorMod_7cf53 16 = .ok (.iadd, 1) := by decide +kernel
theorem dJ9_floorMod_7cf53_17 : decode cJ9_floorMod_7cf53 17 = .ok (.ireturn, 1) := by decide +kernel
theorem dJ9_floorMod_7cf53_18 : decode cJ9_floorMod_7cf53 18 = .ok (.iload_n 2, 1) := by decide +kernel
theorem dJ9_floorMod_7cf53_19 : decode cJ9_floorMod_7cf53 19 = .ok (.ireturn, 1) := by decide +kernel
theorem dJ9_max_7cf53_0 : decode cJ9_max_7cf53 0 = .ok (.iload_n 0, 1) := by decide +kernel
theorem dJ9_max_7cf53_1 : decode cJ9_max_7cf53 1 = .ok (.iload_n 1, 1) := by decide +kernel
theorem dJ9_max_7cf53_2 : decode cJ9_max_7cf53 2 = .ok (.if_icmp .lt 7, 3) := by decide +kernel
theorem dJ9_max_7cf53_5 : decode cJ9_max_7cf53 5 = .ok (.iload_n 0, 1) := by decide +kernel
theorem dJ9_max_7cf53_6 : decode cJ9_max_7cf53 6 = .ok (.goto 4, 3) := by decide +kernel
theorem dJ9_max_7cf53_9 : decode cJ9_max_7cf53 9 = .ok (.iload_n 1, 1) := by decide +kernel
theorem dJ9_max_7cf53_10 : decode cJ9_max_7cf53 10 = .ok (.ireturn, 1) := by decide +kernel
theorem dJ9_min_7cf53_0 : decode cJ9_min_7cf53 0 = .ok (.iload_n 0, 1) := by decide +kernel
theorem dJ9_min_7cf53_1 : decode cJ9_min_7cf53 1 = .ok (.iload_n 1, 1) := by decide +kernel
theorem dJ9_min_7cf53_2 : decode cJ9_min_7cf53 2 = .ok (.if_icmp .gt 7, 3) := by decide +kernel
theorem dJ9_min_7cf53_5 : decode cJ9_min_7cf53 5 = .ok (.iload_n 0, 1) := by decide +kernel
theorem dJ9_min_7cf53_6 : decode cJ9_min_7cf53 6 = .ok (.goto 4, 3) := by decide +kernel
theorem dJ9_min_7cf53_9 : decode cJ9_min_7cf53 9 = .ok (.iload_n 1, 1) := by decide +kernel
theorem dJ9_min_7cf53_10 : decode cJ9_min_7cf53 10 = .ok (.ireturn, 1) := by decide +kernel
theorem dL_law_0 : decode cL_law 0 = .ok (.new 7, 3) := by decide +kernel
theorem dL_law_3 : decode cL_law 3 = .ok (.dup, 1) := by decide +kernel
theorem dL_law_4 : decode cL_law 4 = .ok (.invokespecial 9, 3) := by decide +kernel
theorem dL_law_7 : decode cL_law 7 = .ok (.astore_n 1, 1) := by decide +kernel
theorem dL_law_8 : decode cL_law 8 = .ok (.new 10, 3) := by decide +kernel
theorem dL_law_11 : decode cL_law 11 = .ok (.dup, 1) := by decide +kernel
theorem dL_law_12 : decode cL_law 12 = .ok (.invokespecial 12, 3) := by decide +kernel
theorem dL_law_15 : decode cL_law 15 = .ok (.astore_n 2, 1) := by decide +kernel
theorem dL_law_16 : decode cL_law 16 = .ok (.iconst 0, 1) := by decide +kernel
theorem dL_law_17 : decode cL_law 17 = .ok (.istore_n 3, 1) := by decide +kernel
theorem dL_law_18 : decode cL_law 18 = .ok (.iload_n 3, 1) := by decide +kernel
theorem dL_law_19 : decode cL_law 19 = .ok (.aload_n 0, 1) := by decide +kernel
theorem dL_law_20 : decode cL_law 20 = .ok (.arraylength, 1) := by decide +kernel
theorem dL_law_21 : decode cL_law 21 = .ok (.iconst 3, 1) := by decide +kernel
theorem dL_law_22 : decode cL_law 22 = .ok (.isub, 1) := by decide +kernel
theorem dL_law_23 : decode cL_law 23 = .ok (.if_icmp .gt 681, 3) := by decide +kernel
theorem dL_law_26 : decode cL_law 26 = .ok (.aload_n 0, 1) := by decide +kernel
theorem dL_law_27 : decode cL_law 27 = .ok (.iload_n 3, 1) := by decide +kernel
theorem dL_law_28 : decode cL_law 28 = .ok (.iaload, 1) := by decide +kernel
theorem dL_law_29 : decode cL_law 29 = .ok (.bipush 31, 2) := by decide +kernel
theorem dL_law_31 : decode cL_law 31 = .ok (.iand, 1) := by decide +kernel
theorem dL_law_32 : decode cL_law 32 = .ok (.tableswitch 666 0 19 #[96, 129, 168, 207, 246, 269, 302, 335, 348, 387, 426, 449, 482, 515, 538, 571, 594, 607, 630, 643], 96) := by decide +kernel
theorem dL_law_128 : decode cL_law 128 = .ok (.aload_n 1, 1) := by decide +kernel
theorem dL_law_129 : decode cL_law 129 = .ok (.aload_n 0, 1) := by decide +kernel
theorem dL_law_130 : decode cL_law 130 = .ok (.iload_n 3, 1) := by decide +kernel
theorem dL_law_131 : decode cL_law 131 = .ok (.iconst 1, 1) := by decide +kernel
theorem dL_law_132 : decode cL_law 132 = .ok (.iadd, 1) := by decide +kernel
theorem dL_law_133 : decode cL_law 133 = .ok (.iaload, 1) := by decide +kernel
theorem dL_law_134 : decode cL_law 134 = .ok (.aload_n 0, 1) := by decide +kernel
theorem dL_law_135 : decode cL_law 135 = .ok (.iload_n 3, 1) := by decide +kernel
theorem dL_law_136 : decode cL_law 136 = .ok (.iconst 2, 1) := by decide +kernel
theorem dL_law_137 : decode cL_law 137 = .ok (.iadd, 1) := by decide +kernel
theorem dL_law_138 : decode cL_law 138 = .ok (.iaload, 1) := by decide +kernel
theorem dL_law_139 : decode cL_law 139 = .ok (.invokevirtual 13, 3) := by decide +kernel
theorem dL_law_142 : decode cL_law 142 = .ok (.aload_n 2, 1) := by decide +kernel
theorem dL_law_143 : decode cL_law 143 = .ok (.aload_n 0, 1) := by decide +kernel
theorem dL_law_144 : decode cL_law 144 = .ok (.iload_n 3, 1) := by decide +kernel
theorem dL_law_145 : decode cL_law 145 = .ok (.iconst 1, 1) := by decide +kernel
theorem dL_law_146 : decode cL_law 146 = .ok (.iadd, 1) := by decide +kernel
theorem dL_law_147 : decode cL_law 147 = .ok (.iaload, 1) := by decide +kernel
theorem dL_law_148 : decode cL_law 148 = .ok (.aload_n 0, 1) := by decide +kernel
theorem dL_law_149 : decode cL_law 149 = .ok (.iload_n 3, 1) := by decide +kernel
theorem dL_law_150 : decode cL_law 150 = .ok (.iconst 2, 1) := by decide +kernel
theorem dL_law_151 : decode cL_law 151 = .ok (.iadd, 1) := by decide +kernel
theorem dL_law_152 : decode cL_law 152 = .ok (.iaload, 1) := by decide +kernel
theorem dL_law_153 : decode cL_law 153 = .ok (.invokevirtual 17, 3) := by decide +kernel
theorem dL_law_156 : decode cL_law 156 = .ok (.if_icmp .eq 542, 3) := by decide +kernel
theorem dL_law_159 : decode cL_law 159 = .ok (.iconst 0, 1) := by decide +kernel
theorem dL_law_160 : decode cL_law 160 = .ok (.ireturn, 1) := by decide +kernel
theorem dL_law_161 : decode cL_law 161 = .ok (.aload_n 1, 1) := by decide +kernel
theorem dL_law_162 : decode cL_law 162 = .ok (.aload_n 0, 1) := by decide +kernel
theorem dL_law_163 : decode cL_law 163 = .ok (.iload_n 3, 1) := by decide +kernel
theorem dL_law_164 : decode cL_law 164 = .ok (.iconst 1, 1) := by decide +kernel
theorem dL_law_165 : decode cL_law 165 = .ok (.iadd, 1) := by decide +kernel
theorem dL_law_166 : decode cL_law 166 = .ok (.iaload, 1) := by decide +kernel
theorem dL_law_167 : decode cL_law 167 = .ok (.ifCond .eq 7, 3) := by decide +kernel
theorem dL_law_170 : decode cL_law 170 = .ok (.iconst 1, 1) := by decide +kernel
theorem dL_law_171 : decode cL_law 171 = .ok (.goto 4, 3) := by decide +kernel
theorem dL_law_174 : decode cL_law 174 = .ok (.iconst 0, 1) := by decide +kernel
theorem dL_law_175 : decode cL_law 175 = .ok (.invokevirtual 18, 3) := by decide +kernel
theorem dL_law_178 : decode cL_law 178 = .ok (.aload_n 2, 1) := by decide +kernel
theorem dL_law_179 : decode cL_law 179 = .ok (.aload_n 0, 1) := by decide +kernel
theorem dL_law_180 : decode cL_law 180 = .ok (.iload_n 3, 1) := by decide +kernel
theorem dL_law_181 : decode cL_law 181 = .ok (.iconst 1, 1) := by decide +kernel
theorem dL_law_182 : decode cL_law 182 = .ok (.iadd, 1) := by decide +kernel
theorem dL_law_183 : decode cL_law 183 = .ok (.iaload, 1) := by decide +kernel
theorem dL_law_184 : decode cL_law 184 = .ok (.ifCond .eq 7, 3) := by decide +kernel
theorem dL_law_187 : decode cL_law 187 = .ok (.iconst 1, 1) := by decide +kernel
theorem dL_law_188 : decode cL_law 188 = .ok (.goto 4, 3) := by decide +kernel
theorem dL_law_191 : decode cL_law 191 = .ok (.iconst 0, 1) := by decide +kernel
theorem dL_law_192 : decode cL_law 192 = .ok (.invokevirtual 22, 3) := by decide +kernel
theorem dL_law_195 : decode cL_law 195 = .ok (.if_icmp .eq 503, 3) := by decide +kernel
theorem dL_law_198 : decode cL_law 198 = .ok (.iconst 0, 1) := by decide +kernel
theorem dL_law_199 : decode cL_law 199 = .ok (.ireturn, 1) := by decide +kernel
theorem dL_law_200 : decode cL_law 200 = .ok (.aload_n 1, 1) := by decide +kernel
theorem dL_law_201 : decode cL_law 201 = .ok (.aload_n 0, 1) := by decide +kernel
theorem dL_law_202 : decode cL_law 202 = .ok (.iload_n 3, 1) := by decide +kernel
theorem dL_law_203 : decode cL_law 203 = .ok (.iconst 1, 1) := by decide +kernel
theorem dL_law_204 : decode cL_law 204 = .ok (.iadd, 1) := by decide +kernel
theorem dL_law_205 : decode cL_law 205 = .ok (.iaload, 1) := by decide +kernel
theorem dL_law_206 : decode cL_law 206 = .ok (.ifCond .eq 7, 3) := by decide +kernel
theorem dL_law_209 : decode cL_law 209 = .ok (.iconst 1, 1) := by decide +kernel
theorem dL_law_210 : decode cL_law 210 = .ok (.goto 4, 3) := by decide +kernel
theorem dL_law_213 : decode cL_law 213 = .ok (.iconst 0, 1) := by decide +kernel
theorem dL_law_214 : decode cL_law 214 = .ok (.invokevirtual 23, 3) := by decide +kernel
theorem dL_law_217 : decode cL_law 217 = .ok (.aload_n 2, 1) := by decide +kernel
theorem dL_law_218 : decode cL_law 218 = .ok (.aload_n 0, 1) := by decide +kernel
theorem dL_law_219 : decode cL_law 219 = .ok (.iload_n 3, 1) := by decide +kernel
theorem dL_law_220 : decode cL_law 220 = .ok (.iconst 1, 1) := by decide +kernel
theorem dL_law_221 : decode cL_law 221 = .ok (.iadd, 1) := by decide +kernel
theorem dL_law_222 : decode cL_law 222 = .ok (.iaload, 1) := by decide +kernel
theorem dL_law_223 : decode cL_law 223 = .ok (.ifCond .eq 7, 3) := by decide +kernel
theorem dL_law_226 : decode cL_law 226 = .ok (.iconst 1, 1) := by decide +kernel
theorem dL_law_227 : decode cL_law 227 = .ok (.goto 4, 3) := by decide +kernel
theorem dL_law_230 : decode cL_law 230 = .ok (.iconst 0, 1) := by decide +kernel
theorem dL_law_231 : decode cL_law 231 = .ok (.invokevirtual 26, 3) := by decide +kernel
theorem dL_law_234 : decode cL_law 234 = .ok (.if_icmp .eq 464, 3) := by decide +kernel
theorem dL_law_237 : decode cL_law 237 = .ok (.iconst 0, 1) := by decide +kernel
theorem dL_law_238 : decode cL_law 238 = .ok (.ireturn, 1) := by decide +kernel
theorem dL_law_239 : decode cL_law 239 = .ok (.aload_n 1, 1) := by decide +kernel
theorem dL_law_240 : decode cL_law 240 = .ok (.aload_n 0, 1) := by decide +kernel
theorem dL_law_241 : decode cL_law 241 = .ok (.iload_n 3, 1) := by decide +kernel
theorem dL_law_242 : decode cL_law 242 = .ok (.iconst 1, 1) := by decide +kernel
theorem dL_law_243 : decode cL_law 243 = .ok (.iadd, 1) := by decide +kernel
theorem dL_law_244 : decode cL_law 244 = .ok (.iaload, 1) := by decide +kernel
theorem dL_law_245 : decode cL_law 245 = .ok (.ifCond .eq 7, 3) := by decide +kernel
theorem dL_law_248 : decode cL_law 248 = .ok (.iconst 1, 1) := by decide +kernel
theorem dL_law_249 : decode cL_law 249 = .ok (.goto 4, 3) := by decide +kernel
theorem dL_law_252 : decode cL_law 252 = .ok (.iconst 0, 1) := by decide +kernel
theorem dL_law_253 : decode cL_law 253 = .ok (.invokevirtual 27, 3) := by decide +kernel
theorem dL_law_256 : decode cL_law 256 = .ok (.aload_n 2, 1) := by decide +kernel
theorem dL_law_257 : decode cL_law 257 = .ok (.aload_n 0, 1) := by decide +kernel
theorem dL_law_258 : decode cL_law 258 = .ok (.iload_n 3, 1) := by decide +kernel
theorem dL_law_259 : decode cL_law 259 = .ok (.iconst 1, 1) := by decide +kernel
theorem dL_law_260 : decode cL_law 260 = .ok (.iadd, 1) := by decide +kernel
theorem dL_law_261 : decode cL_law 261 = .ok (.iaload, 1) := by decide +kernel
theorem dL_law_262 : decode cL_law 262 = .ok (.ifCond .eq 7, 3) := by decide +kernel
theorem dL_law_265 : decode cL_law 265 = .ok (.iconst 1, 1) := by decide +kernel
theorem dL_law_266 : decode cL_law 266 = .ok (.goto 4, 3) := by decide +kernel
theorem dL_law_269 : decode cL_law 269 = .ok (.iconst 0, 1) := by decide +kernel
theorem dL_law_270 : decode cL_law 270 = .ok (.invokevirtual 30, 3) := by decide +kernel
theorem dL_law_273 : decode cL_law 273 = .ok (.if_icmp .eq 425, 3) := by decide +kernel
theorem dL_law_276 : decode cL_law 276 = .ok (.iconst 0, 1) := by decide +kernel
theorem dL_law_277 : decode cL_law 277 = .ok (.ireturn, 1) := by decide +kernel
theorem dL_law_278 : decode cL_law 278 = .ok (.aload_n 1, 1) := by decide +kernel
theorem dL_law_279 : decode cL_law 279 = .ok (.aload_n 0, 1) := by decide +kernel
theorem dL_law_280 : decode cL_law 280 = .ok (.iload_n 3, 1) := by decide +kernel
theorem dL_law_281 : decode cL_law 281 = .ok (.iconst 1, 1) := by decide +kernel
theorem dL_law_282 : decode cL_law 282 = .ok (.iadd, 1) := by decide +kernel
theorem dL_law_283 : decode cL_law 283 = .ok (.iaload, 1) := by decide +kernel
theorem dL_law_284 : decode cL_law 284 = .ok (.invokevirtual 31, 3) := by decide +kernel
theorem dL_law_287 : decode cL_law 287 = .ok (.aload_n 2, 1) := by decide +kernel
theorem dL_law_288 : decode cL_law 288 = .ok (.aload_n 0, 1) := by decide +kernel
theorem dL_law_289 : decode cL_law 289 = .ok (.iload_n 3, 1) := by decide +kernel
theorem dL_law_290 : decode cL_law 290 = .ok (.iconst 1, 1) := by decide +kernel
theorem dL_law_291 : decode cL_law 291 = .ok (.iadd, 1) := by decide +kernel
theorem dL_law_292 : decode cL_law 292 = .ok (.iaload, 1) := by decide +kernel
theorem dL_law_293 : decode cL_law 293 = .ok (.invokevirtual 35, 3) := by decide +kernel
theorem dL_law_296 : decode cL_law 296 = .ok (.if_icmp .eq 402, 3) := by decide +kernel
theorem dL_law_299 : decode cL_law 299 = .ok (.iconst 0, 1) := by decide +kernel
theorem dL_law_300 : decode cL_law 300 = .ok (.ireturn, 1) := by decide +kernel
theorem dL_law_301 : decode cL_law 301 = .ok (.aload_n 1, 1) := by decide +kernel
theorem dL_law_302 : decode cL_law 302 = .ok (.aload_n 0, 1) := by decide +kernel
theorem dL_law_303 : decode cL_law 303 = .ok (.iload_n 3, 1) := by decide +kernel
theorem dL_law_304 : decode cL_law 304 = .ok (.iconst 1, 1) := by decide +kernel
theorem dL_law_305 : decode cL_law 305 = .ok (.iadd, 1) := by decide +kernel
theorem dL_law_306 : decode cL_law 306 = .ok (.iaload, 1) := by decide +kernel
theorem dL_law_307 : decode cL_law 307 = .ok (.aload_n 0, 1) := by decide +kernel
theorem dL_law_308 : decode cL_law 308 = .ok (.iload_n 3, 1) := by decide +kernel
theorem dL_law_309 : decode cL_law 309 = .ok (.iconst 2, 1) := by decide +kernel
theorem dL_law_310 : decode cL_law 310 = .ok (.iadd, 1) := by decide +kernel
theorem dL_law_311 : decode cL_law 311 = .ok (.iaload, 1) := by decide +kernel
theorem dL_law_312 : decode cL_law 312 = .ok (.invokevirtual 36, 3) := by decide +kernel
theorem dL_law_315 : decode cL_law 315 = .ok (.aload_n 2, 1) := by decide +kernel
theorem dL_law_316 : decode cL_law 316 = .ok (.aload_n 0, 1) := by decide +kernel
theorem dL_law_317 : decode cL_law 317 = .ok (.iload_n 3, 1) := by decide +kernel
theorem dL_law_318 : decode cL_law 318 = .ok (.iconst 1, 1) := by decide +kernel
theorem dL_law_319 : decode cL_law 319 = .ok (.iadd, 1) := by decide +kernel
theorem dL_law_320 : decode cL_law 320 = .ok (.iaload, 1) := by decide +kernel
theorem dL_law_321 : decode cL_law 321 = .ok (.aload_n 0, 1) := by decide +kernel
theorem dL_law_322 : decode cL_law 322 = .ok (.iload_n 3, 1) := by decide +kernel
theorem dL_law_323 : decode cL_law 323 = .ok (.iconst 2, 1) := by decide +kernel
theorem dL_law_324 : decode cL_law 324 = .ok (.iadd, 1) := by decide +kernel
theorem dL_law_325 : decode cL_law 325 = .ok (.iaload, 1) := by decide +kernel
theorem dL_law_326 : decode cL_law 326 = .ok (.invokevirtual 39, 3) := by decide +kernel
theorem dL_law_329 : decode cL_law 329 = .ok (.if_icmp .eq 369, 3) := by decide +kernel
theorem dL_law_332 : decode cL_law 332 = .ok (.iconst 0, 1) := by decide +kernel
theorem dL_law_333 : decode cL_law 333 = .ok (.ireturn, 1) := by decide +kernel
theorem dL_law_334 : decode cL_law 334 = .ok (.aload_n 1, 1) := by decide +kernel
theorem dL_law_335 : decode cL_law 335 = .ok (.aload_n 0, 1) := by decide +kernel
theorem dL_law_336 : decode cL_law 336 = .ok (.iload_n 3, 1) := by decide +kernel
theorem dL_law_337 : decode cL_law 337 = .ok (.iconst 1, 1) := by decide +kernel
theorem dL_law_338 : decode cL_law 338 = .ok (.iadd, 1) := by decide +kernel
theorem dL_law_339 : decode cL_law 339 = .ok (.iaload, 1) := by decide +kernel
theorem dL_law_340 : decode cL_law 340 = .ok (.aload_n 0, 1) := by decide +kernel
theorem dL_law_341 : decode cL_law 341 = .ok (.iload_n 3, 1) := by decide +kernel
theorem dL_law_342 : decode cL_law 342 = .ok (.iconst 2, 1) := by decide +kernel
theorem dL_law_343 : decode cL_law 343 = .ok (.iadd, 1) := by decide +kernel
theorem dL_law_344 : decode cL_law 344 = .ok (.iaload, 1) := by decide +kernel
theorem dL_law_345 : decode cL_law 345 = .ok (.invokevirtual 40, 3) := by decide +kernel
theorem dL_law_348 : decode cL_law 348 = .ok (.aload_n 2, 1) := by decide +kernel
theorem dL_law_349 : decode cL_law 349 = .ok (.aload_n 0, 1) := by decide +kernel
theorem dL_law_350 : decode cL_law 350 = .ok (.iload_n 3, 1) := by decide +kernel
theorem dL_law_351 : decode cL_law 351 = .ok (.iconst 1, 1) := by decide +kernel
theorem dL_law_352 : decode cL_law 352 = .ok (.iadd, 1) := by decide +kernel
theorem dL_law_353 : decode cL_law 353 = .ok (.iaload, 1) := by decide +kernel
theorem dL_law_354 : decode cL_law 354 = .ok (.aload_n 0, 1) := by decide +kernel
theorem dL_law_355 : decode cL_law 355 = .ok (.iload_n 3, 1) := by decide +kernel
theorem dL_law_356 : decode cL_law 356 = .ok (.iconst 2, 1) := by decide +kernel
theorem dL_law_357 : decode cL_law 357 = .ok (.iadd, 1) := by decide +kernel
theorem dL_law_358 : decode cL_law 358 = .ok (.iaload, 1) := by decide +kernel
theorem dL_law_359 : decode cL_law 359 = .ok (.invokevirtual 43, 3) := by decide +kernel
theorem dL_law_362 : decode cL_law 362 = .ok (.if_icmp .eq 336, 3) := by decide +kernel
theorem dL_law_365 : decode cL_law 365 = .ok (.iconst 0, 1) := by decide +kernel
theorem dL_law_366 : decode cL_law 366 = .ok (.ireturn, 1) := by decide +kernel
theorem dL_law_367 : decode cL_law 367 = .ok (.aload_n 1, 1) := by decide +kernel
theorem dL_law_368 : decode cL_law 368 = .ok (.invokevirtual 44, 3) := by decide +kernel
theorem dL_law_371 : decode cL_law 371 = .ok (.aload_n 2, 1) := by decide +kernel
theorem dL_law_372 : decode cL_law 372 = .ok (.invokevirtual 48, 3) := by decide +kernel
theorem dL_law_375 : decode cL_law 375 = .ok (.if_icmp .eq 323, 3) := by decide +kernel
theorem dL_law_378 : decode cL_law 378 = .ok (.iconst 0, 1) := by decide +kernel
theorem dL_law_379 : decode cL_law 379 = .ok (.ireturn, 1) := by decide +kernel
theorem dL_law_380 : decode cL_law 380 = .ok (.aload_n 1, 1) := by decide +kernel
theorem dL_law_381 : decode cL_law 381 = .ok (.aload_n 0, 1) := by decide +kernel
theorem dL_law_382 : decode cL_law 382 = .ok (.iload_n 3, 1) := by decide +kernel
theorem dL_law_383 : decode cL_law 383 = .ok (.iconst 1, 1) := by decide +kernel
theorem dL_law_384 : decode cL_law 384 = .ok (.iadd, 1) := by decide +kernel
theorem dL_law_385 : decode cL_law 385 = .ok (.iaload, 1) := by decide +kernel
theorem dL_law_386 : decode cL_law 386 = .ok (.ifCond .eq 7, 3) := by decide +kernel
theorem dL_law_389 : decode cL_law 389 = .ok (.iconst 1, 1) := by decide +kernel
theorem dL_law_390 : decode cL_law 390 = .ok (.goto 4, 3) := by decide +kernel
theorem dL_law_393 : decode cL_law 393 = .ok (.iconst 0, 1) := by decide +kernel
theorem dL_law_394 : decode cL_law 394 = .ok (.invokevirtual 49, 3) := by decide +kernel
theorem dL_law_397 : decode cL_law 397 = .ok (.aload_n 2, 1) := by decide +kernel
theorem dL_law_398 : decode cL_law 398 = .ok (.aload_n 0, 1) := by decide +kernel
theorem dL_law_399 : decode cL_law 399 = .ok (.iload_n 3, 1) := by decide +kernel
theorem dL_law_400 : decode cL_law 400 = .ok (.iconst 1, 1) := by decide +kernel
theorem dL_law_401 : decode cL_law 401 = .ok (.iadd, 1) := by decide +kernel
theorem dL_law_402 : decode cL_law 402 = .ok (.iaload, 1) := by decide +kernel
theorem dL_law_403 : decode cL_law 403 = .ok (.ifCond .eq 7, 3) := by decide +kernel
theorem dL_law_406 : decode cL_law 406 = .ok (.iconst 1, 1) := by decide +kernel
theorem dL_law_407 : decode cL_law 407 = .ok (.goto 4, 3) := by decide +kernel
theorem dL_law_410 : decode cL_law 410 = .ok (.iconst 0, 1) := by decide +kernel
theorem dL_law_411 : decode cL_law 411 = .ok (.invokevirtual 52, 3) := by decide +kernel
theorem dL_law_414 : decode cL_law 414 = .ok (.if_icmp .eq 284, 3) := by decide +kernel
theorem dL_law_417 : decode cL_law 417 = .ok (.iconst 0, 1) := by decide +kernel
theorem dL_law_418 : decode cL_law 418 = .ok (.ireturn, 1) := by decide +kernel
theorem dL_law_419 : decode cL_law 419 = .ok (.aload_n 1, 1) := by decide +kernel
theorem dL_law_420 : decode cL_law 420 = .ok (.aload_n 0, 1) := by decide +kernel
theorem dL_law_421 : decode cL_law 421 = .ok (.iload_n 3, 1) := by decide +kernel
theorem dL_law_422 : decode cL_law 422 = .ok (.iconst 1, 1) := by decide +kernel
theorem dL_law_423 : decode cL_law 423 = .ok (.iadd, 1) := by decide +kernel
theorem dL_law_424 : decode cL_law 424 = .ok (.iaload, 1) := by decide +kernel
theorem dL_law_425 : decode cL_law 425 = .ok (.ifCond .eq 7, 3) := by decide +kernel
theorem dL_law_428 : decode cL_law 428 = .ok (.iconst 1, 1) := by decide +kernel
theorem dL_law_429 : decode cL_law 429 = .ok (.goto 4, 3) := by decide +kernel
theorem dL_law_432 : decode cL_law 432 = .ok (.iconst 0, 1) := by decide +kernel
theorem dL_law_433 : decode cL_law 433 = .ok (.invokevirtual 53, 3) := by decide +kernel
theorem dL_law_436 : decode cL_law 436 = .ok (.aload_n 2, 1) := by decide +kernel
theorem dL_law_437 : decode cL_law 437 = .ok (.aload_n 0, 1) := by decide +kernel
theorem dL_law_438 : decode cL_law 438 = .ok (.iload_n 3, 1) := by decide +kernel
theorem dL_law_439 : decode cL_law 439 = .ok (.iconst 1, 1) := by decide +kernel
theorem dL_law_440 : decode cL_law 440 = .ok (.iadd, 1) := by decide +kernel
theorem dL_law_441 : decode cL_law 441 = .ok (.iaload, 1) := by decide +kernel
theorem dL_law_442 : decode cL_law 442 = .ok (.ifCond .eq 7, 3) := by decide +kernel
theorem dL_law_445 : decode cL_law 445 = .ok (.iconst 1, 1) := by decide +kernel
theorem dL_law_446 : decode cL_law 446 = .ok (.goto 4, 3) := by decide +kernel
theorem dL_law_449 : decode cL_law 449 = .ok (.iconst 0, 1) := by decide +kernel
theorem dL_law_450 : decode cL_law 450 = .ok (.invokevirtual 56, 3) := by decide +kernel
theorem dL_law_453 : decode cL_law 453 = .ok (.if_icmp .eq 245, 3) := by decide +kernel
theorem dL_law_456 : decode cL_law 456 = .ok (.iconst 0, 1) := by decide +kernel
theorem dL_law_457 : decode cL_law 457 = .ok (.ireturn, 1) := by decide +kernel
theorem dL_law_458 : decode cL_law 458 = .ok (.aload_n 1, 1) := by decide +kernel
theorem dL_law_459 : decode cL_law 459 = .ok (.aload_n 0, 1) := by decide +kernel
theorem dL_law_460 : decode cL_law 460 = .ok (.iload_n 3, 1) := by decide +kernel
theorem dL_law_461 : decode cL_law 461 = .ok (.iconst 1, 1) := by decide +kernel
theorem dL_law_462 : decode cL_law 462 = .ok (.iadd, 1) := by decide +kernel
theorem dL_law_463 : decode cL_law 463 = .ok (.iaload, 1) := by decide +kernel
theorem dL_law_464 : decode cL_law 464 = .ok (.invokevirtual 57, 3) := by decide +kernel
theorem dL_law_467 : decode cL_law 467 = .ok (.aload_n 2, 1) := by decide +kernel
theorem dL_law_468 : decode cL_law 468 = .ok (.aload_n 0, 1) := by decide +kernel
theorem dL_law_469 : decode cL_law 469 = .ok (.iload_n 3, 1) := by decide +kernel
theorem dL_law_470 : decode cL_law 470 = .ok (.iconst 1, 1) := by decide +kernel
theorem dL_law_471 : decode cL_law 471 = .ok (.iadd, 1) := by decide +kernel
theorem dL_law_472 : decode cL_law 472 = .ok (.iaload, 1) := by decide +kernel
theorem dL_law_473 : decode cL_law 473 = .ok (.invokevirtual 60, 3) := by decide +kernel
theorem dL_law_476 : decode cL_law 476 = .ok (.if_icmp .eq 222, 3) := by decide +kernel
theorem dL_law_479 : decode cL_law 479 = .ok (.iconst 0, 1) := by decide +kernel
theorem dL_law_480 : decode cL_law 480 = .ok (.ireturn, 1) := by decide +kernel
theorem dL_law_481 : decode cL_law 481 = .ok (.aload_n 1, 1) := by decide +kernel
theorem dL_law_482 : decode cL_law 482 = .ok (.aload_n 0, 1) := by decide +kernel
theorem dL_law_483 : decode cL_law 483 = .ok (.iload_n 3, 1) := by decide +kernel
theorem dL_law_484 : decode cL_law 484 = .ok (.iconst 1, 1) := by decide +kernel
theorem dL_law_485 : decode cL_law 485 = .ok (.iadd, 1) := by decide +kernel
theorem dL_law_486 : decode cL_law 486 = .ok (.iaload, 1) := by decide +kernel
theorem dL_law_487 : decode cL_law 487 = .ok (.aload_n 0, 1) := by decide +kernel
theorem dL_law_488 : decode cL_law 488 = .ok (.iload_n 3, 1) := by decide +kernel
theorem dL_law_489 : decode cL_law 489 = .ok (.iconst 2, 1) := by decide +kernel
theorem dL_law_490 : decode cL_law 490 = .ok (.iadd, 1) := by decide +kernel
theorem dL_law_491 : decode cL_law 491 = .ok (.iaload, 1) := by decide +kernel
theorem dL_law_492 : decode cL_law 492 = .ok (.invokevirtual 61, 3) := by decide +kernel
theorem dL_law_495 : decode cL_law 495 = .ok (.aload_n 2, 1) := by decide +kernel
theorem dL_law_496 : decode cL_law 496 = .ok (.aload_n 0, 1) := by decide +kernel
theorem dL_law_497 : decode cL_law 497 = .ok (.iload_n 3, 1) := by decide +kernel
theorem dL_law_498 : decode cL_law 498 = .ok (.iconst 1, 1) := by decide +kernel
theorem dL_law_499 : decode cL_law 499 = .ok (.iadd, 1) := by decide +kernel
theorem dL_law_500 : decode cL_law 500 = .ok (.iaload, 1) := by decide +kernel
theorem dL_law_501 : decode cL_law 501 = .ok (.aload_n 0, 1) := by decide +kernel
theorem dL_law_502 : decode cL_law 502 = .ok (.iload_n 3, 1) := by decide +kernel
theorem dL_law_503 : decode cL_law 503 = .ok (.iconst 2, 1) := by decide +kernel
theorem dL_law_504 : decode cL_law 504 = .ok (.iadd, 1) := by decide +kernel
theorem dL_law_505 : decode cL_law 505 = .ok (.iaload, 1) := by decide +kernel
theorem dL_law_506 : decode cL_law 506 = .ok (.invokevirtual 64, 3) := by decide +kernel
theorem dL_law_509 : decode cL_law 509 = .ok (.if_icmp .eq 189, 3) := by decide +kernel
theorem dL_law_512 : decode cL_law 512 = .ok (.iconst 0, 1) := by decide +kernel
theorem dL_law_513 : decode cL_law 513 = .ok (.ireturn, 1) := by decide +kernel
theorem dL_law_514 : decode cL_law 514 = .ok (.aload_n 1, 1) := by decide +kernel
theorem dL_law_515 : decode cL_law 515 = .ok (.aload_n 0, 1) := by decide +kernel
theorem dL_law_516 : decode cL_law 516 = .ok (.iload_n 3, 1) := by decide +kernel
theorem dL_law_517 : decode cL_law 517 = .ok (.iconst 1, 1) := by decide +kernel
theorem dL_law_518 : decode cL_law 518 = .ok (.iadd, 1) := by decide +kernel
theorem dL_law_519 : decode cL_law 519 = .ok (.iaload, 1) := by decide +kernel
theorem dL_law_520 : decode cL_law 520 = .ok (.aload_n 0, 1) := by decide +kernel
theorem dL_law_521 : decode cL_law 521 = .ok (.iload_n 3, 1) := by decide +kernel
theorem dL_law_522 : decode cL_law 522 = .ok (.iconst 2, 1) := by decide +kernel
theorem dL_law_523 : decode cL_law 523 = .ok (.iadd, 1) := by decide +kernel
theorem dL_law_524 : decode cL_law 524 = .ok (.iaload, 1) := by decide +kernel
theorem dL_law_525 : decode cL_law 525 = .ok (.invokevirtual 65, 3) := by decide +kernel
theorem dL_law_528 : decode cL_law 528 = .ok (.aload_n 2, 1) := by decide +kernel
theorem dL_law_529 : decode cL_law 529 = .ok (.aload_n 0, 1) := by decide +kernel
theorem dL_law_530 : decode cL_law 530 = .ok (.iload_n 3, 1) := by decide +kernel
theorem dL_law_531 : decode cL_law 531 = .ok (.iconst 1, 1) := by decide +kernel
theorem dL_law_532 : decode cL_law 532 = .ok (.iadd, 1) := by decide +kernel
theorem dL_law_533 : decode cL_law 533 = .ok (.iaload, 1) := by decide +kernel
theorem dL_law_534 : decode cL_law 534 = .ok (.aload_n 0, 1) := by decide +kernel
theorem dL_law_535 : decode cL_law 535 = .ok (.iload_n 3, 1) := by decide +kernel
theorem dL_law_536 : decode cL_law 536 = .ok (.iconst 2, 1) := by decide +kernel
theorem dL_law_537 : decode cL_law 537 = .ok (.iadd, 1) := by decide +kernel
theorem dL_law_538 : decode cL_law 538 = .ok (.iaload, 1) := by decide +kernel
theorem dL_law_539 : decode cL_law 539 = .ok (.invokevirtual 68, 3) := by decide +kernel
theorem dL_law_542 : decode cL_law 542 = .ok (.if_icmp .eq 156, 3) := by decide +kernel
theorem dL_law_545 : decode cL_law 545 = .ok (.iconst 0, 1) := by decide +kernel
theorem dL_law_546 : decode cL_law 546 = .ok (.ireturn, 1) := by decide +kernel
theorem dL_law_547 : decode cL_law 547 = .ok (.aload_n 1, 1) := by decide +kernel
theorem dL_law_548 : decode cL_law 548 = .ok (.aload_n 0, 1) := by decide +kernel
theorem dL_law_549 : decode cL_law 549 = .ok (.iload_n 3, 1) := by decide +kernel
theorem dL_law_550 : decode cL_law 550 = .ok (.iconst 1, 1) := by decide +kernel
theorem dL_law_551 : decode cL_law 551 = .ok (.iadd, 1) := by decide +kernel
theorem dL_law_552 : decode cL_law 552 = .ok (.iaload, 1) := by decide +kernel
theorem dL_law_553 : decode cL_law 553 = .ok (.invokevirtual 69, 3) := by decide +kernel
theorem dL_law_556 : decode cL_law 556 = .ok (.aload_n 2, 1) := by decide +kernel
theorem dL_law_557 : decode cL_law 557 = .ok (.aload_n 0, 1) := by decide +kernel
theorem dL_law_558 : decode cL_law 558 = .ok (.iload_n 3, 1) := by decide +kernel
theorem dL_law_559 : decode cL_law 559 = .ok (.iconst 1, 1) := by decide +kernel
theorem dL_law_560 : decode cL_law 560 = .ok (.iadd, 1) := by decide +kernel
theorem dL_law_561 : decode cL_law 561 = .ok (.iaload, 1) := by decide +kernel
theorem dL_law_562 : decode cL_law 562 = .ok (.invokevirtual 72, 3) := by decide +kernel
theorem dL_law_565 : decode cL_law 565 = .ok (.if_icmp .eq 133, 3) := by decide +kernel
theorem dL_law_568 : decode cL_law 568 = .ok (.iconst 0, 1) := by decide +kernel
theorem dL_law_569 : decode cL_law 569 = .ok (.ireturn, 1) := by decide +kernel
theorem dL_law_570 : decode cL_law 570 = .ok (.aload_n 1, 1) := by decide +kernel
theorem dL_law_571 : decode cL_law 571 = .ok (.aload_n 0, 1) := by decide +kernel
theorem dL_law_572 : decode cL_law 572 = .ok (.iload_n 3, 1) := by decide +kernel
theorem dL_law_573 : decode cL_law 573 = .ok (.iconst 1, 1) := by decide +kernel
theorem dL_law_574 : decode cL_law 574 = .ok (.iadd, 1) := by decide +kernel
theorem dL_law_575 : decode cL_law 575 = .ok (.iaload, 1) := by decide +kernel
theorem dL_law_576 : decode cL_law 576 = .ok (.aload_n 0, 1) := by decide +kernel
theorem dL_law_577 : decode cL_law 577 = .ok (.iload_n 3, 1) := by decide +kernel
theorem dL_law_578 : decode cL_law 578 = .ok (.iconst 2, 1) := by decide +kernel
theorem dL_law_579 : decode cL_law 579 = .ok (.iadd, 1) := by decide +kernel
theorem dL_law_580 : decode cL_law 580 = .ok (.iaload, 1) := by decide +kernel
theorem dL_law_581 : decode cL_law 581 = .ok (.invokevirtual 73, 3) := by decide +kernel
theorem dL_law_584 : decode cL_law 584 = .ok (.aload_n 2, 1) := by decide +kernel
theorem dL_law_585 : decode cL_law 585 = .ok (.aload_n 0, 1) := by decide +kernel
theorem dL_law_586 : decode cL_law 586 = .ok (.iload_n 3, 1) := by decide +kernel
theorem dL_law_587 : decode cL_law 587 = .ok (.iconst 1, 1) := by decide +kernel
theorem dL_law_588 : decode cL_law 588 = .ok (.iadd, 1) := by decide +kernel
theorem dL_law_589 : decode cL_law 589 = .ok (.iaload, 1) := by decide +kernel
theorem dL_law_590 : decode cL_law 590 = .ok (.aload_n 0, 1) := by decide +kernel
theorem dL_law_591 : decode cL_law 591 = .ok (.iload_n 3, 1) := by decide +kernel
theorem dL_law_592 : decode cL_law 592 = .ok (.iconst 2, 1) := by decide +kernel
theorem dL_law_593 : decode cL_law 593 = .ok (.iadd, 1) := by decide +kernel
theorem dL_law_594 : decode cL_law 594 = .ok (.iaload, 1) := by decide +kernel
theorem dL_law_595 : decode cL_law 595 = .ok (.invokevirtual 76, 3) := by decide +kernel
theorem dL_law_598 : decode cL_law 598 = .ok (.if_icmp .eq 100, 3) := by decide +kernel
theorem dL_law_601 : decode cL_law 601 = .ok (.iconst 0, 1) := by decide +kernel
end
section
theorem dL_law_602 : decode cL_law 602 = .ok (.ireturn, 1) := by decide +kernel
theorem dL_law_603 : decode cL_law 603 = .ok (.aload_n 1, 1) := by decide +kernel
theorem dL_law_604 : decode cL_law 604 = .ok (.aload_n 0, 1) := by decide +kernel
theorem dL_law_605 : decode cL_law 605 = .ok (.iload_n 3, 1) := by decide +kernel
theorem dL_law_606 : decode cL_law 606 = .ok (.iconst 1, 1) := by decide +kernel
theorem dL_law_607 : decode cL_law 607 = .ok (.iadd, 1) := by decide +kernel
theorem dL_law_608 : decode cL_law 608 = .ok (.iaload, 1) := by decide +kernel
theorem dL_law_609 : decode cL_law 609 = .ok (.invokevirtual 77, 3) := by decide +kernel
theorem dL_law_612 : decode cL_law 612 = .ok (.aload_n 2, 1) := by decide +kernel
theorem dL_law_613 : decode cL_law 613 = .ok (.aload_n 0, 1) := by decide +kernel
theorem dL_law_614 : decode cL_law 614 = .ok (.iload_n 3, 1) := by decide +kernel
theorem dL_law_615 : decode cL_law 615 = .ok (.iconst 1, 1) := by decide +kernel
theorem dL_law_616 : decode cL_law 616 = .ok (.iadd, 1) := by decide +kernel
theorem dL_law_617 : decode cL_law 617 = .ok (.iaload, 1) := by decide +kernel
theorem dL_law_618 : decode cL_law 618 = .ok (.invokevirtual 80, 3) := by decide +kernel
theorem dL_law_621 : decode cL_law 621 = .ok (.if_icmp .eq 77, 3) := by decide +kernel
theorem dL_law_624 : decode cL_law 624 = .ok (.iconst 0, 1) := by decide +kernel
theorem dL_law_625 : decode cL_law 625 = .ok (.ireturn, 1) := by decide +kernel
theorem dL_law_626 : decode cL_law 626 = .ok (.aload_n 1, 1) := by decide +kernel
theorem dL_law_627 : decode cL_law 627 = .ok (.invokevirtual 81, 3) := by decide +kernel
theorem dL_law_630 : decode cL_law 630 = .ok (.aload_n 2, 1) := by decide +kernel
theorem dL_law_631 : decode cL_law 631 = .ok (.invokevirtual 84, 3) := by decide +kernel
theorem dL_law_634 : decode cL_law 634 = .ok (.if_icmp .eq 64, 3) := by decide +kernel
theorem dL_law_637 : decode cL_law 637 = .ok (.iconst 0, 1) := by decide +kernel
theorem dL_law_638 : decode cL_law 638 = .ok (.ireturn, 1) := by decide +kernel
theorem dL_law_639 : decode cL_law 639 = .ok (.aload_n 1, 1) := by decide +kernel
theorem dL_law_640 : decode cL_law 640 = .ok (.aload_n 0, 1) := by decide +kernel
theorem dL_law_641 : decode cL_law 641 = .ok (.iload_n 3, 1) := by decide +kernel
theorem dL_law_642 : decode cL_law 642 = .ok (.iconst 1, 1) := by decide +kernel
theorem dL_law_643 : decode cL_law 643 = .ok (.iadd, 1) := by decide +kernel
theorem dL_law_644 : decode cL_law 644 = .ok (.iaload, 1) := by decide +kernel
theorem dL_law_645 : decode cL_law 645 = .ok (.invokevirtual 85, 3) := by decide +kernel
theorem dL_law_648 : decode cL_law 648 = .ok (.aload_n 2, 1) := by decide +kernel
theorem dL_law_649 : decode cL_law 649 = .ok (.aload_n 0, 1) := by decide +kernel
theorem dL_law_650 : decode cL_law 650 = .ok (.iload_n 3, 1) := by decide +kernel
theorem dL_law_651 : decode cL_law 651 = .ok (.iconst 1, 1) := by decide +kernel
theorem dL_law_652 : decode cL_law 652 = .ok (.iadd, 1) := by decide +kernel
theorem dL_law_653 : decode cL_law 653 = .ok (.iaload, 1) := by decide +kernel
theorem dL_law_654 : decode cL_law 654 = .ok (.invokevirtual 88, 3) := by decide +kernel
theorem dL_law_657 : decode cL_law 657 = .ok (.if_icmp .eq 41, 3) := by decide +kernel
theorem dL_law_660 : decode cL_law 660 = .ok (.iconst 0, 1) := by decide +kernel
theorem dL_law_661 : decode cL_law 661 = .ok (.ireturn, 1) := by decide +kernel
theorem dL_law_662 : decode cL_law 662 = .ok (.aload_n 1, 1) := by decide +kernel
theorem dL_law_663 : decode cL_law 663 = .ok (.invokevirtual 89, 3) := by decide +kernel
theorem dL_law_666 : decode cL_law 666 = .ok (.aload_n 2, 1) := by decide +kernel
theorem dL_law_667 : decode cL_law 667 = .ok (.invokevirtual 92, 3) := by decide +kernel
theorem dL_law_670 : decode cL_law 670 = .ok (.if_icmp .eq 28, 3) := by decide +kernel
theorem dL_law_673 : decode cL_law 673 = .ok (.iconst 0, 1) := by decide +kernel
theorem dL_law_674 : decode cL_law 674 = .ok (.ireturn, 1) := by decide +kernel
theorem dL_law_675 : decode cL_law 675 = .ok (.aload_n 1, 1) := by decide +kernel
theorem dL_law_676 : decode cL_law 676 = .ok (.aload_n 0, 1) := by decide +kernel
theorem dL_law_677 : decode cL_law 677 = .ok (.iload_n 3, 1) := by decide +kernel
theorem dL_law_678 : decode cL_law 678 = .ok (.iconst 1, 1) := by decide +kernel
theorem dL_law_679 : decode cL_law 679 = .ok (.iadd, 1) := by decide +kernel
theorem dL_law_680 : decode cL_law 680 = .ok (.iaload, 1) := by decide +kernel
theorem dL_law_681 : decode cL_law 681 = .ok (.invokevirtual 93, 3) := by decide +kernel
theorem dL_law_684 : decode cL_law 684 = .ok (.aload_n 2, 1) := by decide +kernel
theorem dL_law_685 : decode cL_law 685 = .ok (.aload_n 0, 1) := by decide +kernel
theorem dL_law_686 : decode cL_law 686 = .ok (.iload_n 3, 1) := by decide +kernel
theorem dL_law_687 : decode cL_law 687 = .ok (.iconst 1, 1) := by decide +kernel
theorem dL_law_688 : decode cL_law 688 = .ok (.iadd, 1) := by decide +kernel
theorem dL_law_689 : decode cL_law 689 = .ok (.iaload, 1) := by decide +kernel
theorem dL_law_690 : decode cL_law 690 = .ok (.invokevirtual 96, 3) := by decide +kernel
theorem dL_law_693 : decode cL_law 693 = .ok (.if_icmp .eq 5, 3) := by decide +kernel
theorem dL_law_696 : decode cL_law 696 = .ok (.iconst 0, 1) := by decide +kernel
theorem dL_law_697 : decode cL_law 697 = .ok (.ireturn, 1) := by decide +kernel
theorem dL_law_698 : decode cL_law 698 = .ok (.iinc 3 3, 3) := by decide +kernel
theorem dL_law_701 : decode cL_law 701 = .ok (.goto (-683), 3) := by decide +kernel
theorem dL_law_704 : decode cL_law 704 = .ok (.iconst 1, 1) := by decide +kernel
theorem dL_law_705 : decode cL_law 705 = .ok (.ireturn, 1) := by decide +kernel
end
section
set_option maxRecDepth 20000 in
theorem ggX0_write_J9_floorMod_7cf53 : GoodIn wsX0_write wsJ9_floorMod_7cf53 := goodIn_r _ [8] (by decide +kernel) (by decide +kernel)
set_option maxRecDepth 20000 in
theorem gX0_write_J9_floorMod_7cf53 : GoodIn wsX0_write (va_wsS RX0 25 yJ9_floorMod_7cf53 wsJ9_floorMod_7cf53) := goodIn_app (goodIn_of _ (by decide +kernel)) ggX0_write_J9_floorMod_7cf53
set_option maxRecDepth 20000 in
theorem ggX0_place_J9_floorMod_7cf53 : GoodIn wsX0_place wsJ9_floorMod_7cf53 := goodIn_r _ [5] (by decide +kernel) (by decide +kernel)
set_option maxRecDepth 20000 in
theorem gX0_place_J9_floorMod_7cf53 : GoodIn wsX0_place (va_wsS RX0 25 yJ9_floorMod_7cf53 wsJ9_floorMod_7cf53) := goodIn_app (goodIn_of _ (by decide +kernel)) ggX0_place_J9_floorMod_7cf53
set_option maxRecDepth 20000 in
theorem ggX1_init_X2_init : GoodIn wsX1_init wsX2_init := goodIn_r _ [15, 16, 2, 3, 4, 17, 18, 25, 26] (by decide +kernel) (by decide +kernel)
set_option maxRecDepth 20000 in
theorem gX1_init_X2_init_n17 : GoodIn wsX1_init (wsX2_init) := ggX1_init_X2_init
set_option maxRecDepth 20000 in
theorem ggX1_has_X1_size : GoodIn wsX1_has wsX1_size := goodIn_r _ [5, 6, 7, 8, 9, 10, 11, 12, 13] (by decide +kernel) (by decide +kernel)
set_option maxRecDepth 20000 in
theorem gX1_has_X1_size : GoodIn wsX1_has (wsV RX1 36 RX1 yX1_size wsX1_size) := goodIn_app (goodIn_of _ (by decide +kernel)) ggX1_has_X1_size
set_option maxRecDepth 20000 in
theorem ggX1_layOut_X1_lift : GoodIn wsX1_layOut wsX1_lift := goodIn_r _ [7, 8, 9, 10, 11, 12, 13, 14, 15, 16, 17, 18, 19, 20, 21, 22, 23, 24, 25] (by decide +kernel) (by decide +kernel)
set_option maxRecDepth 20000 in
theorem gX1_layOut_X1_lift : GoodIn wsX1_layOut (wsV RX1 40 RX1 yX1_lift wsX1_lift) := goodIn_app (goodIn_of _ (by decide +kernel)) ggX1_layOut_X1_lift
set_option maxRecDepth 20000 in
theorem ggX1_lift_X2_open : GoodIn wsX1_lift wsX2_open := goodIn_r _ [8, 9, 10, 17, 18] (by decide +kernel) (by decide +kernel)
set_option maxRecDepth 20000 in
theorem gX1_lift_X2_open : GoodIn wsX1_lift (wsV RX1 43 RX2 yX2_open wsX2_open) := goodIn_app (goodIn_of _ (by decide +kernel)) ggX1_lift_X2_open
set_option maxRecDepth 20000 in
theorem ggX1_move_X2_put : GoodIn wsX1_move wsX2_put := goodIn_r _ [9, 10, 11, 12, 13, 8, 14, 15, 16, 17, 18, 19, 26, 27] (by decide +kernel) (by decide +kernel)
set_option maxRecDepth 20000 in
theorem gX1_move_X2_put : GoodIn wsX1_move (wsV RX1 46 RX2 yX2_put wsX2_put) := goodIn_app (goodIn_of _ (by decide +kernel)) ggX1_move_X2_put
set_option maxRecDepth 20000 in
theorem ggX1_pressed_X1_size : GoodIn wsX1_pressed wsX1_size := goodIn_r _ [6, 7, 8, 12, 13, 14, 15, 16, 17] (by decide +kernel) (by decide +kernel)
set_option maxRecDepth 20000 in
theorem gX1_pressed_X1_size : GoodIn wsX1_pressed (wsV RX1 36 RX1 yX1_size wsX1_size) := goodIn_app (goodIn_of _ (by decide +kernel)) ggX1_pressed_X1_size
set_option maxRecDepth 20000 in
theorem ggX1_pressed_X4_one : GoodIn wsX1_pressed wsX4_one := goodIn_r _ [11] (by decide +kernel) (by decide +kernel)
set_option maxRecDepth 20000 in
theorem gX1_pressed_X4_one_n50 : GoodIn wsX1_pressed (wsX4_one) := ggX1_pressed_X4_one
set_option maxRecDepth 20000 in
theorem ggX1_firstSeen_X1_seen : GoodIn wsX1_firstSeen wsX1_seen := goodIn_r _ [7, 8, 9, 10, 14, 15, 16, 17, 18, 19, 20, 21] (by decide +kernel) (by decide +kernel)
set_option maxRecDepth 20000 in
theorem gX1_firstSeen_X1_seen : GoodIn wsX1_firstSeen (wsV RX1 60 RX1 yX1_seen wsX1_seen) := goodIn_app (goodIn_of _ (by decide +kernel)) ggX1_firstSeen_X1_seen
set_option maxRecDepth 20000 in
theorem ggX1_firstSeen_X1_contains : GoodIn wsX1_firstSeen wsX1_contains := goodIn_r _ [13] (by decide +kernel) (by decide +kernel)
set_option maxRecDepth 20000 in
theorem gX1_firstSeen_X1_contains : GoodIn wsX1_firstSeen (va_wsS RX1 64 yX1_contains wsX1_contains) := goodIn_app (goodIn_of _ (by decide +kernel)) ggX1_firstSeen_X1_contains
set_option maxRecDepth 20000 in
theorem ggX1_secondSeen_X1_seen : GoodIn wsX1_secondSeen wsX1_seen := goodIn_r _ [7, 8, 9, 10, 14, 15, 16, 17, 18, 19, 20, 21] (by decide +kernel) (by decide +kernel)
set_option maxRecDepth 20000 in
theorem gX1_secondSeen_X1_seen : GoodIn wsX1_secondSeen (wsV RX1 60 RX1 yX1_seen wsX1_seen) := goodIn_app (goodIn_of _ (by decide +kernel)) ggX1_secondSeen_X1_seen
set_option maxRecDepth 20000 in
theorem ggX1_secondSeen_X1_contains : GoodIn wsX1_secondSeen wsX1_contains := goodIn_r _ [13] (by decide +kernel) (by decide +kernel)
set_option maxRecDepth 20000 in
theorem gX1_secondSeen_X1_contains : GoodIn wsX1_secondSeen (va_wsS RX1 64 yX1_contains wsX1_contains) := goodIn_app (goodIn_of _ (by decide +kernel)) ggX1_secondSeen_X1_contains
set_option maxRecDepth 20000 in
theorem ggX1_isGhost_X1_ghostsIn : GoodIn wsX1_isGhost wsX1_ghostsIn := goodIn_r _ [6, 7, 8, 9, 10, 11, 12, 5, 13, 14, 15, 19, 20, 21, 22, 23, 24, 25, 26] (by decide +kernel) (by decide +kernel)
set_option maxRecDepth 20000 in
theorem gX1_isGhost_X1_ghostsIn : GoodIn wsX1_isGhost (wsV RX1 68 RX1 yX1_ghostsIn wsX1_ghostsIn) := goodIn_app (goodIn_of _ (by decide +kernel)) ggX1_isGhost_X1_ghostsIn
set_option maxRecDepth 20000 in
theorem ggX1_isGhost_X1_contains : GoodIn wsX1_isGhost wsX1_contains := goodIn_r _ [18] (by decide +kernel) (by decide +kernel)
set_option maxRecDepth 20000 in
theorem gX1_isGhost_X1_contains : GoodIn wsX1_isGhost (va_wsS RX1 64 yX1_contains wsX1_contains) := goodIn_app (goodIn_of _ (by decide +kernel)) ggX1_isGhost_X1_contains
set_option maxRecDepth 20000 in
theorem ggX1_isDoubtful_X1_seen : GoodIn wsX1_isDoubtful wsX1_seen := goodIn_r _ [8, 9, 10, 11, 12, 13, 14, 15, 16, 17, 18, 19] (by decide +kernel) (by decide +kernel)
set_option maxRecDepth 20000 in
theorem gX1_isDoubtful_X1_seen : GoodIn wsX1_isDoubtful (wsV RX1 60 RX1 yX1_seen wsX1_seen) := goodIn_app (goodIn_of _ (by decide +kernel)) ggX1_isDoubtful_X1_seen
set_option maxRecDepth 20000 in
theorem ggX1_doubtful_X1_size : GoodIn wsX1_doubtful wsX1_size := goodIn_r _ [5, 6, 7, 23, 24, 25, 26, 27, 28] (by decide +kernel) (by decide +kernel)
set_option maxRecDepth 20000 in
theorem gX1_doubtful_X1_size : GoodIn wsX1_doubtful (wsV RX1 36 RX1 yX1_size wsX1_size) := goodIn_app (goodIn_of _ (by decide +kernel)) ggX1_doubtful_X1_size
set_option maxRecDepth 20000 in
theorem ggX1_doubtful_X1_isDoubtful : GoodIn wsX1_doubtful wsX1_isDoubtful := goodIn_r _ [11, 7, 6, 12, 13, 14, 15, 4, 16, 17, 18, 19, 23, 24, 25, 26, 27, 28, 29, 30] (by decide +kernel) (by decide +kernel)
set_option maxRecDepth 20000 in
theorem gX1_doubtful_X1_isDoubtful : GoodIn wsX1_doubtful (wsV RX1 72 RX1 yX1_isDoubtful wsX1_isDoubtful) := goodIn_app (goodIn_of _ (by decide +kernel)) ggX1_doubtful_X1_isDoubtful
set_option maxRecDepth 20000 in
theorem ggX1_doubtful_X4_one : GoodIn wsX1_doubtful wsX4_one := goodIn_r _ [22] (by decide +kernel) (by decide +kernel)
set_option maxRecDepth 20000 in
theorem gX1_doubtful_X4_one_n50 : GoodIn wsX1_doubtful (wsX4_one) := ggX1_doubtful_X4_one
set_option maxRecDepth 20000 in
theorem ggX1_ghosts_X1_ghostsIn : GoodIn wsX1_ghosts wsX1_ghostsIn := goodIn_r _ [6, 7, 8, 9, 10, 11, 12, 5, 13, 14, 15, 23, 24, 25, 26, 27, 28, 29, 30] (by decide +kernel) (by decide +kernel)
set_option maxRecDepth 20000 in
theorem gX1_ghosts_X1_ghostsIn : GoodIn wsX1_ghosts (wsV RX1 68 RX1 yX1_ghostsIn wsX1_ghostsIn) := goodIn_app (goodIn_of _ (by decide +kernel)) ggX1_ghosts_X1_ghostsIn
set_option maxRecDepth 20000 in
theorem ggX1_ghosts_J6_bitCount_0f7a4 : GoodIn wsX1_ghosts wsJ6_bitCount_0f7a4 := goodIn_r _ [19, 20, 21, 22] (by decide +kernel) (by decide +kernel)
set_option maxRecDepth 20000 in
theorem gX1_ghosts_J6_bitCount_0f7a4 : GoodIn wsX1_ghosts (va_wsS RX1 76 yJ6_bitCount_0f7a4 wsJ6_bitCount_0f7a4) := goodIn_app (goodIn_of _ (by decide +kernel)) ggX1_ghosts_J6_bitCount_0f7a4
set_option maxRecDepth 20000 in
theorem ggX1_ghostsWithout_X1_move : GoodIn wsX1_ghostsWithout wsX1_move := goodIn_r _ [6, 1, 7, 8, 9, 10, 11, 12, 13, 14, 15, 16, 17, 18, 19, 20, 21, 22, 23, 24, 48, 49, 50, 51, 52, 53, 54, 55] (by decide +kernel) (by decide +kernel)
set_option maxRecDepth 20000 in
theorem gX1_ghostsWithout_X1_move : GoodIn wsX1_ghostsWithout (wsV RX1 81 RX1 yX1_move wsX1_move) := goodIn_app (goodIn_of _ (by decide +kernel)) ggX1_ghostsWithout_X1_move
set_option maxRecDepth 20000 in
theorem ggX1_ghostsWithout_X1_ghosts : GoodIn wsX1_ghostsWithout wsX1_ghosts := goodIn_r _ [28, 29, 30, 31, 32, 5, 33, 7, 34, 9, 35, 36, 37, 38, 39, 40, 41, 42, 43, 44, 45, 46, 47, 48, 49, 50, 51, 52, 53, 54, 55] (by decide +kernel) (by decide +kernel)
set_option maxRecDepth 20000 in
theorem gX1_ghostsWithout_X1_ghosts : GoodIn wsX1_ghostsWithout (wsV RX1 85 RX1 yX1_ghosts wsX1_ghosts) := goodIn_app (goodIn_of _ (by decide +kernel)) ggX1_ghostsWithout_X1_ghosts
set_option maxRecDepth 20000 in
theorem ggX1_ghostsIn_X1_seen : GoodIn wsX1_ghostsIn wsX1_seen := goodIn_r _ [8, 9, 2, 10, 11, 12, 13, 14, 15, 16, 17, 18] (by decide +kernel) (by decide +kernel)
set_option maxRecDepth 20000 in
theorem gX1_ghostsIn_X1_seen : GoodIn wsX1_ghostsIn (wsV RX1 60 RX1 yX1_seen wsX1_seen) := goodIn_app (goodIn_of _ (by decide +kernel)) ggX1_ghostsIn_X1_seen
set_option maxRecDepth 20000 in
theorem ggX2_put_X2_join : GoodIn wsX2_put wsX2_join := goodIn_r _ [6, 7, 1, 8, 9, 10, 5, 11, 12, 13] (by decide +kernel) (by decide +kernel)
set_option maxRecDepth 20000 in
theorem gX2_put_X2_join : GoodIn wsX2_put (wsV RX2 18 RX2 yX2_join wsX2_join) := goodIn_app (goodIn_of _ (by decide +kernel)) ggX2_put_X2_join
set_option maxRecDepth 20000 in
theorem ggX2_join_X2_joinThrough : GoodIn wsX2_join wsX2_joinThrough := goodIn_r _ [7, 1, 8, 9] (by decide +kernel) (by decide +kernel)
set_option maxRecDepth 20000 in
theorem gX2_join_X2_joinThrough : GoodIn wsX2_join (wsV RX2 21 RX2 yX2_joinThrough wsX2_joinThrough) := goodIn_app (goodIn_of _ (by decide +kernel)) ggX2_join_X2_joinThrough
set_option maxRecDepth 20000 in
theorem ggX3_limit_X3_free : GoodIn wsX3_limit wsX3_free := goodIn_r _ [7, 2, 8, 9, 10, 11, 12, 13, 14, 15, 16, 17, 18, 19, 20, 21, 22, 23, 24, 25, 26, 27, 28, 29, 30, 31, 32, 33, 34, 35, 36, 37, 38] (by decide +kernel) (by decide +kernel)
set_option maxRecDepth 20000 in
theorem gX3_limit_X3_free : GoodIn wsX3_limit (wsV RX3 49 RX3 yX3_free wsX3_free) := goodIn_app (goodIn_of _ (by decide +kernel)) ggX3_limit_X3_free
set_option maxRecDepth 20000 in
theorem ggX3_sound_X3_withKey : GoodIn wsX3_sound wsX3_withKey := goodIn_r _ [12, 13, 4, 3, 40, 41, 42, 43, 44, 45, 46, 47, 48, 49, 50] (by decide +kernel) (by decide +kernel)
set_option maxRecDepth 20000 in
theorem gX3_sound_X3_withKey : GoodIn wsX3_sound (wsV RX3 53 RX3 yX3_withKey wsX3_withKey) := goodIn_app (goodIn_of _ (by decide +kernel)) ggX3_sound_X3_withKey
set_option maxRecDepth 20000 in
theorem ggX3_sound_X3_firstFree : GoodIn wsX3_sound wsX3_firstFree := goodIn_r _ [17, 13, 4, 40, 41, 42, 43, 44, 45, 46, 47, 48, 49, 50] (by decide +kernel) (by decide +kernel)
set_option maxRecDepth 20000 in
theorem gX3_sound_X3_firstFree : GoodIn wsX3_sound (wsV RX3 57 RX3 yX3_firstFree wsX3_firstFree) := goodIn_app (goodIn_of _ (by decide +kernel)) ggX3_sound_X3_firstFree
set_option maxRecDepth 20000 in
theorem ggX3_sound_X3_victim : GoodIn wsX3_sound wsX3_victim := goodIn_r _ [21, 13, 22, 23, 24, 11, 25, 26, 4, 5, 6, 40, 41, 42, 43, 44, 45, 46, 47, 48, 49, 50] (by decide +kernel) (by decide +kernel)
set_option maxRecDepth 20000 in
theorem gX3_sound_X3_victim : GoodIn wsX3_sound (wsV RX3 61 RX3 yX3_victim wsX3_victim) := goodIn_app (goodIn_of _ (by decide +kernel)) ggX3_sound_X3_victim
set_option maxRecDepth 20000 in
theorem ggX3_sound_X0_write : GoodIn wsX3_sound wsX0_write := goodIn_r _ [31, 32, 33, 34, 35, 36, 37, 38, 39, 51, 52, 53, 54] (by decide +kernel) (by decide +kernel)
set_option maxRecDepth 20000 in
theorem gX3_sound_X0_write : GoodIn wsX3_sound (wsV RX3 64 RX0 yX0_write wsX0_write) := goodIn_app (goodIn_of _ (by decide +kernel)) ggX3_sound_X0_write
set_option maxRecDepth 20000 in
theorem ggX3_release_X3_withKey : GoodIn wsX3_release wsX3_withKey := goodIn_r _ [6, 7, 1, 8, 34, 35, 36, 37, 38, 39, 40, 41, 42, 43, 44] (by decide +kernel) (by decide +kernel)
set_option maxRecDepth 20000 in
theorem gX3_release_X3_withKey : GoodIn wsX3_release (wsV RX3 53 RX3 yX3_withKey wsX3_withKey) := goodIn_app (goodIn_of _ (by decide +kernel)) ggX3_release_X3_withKey
set_option maxRecDepth 20000 in
theorem ggX3_release_X3_isKeptByPedal : GoodIn wsX3_release wsX3_isKeptByPedal := goodIn_r _ [12, 13, 14, 15, 34, 35, 36, 37, 38, 39, 40, 41, 42, 43, 44] (by decide +kernel) (by decide +kernel)
set_option maxRecDepth 20000 in
theorem gX3_release_X3_isKeptByPedal : GoodIn wsX3_release (wsV RX3 70 RX3 yX3_isKeptByPedal wsX3_isKeptByPedal) := goodIn_app (goodIn_of _ (by decide +kernel)) ggX3_release_X3_isKeptByPedal
set_option maxRecDepth 20000 in
theorem ggX3_release_X3_free : GoodIn wsX3_release wsX3_free := goodIn_r _ [19, 1, 15, 20, 8, 21, 22, 23, 24, 25, 26, 27, 28, 29, 30, 31, 32, 33, 34, 35, 36, 37, 38, 39, 40, 41, 42, 43, 44, 45, 46, 47, 48] (by decide +kernel) (by decide +kernel)
set_option maxRecDepth 20000 in
theorem gX3_release_X3_free : GoodIn wsX3_release (wsV RX3 49 RX3 yX3_free wsX3_free) := goodIn_app (goodIn_of _ (by decide +kernel)) ggX3_release_X3_free
set_option maxRecDepth 20000 in
theorem ggX3_moveSustain_X3_freeKept : GoodIn wsX3_moveSustain wsX3_freeKept := goodIn_r _ [6, 7, 8, 9, 10, 11, 5, 12, 1, 13, 14, 15, 16, 17, 18, 19, 20, 21, 22, 23, 24, 25, 26, 27, 28, 29, 30, 31, 32, 33, 34, 35, 36, 37, 38, 39, 40, 41, 42, 43, 44, 45, 46, 47, 48] (by decide +kernel) (by decide +kernel)
set_option maxRecDepth 20000 in
theorem gX3_moveSustain_X3_freeKept : GoodIn wsX3_moveSustain (wsV RX3 74 RX3 yX3_freeKept wsX3_freeKept) := goodIn_app (goodIn_of _ (by decide +kernel)) ggX3_moveSustain_X3_freeKept
set_option maxRecDepth 20000 in
theorem ggX3_moveSostenuto_X3_inState : GoodIn wsX3_moveSostenuto wsX3_inState := goodIn_r _ [9, 2, 4, 38, 39, 40, 41, 42, 43, 44, 45, 46, 47, 48] (by decide +kernel) (by decide +kernel)
set_option maxRecDepth 20000 in
theorem gX3_moveSostenuto_X3_inState : GoodIn wsX3_moveSostenuto (wsV RX3 77 RX3 yX3_inState wsX3_inState) := goodIn_app (goodIn_of _ (by decide +kernel)) ggX3_moveSostenuto_X3_inState
set_option maxRecDepth 20000 in
theorem ggX3_moveSostenuto_X3_freeKept : GoodIn wsX3_moveSostenuto wsX3_freeKept := goodIn_r _ [13, 2, 4, 14, 15, 16, 8, 17, 18, 1, 3, 19, 20, 21, 22, 23, 24, 25, 26, 27, 28, 29, 30, 31, 32, 33, 34, 35, 36, 37, 38, 39, 40, 41, 42, 43, 44, 45, 46, 47, 48, 49, 50, 51, 52] (by decide +kernel) (by decide +kernel)
set_option maxRecDepth 20000 in
theorem gX3_moveSostenuto_X3_freeKept : GoodIn wsX3_moveSostenuto (wsV RX3 74 RX3 yX3_freeKept wsX3_freeKept) := goodIn_app (goodIn_of _ (by decide +kernel)) ggX3_moveSostenuto_X3_freeKept
set_option maxRecDepth 20000 in
theorem ggX3_victim_X3_goesBefore : GoodIn wsX3_victim wsX3_goesBefore := goodIn_r _ [6, 7, 8, 9, 10, 11, 12, 13, 14, 15, 16, 17, 18, 19, 20, 21] (by decide +kernel) (by decide +kernel)
set_option maxRecDepth 20000 in
theorem gX3_victim_X3_goesBefore : GoodIn wsX3_victim (wsV RX3 80 RX3 yX3_goesBefore wsX3_goesBefore) := goodIn_app (goodIn_of _ (by decide +kernel)) ggX3_victim_X3_goesBefore
set_option maxRecDepth 20000 in
theorem ggX3_freeKept_X3_isKeptByPedal : GoodIn wsX3_freeKept wsX3_isKeptByPedal := goodIn_r _ [7, 8, 9, 10, 30, 31, 32, 33, 34, 35, 36, 37, 38, 39, 40] (by decide +kernel) (by decide +kernel)
set_option maxRecDepth 20000 in
theorem gX3_freeKept_X3_isKeptByPedal : GoodIn wsX3_freeKept (wsV RX3 70 RX3 yX3_isKeptByPedal wsX3_isKeptByPedal) := goodIn_app (goodIn_of _ (by decide +kernel)) ggX3_freeKept_X3_isKeptByPedal
set_option maxRecDepth 20000 in
theorem ggX3_freeKept_X3_free : GoodIn wsX3_freeKept wsX3_free := goodIn_r _ [14, 2, 10, 15, 16, 17, 18, 19, 20, 21, 22, 23, 24, 25, 26, 27, 28, 29, 30, 31, 32, 33, 34, 35, 36, 37, 38, 39, 40, 41, 42, 43, 44] (by decide +kernel) (by decide +kernel)
set_option maxRecDepth 20000 in
theorem gX3_freeKept_X3_free : GoodIn wsX3_freeKept (wsV RX3 49 RX3 yX3_free wsX3_free) := goodIn_app (goodIn_of _ (by decide +kernel)) ggX3_freeKept_X3_free
set_option maxRecDepth 20000 in
theorem ggX3_free_X0_write : GoodIn wsX3_free wsX0_write := goodIn_r _ [9, 10, 11, 12, 13, 14, 15, 16, 17, 29, 30, 31, 32] (by decide +kernel) (by decide +kernel)
set_option maxRecDepth 20000 in
theorem gX3_free_X0_write : GoodIn wsX3_free (wsV RX3 64 RX0 yX0_write wsX0_write) := goodIn_app (goodIn_of _ (by decide +kernel)) ggX3_free_X0_write
set_option maxRecDepth 20000 in
theorem ggX4_init_X1_init : GoodIn wsX4_init wsX1_init := goodIn_r _ [26, 27, 2, 3, 16, 28, 29, 30, 31, 32, 33, 34, 35, 36, 37, 38, 39, 40, 41, 65, 66, 67, 68, 69, 70, 97, 98] (by decide +kernel) (by decide +kernel)
set_option maxRecDepth 20000 in
theorem gX4_init_X1_init_n11 : GoodIn wsX4_init (wsX1_init) := ggX4_init_X1_init
set_option maxRecDepth 20000 in
theorem ggX4_init_X0_init : GoodIn wsX4_init wsX0_init := goodIn_r _ [43, 44, 2, 3, 16, 45, 46, 47, 48, 82, 83, 84, 85] (by decide +kernel) (by decide +kernel)
set_option maxRecDepth 20000 in
theorem gX4_init_X0_init_n18 : GoodIn wsX4_init (wsX0_init) := ggX4_init_X0_init
set_option maxRecDepth 20000 in
theorem ggX4_init_X3_init : GoodIn wsX4_init wsX3_init := goodIn_r _ [51, 52, 2, 3, 16, 53, 54, 55, 56, 57, 58, 59, 60, 61, 62, 63, 64, 86, 87, 88, 89, 90, 91, 92, 93, 94, 95, 96] (by decide +kernel) (by decide +kernel)
set_option maxRecDepth 20000 in
theorem gX4_init_X3_init : GoodIn wsX4_init (wsX3_init) := ggX4_init_X3_init
set_option maxRecDepth 20000 in
theorem ggX4_reset_X4_within : GoodIn wsX4_reset wsX4_within := goodIn_r _ [11] (by decide +kernel) (by decide +kernel)
set_option maxRecDepth 20000 in
theorem gX4_reset_X4_within : GoodIn wsX4_reset (va_wsS RX4 59 yX4_within wsX4_within) := goodIn_app (goodIn_of _ (by decide +kernel)) ggX4_reset_X4_within
set_option maxRecDepth 20000 in
theorem ggX4_reset_X1_layOut : GoodIn wsX4_reset wsX1_layOut := goodIn_r _ [16, 17, 18, 19, 20, 21, 15, 22, 23, 24, 25, 26, 27, 28, 29, 30, 31, 32, 64, 65, 66, 67, 68, 69, 70, 71] (by decide +kernel) (by decide +kernel)
set_option maxRecDepth 20000 in
theorem gX4_reset_X1_layOut : GoodIn wsX4_reset (wsV RX4 63 RX1 yX1_layOut wsX1_layOut) := goodIn_app (goodIn_of _ (by decide +kernel)) ggX4_reset_X1_layOut
set_option maxRecDepth 20000 in
theorem ggX4_reset_X0_empty : GoodIn wsX4_reset wsX0_empty := goodIn_r _ [37, 38, 72, 73, 74, 75] (by decide +kernel) (by decide +kernel)
set_option maxRecDepth 20000 in
theorem gX4_reset_X0_empty : GoodIn wsX4_reset (wsV RX4 67 RX0 yX0_empty wsX0_empty) := goodIn_app (goodIn_of _ (by decide +kernel)) ggX4_reset_X0_empty
set_option maxRecDepth 20000 in
theorem ggX4_reset_X3_silence : GoodIn wsX4_reset wsX3_silence := goodIn_r _ [43, 44, 45, 46, 47, 48, 76, 77, 78, 79, 80, 81, 82, 83, 84, 85, 86] (by decide +kernel) (by decide +kernel)
set_option maxRecDepth 20000 in
theorem gX4_reset_X3_silence : GoodIn wsX4_reset (wsV RX4 70 RX3 yX3_silence wsX3_silence) := goodIn_app (goodIn_of _ (by decide +kernel)) ggX4_reset_X3_silence
set_option maxRecDepth 20000 in
theorem ggX4_reset_X1_size : GoodIn wsX4_reset wsX1_size := goodIn_r _ [52, 17, 18, 64, 65, 66, 67, 68, 69] (by decide +kernel) (by decide +kernel)
set_option maxRecDepth 20000 in
theorem gX4_reset_X1_size : GoodIn wsX4_reset (wsV RX4 73 RX1 yX1_size wsX1_size) := goodIn_app (goodIn_of _ (by decide +kernel)) ggX4_reset_X1_size
set_option maxRecDepth 20000 in
theorem ggX4_setDiodes_X1_ghosts : GoodIn wsX4_setDiodes wsX1_ghosts := goodIn_r _ [7, 8, 9, 10, 11, 6, 12, 13, 14, 15, 16, 17, 18, 19, 20, 21, 22, 23, 24, 25, 26, 27, 28, 40, 41, 42, 43, 44, 45, 46, 47] (by decide +kernel) (by decide +kernel)
set_option maxRecDepth 20000 in
theorem gX4_setDiodes_X1_ghosts : GoodIn wsX4_setDiodes (wsV RX4 80 RX1 yX1_ghosts wsX1_ghosts) := goodIn_app (goodIn_of _ (by decide +kernel)) ggX4_setDiodes_X1_ghosts
set_option maxRecDepth 20000 in
theorem ggX4_setBlocking_X4_one : GoodIn wsX4_setBlocking wsX4_one := goodIn_r _ [5] (by decide +kernel) (by decide +kernel)
set_option maxRecDepth 20000 in
theorem gX4_setBlocking_X4_one : GoodIn wsX4_setBlocking (va_wsS RX4 83 yX4_one wsX4_one) := goodIn_app (goodIn_of _ (by decide +kernel)) ggX4_setBlocking_X4_one
set_option maxRecDepth 20000 in
theorem ggX4_setLateRelease_X4_one : GoodIn wsX4_setLateRelease wsX4_one := goodIn_r _ [5] (by decide +kernel) (by decide +kernel)
set_option maxRecDepth 20000 in
theorem gX4_setLateRelease_X4_one : GoodIn wsX4_setLateRelease (va_wsS RX4 83 yX4_one wsX4_one) := goodIn_app (goodIn_of _ (by decide +kernel)) ggX4_setLateRelease_X4_one
set_option maxRecDepth 20000 in
theorem ggX4_setSlope_X4_within : GoodIn wsX4_setSlope wsX4_within := goodIn_r _ [5] (by decide +kernel) (by decide +kernel)
set_option maxRecDepth 20000 in
theorem gX4_setSlope_X4_within : GoodIn wsX4_setSlope (va_wsS RX4 59 yX4_within wsX4_within) := goodIn_app (goodIn_of _ (by decide +kernel)) ggX4_setSlope_X4_within
set_option maxRecDepth 20000 in
theorem ggX4_setVoices_X4_within : GoodIn wsX4_setVoices wsX4_within := goodIn_r _ [8] (by decide +kernel) (by decide +kernel)
set_option maxRecDepth 20000 in
theorem gX4_setVoices_X4_within : GoodIn wsX4_setVoices (va_wsS RX4 59 yX4_within wsX4_within) := goodIn_app (goodIn_of _ (by decide +kernel)) ggX4_setVoices_X4_within
set_option maxRecDepth 20000 in
theorem ggX4_setVoices_X3_limit : GoodIn wsX4_setVoices wsX3_limit := goodIn_r _ [13, 14, 15, 16, 17, 18, 12, 19, 20, 21, 22, 23, 24, 25, 26, 27, 28, 29, 30, 31, 32, 33, 34, 35, 47, 48, 49, 50, 51, 52, 53, 54, 55, 56, 57, 58, 59, 60, 61] (by decide +kernel) (by decide +kernel)
set_option maxRecDepth 20000 in
theorem gX4_setVoices_X3_limit : GoodIn wsX4_setVoices (wsV RX4 90 RX3 yX3_limit wsX3_limit) := goodIn_app (goodIn_of _ (by decide +kernel)) ggX4_setVoices_X3_limit
set_option maxRecDepth 20000 in
theorem ggX4_setKey_X1_has : GoodIn wsX4_setKey wsX1_has := goodIn_r _ [7, 8, 9, 10, 6, 11, 12, 13, 51, 52, 53, 54, 55, 56] (by decide +kernel) (by decide +kernel)
set_option maxRecDepth 20000 in
theorem gX4_setKey_X1_has : GoodIn wsX4_setKey (wsV RX4 96 RX1 yX1_has wsX1_has) := goodIn_app (goodIn_of _ (by decide +kernel)) ggX4_setKey_X1_has
set_option maxRecDepth 20000 in
theorem ggX4_setKey_X4_within : GoodIn wsX4_setKey wsX4_within := goodIn_r _ [17] (by decide +kernel) (by decide +kernel)
set_option maxRecDepth 20000 in
theorem gX4_setKey_X4_within : GoodIn wsX4_setKey (va_wsS RX4 59 yX4_within wsX4_within) := goodIn_app (goodIn_of _ (by decide +kernel)) ggX4_setKey_X4_within
set_option maxRecDepth 20000 in
theorem ggX4_setKey_X1_move : GoodIn wsX4_setKey wsX1_move := goodIn_r _ [21, 22, 23, 13, 24, 25, 26, 27, 28, 29, 30, 31, 32, 33, 34, 35, 36, 37, 38, 39, 51, 52, 53, 54, 55, 56, 57, 58] (by decide +kernel) (by decide +kernel)
set_option maxRecDepth 20000 in
theorem gX4_setKey_X1_move : GoodIn wsX4_setKey (wsV RX4 103 RX1 yX1_move wsX1_move) := goodIn_app (goodIn_of _ (by decide +kernel)) ggX4_setKey_X1_move
set_option maxRecDepth 20000 in
theorem ggX4_liftAll_X1_pressed : GoodIn wsX4_liftAll wsX1_pressed := goodIn_r _ [6, 7, 8, 9, 10, 5, 11, 12, 13, 14, 15, 16, 41, 42, 43, 44, 45, 46] (by decide +kernel) (by decide +kernel)
set_option maxRecDepth 20000 in
theorem gX4_liftAll_X1_pressed : GoodIn wsX4_liftAll (wsV RX4 106 RX1 yX1_pressed wsX1_pressed) := goodIn_app (goodIn_of _ (by decide +kernel)) ggX4_liftAll_X1_pressed
set_option maxRecDepth 20000 in
theorem ggX4_liftAll_X1_lift : GoodIn wsX4_liftAll wsX1_lift := goodIn_r _ [20, 7, 21, 22, 23, 24, 25, 26, 27, 28, 29, 41, 42, 43, 44, 45, 46, 47, 48] (by decide +kernel) (by decide +kernel)
set_option maxRecDepth 20000 in
theorem gX4_liftAll_X1_lift : GoodIn wsX4_liftAll (wsV RX4 109 RX1 yX1_lift wsX1_lift) := goodIn_app (goodIn_of _ (by decide +kernel)) ggX4_liftAll_X1_lift
set_option maxRecDepth 20000 in
theorem ggX4_sustain_X3_moveSustain : GoodIn wsX4_sustain wsX3_moveSustain := goodIn_r _ [7, 8, 9, 10, 11, 6, 12, 13, 14, 15, 16, 17, 18, 19, 20, 21, 22, 23, 24, 25, 26, 27, 28, 29, 30, 31, 32, 33, 34, 35, 36, 37, 38, 39, 51, 52, 53, 54, 55, 56, 57, 58, 59, 60, 61, 62, 63, 64, 65] (by decide +kernel) (by decide +kernel)
set_option maxRecDepth 20000 in
theorem gX4_sustain_X3_moveSustain : GoodIn wsX4_sustain (wsV RX4 112 RX3 yX3_moveSustain wsX3_moveSustain) := goodIn_app (goodIn_of _ (by decide +kernel)) ggX4_sustain_X3_moveSustain
set_option maxRecDepth 20000 in
theorem ggX4_sostenuto_X3_moveSostenuto : GoodIn wsX4_sostenuto wsX3_moveSostenuto := goodIn_r _ [7, 8, 9, 10, 11, 12, 13, 14, 6, 15, 16, 17, 18, 19, 20, 21, 22, 23, 24, 25, 26, 27, 28, 29, 30, 31, 32, 33, 34, 35, 36, 37, 38, 39, 40, 41, 42, 43, 55, 56, 57, 58, 59, 60, 61, 62, 63, 64, 65, 66, 67, 68, 69] (by decide +kernel) (by decide +kernel)
set_option maxRecDepth 20000 in
theorem gX4_sostenuto_X3_moveSostenuto : GoodIn wsX4_sostenuto (wsV RX4 116 RX3 yX3_moveSostenuto wsX3_moveSostenuto) := goodIn_app (goodIn_of _ (by decide +kernel)) ggX4_sostenuto_X3_moveSostenuto
set_option maxRecDepth 20000 in
theorem ggX4_tick_X4_within : GoodIn wsX4_tick wsX4_within := goodIn_r _ [11] (by decide +kernel) (by decide +kernel)
set_option maxRecDepth 20000 in
theorem gX4_tick_X4_within : GoodIn wsX4_tick (va_wsS RX4 59 yX4_within wsX4_within) := goodIn_app (goodIn_of _ (by decide +kernel)) ggX4_tick_X4_within
set_option maxRecDepth 20000 in
theorem ggX4_tick_J9_floorMod_7cf53 : GoodIn wsX4_tick wsJ9_floorMod_7cf53 := goodIn_r _ [15] (by decide +kernel) (by decide +kernel)
set_option maxRecDepth 20000 in
theorem gX4_tick_J9_floorMod_7cf53 : GoodIn wsX4_tick (va_wsS RX4 128 yJ9_floorMod_7cf53 wsJ9_floorMod_7cf53) := goodIn_app (goodIn_of _ (by decide +kernel)) ggX4_tick_J9_floorMod_7cf53
set_option maxRecDepth 20000 in
theorem ggX4_tick_X4_scanRow : GoodIn wsX4_tick wsX4_scanRow := goodIn_r _ [19, 1, 20, 21, 22, 23, 10, 24, 25, 26, 27, 7, 28, 29, 30, 31, 32, 33, 34, 35, 36, 37, 38, 39, 40, 41, 42, 43, 44, 45, 46, 47, 48, 49, 50, 51, 52, 53, 54, 55, 56, 57, 58, 59, 60, 61, 62, 2, 63, 64, 65, 66, 67, 68, 69, 70, 71, 72, 73, 74, 75, 76, 77, 13, 14, 15, 78, 79, 80, 81, 82, 3, 4, 5, 6, 83, 84, 85, 86, 87, 88, 89, 90, 91, 92, 93, 94, 95, 96, 97, 98, 99, 100, 101, 102, 103, 104, 105, 106, 107, 108, 109, 110, 111, 112, 113, 114, 115, 116, 117, 118, 119, 120, 121, 122, 123, 124, 125, 126, 127, 128, 129, 130, 131, 132, 133, 134, 135, 136, 137, 138, 139, 140, 141, 142, 143, 144, 145, 146, 147, 148, 149, 150, 151, 152, 153, 154, 155, 156, 157, 158, 159, 160, 161, 162, 163, 164] (by decide +kernel) (by decide +kernel)
set_option maxRecDepth 20000 in
theorem gX4_tick_X4_scanRow : GoodIn wsX4_tick (wsV RX4 131 RX4 yX4_scanRow wsX4_scanRow) := goodIn_app (goodIn_of _ (by decide +kernel)) ggX4_tick_X4_scanRow
set_option maxRecDepth 20000 in
theorem ggX4_key_X1_has : GoodIn wsX4_key wsX1_has := goodIn_r _ [10, 11, 12, 13, 9, 14, 15, 16, 72, 73, 74, 75, 76, 77] (by decide +kernel) (by decide +kernel)
set_option maxRecDepth 20000 in
theorem gX4_key_X1_has : GoodIn wsX4_key (wsV RX4 96 RX1 yX1_has wsX1_has) := goodIn_app (goodIn_of _ (by decide +kernel)) ggX4_key_X1_has
set_option maxRecDepth 20000 in
theorem ggX4_key_X3_withKey : GoodIn wsX4_key wsX3_withKey := goodIn_r _ [21, 22, 23, 24, 78, 79, 80, 81, 82, 83, 84, 85, 86, 87, 88] (by decide +kernel) (by decide +kernel)
set_option maxRecDepth 20000 in
theorem gX4_key_X3_withKey : GoodIn wsX4_key (wsV RX4 135 RX3 yX3_withKey wsX3_withKey) := goodIn_app (goodIn_of _ (by decide +kernel)) ggX4_key_X3_withKey
set_option maxRecDepth 20000 in
theorem ggX4_key_X1_firstSeen : GoodIn wsX4_key wsX1_firstSeen := goodIn_r _ [28, 29, 16, 30, 31, 32, 9, 33, 34, 35, 36, 37, 38, 39, 72, 73, 74, 75, 76, 77, 89, 90] (by decide +kernel) (by decide +kernel)
set_option maxRecDepth 20000 in
theorem gX4_key_X1_firstSeen : GoodIn wsX4_key (wsV RX4 139 RX1 yX1_firstSeen wsX1_firstSeen) := goodIn_app (goodIn_of _ (by decide +kernel)) ggX4_key_X1_firstSeen
set_option maxRecDepth 20000 in
theorem ggX4_key_X4_one : GoodIn wsX4_key wsX4_one := goodIn_r _ [43] (by decide +kernel) (by decide +kernel)
set_option maxRecDepth 20000 in
theorem gX4_key_X4_one : GoodIn wsX4_key (va_wsS RX4 83 yX4_one wsX4_one) := goodIn_app (goodIn_of _ (by decide +kernel)) ggX4_key_X4_one
set_option maxRecDepth 20000 in
theorem ggX4_key_X1_secondSeen : GoodIn wsX4_key wsX1_secondSeen := goodIn_r _ [47, 48, 16, 30, 31, 32, 9, 33, 34, 35, 36, 37, 38, 39, 72, 73, 74, 75, 76, 77, 89, 90] (by decide +kernel) (by decide +kernel)
set_option maxRecDepth 20000 in
theorem gX4_key_X1_secondSeen : GoodIn wsX4_key (wsV RX4 142 RX1 yX1_secondSeen wsX1_secondSeen) := goodIn_app (goodIn_of _ (by decide +kernel)) ggX4_key_X1_secondSeen
set_option maxRecDepth 20000 in
theorem ggX4_key_X1_isGhost : GoodIn wsX4_key wsX1_isGhost := goodIn_r _ [52, 16, 53, 54, 55, 9, 56, 29, 35, 48, 30, 31, 32, 33, 34, 36, 37, 38, 39, 72, 73, 74, 75, 76, 77, 89, 90] (by decide +kernel) (by decide +kernel)
set_option maxRecDepth 20000 in
theorem gX4_key_X1_isGhost : GoodIn wsX4_key (wsV RX4 145 RX1 yX1_isGhost wsX1_isGhost) := goodIn_app (goodIn_of _ (by decide +kernel)) ggX4_key_X1_isGhost
set_option maxRecDepth 20000 in
theorem ggX4_key_X1_isDoubtful : GoodIn wsX4_key wsX1_isDoubtful := goodIn_r _ [60, 16, 15, 29, 30, 31, 32, 9, 33, 34, 35, 36, 72, 73, 74, 75, 76, 77, 89, 90] (by decide +kernel) (by decide +kernel)
set_option maxRecDepth 20000 in
theorem gX4_key_X1_isDoubtful : GoodIn wsX4_key (wsV RX4 148 RX1 yX1_isDoubtful wsX1_isDoubtful) := goodIn_app (goodIn_of _ (by decide +kernel)) ggX4_key_X1_isDoubtful
set_option maxRecDepth 20000 in
theorem ggX4_voice_X4_one : GoodIn wsX4_voice wsX4_one := goodIn_r _ [11] (by decide +kernel) (by decide +kernel)
set_option maxRecDepth 20000 in
theorem gX4_voice_X4_one : GoodIn wsX4_voice (va_wsS RX4 83 yX4_one wsX4_one) := goodIn_app (goodIn_of _ (by decide +kernel)) ggX4_voice_X4_one
set_option maxRecDepth 20000 in
theorem ggX4_count_X1_size : GoodIn wsX4_count wsX1_size := goodIn_r _ [14, 15, 16, 91, 92, 93, 94, 95, 96] (by decide +kernel) (by decide +kernel)
set_option maxRecDepth 20000 in
theorem gX4_count_X1_size : GoodIn wsX4_count (wsV RX4 73 RX1 yX1_size wsX1_size) := goodIn_app (goodIn_of _ (by decide +kernel)) ggX4_count_X1_size
set_option maxRecDepth 20000 in
theorem ggX4_count_X1_pressed : GoodIn wsX4_count wsX1_pressed := goodIn_r _ [20, 21, 22, 11, 12, 13, 14, 15, 16, 23, 24, 25, 91, 92, 93, 94, 95, 96] (by decide +kernel) (by decide +kernel)
set_option maxRecDepth 20000 in
theorem gX4_count_X1_pressed : GoodIn wsX4_count (wsV RX4 106 RX1 yX1_pressed wsX1_pressed) := goodIn_app (goodIn_of _ (by decide +kernel)) ggX4_count_X1_pressed
set_option maxRecDepth 20000 in
theorem ggX4_count_X1_ghosts : GoodIn wsX4_count wsX1_ghosts := goodIn_r _ [29, 15, 30, 31, 32, 13, 33, 34, 35, 36, 37, 38, 39, 40, 41, 42, 43, 44, 45, 46, 47, 48, 49, 91, 92, 93, 94, 95, 96, 97, 98] (by decide +kernel) (by decide +kernel)
set_option maxRecDepth 20000 in
theorem gX4_count_X1_ghosts : GoodIn wsX4_count (wsV RX4 80 RX1 yX1_ghosts wsX1_ghosts) := goodIn_app (goodIn_of _ (by decide +kernel)) ggX4_count_X1_ghosts
set_option maxRecDepth 20000 in
theorem ggX4_count_X1_doubtful : GoodIn wsX4_count wsX1_doubtful := goodIn_r _ [53, 22, 11, 12, 13, 14, 15, 16, 54, 55, 56, 57, 34, 37, 38, 39, 40, 41, 35, 42, 23, 24, 25, 91, 92, 93, 94, 95, 96, 97, 98] (by decide +kernel) (by decide +kernel)
set_option maxRecDepth 20000 in
theorem gX4_count_X1_doubtful : GoodIn wsX4_count (wsV RX4 167 RX1 yX1_doubtful wsX1_doubtful) := goodIn_app (goodIn_of _ (by decide +kernel)) ggX4_count_X1_doubtful
set_option maxRecDepth 20000 in
theorem ggX4_count_X3_inState : GoodIn wsX4_count wsX3_inState := goodIn_r _ [62, 63, 64, 76, 77, 78, 79, 80, 81, 82, 83, 84, 85, 86] (by decide +kernel) (by decide +kernel)
set_option maxRecDepth 20000 in
theorem gX4_count_X3_inState : GoodIn wsX4_count (wsV RX4 170 RX3 yX3_inState wsX3_inState) := goodIn_app (goodIn_of _ (by decide +kernel)) ggX4_count_X3_inState
set_option maxRecDepth 20000 in
theorem ggX4_log_X4_within : GoodIn wsX4_log wsX4_within := goodIn_r _ [8] (by decide +kernel) (by decide +kernel)
set_option maxRecDepth 20000 in
theorem gX4_log_X4_within : GoodIn wsX4_log (va_wsS RX4 59 yX4_within wsX4_within) := goodIn_app (goodIn_of _ (by decide +kernel)) ggX4_log_X4_within
set_option maxRecDepth 20000 in
theorem ggX4_log_X0_size : GoodIn wsX4_log wsX0_size := goodIn_r _ [13, 14, 15, 16, 17, 18, 38, 39, 40, 41] (by decide +kernel) (by decide +kernel)
set_option maxRecDepth 20000 in
theorem gX4_log_X0_size : GoodIn wsX4_log (wsV RX4 179 RX0 yX0_size wsX0_size) := goodIn_app (goodIn_of _ (by decide +kernel)) ggX4_log_X0_size
set_option maxRecDepth 20000 in
theorem ggX4_log_X0_place : GoodIn wsX4_log wsX0_place := goodIn_r _ [22, 14, 23, 24, 25, 26, 38, 39, 40, 41] (by decide +kernel) (by decide +kernel)
set_option maxRecDepth 20000 in
theorem gX4_log_X0_place : GoodIn wsX4_log (wsV RX4 180 RX0 yX0_place wsX0_place) := goodIn_app (goodIn_of _ (by decide +kernel)) ggX4_log_X0_place
set_option maxRecDepth 20000 in
theorem ggX4_velocity_X4_within : GoodIn wsX4_velocity wsX4_within := goodIn_r _ [4] (by decide +kernel) (by decide +kernel)
set_option maxRecDepth 20000 in
theorem gX4_velocity_X4_within : GoodIn wsX4_velocity (va_wsS RX4 59 yX4_within wsX4_within) := goodIn_app (goodIn_of _ (by decide +kernel)) ggX4_velocity_X4_within
set_option maxRecDepth 20000 in
theorem ggX4_velocity_X4_velocityAfter : GoodIn wsX4_velocity wsX4_velocityAfter := goodIn_r _ [8, 9, 10, 11, 12, 13, 14, 15, 16, 17, 18, 19, 20, 21, 22, 23, 24, 25, 26, 27] (by decide +kernel) (by decide +kernel)
set_option maxRecDepth 20000 in
theorem gX4_velocity_X4_velocityAfter : GoodIn wsX4_velocity (wsV RX4 190 RX4 yX4_velocityAfter wsX4_velocityAfter) := goodIn_app (goodIn_of _ (by decide +kernel)) ggX4_velocity_X4_velocityAfter
set_option maxRecDepth 20000 in
theorem ggX4_nextTaken_X3_firstFree : GoodIn wsX4_nextTaken wsX3_firstFree := goodIn_r _ [6, 7, 8, 31, 32, 33, 34, 35, 36, 37, 38, 39, 40, 41] (by decide +kernel) (by decide +kernel)
set_option maxRecDepth 20000 in
theorem gX4_nextTaken_X3_firstFree : GoodIn wsX4_nextTaken (wsV RX4 193 RX3 yX3_firstFree wsX3_firstFree) := goodIn_app (goodIn_of _ (by decide +kernel)) ggX4_nextTaken_X3_firstFree
set_option maxRecDepth 20000 in
theorem ggX4_nextTaken_X3_victim : GoodIn wsX4_nextTaken wsX3_victim := goodIn_r _ [12, 7, 13, 14, 15, 5, 16, 17, 8, 18, 19, 31, 32, 33, 34, 35, 36, 37, 38, 39, 40, 41] (by decide +kernel) (by decide +kernel)
set_option maxRecDepth 20000 in
theorem gX4_nextTaken_X3_victim : GoodIn wsX4_nextTaken (wsV RX4 196 RX3 yX3_victim wsX3_victim) := goodIn_app (goodIn_of _ (by decide +kernel)) ggX4_nextTaken_X3_victim
set_option maxRecDepth 20000 in
theorem ggX4_connected_X2_rowsJoinedWith : GoodIn wsX4_connected wsX2_rowsJoinedWith := goodIn_r _ [9, 10, 28, 29] (by decide +kernel) (by decide +kernel)
set_option maxRecDepth 20000 in
theorem gX4_connected_X2_rowsJoinedWith : GoodIn wsX4_connected (wsV RX4 203 RX2 yX2_rowsJoinedWith wsX2_rowsJoinedWith) := goodIn_app (goodIn_of _ (by decide +kernel)) ggX4_connected_X2_rowsJoinedWith
set_option maxRecDepth 20000 in
theorem ggX4_worstKey_X1_ghosts : GoodIn wsX4_worstKey wsX1_ghosts := goodIn_r _ [7, 8, 9, 10, 11, 6, 12, 13, 14, 15, 16, 17, 18, 19, 20, 21, 22, 23, 24, 25, 26, 27, 28, 70, 71, 72, 73, 74, 75, 76, 77] (by decide +kernel) (by decide +kernel)
set_option maxRecDepth 20000 in
theorem gX4_worstKey_X1_ghosts : GoodIn wsX4_worstKey (wsV RX4 80 RX1 yX1_ghosts wsX1_ghosts) := goodIn_app (goodIn_of _ (by decide +kernel)) ggX4_worstKey_X1_ghosts
set_option maxRecDepth 20000 in
theorem ggX4_worstKey_X1_size : GoodIn wsX4_worstKey wsX1_size := goodIn_r _ [32, 8, 33, 70, 71, 72, 73, 74, 75] (by decide +kernel) (by decide +kernel)
set_option maxRecDepth 20000 in
theorem gX4_worstKey_X1_size : GoodIn wsX4_worstKey (wsV RX4 73 RX1 yX1_size wsX1_size) := goodIn_app (goodIn_of _ (by decide +kernel)) ggX4_worstKey_X1_size
set_option maxRecDepth 20000 in
theorem ggX4_worstKey_X1_ghostsWithout : GoodIn wsX4_worstKey wsX1_ghostsWithout := goodIn_r _ [37, 38, 39, 40, 41, 6, 42, 13, 33, 15, 43, 44, 45, 46, 47, 48, 49, 50, 51, 52, 53, 54, 55, 56, 57, 58, 4, 5, 7, 8, 9, 10, 11, 12, 14, 16, 17, 18, 19, 20, 21, 22, 23, 24, 25, 26, 27, 28, 70, 71, 72, 73, 74, 75, 76, 77] (by decide +kernel) (by decide +kernel)
set_option maxRecDepth 20000 in
theorem gX4_worstKey_X1_ghostsWithout : GoodIn wsX4_worstKey (wsV RX4 211 RX1 yX1_ghostsWithout wsX1_ghostsWithout) := goodIn_app (goodIn_of _ (by decide +kernel)) ggX4_worstKey_X1_ghostsWithout
set_option maxRecDepth 20000 in
theorem ggX4_restAfter_X4_within : GoodIn wsX4_restAfter wsX4_within := goodIn_r _ [10] (by decide +kernel) (by decide +kernel)
set_option maxRecDepth 20000 in
theorem gX4_restAfter_X4_within : GoodIn wsX4_restAfter (va_wsS RX4 59 yX4_within wsX4_within) := goodIn_app (goodIn_of _ (by decide +kernel)) ggX4_restAfter_X4_within
set_option maxRecDepth 20000 in
theorem ggX4_restAfter_X4_allRestBehind : GoodIn wsX4_restAfter wsX4_allRestBehind := goodIn_r _ [14, 1, 2, 15, 16, 17, 18, 19, 20, 21, 22, 23, 24, 25, 26, 27, 28, 29, 30, 31, 9, 32, 33, 34, 35, 36, 37, 38, 39, 40, 41, 42, 43, 44, 45, 46, 47, 48, 49, 50, 51, 52, 53] (by decide +kernel) (by decide +kernel)
set_option maxRecDepth 20000 in
theorem gX4_restAfter_X4_allRestBehind : GoodIn wsX4_restAfter (wsV RX4 214 RX4 yX4_allRestBehind wsX4_allRestBehind) := goodIn_app (goodIn_of _ (by decide +kernel)) ggX4_restAfter_X4_allRestBehind
set_option maxRecDepth 20000 in
theorem ggX4_scanRow_X4_scanKey : GoodIn wsX4_scanRow wsX4_scanKey := goodIn_r _ [7, 1, 8, 9, 10, 11, 12, 13, 14, 15, 16, 17, 18, 19, 20, 21, 22, 23, 24, 25, 26, 27, 28, 29, 30, 31, 32, 33, 34, 35, 36, 6, 37, 38, 39, 40, 41, 42, 43, 44, 45, 46, 47, 48, 49, 50, 51, 52, 53, 54, 55, 56, 57, 58, 59, 60, 61, 62, 63, 64, 65, 66, 67, 68, 69, 70, 71, 72, 73, 74, 75, 76, 77, 78, 79, 80, 81, 82, 83, 84, 85, 86, 87, 88, 89, 90, 91, 92, 93, 94, 95, 96, 97, 98, 99, 100, 101, 102, 103, 104, 105, 106, 107, 108, 109, 110, 111, 112, 113, 114, 115, 116, 117, 118, 119, 120, 121, 122, 123, 124, 125, 126, 127, 128, 129, 130, 131, 132, 133, 134, 135, 136, 137, 138, 139, 140, 141, 142, 143, 144, 145, 146, 147, 148, 149, 150, 151, 152, 153, 154, 155, 156] (by decide +kernel) (by decide +kernel)
set_option maxRecDepth 20000 in
theorem gX4_scanRow_X4_scanKey : GoodIn wsX4_scanRow (wsV RX4 220 RX4 yX4_scanKey wsX4_scanKey) := goodIn_app (goodIn_of _ (by decide +kernel)) ggX4_scanRow_X4_scanKey
set_option maxRecDepth 20000 in
theorem ggX4_scanKey_X1_firstSeen : GoodIn wsX4_scanKey wsX1_firstSeen := goodIn_r _ [10, 11, 12, 13, 14, 15, 9, 16, 17, 18, 19, 20, 21, 22, 129, 130, 131, 132, 133, 134, 135, 136] (by decide +kernel) (by decide +kernel)
set_option maxRecDepth 20000 in
theorem gX4_scanKey_X1_firstSeen : GoodIn wsX4_scanKey (wsV RX4 139 RX1 yX1_firstSeen wsX1_firstSeen) := goodIn_app (goodIn_of _ (by decide +kernel)) ggX4_scanKey_X1_firstSeen
set_option maxRecDepth 20000 in
theorem ggX4_scanKey_X1_secondSeen : GoodIn wsX4_scanKey wsX1_secondSeen := goodIn_r _ [26, 27, 12, 13, 14, 15, 9, 16, 17, 18, 19, 20, 21, 22, 129, 130, 131, 132, 133, 134, 135, 136] (by decide +kernel) (by decide +kernel)
set_option maxRecDepth 20000 in
theorem gX4_scanKey_X1_secondSeen : GoodIn wsX4_scanKey (wsV RX4 142 RX1 yX1_secondSeen wsX1_secondSeen) := goodIn_app (goodIn_of _ (by decide +kernel)) ggX4_scanKey_X1_secondSeen
set_option maxRecDepth 20000 in
theorem ggX4_scanKey_X4_enter : GoodIn wsX4_scanKey wsX4_enter := goodIn_r _ [32, 2, 33, 5, 118, 119, 120, 121, 122, 123, 124, 125, 126, 127, 128] (by decide +kernel) (by decide +kernel)
set_option maxRecDepth 20000 in
theorem gX4_scanKey_X4_enter : GoodIn wsX4_scanKey (wsV RX4 223 RX4 yX4_enter wsX4_enter) := goodIn_app (goodIn_of _ (by decide +kernel)) ggX4_scanKey_X4_enter
set_option maxRecDepth 20000 in
theorem ggX4_scanKey_X4_strike : GoodIn wsX4_scanKey wsX4_strike := goodIn_r _ [37, 2, 38, 1, 39, 40, 5, 41, 4, 33, 42, 43, 44, 45, 9, 46, 12, 47, 11, 13, 14, 15, 16, 17, 18, 19, 48, 49, 50, 51, 52, 53, 54, 55, 56, 57, 58, 59, 60, 61, 62, 63, 31, 64, 65, 66, 67, 68, 69, 70, 71, 72, 73, 74, 75, 76, 77, 78, 79, 80, 81, 82, 83, 84, 85, 86, 87, 88, 89, 90, 91, 92, 93, 94, 95, 96, 97, 98, 99, 100, 101, 102, 103, 118, 119, 120, 121, 122, 123, 124, 125, 126, 127, 128, 129, 130, 131, 132, 133, 134, 135, 136, 137, 138, 139, 140, 141, 142, 143, 144, 145, 146, 147, 148, 149, 150, 151] (by decide +kernel) (by decide +kernel)
set_option maxRecDepth 20000 in
theorem gX4_scanKey_X4_strike : GoodIn wsX4_scanKey (wsV RX4 226 RX4 yX4_strike wsX4_strike) := goodIn_app (goodIn_of _ (by decide +kernel)) ggX4_scanKey_X4_strike
set_option maxRecDepth 20000 in
theorem ggX4_scanKey_X3_release : GoodIn wsX4_scanKey wsX3_release := goodIn_r _ [107, 81, 85, 86, 87, 76, 88, 89, 80, 108, 109, 110, 111, 112, 113, 84, 114, 115, 116, 117, 79, 103, 49, 50, 51, 52, 53, 54, 55, 56, 57, 58, 59, 60, 141, 142, 143, 144, 145, 146, 147, 148, 149, 150, 151, 137, 138, 139, 140] (by decide +kernel) (by decide +kernel)
set_option maxRecDepth 20000 in
theorem gX4_scanKey_X3_release : GoodIn wsX4_scanKey (wsV RX4 229 RX3 yX3_release wsX3_release) := goodIn_app (goodIn_of _ (by decide +kernel)) ggX4_scanKey_X3_release
set_option maxRecDepth 20000 in
theorem ggX4_strike_X1_isDoubtful : GoodIn wsX4_strike wsX1_isDoubtful := goodIn_r _ [15, 16, 17, 18, 19, 20, 21, 14, 22, 23, 24, 25, 94, 95, 96, 97, 98, 99, 100, 101] (by decide +kernel) (by decide +kernel)
set_option maxRecDepth 20000 in
theorem gX4_strike_X1_isDoubtful : GoodIn wsX4_strike (wsV RX4 148 RX1 yX1_isDoubtful wsX1_isDoubtful) := goodIn_app (goodIn_of _ (by decide +kernel)) ggX4_strike_X1_isDoubtful
set_option maxRecDepth 20000 in
theorem ggX4_strike_X0_write : GoodIn wsX4_strike wsX0_write := goodIn_r _ [30, 31, 32, 33, 34, 35, 36, 37, 38, 102, 103, 104, 105] (by decide +kernel) (by decide +kernel)
set_option maxRecDepth 20000 in
theorem gX4_strike_X0_write : GoodIn wsX4_strike (wsV RX4 232 RX0 yX0_write wsX0_write) := goodIn_app (goodIn_of _ (by decide +kernel)) ggX4_strike_X0_write
set_option maxRecDepth 20000 in
theorem ggX4_strike_X4_velocityAfter : GoodIn wsX4_strike wsX4_velocityAfter := goodIn_r _ [43, 44, 45, 46, 47, 48, 49, 50, 51, 83, 84, 85, 86, 87, 88, 89, 90, 91, 92, 93] (by decide +kernel) (by decide +kernel)
set_option maxRecDepth 20000 in
theorem gX4_strike_X4_velocityAfter : GoodIn wsX4_strike (wsV RX4 190 RX4 yX4_velocityAfter wsX4_velocityAfter) := goodIn_app (goodIn_of _ (by decide +kernel)) ggX4_strike_X4_velocityAfter
set_option maxRecDepth 20000 in
theorem ggX4_strike_X3_sound : GoodIn wsX4_strike wsX3_sound := goodIn_r _ [56, 57, 58, 59, 60, 61, 62, 63, 64, 65, 66, 55, 67, 68, 69, 70, 71, 72, 73, 74, 75, 76, 77, 78, 79, 80, 81, 82, 27, 28, 29, 30, 31, 32, 33, 34, 35, 36, 37, 38, 106, 107, 108, 109, 110, 111, 112, 113, 114, 115, 116, 102, 103, 104, 105] (by decide +kernel) (by decide +kernel)
set_option maxRecDepth 20000 in
theorem gX4_strike_X3_sound : GoodIn wsX4_strike (wsV RX4 236 RX3 yX3_sound wsX3_sound) := goodIn_app (goodIn_of _ (by decide +kernel)) ggX4_strike_X3_sound
set_option maxRecDepth 20000 in
theorem ggX4_allRestBehind_J9_floorMod_7cf53 : GoodIn wsX4_allRestBehind wsJ9_floorMod_7cf53 := goodIn_r _ [8] (by decide +kernel) (by decide +kernel)
set_option maxRecDepth 20000 in
theorem gX4_allRestBehind_J9_floorMod_7cf53 : GoodIn wsX4_allRestBehind (va_wsS RX4 128 yJ9_floorMod_7cf53 wsJ9_floorMod_7cf53) := goodIn_app (goodIn_of _ (by decide +kernel)) ggX4_allRestBehind_J9_floorMod_7cf53
set_option maxRecDepth 20000 in
theorem ggX4_allRestBehind_X1_seen : GoodIn wsX4_allRestBehind wsX1_seen := goodIn_r _ [13, 14, 15, 16, 35, 36, 37, 38, 39, 40, 41, 42] (by decide +kernel) (by decide +kernel)
set_option maxRecDepth 20000 in
theorem gX4_allRestBehind_X1_seen : GoodIn wsX4_allRestBehind (wsV RX4 242 RX1 yX1_seen wsX1_seen) := goodIn_app (goodIn_of _ (by decide +kernel)) ggX4_allRestBehind_X1_seen
set_option maxRecDepth 20000 in
theorem ggX4_allRestBehind_X4_rowRests : GoodIn wsX4_allRestBehind wsX4_rowRests := goodIn_r _ [21, 1, 22, 23, 24, 25, 26, 27, 28, 29, 30, 31, 32, 33, 34, 35, 36, 37, 38, 39, 40] (by decide +kernel) (by decide +kernel)
set_option maxRecDepth 20000 in
theorem gX4_allRestBehind_X4_rowRests : GoodIn wsX4_allRestBehind (wsV RX4 246 RX4 yX4_rowRests wsX4_rowRests) := goodIn_app (goodIn_of _ (by decide +kernel)) ggX4_allRestBehind_X4_rowRests
set_option maxRecDepth 20000 in
theorem ggX5_init_X5_begin : GoodIn wsX5_init wsX5_begin := goodIn_r _ [25, 26, 27, 28, 29, 30, 7, 8, 9, 13, 17, 31, 32, 33, 34, 35, 36, 37, 24, 38, 39, 12, 40, 11, 41, 42, 43, 44, 45, 46, 47, 48, 49, 50, 51, 52, 53, 54, 55, 56, 57, 58, 59, 60, 61, 62, 63, 64, 65, 66, 67, 68, 69, 70, 71, 72, 73, 74, 75, 76, 77, 78, 79] (by decide +kernel) (by decide +kernel)
set_option maxRecDepth 20000 in
theorem gX5_init_X5_begin : GoodIn wsX5_init (wsV RX5 57 RX5 yX5_begin wsX5_begin) := goodIn_app (goodIn_of _ (by decide +kernel)) ggX5_init_X5_begin
set_option maxRecDepth 20000 in
theorem ggX5_begin_X5_appear : GoodIn wsX5_begin wsX5_appear := goodIn_r _ [19, 1, 20, 2, 21, 22, 6, 23, 24, 25, 26, 18, 27, 28, 29, 30, 31, 32, 33, 34, 35, 36, 37, 38, 39, 40, 41, 42, 43, 44, 45, 46, 47, 48, 49, 50, 51, 52, 53, 54, 55, 56, 57, 58, 59, 60, 61, 62] (by decide +kernel) (by decide +kernel)
set_option maxRecDepth 20000 in
theorem gX5_begin_X5_appear : GoodIn wsX5_begin (wsV RX5 89 RX5 yX5_appear wsX5_appear) := goodIn_app (goodIn_of _ (by decide +kernel)) ggX5_begin_X5_appear
set_option maxRecDepth 20000 in
theorem ggX5_reset_X5_in : GoodIn wsX5_reset wsX5_in := goodIn_r _ [4] (by decide +kernel) (by decide +kernel)
set_option maxRecDepth 20000 in
theorem gX5_reset_X5_in : GoodIn wsX5_reset (va_wsS RX5 92 yX5_in wsX5_in) := goodIn_app (goodIn_of _ (by decide +kernel)) ggX5_reset_X5_in
set_option maxRecDepth 20000 in
theorem ggX5_reset_X5_begin : GoodIn wsX5_reset wsX5_begin := goodIn_r _ [8, 9, 10, 11, 12, 13, 14, 15, 16, 17, 18, 19, 20, 21, 22, 23, 24, 25, 3, 26, 27, 28, 29, 30, 31, 32, 33, 34, 35, 36, 37, 38, 39, 40, 41, 42, 43, 44, 45, 46, 47, 48, 49, 50, 51, 52, 53, 54, 55, 56, 57, 58, 59, 60, 61, 62, 63, 64, 65, 66, 67, 68, 69] (by decide +kernel) (by decide +kernel)
set_option maxRecDepth 20000 in
theorem gX5_reset_X5_begin : GoodIn wsX5_reset (wsV RX5 57 RX5 yX5_begin wsX5_begin) := goodIn_app (goodIn_of _ (by decide +kernel)) ggX5_reset_X5_begin
set_option maxRecDepth 20000 in
theorem ggX5_reset_X5_keys : GoodIn wsX5_reset wsX5_keys := goodIn_r _ [39, 9, 10, 40, 41, 42, 43, 44, 45, 46, 47, 48, 49, 50, 51, 52, 53, 54, 55, 56, 57, 58, 59, 60, 61, 62, 63, 64, 65, 66, 67, 68, 69] (by decide +kernel) (by decide +kernel)
set_option maxRecDepth 20000 in
theorem gX5_reset_X5_keys : GoodIn wsX5_reset (wsV RX5 96 RX5 yX5_keys wsX5_keys) := goodIn_app (goodIn_of _ (by decide +kernel)) ggX5_reset_X5_keys
set_option maxRecDepth 20000 in
theorem ggX5_connect_X5_keys : GoodIn wsX5_connect wsX5_keys := goodIn_r _ [9, 10, 3, 11, 12, 13, 14, 15, 16, 17, 18, 19, 20, 21, 22, 23, 24, 25, 26, 27, 28, 29, 30, 31, 32, 33, 34, 35, 36, 37, 38, 39, 40] (by decide +kernel) (by decide +kernel)
set_option maxRecDepth 20000 in
theorem gX5_connect_X5_keys : GoodIn wsX5_connect (wsV RX5 96 RX5 yX5_keys wsX5_keys) := goodIn_app (goodIn_of _ (by decide +kernel)) ggX5_connect_X5_keys
set_option maxRecDepth 20000 in
theorem ggX5_appear_X5_connect : GoodIn wsX5_appear wsX5_connect := goodIn_r _ [12, 13, 2, 3, 6, 14, 15, 16, 11, 17, 1, 18, 19, 20, 21, 22, 23, 24, 25, 26, 27, 28, 29, 30, 31, 32, 33, 34, 35, 36, 37, 38, 39, 40, 41, 42, 43, 44, 45, 46, 47] (by decide +kernel) (by decide +kernel)
set_option maxRecDepth 20000 in
theorem gX5_appear_X5_connect : GoodIn wsX5_appear (wsV RX5 106 RX5 yX5_connect wsX5_connect) := goodIn_app (goodIn_of _ (by decide +kernel)) ggX5_appear_X5_connect
set_option maxRecDepth 20000 in
theorem ggX5_isDoubtful_X5_keys : GoodIn wsX5_isDoubtful wsX5_keys := goodIn_r _ [7, 8, 2, 9, 10, 11, 12, 13, 14, 15, 16, 17, 18, 19, 20, 21, 22, 23, 24, 25, 26, 27, 28, 29, 30, 31, 32, 33, 34, 35, 36, 37, 38] (by decide +kernel) (by decide +kernel)
set_option maxRecDepth 20000 in
theorem gX5_isDoubtful_X5_keys : GoodIn wsX5_isDoubtful (wsV RX5 96 RX5 yX5_keys wsX5_keys) := goodIn_app (goodIn_of _ (by decide +kernel)) ggX5_isDoubtful_X5_keys
set_option maxRecDepth 20000 in
theorem ggX5_ghosts_X5_keys : GoodIn wsX5_ghosts wsX5_keys := goodIn_r _ [5, 6, 7, 15, 16, 17, 18, 19, 20, 21, 22, 23, 24, 25, 26, 27, 28, 29, 30, 31, 32, 33, 34, 35, 36, 37, 38, 39, 40, 41, 42, 43, 44] (by decide +kernel) (by decide +kernel)
set_option maxRecDepth 20000 in
theorem gX5_ghosts_X5_keys : GoodIn wsX5_ghosts (wsV RX5 96 RX5 yX5_keys wsX5_keys) := goodIn_app (goodIn_of _ (by decide +kernel)) ggX5_ghosts_X5_keys
set_option maxRecDepth 20000 in
theorem ggX5_ghosts_X5_isGhost : GoodIn wsX5_ghosts wsX5_isGhost := goodIn_r _ [11, 12, 13, 14, 15, 16, 17, 18, 19, 20, 21, 22, 23, 24, 25, 26, 27, 28, 29, 30, 31, 32, 33, 34, 35, 36, 37, 38, 39, 40, 41, 42, 43, 44] (by decide +kernel) (by decide +kernel)
set_option maxRecDepth 20000 in
theorem gX5_ghosts_X5_isGhost : GoodIn wsX5_ghosts (wsV RX5 112 RX5 yX5_isGhost wsX5_isGhost) := goodIn_app (goodIn_of _ (by decide +kernel)) ggX5_ghosts_X5_isGhost
set_option maxRecDepth 20000 in
theorem ggX5_setDiodes_X5_appear : GoodIn wsX5_setDiodes wsX5_appear := goodIn_r _ [6, 7, 8, 9, 10, 1, 11, 12, 13, 14, 15, 5, 16, 17, 18, 19, 20, 21, 30, 31, 32, 33, 34, 35, 36, 37, 38, 39, 40, 41, 42, 43, 44, 45, 46, 47, 48, 49, 50, 51, 52, 53, 54, 55, 56, 57, 58, 59] (by decide +kernel) (by decide +kernel)
set_option maxRecDepth 20000 in
theorem gX5_setDiodes_X5_appear : GoodIn wsX5_setDiodes (wsV RX5 89 RX5 yX5_appear wsX5_appear) := goodIn_app (goodIn_of _ (by decide +kernel)) ggX5_setDiodes_X5_appear
set_option maxRecDepth 20000 in
theorem ggX5_setDiodes_X5_ghosts : GoodIn wsX5_setDiodes wsX5_ghosts := goodIn_r _ [25, 18, 19, 20, 5, 21, 7, 9, 26, 27, 28, 29, 12, 11, 10, 30, 31, 32, 33, 34, 35, 36, 37, 38, 39, 40, 41, 42, 43, 44, 45, 46, 47, 48, 49, 50, 51, 52, 53, 54, 55, 56, 57, 58, 59] (by decide +kernel) (by decide +kernel)
set_option maxRecDepth 20000 in
theorem gX5_setDiodes_X5_ghosts : GoodIn wsX5_setDiodes (wsV RX5 116 RX5 yX5_ghosts wsX5_ghosts) := goodIn_app (goodIn_of _ (by decide +kernel)) ggX5_setDiodes_X5_ghosts
set_option maxRecDepth 20000 in
theorem ggX5_setSlope_X5_in : GoodIn wsX5_setSlope wsX5_in := goodIn_r _ [5] (by decide +kernel) (by decide +kernel)
set_option maxRecDepth 20000 in
theorem gX5_setSlope_X5_in : GoodIn wsX5_setSlope (va_wsS RX5 92 yX5_in wsX5_in) := goodIn_app (goodIn_of _ (by decide +kernel)) ggX5_setSlope_X5_in
set_option maxRecDepth 20000 in
theorem ggX5_setVoices_X5_in : GoodIn wsX5_setVoices wsX5_in := goodIn_r _ [6] (by decide +kernel) (by decide +kernel)
set_option maxRecDepth 20000 in
theorem gX5_setVoices_X5_in : GoodIn wsX5_setVoices (va_wsS RX5 92 yX5_in wsX5_in) := goodIn_app (goodIn_of _ (by decide +kernel)) ggX5_setVoices_X5_in
set_option maxRecDepth 20000 in
theorem ggX5_setVoices_X5_frees : GoodIn wsX5_setVoices wsX5_frees := goodIn_r _ [10, 11, 12, 13, 14, 15, 16, 5, 17, 18, 19, 20, 21, 22, 23, 24, 25, 26, 27, 28, 29, 30, 31, 32, 33, 34, 35, 36, 37, 38, 39, 40, 41, 42, 43, 44, 45, 46, 47, 48, 49, 50] (by decide +kernel) (by decide +kernel)
set_option maxRecDepth 20000 in
theorem gX5_setVoices_X5_frees : GoodIn wsX5_setVoices (wsV RX5 125 RX5 yX5_frees wsX5_frees) := goodIn_app (goodIn_of _ (by decide +kernel)) ggX5_setVoices_X5_frees
set_option maxRecDepth 20000 in
theorem ggX5_frees_X5_enter : GoodIn wsX5_frees wsX5_enter := goodIn_r _ [8, 9, 10, 11, 12, 13, 14, 15, 16, 17, 18, 19, 20, 21, 22, 23, 24, 25, 26, 27, 28, 29, 30, 31, 32, 33, 34, 35, 36, 37, 38, 39, 40, 41] (by decide +kernel) (by decide +kernel)
set_option maxRecDepth 20000 in
theorem gX5_frees_X5_enter : GoodIn wsX5_frees (wsV RX5 132 RX5 yX5_enter wsX5_enter) := goodIn_app (goodIn_of _ (by decide +kernel)) ggX5_frees_X5_enter
set_option maxRecDepth 20000 in
theorem ggX5_weakest_X5_isWeaker : GoodIn wsX5_weakest wsX5_isWeaker := goodIn_r _ [7, 8, 9, 10, 11, 12, 13, 14, 15, 16, 17, 18, 19, 20, 21, 22, 23, 24, 25, 26, 27, 28, 29, 30, 31, 32, 33, 34, 35, 36, 37, 38, 39, 40] (by decide +kernel) (by decide +kernel)
set_option maxRecDepth 20000 in
theorem gX5_weakest_X5_isWeaker : GoodIn wsX5_weakest (wsV RX5 135 RX5 yX5_isWeaker wsX5_isWeaker) := goodIn_app (goodIn_of _ (by decide +kernel)) ggX5_weakest_X5_isWeaker
set_option maxRecDepth 20000 in
theorem ggX5_taken_X5_weakest : GoodIn wsX5_taken wsX5_weakest := goodIn_r _ [6, 7, 8, 9, 10, 11, 5, 12, 1, 13, 14, 15, 16, 17, 18, 19, 20, 21, 22, 23, 24, 25, 26, 27, 28, 29, 30, 31, 32, 33, 34, 35, 36, 37, 38, 39, 40, 41, 42, 43, 44] (by decide +kernel) (by decide +kernel)
set_option maxRecDepth 20000 in
theorem gX5_taken_X5_weakest : GoodIn wsX5_taken (wsV RX5 139 RX5 yX5_weakest wsX5_weakest) := goodIn_app (goodIn_of _ (by decide +kernel)) ggX5_taken_X5_weakest
set_option maxRecDepth 20000 in
theorem ggX5_strike_X5_isDoubtful : GoodIn wsX5_strike wsX5_isDoubtful := goodIn_r _ [17, 18, 19, 20, 21, 22, 16, 23, 9, 57, 58, 59, 60, 61, 62, 63, 64, 65, 66, 67, 68, 69, 70, 71, 72, 73, 74, 75, 76, 77, 78, 79, 80, 81, 82, 83, 84, 85, 86] (by decide +kernel) (by decide +kernel)
set_option maxRecDepth 20000 in
theorem gX5_strike_X5_isDoubtful : GoodIn wsX5_strike (wsV RX5 143 RX5 yX5_isDoubtful wsX5_isDoubtful) := goodIn_app (goodIn_of _ (by decide +kernel)) ggX5_strike_X5_isDoubtful
set_option maxRecDepth 20000 in
theorem ggX5_strike_X5_enter : GoodIn wsX5_strike wsX5_enter := goodIn_r _ [27, 28, 7, 29, 57, 58, 59, 60, 61, 62, 63, 64, 65, 66, 67, 68, 69, 70, 71, 72, 73, 74, 75, 76, 77, 78, 79, 80, 81, 82, 83, 84, 85, 86] (by decide +kernel) (by decide +kernel)
set_option maxRecDepth 20000 in
theorem gX5_strike_X5_enter : GoodIn wsX5_strike (wsV RX5 132 RX5 yX5_enter wsX5_enter) := goodIn_app (goodIn_of _ (by decide +kernel)) ggX5_strike_X5_enter
set_option maxRecDepth 20000 in
theorem ggX5_strike_X5_voiceOf : GoodIn wsX5_strike wsX5_voiceOf := goodIn_r _ [33, 34, 5, 4, 57, 58, 59, 60, 61, 62, 63, 64, 65, 66, 67, 68, 69, 70, 71, 72, 73, 74, 75, 76, 77, 78, 79, 80, 81, 82, 83, 84, 85, 86] (by decide +kernel) (by decide +kernel)
set_option maxRecDepth 20000 in
theorem gX5_strike_X5_voiceOf : GoodIn wsX5_strike (wsV RX5 146 RX5 yX5_voiceOf wsX5_voiceOf) := goodIn_app (goodIn_of _ (by decide +kernel)) ggX5_strike_X5_voiceOf
set_option maxRecDepth 20000 in
theorem ggX5_strike_X5_freeVoice : GoodIn wsX5_strike wsX5_freeVoice := goodIn_r _ [38, 34, 5, 57, 58, 59, 60, 61, 62, 63, 64, 65, 66, 67, 68, 69, 70, 71, 72, 73, 74, 75, 76, 77, 78, 79, 80, 81, 82, 83, 84, 85, 86] (by decide +kernel) (by decide +kernel)
set_option maxRecDepth 20000 in
theorem gX5_strike_X5_freeVoice : GoodIn wsX5_strike (wsV RX5 149 RX5 yX5_freeVoice wsX5_freeVoice) := goodIn_app (goodIn_of _ (by decide +kernel)) ggX5_strike_X5_freeVoice
set_option maxRecDepth 20000 in
theorem ggX5_strike_X5_taken : GoodIn wsX5_strike wsX5_taken := goodIn_r _ [42, 43, 44, 45, 46, 16, 47, 34, 5, 48, 49, 50, 51, 6, 10, 57, 58, 59, 60, 61, 62, 63, 64, 65, 66, 67, 68, 69, 70, 71, 72, 73, 74, 75, 76, 77, 78, 79, 80, 81, 82, 83, 84, 85, 86] (by decide +kernel) (by decide +kernel)
set_option maxRecDepth 20000 in
theorem gX5_strike_X5_taken : GoodIn wsX5_strike (wsV RX5 152 RX5 yX5_taken wsX5_taken) := goodIn_app (goodIn_of _ (by decide +kernel)) ggX5_strike_X5_taken
set_option maxRecDepth 20000 in
theorem ggX5_strike_X5_velocityAfter : GoodIn wsX5_strike wsX5_velocityAfter := goodIn_r _ [55, 56, 57, 58, 59, 60, 61, 62, 63, 64, 65, 66, 67, 68, 69, 70, 71, 72, 73, 74, 75, 76, 77, 78, 79, 80, 81, 82, 83, 84, 85, 86] (by decide +kernel) (by decide +kernel)
set_option maxRecDepth 20000 in
theorem gX5_strike_X5_velocityAfter : GoodIn wsX5_strike (wsV RX5 155 RX5 yX5_velocityAfter wsX5_velocityAfter) := goodIn_app (goodIn_of _ (by decide +kernel)) ggX5_strike_X5_velocityAfter
set_option maxRecDepth 20000 in
theorem ggX5_release_X5_voiceOf : GoodIn wsX5_release wsX5_voiceOf := goodIn_r _ [9, 10, 1, 11, 23, 24, 25, 26, 27, 28, 29, 30, 31, 32, 33, 34, 35, 36, 37, 38, 39, 40, 41, 42, 43, 44, 45, 46, 47, 48, 49, 50, 51, 52] (by decide +kernel) (by decide +kernel)
set_option maxRecDepth 20000 in
theorem gX5_release_X5_voiceOf : GoodIn wsX5_release (wsV RX5 146 RX5 yX5_voiceOf wsX5_voiceOf) := goodIn_app (goodIn_of _ (by decide +kernel)) ggX5_release_X5_voiceOf
set_option maxRecDepth 20000 in
theorem ggX5_release_X5_frees : GoodIn wsX5_release wsX5_frees := goodIn_r _ [15, 1, 4, 11, 16, 17, 18, 8, 19, 20, 21, 22, 23, 24, 25, 26, 27, 28, 29, 30, 31, 32, 33, 34, 35, 36, 37, 38, 39, 40, 41, 42, 43, 44, 45, 46, 47, 48, 49, 50, 51, 52] (by decide +kernel) (by decide +kernel)
set_option maxRecDepth 20000 in
theorem gX5_release_X5_frees : GoodIn wsX5_release (wsV RX5 125 RX5 yX5_frees wsX5_frees) := goodIn_app (goodIn_of _ (by decide +kernel)) ggX5_release_X5_frees
set_option maxRecDepth 20000 in
theorem ggX5_scan_X5_hits : GoodIn wsX5_scan wsX5_hits := goodIn_r _ [11, 1, 12, 13, 14, 10, 15, 16, 17, 18, 19, 20, 21, 4, 3, 22, 23, 24, 25, 26, 27, 28, 29, 2, 30, 31, 32, 33, 34, 35, 36, 37, 38, 39, 40, 41, 42, 43, 44, 45, 46, 47, 48, 49, 50, 51, 52, 53, 54, 55, 56, 57, 58, 59, 60, 61, 62, 63, 64, 65, 66, 67, 78, 79, 80, 81, 82, 83, 84, 85, 86, 87, 88, 89, 90, 91, 92, 93, 94, 95, 96, 97, 98, 99, 100, 101, 102, 103, 104, 105, 106, 107] (by decide +kernel) (by decide +kernel)
set_option maxRecDepth 20000 in
theorem gX5_scan_X5_hits : GoodIn wsX5_scan (wsV RX5 158 RX5 yX5_hits wsX5_hits) := goodIn_app (goodIn_of _ (by decide +kernel)) ggX5_scan_X5_hits
set_option maxRecDepth 20000 in
theorem ggX5_scan_X5_release : GoodIn wsX5_scan wsX5_release := goodIn_r _ [71, 20, 72, 73, 24, 41, 42, 43, 10, 44, 45, 19, 74, 75, 76, 77, 35, 36, 37, 38, 39, 4, 40, 78, 79, 80, 81, 82, 83, 84, 85, 86, 87, 88, 89, 90, 91, 92, 93, 94, 95, 96, 97, 98, 99, 100, 101, 102, 103, 104, 105, 106, 107] (by decide +kernel) (by decide +kernel)
set_option maxRecDepth 20000 in
theorem gX5_scan_X5_release : GoodIn wsX5_scan (wsV RX5 162 RX5 yX5_release wsX5_release) := goodIn_app (goodIn_of _ (by decide +kernel)) ggX5_scan_X5_release
set_option maxRecDepth 20000 in
theorem ggX5_hits_X5_strike : GoodIn wsX5_hits wsX5_strike := goodIn_r _ [6, 7, 8, 9, 10, 11, 12, 13, 14, 15, 16, 17, 18, 19, 20, 21, 5, 22, 23, 24, 25, 26, 27, 28, 29, 30, 31, 32, 33, 34, 35, 36, 37, 38, 39, 40, 41, 42, 43, 44, 45, 46, 47, 48, 49, 50, 51, 52, 53, 54, 55, 56, 57, 58, 59, 60, 61, 62, 63, 64, 65, 66, 67, 68, 69, 70, 71, 72, 73, 74, 75, 76, 77, 78, 79, 80, 81, 82, 83, 84, 85, 86, 87, 88, 89, 90, 91] (by decide +kernel) (by decide +kernel)
set_option maxRecDepth 20000 in
theorem gX5_hits_X5_strike : GoodIn wsX5_hits (wsV RX5 166 RX5 yX5_strike wsX5_strike) := goodIn_app (goodIn_of _ (by decide +kernel)) ggX5_hits_X5_strike
set_option maxRecDepth 20000 in
theorem ggX5_pass_X5_scan : GoodIn wsX5_pass wsX5_scan := goodIn_r _ [8, 9, 10, 11, 1, 12, 13, 14, 15, 16, 7, 17, 18, 19, 20, 21, 22, 23, 24, 25, 26, 27, 2, 28, 29, 30, 31, 32, 33, 34, 3, 35, 36, 37, 38, 39, 40, 41, 42, 43, 44, 45, 46, 47, 48, 49, 50, 51, 52, 53, 54, 55, 56, 57, 58, 59, 60, 61, 62, 63, 64, 65, 66, 67, 68, 69, 70, 71, 72, 73, 74, 75, 76, 77, 78, 79, 80, 81, 82, 83, 84, 85, 86, 87, 88, 89, 90, 91, 92, 93, 94, 95, 96, 97, 98, 99, 100, 101, 102, 103, 104, 105, 106, 107, 108, 109, 110, 111] (by decide +kernel) (by decide +kernel)
set_option maxRecDepth 20000 in
theorem gX5_pass_X5_scan : GoodIn wsX5_pass (wsV RX5 169 RX5 yX5_scan wsX5_scan) := goodIn_app (goodIn_of _ (by decide +kernel)) ggX5_pass_X5_scan
set_option maxRecDepth 20000 in
theorem ggX5_tick_X5_in : GoodIn wsX5_tick wsX5_in := goodIn_r _ [5] (by decide +kernel) (by decide +kernel)
set_option maxRecDepth 20000 in
theorem gX5_tick_X5_in : GoodIn wsX5_tick (va_wsS RX5 92 yX5_in wsX5_in) := goodIn_app (goodIn_of _ (by decide +kernel)) ggX5_tick_X5_in
set_option maxRecDepth 20000 in
theorem ggX5_tick_X5_pass : GoodIn wsX5_tick wsX5_pass := goodIn_r _ [9, 1, 10, 11, 12, 13, 14, 4, 15, 16, 17, 18, 19, 20, 21, 22, 23, 24, 25, 26, 27, 28, 29, 30, 31, 32, 33, 34, 35, 36, 37, 38, 39, 40, 41, 42, 43, 44, 45, 46, 47, 48, 49, 50, 51, 52, 53, 54, 55, 56, 57, 58, 59, 60, 61, 62, 63, 64, 65, 66, 67, 68, 69, 70, 71, 72, 73, 74, 75, 76, 77, 78, 79, 80, 81, 82, 83, 84, 85, 86, 87, 88, 89, 90, 91, 92, 93, 94, 95, 96, 97, 98, 99, 100, 101, 102, 103, 104, 105, 106, 107, 108, 109, 110, 111, 112, 113, 114, 115, 116, 117, 118] (by decide +kernel) (by decide +kernel)
set_option maxRecDepth 20000 in
theorem gX5_tick_X5_pass : GoodIn wsX5_tick (wsV RX5 172 RX5 yX5_pass wsX5_pass) := goodIn_app (goodIn_of _ (by decide +kernel)) ggX5_tick_X5_pass
set_option maxRecDepth 20000 in
theorem ggX5_noKey_X5_keys : GoodIn wsX5_noKey wsX5_keys := goodIn_r _ [5, 6, 7, 11, 12, 13, 14, 15, 16, 17, 18, 19, 20, 21, 22, 23, 24, 25, 26, 27, 28, 29, 30, 31, 32, 33, 34, 35, 36, 37, 38, 39, 40] (by decide +kernel) (by decide +kernel)
set_option maxRecDepth 20000 in
theorem gX5_noKey_X5_keys : GoodIn wsX5_noKey (wsV RX5 96 RX5 yX5_keys wsX5_keys) := goodIn_app (goodIn_of _ (by decide +kernel)) ggX5_noKey_X5_keys
set_option maxRecDepth 20000 in
theorem ggX5_noKey_X5_in : GoodIn wsX5_noKey wsX5_in := goodIn_r _ [10] (by decide +kernel) (by decide +kernel)
set_option maxRecDepth 20000 in
theorem gX5_noKey_X5_in : GoodIn wsX5_noKey (va_wsS RX5 92 yX5_in wsX5_in) := goodIn_app (goodIn_of _ (by decide +kernel)) ggX5_noKey_X5_in
set_option maxRecDepth 20000 in
theorem ggX5_setKey_X5_noKey : GoodIn wsX5_setKey wsX5_noKey := goodIn_r _ [6, 7, 8, 9, 5, 10, 11, 12, 13, 14, 15, 29, 30, 31, 32, 33, 34, 35, 36, 37, 38, 39, 40, 41, 42, 43, 44, 45, 46, 47, 48, 49, 50, 51, 52, 53, 54, 55, 56, 57, 58] (by decide +kernel) (by decide +kernel)
set_option maxRecDepth 20000 in
theorem gX5_setKey_X5_noKey : GoodIn wsX5_setKey (wsV RX5 176 RX5 yX5_noKey wsX5_noKey) := goodIn_app (goodIn_of _ (by decide +kernel)) ggX5_setKey_X5_noKey
set_option maxRecDepth 20000 in
theorem ggX5_setKey_X5_in : GoodIn wsX5_setKey wsX5_in := goodIn_r _ [15] (by decide +kernel) (by decide +kernel)
set_option maxRecDepth 20000 in
theorem gX5_setKey_X5_in : GoodIn wsX5_setKey (va_wsS RX5 92 yX5_in wsX5_in) := goodIn_app (goodIn_of _ (by decide +kernel)) ggX5_setKey_X5_in
set_option maxRecDepth 20000 in
theorem ggX5_setKey_X5_appear : GoodIn wsX5_setKey wsX5_appear := goodIn_r _ [19, 11, 20, 12, 21, 22, 1, 23, 24, 25, 26, 5, 27, 28, 7, 8, 9, 10, 29, 30, 31, 32, 33, 34, 35, 36, 37, 38, 39, 40, 41, 42, 43, 44, 45, 46, 47, 48, 49, 50, 51, 52, 53, 54, 55, 56, 57, 58] (by decide +kernel) (by decide +kernel)
set_option maxRecDepth 20000 in
theorem gX5_setKey_X5_appear : GoodIn wsX5_setKey (wsV RX5 89 RX5 yX5_appear wsX5_appear) := goodIn_app (goodIn_of _ (by decide +kernel)) ggX5_setKey_X5_appear
set_option maxRecDepth 20000 in
theorem ggX5_pressed_X5_keys : GoodIn wsX5_pressed wsX5_keys := goodIn_r _ [6, 7, 8, 9, 10, 11, 12, 13, 14, 15, 16, 17, 18, 19, 20, 21, 22, 23, 24, 25, 26, 27, 28, 29, 30, 31, 32, 33, 34, 35, 36, 37, 38] (by decide +kernel) (by decide +kernel)
set_option maxRecDepth 20000 in
theorem gX5_pressed_X5_keys : GoodIn wsX5_pressed (wsV RX5 96 RX5 yX5_keys wsX5_keys) := goodIn_app (goodIn_of _ (by decide +kernel)) ggX5_pressed_X5_keys
set_option maxRecDepth 20000 in
theorem ggX5_liftAll_X5_pressed : GoodIn wsX5_liftAll wsX5_pressed := goodIn_r _ [6, 1, 7, 8, 9, 5, 10, 11, 12, 26, 27, 28, 29, 30, 31, 32, 33, 34, 35, 36, 37, 38, 39, 40, 41, 42, 43, 44, 45, 46, 47, 48, 49, 50, 51, 52, 53, 54, 55] (by decide +kernel) (by decide +kernel)
set_option maxRecDepth 20000 in
theorem gX5_liftAll_X5_pressed : GoodIn wsX5_liftAll (wsV RX5 179 RX5 yX5_pressed wsX5_pressed) := goodIn_app (goodIn_of _ (by decide +kernel)) ggX5_liftAll_X5_pressed
set_option maxRecDepth 20000 in
theorem ggX5_liftAll_X5_keys : GoodIn wsX5_liftAll wsX5_keys := goodIn_r _ [10, 11, 12, 26, 27, 28, 29, 30, 31, 32, 33, 34, 35, 36, 37, 38, 39, 40, 41, 42, 43, 44, 45, 46, 47, 48, 49, 50, 51, 52, 53, 54, 55] (by decide +kernel) (by decide +kernel)
set_option maxRecDepth 20000 in
theorem gX5_liftAll_X5_keys : GoodIn wsX5_liftAll (wsV RX5 96 RX5 yX5_keys wsX5_keys) := goodIn_app (goodIn_of _ (by decide +kernel)) ggX5_liftAll_X5_keys
set_option maxRecDepth 20000 in
theorem ggX5_liftAll_X5_appear : GoodIn wsX5_liftAll wsX5_appear := goodIn_r _ [16, 11, 17, 12, 18, 19, 1, 20, 21, 22, 23, 5, 24, 25, 7, 8, 9, 10, 26, 27, 28, 29, 30, 31, 32, 33, 34, 35, 36, 37, 38, 39, 40, 41, 42, 43, 44, 45, 46, 47, 48, 49, 50, 51, 52, 53, 54, 55] (by decide +kernel) (by decide +kernel)
set_option maxRecDepth 20000 in
theorem gX5_liftAll_X5_appear : GoodIn wsX5_liftAll (wsV RX5 89 RX5 yX5_appear wsX5_appear) := goodIn_app (goodIn_of _ (by decide +kernel)) ggX5_liftAll_X5_appear
set_option maxRecDepth 20000 in
theorem ggX5_dropKept_X5_frees : GoodIn wsX5_dropKept wsX5_frees := goodIn_r _ [10, 2, 5, 11, 12, 13, 14, 9, 15, 16, 17, 18, 19, 20, 21, 22, 23, 24, 25, 26, 27, 28, 29, 30, 31, 32, 33, 34, 35, 36, 37, 38, 39, 40, 41, 42, 43, 44, 45, 46, 47, 48] (by decide +kernel) (by decide +kernel)
set_option maxRecDepth 20000 in
theorem gX5_dropKept_X5_frees : GoodIn wsX5_dropKept (wsV RX5 125 RX5 yX5_frees wsX5_frees) := goodIn_app (goodIn_of _ (by decide +kernel)) ggX5_dropKept_X5_frees
set_option maxRecDepth 20000 in
theorem ggX5_sustain_X5_dropKept : GoodIn wsX5_sustain wsX5_dropKept := goodIn_r _ [6, 7, 8, 1, 9, 10, 11, 12, 13, 5, 14, 15, 16, 17, 18, 19, 20, 21, 22, 23, 24, 25, 26, 27, 28, 29, 30, 31, 32, 33, 34, 35, 36, 37, 38, 39, 40, 41, 42, 43, 44, 45, 46, 47, 48, 49, 50, 51, 52] (by decide +kernel) (by decide +kernel)
set_option maxRecDepth 20000 in
theorem gX5_sustain_X5_dropKept : GoodIn wsX5_sustain (wsV RX5 182 RX5 yX5_dropKept wsX5_dropKept) := goodIn_app (goodIn_of _ (by decide +kernel)) ggX5_sustain_X5_dropKept
set_option maxRecDepth 20000 in
theorem ggX5_sostenuto_X5_dropKept : GoodIn wsX5_sostenuto wsX5_dropKept := goodIn_r _ [9, 2, 4, 10, 1, 3, 11, 12, 13, 8, 14, 15, 16, 17, 18, 19, 20, 21, 22, 23, 24, 25, 26, 27, 28, 29, 30, 31, 32, 33, 34, 35, 36, 37, 38, 39, 40, 41, 42, 43, 44, 45, 46, 47, 48, 49, 50, 51, 52] (by decide +kernel) (by decide +kernel)
set_option maxRecDepth 20000 in
theorem gX5_sostenuto_X5_dropKept : GoodIn wsX5_sostenuto (wsV RX5 182 RX5 yX5_dropKept wsX5_dropKept) := goodIn_app (goodIn_of _ (by decide +kernel)) ggX5_sostenuto_X5_dropKept
set_option maxRecDepth 20000 in
theorem ggX5_key_X5_noKey : GoodIn wsX5_key wsX5_noKey := goodIn_r _ [10, 11, 12, 13, 9, 14, 15, 16, 17, 18, 19, 35, 36, 37, 38, 39, 40, 41, 42, 43, 44, 45, 46, 47, 48, 49, 50, 51, 52, 53, 54, 55, 56, 57, 58, 59, 60, 61, 62, 63, 64] (by decide +kernel) (by decide +kernel)
set_option maxRecDepth 20000 in
theorem gX5_key_X5_noKey : GoodIn wsX5_key (wsV RX5 176 RX5 yX5_noKey wsX5_noKey) := goodIn_app (goodIn_of _ (by decide +kernel)) ggX5_key_X5_noKey
set_option maxRecDepth 20000 in
theorem ggX5_key_X5_voiceOf : GoodIn wsX5_key wsX5_voiceOf := goodIn_r _ [23, 24, 25, 26, 35, 36, 37, 38, 39, 40, 41, 42, 43, 44, 45, 46, 47, 48, 49, 50, 51, 52, 53, 54, 55, 56, 57, 58, 59, 60, 61, 62, 63, 64] (by decide +kernel) (by decide +kernel)
set_option maxRecDepth 20000 in
theorem gX5_key_X5_voiceOf : GoodIn wsX5_key (wsV RX5 146 RX5 yX5_voiceOf wsX5_voiceOf) := goodIn_app (goodIn_of _ (by decide +kernel)) ggX5_key_X5_voiceOf
set_option maxRecDepth 20000 in
theorem ggX5_key_X5_isGhost : GoodIn wsX5_key wsX5_isGhost := goodIn_r _ [30, 4, 1, 5, 35, 36, 37, 38, 39, 40, 41, 42, 43, 44, 45, 46, 47, 48, 49, 50, 51, 52, 53, 54, 55, 56, 57, 58, 59, 60, 61, 62, 63, 64] (by decide +kernel) (by decide +kernel)
set_option maxRecDepth 20000 in
theorem gX5_key_X5_isGhost : GoodIn wsX5_key (wsV RX5 112 RX5 yX5_isGhost wsX5_isGhost) := goodIn_app (goodIn_of _ (by decide +kernel)) ggX5_key_X5_isGhost
set_option maxRecDepth 20000 in
theorem ggX5_key_X5_isDoubtful : GoodIn wsX5_key wsX5_isDoubtful := goodIn_r _ [34, 4, 16, 11, 12, 13, 9, 14, 15, 35, 36, 37, 38, 39, 40, 41, 42, 43, 44, 45, 46, 47, 48, 49, 50, 51, 52, 53, 54, 55, 56, 57, 58, 59, 60, 61, 62, 63, 64] (by decide +kernel) (by decide +kernel)
set_option maxRecDepth 20000 in
theorem gX5_key_X5_isDoubtful : GoodIn wsX5_key (wsV RX5 143 RX5 yX5_isDoubtful wsX5_isDoubtful) := goodIn_app (goodIn_of _ (by decide +kernel)) ggX5_key_X5_isDoubtful
set_option maxRecDepth 20000 in
theorem ggX5_voice_X5_in : GoodIn wsX5_voice wsX5_in := goodIn_r _ [10] (by decide +kernel) (by decide +kernel)
set_option maxRecDepth 20000 in
theorem gX5_voice_X5_in : GoodIn wsX5_voice (va_wsS RX5 92 yX5_in wsX5_in) := goodIn_app (goodIn_of _ (by decide +kernel)) ggX5_voice_X5_in
set_option maxRecDepth 20000 in
theorem ggX5_count_X5_keys : GoodIn wsX5_count wsX5_keys := goodIn_r _ [12, 13, 14, 34, 35, 36, 37, 38, 39, 40, 41, 42, 43, 44, 45, 46, 47, 48, 49, 50, 51, 52, 53, 54, 55, 56, 57, 58, 59, 60, 61, 62, 63] (by decide +kernel) (by decide +kernel)
set_option maxRecDepth 20000 in
theorem gX5_count_X5_keys : GoodIn wsX5_count (wsV RX5 96 RX5 yX5_keys wsX5_keys) := goodIn_app (goodIn_of _ (by decide +kernel)) ggX5_count_X5_keys
set_option maxRecDepth 20000 in
theorem ggX5_count_X5_isDoubtful : GoodIn wsX5_count wsX5_isDoubtful := goodIn_r _ [18, 19, 14, 8, 9, 10, 11, 12, 13, 34, 35, 36, 37, 38, 39, 40, 41, 42, 43, 44, 45, 46, 47, 48, 49, 50, 51, 52, 53, 54, 55, 56, 57, 58, 59, 60, 61, 62, 63] (by decide +kernel) (by decide +kernel)
set_option maxRecDepth 20000 in
theorem gX5_count_X5_isDoubtful : GoodIn wsX5_count (wsV RX5 143 RX5 yX5_isDoubtful wsX5_isDoubtful) := goodIn_app (goodIn_of _ (by decide +kernel)) ggX5_count_X5_isDoubtful
set_option maxRecDepth 20000 in
theorem ggX5_count_X5_pressed : GoodIn wsX5_count wsX5_pressed := goodIn_r _ [23, 24, 8, 9, 10, 11, 12, 13, 14, 34, 35, 36, 37, 38, 39, 40, 41, 42, 43, 44, 45, 46, 47, 48, 49, 50, 51, 52, 53, 54, 55, 56, 57, 58, 59, 60, 61, 62, 63] (by decide +kernel) (by decide +kernel)
set_option maxRecDepth 20000 in
theorem gX5_count_X5_pressed : GoodIn wsX5_count (wsV RX5 179 RX5 yX5_pressed wsX5_pressed) := goodIn_app (goodIn_of _ (by decide +kernel)) ggX5_count_X5_pressed
set_option maxRecDepth 20000 in
theorem ggX5_count_X5_ghosts : GoodIn wsX5_count wsX5_ghosts := goodIn_r _ [28, 8, 9, 10, 11, 12, 13, 14, 29, 30, 31, 32, 19, 24, 33, 34, 35, 36, 37, 38, 39, 40, 41, 42, 43, 44, 45, 46, 47, 48, 49, 50, 51, 52, 53, 54, 55, 56, 57, 58, 59, 60, 61, 62, 63] (by decide +kernel) (by decide +kernel)
set_option maxRecDepth 20000 in
theorem gX5_count_X5_ghosts : GoodIn wsX5_count (wsV RX5 116 RX5 yX5_ghosts wsX5_ghosts) := goodIn_app (goodIn_of _ (by decide +kernel)) ggX5_count_X5_ghosts
set_option maxRecDepth 20000 in
theorem ggX5_log_X5_in : GoodIn wsX5_log wsX5_in := goodIn_r _ [6] (by decide +kernel) (by decide +kernel)
set_option maxRecDepth 20000 in
theorem gX5_log_X5_in : GoodIn wsX5_log (va_wsS RX5 92 yX5_in wsX5_in) := goodIn_app (goodIn_of _ (by decide +kernel)) ggX5_log_X5_in
set_option maxRecDepth 20000 in
theorem ggX5_velocity_X5_in : GoodIn wsX5_velocity wsX5_in := goodIn_r _ [4] (by decide +kernel) (by decide +kernel)
set_option maxRecDepth 20000 in
theorem gX5_velocity_X5_in : GoodIn wsX5_velocity (va_wsS RX5 92 yX5_in wsX5_in) := goodIn_app (goodIn_of _ (by decide +kernel)) ggX5_velocity_X5_in
set_option maxRecDepth 20000 in
theorem ggX5_velocity_X5_velocityAfter : GoodIn wsX5_velocity wsX5_velocityAfter := goodIn_r _ [8, 9, 10, 11, 12, 13, 14, 15, 16, 17, 18, 19, 20, 21, 22, 23, 24, 25, 26, 27, 28, 29, 30, 31, 32, 33, 34, 35, 36, 37, 38, 39] (by decide +kernel) (by decide +kernel)
set_option maxRecDepth 20000 in
theorem gX5_velocity_X5_velocityAfter : GoodIn wsX5_velocity (wsV RX5 155 RX5 yX5_velocityAfter wsX5_velocityAfter) := goodIn_app (goodIn_of _ (by decide +kernel)) ggX5_velocity_X5_velocityAfter
set_option maxRecDepth 20000 in
theorem ggX5_nextTaken_X5_freeVoice : GoodIn wsX5_nextTaken wsX5_freeVoice := goodIn_r _ [5, 6, 7, 23, 24, 25, 26, 27, 28, 29, 30, 31, 32, 33, 34, 35, 36, 37, 38, 39, 40, 41, 42, 43, 44, 45, 46, 47, 48, 49, 50, 51, 52] (by decide +kernel) (by decide +kernel)
set_option maxRecDepth 20000 in
theorem gX5_nextTaken_X5_freeVoice : GoodIn wsX5_nextTaken (wsV RX5 149 RX5 yX5_freeVoice wsX5_freeVoice) := goodIn_app (goodIn_of _ (by decide +kernel)) ggX5_nextTaken_X5_freeVoice
set_option maxRecDepth 20000 in
theorem ggX5_nextTaken_X5_taken : GoodIn wsX5_nextTaken wsX5_taken := goodIn_r _ [11, 12, 13, 14, 15, 4, 16, 6, 7, 17, 18, 19, 20, 21, 22, 23, 24, 25, 26, 27, 28, 29, 30, 31, 32, 33, 34, 35, 36, 37, 38, 39, 40, 41, 42, 43, 44, 45, 46, 47, 48, 49, 50, 51, 52] (by decide +kernel) (by decide +kernel)
set_option maxRecDepth 20000 in
theorem gX5_nextTaken_X5_taken : GoodIn wsX5_nextTaken (wsV RX5 152 RX5 yX5_taken wsX5_taken) := goodIn_app (goodIn_of _ (by decide +kernel)) ggX5_nextTaken_X5_taken
set_option maxRecDepth 20000 in
theorem ggX5_connected_X5_in : GoodIn wsX5_connected wsX5_in := goodIn_r _ [7] (by decide +kernel) (by decide +kernel)
set_option maxRecDepth 20000 in
theorem gX5_connected_X5_in : GoodIn wsX5_connected (va_wsS RX5 92 yX5_in wsX5_in) := goodIn_app (goodIn_of _ (by decide +kernel)) ggX5_connected_X5_in
set_option maxRecDepth 20000 in
theorem ggX5_connected_X5_connect : GoodIn wsX5_connected wsX5_connect := goodIn_r _ [11, 2, 3, 12, 13, 14, 15, 16, 6, 17, 1, 18, 19, 20, 21, 22, 23, 24, 25, 26, 27, 28, 29, 30, 31, 32, 33, 34, 35, 36, 37, 38, 39, 40, 41, 42, 43, 44, 45, 46, 47] (by decide +kernel) (by decide +kernel)
set_option maxRecDepth 20000 in
theorem gX5_connected_X5_connect : GoodIn wsX5_connected (wsV RX5 106 RX5 yX5_connect wsX5_connect) := goodIn_app (goodIn_of _ (by decide +kernel)) ggX5_connected_X5_connect
set_option maxRecDepth 20000 in
theorem ggX5_worstKey_X5_ghosts : GoodIn wsX5_worstKey wsX5_ghosts := goodIn_r _ [6, 7, 8, 9, 5, 10, 11, 12, 13, 14, 15, 16, 17, 1, 18, 30, 31, 32, 33, 34, 35, 36, 37, 38, 39, 40, 41, 42, 43, 44, 45, 46, 47, 48, 49, 50, 51, 52, 53, 54, 55, 56, 57, 58, 59] (by decide +kernel) (by decide +kernel)
set_option maxRecDepth 20000 in
theorem gX5_worstKey_X5_ghosts : GoodIn wsX5_worstKey (wsV RX5 116 RX5 yX5_ghosts wsX5_ghosts) := goodIn_app (goodIn_of _ (by decide +kernel)) ggX5_worstKey_X5_ghosts
set_option maxRecDepth 20000 in
theorem ggX5_worstKey_X5_keys : GoodIn wsX5_worstKey wsX5_keys := goodIn_r _ [10, 11, 12, 30, 31, 32, 33, 34, 35, 36, 37, 38, 39, 40, 41, 42, 43, 44, 45, 46, 47, 48, 49, 50, 51, 52, 53, 54, 55, 56, 57, 58, 59] (by decide +kernel) (by decide +kernel)
set_option maxRecDepth 20000 in
theorem gX5_worstKey_X5_keys : GoodIn wsX5_worstKey (wsV RX5 96 RX5 yX5_keys wsX5_keys) := goodIn_app (goodIn_of _ (by decide +kernel)) ggX5_worstKey_X5_keys
set_option maxRecDepth 20000 in
theorem ggX5_worstKey_X5_appear : GoodIn wsX5_worstKey wsX5_appear := goodIn_r _ [22, 11, 23, 12, 18, 24, 1, 17, 25, 26, 27, 5, 28, 29, 7, 8, 9, 10, 30, 31, 32, 33, 34, 35, 36, 37, 38, 39, 40, 41, 42, 43, 44, 45, 46, 47, 48, 49, 50, 51, 52, 53, 54, 55, 56, 57, 58, 59] (by decide +kernel) (by decide +kernel)
set_option maxRecDepth 20000 in
theorem gX5_worstKey_X5_appear : GoodIn wsX5_worstKey (wsV RX5 89 RX5 yX5_appear wsX5_appear) := goodIn_app (goodIn_of _ (by decide +kernel)) ggX5_worstKey_X5_appear
set_option maxRecDepth 20000 in
theorem ggX5_areAtRest_X5_keys : GoodIn wsX5_areAtRest wsX5_keys := goodIn_r _ [6, 7, 8, 9, 10, 11, 12, 13, 14, 15, 16, 17, 18, 19, 20, 21, 22, 23, 24, 25, 26, 27, 28, 29, 30, 31, 32, 33, 34, 35, 36, 37, 38] (by decide +kernel) (by decide +kernel)
set_option maxRecDepth 20000 in
theorem gX5_areAtRest_X5_keys : GoodIn wsX5_areAtRest (wsV RX5 96 RX5 yX5_keys wsX5_keys) := goodIn_app (goodIn_of _ (by decide +kernel)) ggX5_areAtRest_X5_keys
set_option maxRecDepth 20000 in
theorem ggX5_restAfter_X5_in : GoodIn wsX5_restAfter wsX5_in := goodIn_r _ [9] (by decide +kernel) (by decide +kernel)
set_option maxRecDepth 20000 in
theorem gX5_restAfter_X5_in : GoodIn wsX5_restAfter (va_wsS RX5 92 yX5_in wsX5_in) := goodIn_app (goodIn_of _ (by decide +kernel)) ggX5_restAfter_X5_in
set_option maxRecDepth 20000 in
theorem ggX5_restAfter_X5_areAtRest : GoodIn wsX5_restAfter wsX5_areAtRest := goodIn_r _ [13, 2, 14, 15, 16, 8, 17, 18, 19, 95, 96, 97, 98, 99, 100, 101, 102, 103, 104, 105, 106, 107, 108, 109, 110, 111, 112, 113, 114, 115, 116, 117, 118, 119, 120, 121, 122, 123, 124] (by decide +kernel) (by decide +kernel)
set_option maxRecDepth 20000 in
theorem gX5_restAfter_X5_areAtRest : GoodIn wsX5_restAfter (wsV RX5 185 RX5 yX5_areAtRest wsX5_areAtRest) := goodIn_app (goodIn_of _ (by decide +kernel)) ggX5_restAfter_X5_areAtRest
set_option maxRecDepth 20000 in
theorem ggX5_restAfter_X5_pass : GoodIn wsX5_restAfter wsX5_pass := goodIn_r _ [23, 5, 18, 19, 24, 25, 26, 8, 27, 2, 28, 4, 29, 30, 31, 32, 33, 34, 35, 36, 37, 38, 39, 40, 41, 42, 43, 44, 45, 46, 47, 48, 49, 50, 51, 14, 15, 16, 17, 52, 53, 54, 55, 56, 57, 58, 59, 60, 61, 62, 63, 64, 65, 66, 67, 68, 69, 70, 71, 72, 73, 74, 75, 76, 77, 78, 79, 80, 81, 82, 83, 84, 85, 86, 87, 88, 89, 90, 91, 92, 93, 94, 95, 96, 97, 98, 99, 100, 101, 102, 103, 104, 105, 106, 107, 108, 109, 110, 111, 112, 113, 114, 115, 116, 117, 118, 119, 120, 121, 122, 123, 124] (by decide +kernel) (by decide +kernel)
set_option maxRecDepth 20000 in
theorem gX5_restAfter_X5_pass : GoodIn wsX5_restAfter (wsV RX5 172 RX5 yX5_pass wsX5_pass) := goodIn_app (goodIn_of _ (by decide +kernel)) ggX5_restAfter_X5_pass
end
section
/-! plain facts on numbers and arrays, to paste: each family by itself; over the kit's rows on nI and upd -/
/-! ===== order of ints, in all its forms, and through longs ===== -/
theorem fa_lt (a b : Int32) : a < b ↔ a.toInt < b.toInt := Int32.lt_iff_toInt_lt
theorem fa_le (a b : Int32) : a ≤ b ↔ a.toInt ≤ b.toInt := Int32.le_iff_toInt_le
theorem fa_eq (a b : Int32) : a = b ↔ a.toInt = b.toInt := Int32.toInt_inj.symm
theorem fa_lt64 (a b : Int64) : a < b ↔ a.toInt < b.toInt := Int64.lt_iff_toInt_lt
theorem fa_le64 (a b : Int64) : a ≤ b ↔ a.toInt ≤ b.toInt := Int64.le_iff_toInt_le
theorem fa_eq64 (a b : Int64) : a = b ↔ a.toInt = b.toInt := Int64.toInt_inj.symm
/-- a comparison of two ints taken as longs -/
theorem fa_wide_lt (a b : Int32) : a.toInt64 < b.toInt64 ↔ a < b := by rw [fa_lt64, fa_lt, Int32.toInt_toInt64, Int32.toInt_toInt64]
theorem fa_wide_le (a b : Int32) : a.toInt64 ≤ b.toInt64 ↔ a ≤ b := by rw [fa_le64, fa_le, Int32.toInt_toInt64, Int32.toInt_toInt64]
theorem fa_wide_eq (a b : Int32) : a.toInt64 = b.toInt64 ↔ a = b := by rw [fa_eq64, fa_eq, Int32.toInt_toInt64, Int32.toInt_toInt64]
/-- one strict comparison gives all the others -/
theorem fa_of_lt {a b : Int32} (h : a < b) : a ≤ b ∧ ¬ b ≤ a ∧ ¬ b < a ∧ a ≠ b ∧ b ≠ a := by
  rw [fa_lt] at h
  refine ⟨?_, ?_, ?_, ?_, ?_⟩
  · rw [fa_le]; omega
  · rw [fa_le]; omega
  · rw [fa_lt]; omega
  · intro e; rw [fa_eq] at e; omega
  · intro e; rw [fa_eq] at e; omega
theorem fa_of_nlt {a b : Int32} (h : ¬ a < b) : b ≤ a := by
  rw [fa_lt] at h
  rw [fa_le]
  omega
theorem fa_of_nle {a b : Int32} (h : ¬ a ≤ b) : b < a := by
  rw [fa_le] at h
  rw [fa_lt]
  omega
theorem fa_le_ne {a b : Int32} (h : a ≤ b) (h2 : a ≠ b) : a < b := by
  rw [fa_le] at h
  rw [fa_lt]
  have h3 : a.toInt ≠ b.toInt := fun e => h2 ((fa_eq a b).mpr e)
  omega
theorem fa_three (a b : Int32) : a < b ∨ a = b ∨ b < a := by
  rw [fa_lt, fa_lt, fa_eq]
  omega
theorem fa_trans {a b c : Int32} (h : a < b) (h2 : b ≤ c) : a < c := by
  rw [fa_lt] at *
  rw [fa_le] at h2
  omega
/-! ===== small literals as numbers ===== -/
theorem fa_lit (n : Nat) : (OfNat.ofNat n : Int32) = nI n := rfl
theorem fa_litL (n : Nat) : (OfNat.ofNat n : Int64) = lN n := rfl
/-! ===== bits of a number: 'or', masks, one bit ===== -/
theorem fa_and (a b : Nat) : nI a &&& nI b = nI (a &&& b) := by
  apply Int32.toBitVec_inj.1
  show BitVec.ofNat 32 a &&& BitVec.ofNat 32 b = BitVec.ofNat 32 (a &&& b)
  apply BitVec.eq_of_getLsbD_eq
  intro i hi
  simp [hi]
theorem fa_or (a b : Nat) : nI a ||| nI b = nI (a ||| b) := by
  apply Int32.toBitVec_inj.1
  show BitVec.ofNat 32 a ||| BitVec.ofNat 32 b = BitVec.ofNat 32 (a ||| b)
  apply BitVec.eq_of_getLsbD_eq
  intro i hi
  simp [hi]
/-- a remainder by a power of two, as a mask -/
theorem fa_mask (n k : Nat) : nI n &&& nI (2 ^ k - 1) = nI (n % 2 ^ k) := by rw [fa_and, Nat.and_two_pow_sub_one_eq_mod]
/-- 'or' of a high part and a low one that don't meet is their sum -/
theorem fa_or_sum {a k : Nat} (b : Nat) (h : a < 2 ^ k) : nI (2 ^ k * b) ||| nI a = nI (2 ^ k * b + a) := by rw [fa_or, Nat.two_pow_add_eq_or_of_lt h]
/-- one bit, by 'and' with a power of two -/
theorem fa_bit {n j : Nat} (hj : j < 31) : nI n &&& nI (2 ^ j) = 0 ↔ n.testBit j = false := by
  have h2 : (2 : Nat) ^ j < 2 ^ 31 := Nat.pow_lt_pow_right (by decide) hj
  have hle : n &&& 2 ^ j ≤ 2 ^ j := Nat.and_le_right
  have e : n &&& 2 ^ j = 0 ↔ n.testBit j = false := by
    constructor
    · intro h
      have h1 : (n &&& 2 ^ j).testBit j = false := by rw [h]; simp
      rw [Nat.testBit_and] at h1
      first | simpa using h1 | simpa [Nat.testBit_two_pow_self] using h1 | simpa [Nat.testBit_two_pow] using h1
    · intro h
      apply Nat.eq_of_testBit_eq
      intro i
      rw [Nat.testBit_and]
      by_cases hi : j = i
      · subst hi; simp [h]
      · first | (simp [Nat.testBit_two_pow, hi]; done) | (simp [Nat.testBit_two_pow_of_ne hi]; done)
  rw [fa_and]
  constructor
  · intro h
    apply e.mp
    rcases Nat.eq_zero_or_pos (n &&& 2 ^ j) with z | z
    · exact z
    · exact absurd h (nI_ne0 z (Nat.lt_of_le_of_lt hle h2))
  · intro h
    rw [e.mpr h]; exact nI_0
/-- a remainder by a power of two of a number that isn't negative, as Java divides -/
theorem fa_rem {a k : Nat} (ha : a < 2 ^ 31) (hk : k < 31) : nI a - nI a / nI (2 ^ k) * nI (2 ^ k) = nI (a % 2 ^ k) := pk_rem ha (Nat.two_pow_pos k) (Nat.pow_lt_pow_right (by decide) hk)
/-! ===== cuts to a byte, a short ===== -/
theorem fa_byte_xor (x y : Int32) : (x ^^^ y).toInt8 = x.toInt8 ^^^ y.toInt8 := by
  apply Int8.toBitVec_inj.1
  apply BitVec.eq_of_getLsbD_eq
  intro i hi
  first | (simp [hi]; done) | (simp [hi, BitVec.getLsbD_setWidth, BitVec.getLsbD_signExtend]; done)
theorem fa_short_xor (x y : Int32) : (x ^^^ y).toInt16 = x.toInt16 ^^^ y.toInt16 := by
  apply Int16.toBitVec_inj.1
  apply BitVec.eq_of_getLsbD_eq
  intro i hi
  first | (simp [hi]; done) | (simp [hi, BitVec.getLsbD_setWidth, BitVec.getLsbD_signExtend]; done)
/-- the cut to a byte sees the low byte alone -/
theorem fa_byte_low (x : Int32) : (x &&& 255).toInt8 = x.toInt8 := by
  apply Int8.toBitVec_inj.1
  apply BitVec.eq_of_getLsbD_eq
  intro i hi
  have h2 : (255 : Int32).toBitVec.getLsbD i = true := by
    have : ∀ j : Fin 8, (255 : Int32).toBitVec.getLsbD j.val = true := by decide +kernel
    exact this ⟨i, hi⟩
  have h4 : (x &&& 255).toBitVec.getLsbD i = x.toBitVec.getLsbD i := by
    show (x.toBitVec &&& (255 : Int32).toBitVec).getLsbD i = _
    rw [BitVec.getLsbD_and, h2, Bool.and_true]
  have h3 : i < 32 := by omega
  first
    | (show (((x &&& 255).toBitVec).signExtend 8).getLsbD i = (x.toBitVec.signExtend 8).getLsbD i; rw [BitVec.getLsbD_signExtend, BitVec.getLsbD_signExtend, if_pos h3, if_pos h3, h4])
    | (show (((x &&& 255).toBitVec).setWidth 8).getLsbD i = (x.toBitVec.setWidth 8).getLsbD i; rw [BitVec.getLsbD_setWidth, BitVec.getLsbD_setWidth, h4])
    | (simp [hi, h3, h4]; done)
theorem fa_short_low (x : Int32) : (x &&& 65535).toInt16 = x.toInt16 := by
  apply Int16.toBitVec_inj.1
  apply BitVec.eq_of_getLsbD_eq
  intro i hi
  have h2 : (65535 : Int32).toBitVec.getLsbD i = true := by
    have : ∀ j : Fin 16, (65535 : Int32).toBitVec.getLsbD j.val = true := by decide +kernel
    exact this ⟨i, hi⟩
  have h4 : (x &&& 65535).toBitVec.getLsbD i = x.toBitVec.getLsbD i := by
    show (x.toBitVec &&& (65535 : Int32).toBitVec).getLsbD i = _
    rw [BitVec.getLsbD_and, h2, Bool.and_true]
  have h3 : i < 32 := by omega
  first
    | (show (((x &&& 65535).toBitVec).signExtend 16).getLsbD i = (x.toBitVec.signExtend 16).getLsbD i; rw [BitVec.getLsbD_signExtend, BitVec.getLsbD_signExtend, if_pos h3, if_pos h3, h4])
    | (show (((x &&& 65535).toBitVec).setWidth 16).getLsbD i = (x.toBitVec.setWidth 16).getLsbD i; rw [BitVec.getLsbD_setWidth, BitVec.getLsbD_setWidth, h4])
    | (simp [hi, h3, h4]; done)
/-- a small number is its own byte, its own short -/
theorem fa_byte_small {n : Nat} (h : n < 128) : (nI n).toInt8.toInt32 = nI n := by
  have : ∀ j : Fin 128, (nI j.val).toInt8.toInt32 = nI j.val := by decide +kernel
  exact this ⟨n, h⟩
/-! ===== absolute difference ===== -/
theorem fa_absdiff {a b : Nat} (ha : a < 2 ^ 31) (hb : b < 2 ^ 31) : (if nI a < nI b then nI b - nI a else nI a - nI b) = nI (if a < b then b - a else a - b) := by
  by_cases h : a < b
  · rw [if_pos (nI_lt h hb), if_pos h]
    exact pk_sub (Nat.le_of_lt h)
  · rw [if_neg (nI_nlt (Nat.le_of_not_lt h) ha), if_neg h]
    exact pk_sub (Nat.le_of_not_lt h)
/-! ===== an array behind i stores, a conditional store, a row copied ===== -/
/-- f where k < i, what stood there else -/
def fa_fill {α : Type} (f g : Nat → α) (i : Nat) : Nat → α := fun k => if k < i then f k else g k
theorem fa_fill_0 {α : Type} (f g : Nat → α) : fa_fill f g 0 = g := funext fun k => if_neg (Nat.not_lt_zero k)
theorem fa_fill_in {α : Type} {f g : Nat → α} {i k : Nat} (h : k < i) : fa_fill f g i k = f k := if_pos h
theorem fa_fill_out {α : Type} {f g : Nat → α} {i k : Nat} (h : i ≤ k) : fa_fill f g i k = g k := if_neg (Nat.not_lt.mpr h)
theorem fa_fill_succ (f g : Nat → Int32) (i : Nat) : upd (fa_fill f g i) i (f i) = fa_fill f g (i + 1) := by
  funext k
  by_cases e : k = i
  · subst e
    rw [pk_us]
    exact (if_pos (Nat.lt_succ_self k)).symm
  · rw [pk_un e]
    by_cases h : k < i
    · rw [fa_fill_in h, fa_fill_in (Nat.lt_succ_of_lt h)]
    · rw [fa_fill_out (Nat.le_of_not_lt h), fa_fill_out (by omega)]
/-- a store that changes nothing -/
theorem fa_upd_same {f : Nat → Int32} {i : Nat} {x : Int32} (h : f i = x) : upd f i x = f := by
  funext k
  by_cases e : k = i
  · subst e
    rw [pk_us, h]
  · rw [pk_un e]
/-- a store under a condition, told as one -/
theorem fa_upd_if (c : Prop) [Decidable c] (f : Nat → Int32) (i : Nat) (x : Int32) : (if c then upd f i x else f) = upd f i (if c then x else f i) := by
  by_cases h : c
  · rw [if_pos h, if_pos h]
  · rw [if_neg h, if_neg h, fa_upd_same rfl]
/-- two stores at one place, at two -/
theorem fa_upd_twice (f : Nat → Int32) (i : Nat) (x y : Int32) : upd (upd f i x) i y = upd f i y := by
  funext k
  by_cases e : k = i
  · subst e
    rw [pk_us, pk_us]
  · rw [pk_un e, pk_un e, pk_un e]
theorem fa_upd_swap (f : Nat → Int32) {i j : Nat} (h : i ≠ j) (x y : Int32) : upd (upd f i x) j y = upd (upd f j y) i x := by
  funext k
  by_cases e : k = i
  · subst e
    rw [pk_un h, pk_us, pk_us]
  · by_cases e2 : k = j
    · subst e2
      rw [pk_us, pk_un e, pk_us]
    · rw [pk_un e2, pk_un e, pk_un e, pk_un e2]
/-! ===== the first index with a property; a count ===== -/
/-- the first k < n with p k, n if there is none -/
def fa_first (p : Nat → Bool) : Nat → Nat
  | 0 => 0
  | n + 1 => if fa_first p n < n then fa_first p n else if p n then n else n + 1
theorem fa_first_le (p : Nat → Bool) : ∀ n, fa_first p n ≤ n
  | 0 => Nat.le_refl 0
  | n + 1 => by
    have ih := fa_first_le p n
    unfold fa_first
    split
    · omega
    · split
      · omega
      · omega
theorem fa_first_no (p : Nat → Bool) : ∀ n k, k < fa_first p n → p k = false
  | 0, k, h => absurd h (Nat.not_lt_zero k)
  | n + 1, k, h => by
    have ih := fa_first_no p n
    have hl := fa_first_le p n
    unfold fa_first at h
    split at h
    · exact ih k h
    · rename_i h1
      split at h
      · exact ih k (by omega)
      · rename_i h2
        by_cases e : k = n
        · subst e
          exact Bool.eq_false_iff.mpr h2
        · exact ih k (by omega)
theorem fa_first_yes (p : Nat → Bool) : ∀ n, fa_first p n < n → p (fa_first p n) = true
  | 0, h => absurd h (Nat.not_lt_zero _)
  | n + 1, h => by
    have ih := fa_first_yes p n
    have hl := fa_first_le p n
    unfold fa_first at h ⊢
    split at h
    · rename_i h1
      rw [if_pos h1]
      exact ih h1
    · rename_i h1
      rw [if_neg h1]
      split at h
      · rename_i h2
        rw [if_pos h2]
        exact h2
      · omega
/-- how many k < n have p k -/
def fa_cnt (p : Nat → Bool) : Nat → Nat
  | 0 => 0
  | n + 1 => fa_cnt p n + if p n then 1 else 0
theorem fa_cnt_le (p : Nat → Bool) : ∀ n, fa_cnt p n ≤ n
  | 0 => Nat.le_refl 0
  | n + 1 => by
    have ih := fa_cnt_le p n
    unfold fa_cnt
    split
    · omega
    · omega
theorem fa_cnt_yes {p : Nat → Bool} {n : Nat} (h : p n = true) : fa_cnt p (n + 1) = fa_cnt p n + 1 := by rw [fa_cnt, if_pos h]
theorem fa_cnt_no {p : Nat → Bool} {n : Nat} (h : p n = false) : fa_cnt p (n + 1) = fa_cnt p n := by rw [fa_cnt, if_neg (by rw [h]; decide)]; rfl
theorem fa_cnt_cong {p q : Nat → Bool} : ∀ {n : Nat}, (∀ k, k < n → p k = q k) → fa_cnt p n = fa_cnt q n
  | 0, _ => rfl
  | n + 1, h => by rw [fa_cnt, fa_cnt, fa_cnt_cong (fun k hk => h k (Nat.lt_succ_of_lt hk)), h n (Nat.lt_succ_self n)]
/-! ===== an answer carried into a post; a branch on a boolean answer ===== -/
theorem fa_post {α : Type} {P : α → Prop} {x y : α} (h : x = y) (hp : P y) : P x := h ▸ hp
theorem fa_post2 {α β : Type} {P : α → β → Prop} {x y : α} {u v : β} (h : x = y) (h2 : u = v) (hp : P y v) : P x u := h ▸ h2 ▸ hp
theorem fa_bool {r : Int32} {b : Bool} (h : r = if b then 1 else 0) : (r = 0 ↔ b = false) ∧ (¬ r = 0 ↔ b = true) := by
  subst h
  cases b
  · exact ⟨⟨fun _ => rfl, fun _ => rfl⟩, ⟨fun h => absurd rfl h, fun h => absurd h (by decide)⟩⟩
  · exact ⟨⟨fun h => absurd h (by decide), fun h => absurd h (by decide)⟩, ⟨fun _ => rfl, fun _ => by decide⟩⟩
/-- a boolean's narrowing changes nothing -/
theorem fa_bool_and {r : Int32} (h : r = 0 ∨ r = 1) : r &&& 1 = r := by
  rcases h with rfl | rfl
  · decide
  · decide
theorem fa_bool_prop {c : Prop} [Decidable c] {r : Int32} (h : r = if c then 1 else 0) : (r = 0 ↔ ¬ c) ∧ (¬ r = 0 ↔ c) := by
  subst h
  by_cases hc : c
  · rw [if_pos hc]
    exact ⟨⟨fun h => absurd h (by decide), fun h => absurd hc h⟩, ⟨fun _ => hc, fun _ => by decide⟩⟩
  · rw [if_neg hc]
    exact ⟨⟨fun _ => hc, fun _ => rfl⟩, ⟨fun h => absurd rfl h, fun h => absurd h hc⟩⟩
/-! plain facts to paste, each family by itself; over the kit's nI, lN and upd -/
/-! ===== drawers: more things than places ===== -/
theorem fb_holes : ∀ (m n : Nat) (f : Nat → Nat), (∀ i, i < n → f i < m) → (∀ i j, i < j → j < n → f i ≠ f j) → n ≤ m := by
  intro m
  induction m with
  | zero =>
    intro n f h1 _
    rcases Nat.eq_zero_or_pos n with h | h
    · omega
    · exact absurd (h1 0 h) (Nat.not_lt_zero _)
  | succ m ih =>
    intro n f h1 h2
    by_cases hx : ∃ i, i < n ∧ f i = m
    · obtain ⟨a, ha, hfa⟩ := hx
      have hg := ih (n - 1) (fun i => if i < a then f i else f (i + 1)) (by
        intro i hi
        by_cases q : i < a
        · simp only [if_pos q]
          have b1 := h1 i (by omega)
          have b2 := h2 i a q ha
          omega
        · simp only [if_neg q]
          have b1 := h1 (i + 1) (by omega)
          have b2 := h2 a (i + 1) (by omega) (by omega)
          omega) (by
        intro i j hij hj
        by_cases q : i < a
        · by_cases r : j < a
          · simp only [if_pos q, if_pos r]
            exact h2 i j hij (by omega)
          · simp only [if_pos q, if_neg r]
            exact h2 i (j + 1) (by omega) (by omega)
        · have r : ¬ j < a := by omega
          simp only [if_neg q, if_neg r]
          exact h2 (i + 1) (j + 1) (by omega) (by omega))
      omega
    · have hg := ih n f (fun i hi => by
        have b1 := h1 i hi
        have b2 : f i ≠ m := fun e => hx ⟨i, hi, e⟩
        omega) h2
      omega
/-- two of them in one place -/
theorem fb_twice {m n : Nat} {f : Nat → Nat} (h : ∀ i, i < n → f i < m) (hm : m < n) : ∃ i j, i < j ∧ j < n ∧ f i = f j := by
  refine Classical.byContradiction fun hx => ?_
  have := fb_holes m n f h (fun i j hij hj e => hx ⟨i, j, hij, hj, e⟩)
  omega
/-- as many as places, none twice: each place is taken -/
theorem fb_onto {n : Nat} {f : Nat → Nat} (h : ∀ i, i < n → f i < n) (h2 : ∀ i j, i < j → j < n → f i ≠ f j) {y : Nat} (hy : y < n) : ∃ i, i < n ∧ f i = y := by
  refine Classical.byContradiction fun hx => ?_
  have hne : ∀ i, i < n → f i ≠ y := fun i hi e => hx ⟨i, hi, e⟩
  have := fb_holes (n - 1) n (fun i => if f i < y then f i else f i - 1) (by
    intro i hi
    have b1 := h i hi
    have b2 := hne i hi
    by_cases q : f i < y
    · simp only [if_pos q]; omega
    · simp only [if_neg q]; omega) (by
    intro i j hij hj
    have b1 := hne i (by omega)
    have b2 := hne j hj
    have b3 := h2 i j hij hj
    by_cases q : f i < y
    · by_cases r : f j < y
      · simp only [if_pos q, if_pos r]; exact b3
      · simp only [if_pos q, if_neg r]; omega
    · by_cases r : f j < y
      · simp only [if_neg q, if_pos r]; omega
      · simp only [if_neg q, if_neg r]; omega)
  omega
/-! ===== how many places have a property ===== -/
def fb_ct (p : Nat → Bool) : Nat → Nat
  | 0 => 0
  | n + 1 => fb_ct p n + (if p n then 1 else 0)
theorem fb_ct_succ (p : Nat → Bool) (n : Nat) : fb_ct p (n + 1) = fb_ct p n + (if p n then 1 else 0) := rfl
theorem fb_ct_le (p : Nat → Bool) : ∀ n, fb_ct p n ≤ n
  | 0 => Nat.le_refl _
  | n + 1 => by
    have h := fb_ct_le p n
    rw [fb_ct_succ]
    split <;> omega
theorem fb_ct_step (p : Nat → Bool) (m : Nat) : ∀ n, fb_ct p m ≤ fb_ct p (m + n)
  | 0 => Nat.le_refl _
  | n + 1 => by
    have h := fb_ct_step p m n
    show fb_ct p m ≤ fb_ct p (m + n + 1)
    rw [fb_ct_succ]
    omega
theorem fb_ct_mono (p : Nat → Bool) {m n : Nat} (h : m ≤ n) : fb_ct p m ≤ fb_ct p n := by
  have := fb_ct_step p m (n - m)
  rwa [Nat.add_sub_cancel' h] at this
theorem fb_ct_cong {p q : Nat → Bool} : ∀ {n : Nat}, (∀ k, k < n → p k = q k) → fb_ct p n = fb_ct q n
  | 0, _ => rfl
  | n + 1, h => by
    rw [fb_ct_succ, fb_ct_succ, fb_ct_cong (fun k hk => h k (by omega)), h n (by omega)]
/-- one place changed -/
theorem fb_ct_out (p : Nat → Bool) (b : Bool) {i n : Nat} (h : n ≤ i) : fb_ct (fun k => if k = i then b else p k) n = fb_ct p n :=
  fb_ct_cong fun k hk => if_neg (by omega)
theorem fb_ct_upd (p : Nat → Bool) (b : Bool) {i : Nat} : ∀ {n : Nat}, i < n → fb_ct (fun k => if k = i then b else p k) n + (if p i then 1 else 0) = fb_ct p n + (if b then 1 else 0)
  | 0, h => absurd h (Nat.not_lt_zero i)
  | n + 1, h => by
    rw [fb_ct_succ, fb_ct_succ]
    rcases Nat.lt_or_ge i n with q | q
    · have := fb_ct_upd p b q
      have e : (if n = i then b else p n) = p n := if_neg (by omega)
      rw [e]
      omega
    · have e : i = n := by omega
      subst e
      rw [fb_ct_out p b (Nat.le_refl _)]
      simp only [if_true]
      omega
theorem fb_ct_sub {p q : Nat → Bool} : ∀ {n : Nat}, (∀ k, k < n → p k = true → q k = true) → fb_ct p n ≤ fb_ct q n
  | 0, _ => Nat.le_refl _
  | n + 1, h => by
    have h1 := fb_ct_sub (n := n) (p := p) (q := q) (fun k hk => h k (by omega))
    have h2 := h n (by omega)
    rw [fb_ct_succ, fb_ct_succ]
    cases hp : p n <;> cases hq : q n <;> simp_all <;> omega
theorem fb_ct_or {p q : Nat → Bool} : ∀ {n : Nat}, (∀ k, k < n → ¬ (p k = true ∧ q k = true)) → fb_ct (fun k => p k || q k) n = fb_ct p n + fb_ct q n
  | 0, _ => rfl
  | n + 1, h => by
    have h1 := fb_ct_or (n := n) (p := p) (q := q) (fun k hk => h k (by omega))
    have h2 := h n (by omega)
    rw [fb_ct_succ, fb_ct_succ, fb_ct_succ, h1]
    cases hp : p n <;> cases hq : q n <;> simp_all <;> omega
theorem fb_ct_not (p : Nat → Bool) : ∀ n, fb_ct p n + fb_ct (fun k => !p k) n = n
  | 0 => rfl
  | n + 1 => by
    have h := fb_ct_not p n
    rw [fb_ct_succ, fb_ct_succ]
    cases p n <;> simp <;> omega
theorem fb_ct_split (p : Nat → Bool) (m : Nat) : ∀ n, fb_ct p (m + n) = fb_ct p m + fb_ct (fun k => p (m + k)) n
  | 0 => rfl
  | n + 1 => by
    have h := fb_ct_split p m n
    show fb_ct p (m + n + 1) = _
    rw [fb_ct_succ, fb_ct_succ, h, Nat.add_assoc]
theorem fb_ct_zero {p : Nat → Bool} : ∀ {n : Nat}, fb_ct p n = 0 ↔ ∀ k, k < n → p k = false
  | 0 => ⟨fun _ k hk => absurd hk (Nat.not_lt_zero k), fun _ => rfl⟩
  | n + 1 => by
    have h := fb_ct_zero (p := p) (n := n)
    rw [fb_ct_succ]
    constructor
    · intro e k hk
      have e1 : fb_ct p n = 0 := by omega
      rcases Nat.lt_or_ge k n with q | q
      · exact h.mp e1 k q
      · have ek : k = n := by omega
        subst ek
        cases hp : p k
        · rfl
        · simp [hp] at e
    · intro a
      rw [h.mpr (fun k hk => a k (by omega)), a n (by omega)]
      rfl
theorem fb_ct_pos {p : Nat → Bool} {n : Nat} : 0 < fb_ct p n ↔ ∃ k, k < n ∧ p k = true := by
  constructor
  · intro h
    refine Classical.byContradiction fun hx => ?_
    have := fb_ct_zero.mpr (fun k hk => by
      cases hp : p k
      · rfl
      · exact absurd ⟨k, hk, hp⟩ hx : ∀ k, k < n → p k = false)
    omega
  · rintro ⟨k, hk, hp⟩
    rcases Nat.eq_zero_or_pos (fb_ct p n) with e | e
    · have := fb_ct_zero.mp e k hk
      rw [this] at hp
      cases hp
    · exact e
theorem fb_ct_all {p : Nat → Bool} {n : Nat} : fb_ct p n = n ↔ ∀ k, k < n → p k = true := by
  have h := fb_ct_not p n
  constructor
  · intro e k hk
    have z : fb_ct (fun k => !p k) n = 0 := by omega
    have := fb_ct_zero.mp z k hk
    cases hp : p k
    · simp [hp] at this
    · rfl
  · intro a
    have z : fb_ct (fun k => !p k) n = 0 := fb_ct_zero.mpr (fun k hk => by simp [a k hk])
    omega
/-- the k-th place with the property -/
theorem fb_ct_kth {p : Nat → Bool} {k : Nat} : ∀ {n : Nat}, k < fb_ct p n → ∃ i, i < n ∧ p i = true ∧ fb_ct p i = k
  | 0, h => absurd h (Nat.not_lt_zero k)
  | n + 1, h => by
    rcases Nat.lt_or_ge k (fb_ct p n) with q | q
    · obtain ⟨i, h1, h2⟩ := fb_ct_kth q
      exact ⟨i, by omega, h2⟩
    · rw [fb_ct_succ] at h
      cases hp : p n
      · simp [hp] at h; omega
      · simp [hp] at h
        exact ⟨n, by omega, hp, by omega⟩
theorem fb_ct_kth_one {p : Nat → Bool} {i j : Nat} (hi : p i = true) (hj : p j = true) (e : fb_ct p i = fb_ct p j) : i = j := by
  have key : ∀ a b : Nat, a < b → p a = true → fb_ct p a < fb_ct p b := by
    intro a b hab ha
    have h := fb_ct_mono p (show a + 1 ≤ b from hab)
    rw [fb_ct_succ, ha] at h
    simp at h
    omega
  rcases Nat.lt_trichotomy i j with q | q | q
  · have := key i j q hi; omega
  · exact q
  · have := key j i q hj; omega
/-! ===== sums over a range: one place changed, parts, bounds ===== -/
def fb_sm (f : Nat → Nat) : Nat → Nat
  | 0 => 0
  | n + 1 => fb_sm f n + f n
theorem fb_sm_succ (f : Nat → Nat) (n : Nat) : fb_sm f (n + 1) = fb_sm f n + f n := rfl
theorem fb_sm_cong {f g : Nat → Nat} : ∀ {n : Nat}, (∀ k, k < n → f k = g k) → fb_sm f n = fb_sm g n
  | 0, _ => rfl
  | n + 1, h => by rw [fb_sm_succ, fb_sm_succ, fb_sm_cong (fun k hk => h k (by omega)), h n (by omega)]
theorem fb_sm_out (f : Nat → Nat) (v : Nat) {i n : Nat} (h : n ≤ i) : fb_sm (fun k => if k = i then v else f k) n = fb_sm f n :=
  fb_sm_cong fun k hk => if_neg (by omega)
theorem fb_sm_upd (f : Nat → Nat) (v : Nat) {i : Nat} : ∀ {n : Nat}, i < n → fb_sm (fun k => if k = i then v else f k) n + f i = fb_sm f n + v
  | 0, h => absurd h (Nat.not_lt_zero i)
  | n + 1, h => by
    rw [fb_sm_succ, fb_sm_succ]
    rcases Nat.lt_or_ge i n with q | q
    · have := fb_sm_upd f v q
      have e : (if n = i then v else f n) = f n := if_neg (by omega)
      rw [e]
      omega
    · have e : i = n := by omega
      subst e
      rw [fb_sm_out f v (Nat.le_refl _)]
      simp only [if_true]
      omega
theorem fb_sm_add (f g : Nat → Nat) : ∀ n, fb_sm (fun k => f k + g k) n = fb_sm f n + fb_sm g n
  | 0 => rfl
  | n + 1 => by
    have h := fb_sm_add f g n
    rw [fb_sm_succ, fb_sm_succ, fb_sm_succ, h]
    omega
theorem fb_sm_le {f g : Nat → Nat} : ∀ {n : Nat}, (∀ k, k < n → f k ≤ g k) → fb_sm f n ≤ fb_sm g n
  | 0, _ => Nat.le_refl _
  | n + 1, h => by
    have h1 := fb_sm_le (n := n) (f := f) (g := g) (fun k hk => h k (by omega))
    have h2 := h n (by omega)
    rw [fb_sm_succ, fb_sm_succ]
    omega
theorem fb_sm_const (c : Nat) : ∀ n, fb_sm (fun _ => c) n = n * c
  | 0 => by rw [Nat.zero_mul]; rfl
  | n + 1 => by rw [fb_sm_succ, fb_sm_const c n, Nat.succ_mul]
theorem fb_sm_bound {f : Nat → Nat} {c n : Nat} (h : ∀ k, k < n → f k ≤ c) : fb_sm f n ≤ n * c := by
  rw [← fb_sm_const c n]
  exact fb_sm_le h
theorem fb_sm_mono (f : Nat → Nat) (m : Nat) : ∀ n, fb_sm f m ≤ fb_sm f (m + n)
  | 0 => Nat.le_refl _
  | n + 1 => by
    have h := fb_sm_mono f m n
    show fb_sm f m ≤ fb_sm f (m + n + 1)
    rw [fb_sm_succ]
    omega
theorem fb_sm_part (f : Nat → Nat) {i n : Nat} (h : i < n) : fb_sm f i + f i ≤ fb_sm f n := by
  have := fb_sm_mono f (i + 1) (n - (i + 1))
  rw [fb_sm_succ, show i + 1 + (n - (i + 1)) = n by omega] at this
  exact this
theorem fb_sm_split (f : Nat → Nat) (m : Nat) : ∀ n, fb_sm f (m + n) = fb_sm f m + fb_sm (fun k => f (m + k)) n
  | 0 => rfl
  | n + 1 => by
    have h := fb_sm_split f m n
    show fb_sm f (m + n + 1) = _
    rw [fb_sm_succ, fb_sm_succ, h, Nat.add_assoc]
theorem fb_sm_zero {f : Nat → Nat} {n : Nat} (h : fb_sm f n = 0) : ∀ k, k < n → f k = 0 := fun k hk => by
  have := fb_sm_part f hk
  omega
/-- the same over whole numbers -/
def fb_si (f : Nat → Int) : Nat → Int
  | 0 => 0
  | n + 1 => fb_si f n + f n
theorem fb_si_succ (f : Nat → Int) (n : Nat) : fb_si f (n + 1) = fb_si f n + f n := rfl
theorem fb_si_cong {f g : Nat → Int} : ∀ {n : Nat}, (∀ k, k < n → f k = g k) → fb_si f n = fb_si g n
  | 0, _ => rfl
  | n + 1, h => by rw [fb_si_succ, fb_si_succ, fb_si_cong (fun k hk => h k (by omega)), h n (by omega)]
theorem fb_si_out (f : Nat → Int) (v : Int) {i n : Nat} (h : n ≤ i) : fb_si (fun k => if k = i then v else f k) n = fb_si f n :=
  fb_si_cong fun k hk => if_neg (by omega)
theorem fb_si_upd (f : Nat → Int) (v : Int) {i : Nat} : ∀ {n : Nat}, i < n → fb_si (fun k => if k = i then v else f k) n = fb_si f n - f i + v
  | 0, h => absurd h (Nat.not_lt_zero i)
  | n + 1, h => by
    rw [fb_si_succ, fb_si_succ]
    rcases Nat.lt_or_ge i n with q | q
    · have := fb_si_upd f v q
      have e : (if n = i then v else f n) = f n := if_neg (by omega)
      rw [e]
      omega
    · have e : i = n := by omega
      subst e
      rw [fb_si_out f v (Nat.le_refl _)]
      simp only [if_true]
      omega
theorem fb_si_add (f g : Nat → Int) : ∀ n, fb_si (fun k => f k + g k) n = fb_si f n + fb_si g n
  | 0 => rfl
  | n + 1 => by
    have h := fb_si_add f g n
    rw [fb_si_succ, fb_si_succ, fb_si_succ, h]
    omega
theorem fb_si_sub (f g : Nat → Int) : ∀ n, fb_si (fun k => f k - g k) n = fb_si f n - fb_si g n
  | 0 => rfl
  | n + 1 => by
    have h := fb_si_sub f g n
    rw [fb_si_succ, fb_si_succ, fb_si_succ, h]
    omega
theorem fb_si_mul (c : Int) (f : Nat → Int) : ∀ n, fb_si (fun k => c * f k) n = c * fb_si f n
  | 0 => (Int.mul_zero c).symm
  | n + 1 => by
    have h := fb_si_mul c f n
    rw [fb_si_succ, fb_si_succ, h, Int.mul_add]
theorem fb_si_split (f : Nat → Int) (m : Nat) : ∀ n, fb_si f (m + n) = fb_si f m + fb_si (fun k => f (m + k)) n
  | 0 => (Int.add_zero _).symm
  | n + 1 => by
    have h := fb_si_split f m n
    show fb_si f (m + n + 1) = _
    rw [fb_si_succ, fb_si_succ, h, Int.add_assoc]
theorem fb_si_nat (f : Nat → Nat) : ∀ n, fb_si (fun k => (f k : Int)) n = (fb_sm f n : Int)
  | 0 => rfl
  | n + 1 => by
    have h := fb_si_nat f n
    rw [fb_si_succ, fb_sm_succ, h]
    omega
theorem fb_si_bound {f : Nat → Int} {c : Int} (hc : 0 ≤ c) : ∀ {n : Nat}, (∀ k, k < n → -c ≤ f k ∧ f k ≤ c) → -(n * c) ≤ fb_si f n ∧ fb_si f n ≤ n * c
  | 0, _ => by simp [fb_si]
  | n + 1, h => by
    have h1 := fb_si_bound (n := n) (f := f) hc (fun k hk => h k (by omega))
    have h2 := h n (by omega)
    have e : ((n + 1 : Nat) : Int) * c = n * c + c := by rw [Int.natCast_add, Int.add_mul]; simp
    rw [fb_si_succ, e]
    omega
/-! ===== bits of a long that isn't negative ===== -/
theorem fb_andL (a b : Nat) : lN a &&& lN b = lN (a &&& b) := by
  apply Int64.toBitVec_inj.1
  show BitVec.ofNat 64 a &&& BitVec.ofNat 64 b = BitVec.ofNat 64 (a &&& b)
  apply BitVec.eq_of_getLsbD_eq
  intro i hi
  simp [hi]
theorem fb_orL (a b : Nat) : lN a ||| lN b = lN (a ||| b) := by
  apply Int64.toBitVec_inj.1
  show BitVec.ofNat 64 a ||| BitVec.ofNat 64 b = BitVec.ofNat 64 (a ||| b)
  apply BitVec.eq_of_getLsbD_eq
  intro i hi
  simp [hi]
theorem fb_xorL (a b : Nat) : lN a ^^^ lN b = lN (a ^^^ b) := by
  apply Int64.toBitVec_inj.1
  show BitVec.ofNat 64 a ^^^ BitVec.ofNat 64 b = BitVec.ofNat 64 (a ^^^ b)
  apply BitVec.eq_of_getLsbD_eq
  intro i hi
  simp [hi]
theorem fb_xorI (a b : Nat) : nI a ^^^ nI b = nI (a ^^^ b) := by
  apply Int32.toBitVec_inj.1
  show BitVec.ofNat 32 a ^^^ BitVec.ofNat 32 b = BitVec.ofNat 32 (a ^^^ b)
  apply BitVec.eq_of_getLsbD_eq
  intro i hi
  simp [hi]
theorem fb_maskL (n k : Nat) : lN n &&& lN (2 ^ k - 1) = lN (n % 2 ^ k) := by rw [fb_andL, Nat.and_two_pow_sub_one_eq_mod]
theorem fb_or_sumL {a k : Nat} (b : Nat) (h : a < 2 ^ k) : lN (2 ^ k * b) ||| lN a = lN (2 ^ k * b + a) := by rw [fb_orL, Nat.two_pow_add_eq_or_of_lt h]
theorem fb_lN_inj {a b : Nat} (ha : a < 2 ^ 63) (hb : b < 2 ^ 63) : lN a = lN b ↔ a = b := by
  constructor
  · intro h
    have h1 : (BitVec.ofNat 64 a).toNat = (BitVec.ofNat 64 b).toNat := congrArg (fun x : Int64 => x.toBitVec.toNat) h
    rw [BitVec.toNat_ofNat, BitVec.toNat_ofNat, Nat.mod_eq_of_lt (by omega), Nat.mod_eq_of_lt (by omega)] at h1
    exact h1
  · rintro rfl; rfl
theorem fb_bit_nat (n j : Nat) : n &&& 2 ^ j = 0 ↔ n.testBit j = false := by
  constructor
  · intro h
    have h1 : (n &&& 2 ^ j).testBit j = false := by rw [h]; simp
    rw [Nat.testBit_and] at h1
    simpa using h1
  · intro h
    apply Nat.eq_of_testBit_eq
    intro i
    rw [Nat.testBit_and]
    by_cases hi : j = i
    · subst hi; simp [h]
    · first | (simp [Nat.testBit_two_pow, hi]; done) | (simp [Nat.testBit_two_pow_of_ne hi]; done)
/-- one bit of a long -/
theorem fb_bitL {n j : Nat} (hj : j < 63) : lN n &&& lN (2 ^ j) = 0 ↔ n.testBit j = false := by
  have h2 : (2 : Nat) ^ j < 2 ^ 63 := Nat.pow_lt_pow_right (by decide) hj
  have hle : n &&& 2 ^ j ≤ 2 ^ j := Nat.and_le_right
  rw [fb_andL, ← fb_bit_nat, show (0 : Int64) = lN 0 from rfl]
  exact fb_lN_inj (by omega) (by decide)
/-- a bit set, a bit taken off -/
theorem fb_bit_set (n j i : Nat) : (n ||| 2 ^ j).testBit i = (n.testBit i || decide (i = j)) := by
  rw [Nat.testBit_or]
  by_cases h : j = i
  · subst h; simp
  · have h2 : ¬ i = j := fun e => h e.symm
    first | (simp [Nat.testBit_two_pow, h, h2]; done) | (simp [Nat.testBit_two_pow_of_ne h, h2]; done)
theorem fb_bit_flip (n j i : Nat) : (n ^^^ 2 ^ j).testBit i = (n.testBit i ^^ decide (i = j)) := by
  rw [Nat.testBit_xor]
  by_cases h : j = i
  · subst h; simp
  · have h2 : ¬ i = j := fun e => h e.symm
    first | (simp [Nat.testBit_two_pow, h, h2]; done) | (simp [Nat.testBit_two_pow_of_ne h, h2]; done)
/-! ===== a stretch of an array written over by a function ===== -/
def fb_put {α : Type} (f g : Nat → α) (a n : Nat) : Nat → α := fun k => if a ≤ k ∧ k < a + n then g (k - a) else f k
theorem fb_put_0 {α : Type} (f g : Nat → α) (a : Nat) : fb_put f g a 0 = f := funext fun k => if_neg (by omega)
theorem fb_put_in {α : Type} {f g : Nat → α} {a n k : Nat} (h1 : a ≤ k) (h2 : k < a + n) : fb_put f g a n k = g (k - a) := if_pos ⟨h1, h2⟩
theorem fb_put_out {α : Type} {f g : Nat → α} {a n k : Nat} (h : k < a ∨ a + n ≤ k) : fb_put f g a n k = f k := if_neg (by omega)
theorem fb_put_succ (f g : Nat → Int32) (a n : Nat) : upd (fb_put f g a n) (a + n) (g n) = fb_put f g a (n + 1) := by
  funext k
  by_cases h : k = a + n
  · subst h
    simp [upd, fb_put]
  · by_cases h1 : a ≤ k ∧ k < a + n
    · have h2 : a ≤ k ∧ k < a + (n + 1) := by omega
      simp only [upd, fb_put, if_neg h, if_pos h1, if_pos h2]
    · have h2 : ¬ (a ≤ k ∧ k < a + (n + 1)) := by omega
      simp only [upd, fb_put, if_neg h, if_neg h1, if_neg h2]
/-- .. from the far end down -/
theorem fb_put_down (f g : Nat → Int32) {a n m : Nat} (h : m < n) : upd (fb_put f (fun k => g (k + (m + 1))) (a + (m + 1)) (n - (m + 1))) (a + m) (g m) = fb_put f (fun k => g (k + m)) (a + m) (n - m) := by
  funext k
  by_cases h0 : k = a + m
  · subst h0
    simp only [upd, if_true]
    rw [fb_put_in (by omega) (by omega)]
    exact congrArg g (by omega)
  · simp only [upd, if_neg h0]
    by_cases h1 : a + (m + 1) ≤ k ∧ k < a + (m + 1) + (n - (m + 1))
    · rw [fb_put_in h1.1 h1.2, fb_put_in (by omega) (by omega)]
      exact congrArg g (by omega)
    · rw [fb_put_out (by omega), fb_put_out (by omega)]
theorem fb_put_cong {α : Type} {f f2 g g2 : Nat → α} {a n : Nat} (hf : ∀ k, (k < a ∨ a + n ≤ k) → f k = f2 k) (hg : ∀ k, k < n → g k = g2 k) : fb_put f g a n = fb_put f2 g2 a n := by
  funext k
  by_cases h : a ≤ k ∧ k < a + n
  · rw [fb_put_in h.1 h.2, fb_put_in h.1 h.2, hg _ (by omega)]
  · rw [fb_put_out (by omega), fb_put_out (by omega), hf _ (by omega)]
/-! ===== the least, the first, the best so far; that there is one alone ===== -/
theorem fb_first {p : Nat → Prop} [DecidablePred p] : ∀ {n : Nat}, (∃ i, i < n ∧ p i) → ∃ i, i < n ∧ p i ∧ ∀ j, j < i → ¬ p j
  | 0, h => by obtain ⟨i, hi, -⟩ := h; exact absurd hi (Nat.not_lt_zero i)
  | n + 1, h => by
    by_cases q : ∃ i, i < n ∧ p i
    · obtain ⟨i, h1, h2⟩ := fb_first q
      exact ⟨i, by omega, h2⟩
    · obtain ⟨i, h1, h2⟩ := h
      have e : i = n := by
        rcases Nat.lt_or_ge i n with r | r
        · exact absurd ⟨i, r, h2⟩ q
        · omega
      subst e
      exact ⟨i, by omega, h2, fun j hj hp => q ⟨j, hj, hp⟩⟩
theorem fb_first_one {p : Nat → Prop} {i j : Nat} (hi : p i) (hi2 : ∀ k, k < i → ¬ p k) (hj : p j) (hj2 : ∀ k, k < j → ¬ p k) : i = j := by
  rcases Nat.lt_trichotomy i j with q | q | q
  · exact absurd hi (hj2 i q)
  · exact q
  · exact absurd hj (hi2 j q)
theorem fb_last {p : Nat → Prop} [DecidablePred p] : ∀ {n : Nat}, (∃ i, i < n ∧ p i) → ∃ i, i < n ∧ p i ∧ ∀ j, i < j → j < n → ¬ p j
  | 0, h => by obtain ⟨i, hi, -⟩ := h; exact absurd hi (Nat.not_lt_zero i)
  | n + 1, h => by
    by_cases q : p n
    · exact ⟨n, by omega, q, fun j h1 h2 => by omega⟩
    · obtain ⟨i, h1, h2⟩ := h
      have hi : i < n := by
        rcases Nat.lt_or_ge i n with r | r
        · exact r
        · have e : i = n := by omega
          subst e
          exact absurd h2 q
      obtain ⟨i2, a1, a2, a3⟩ := fb_last (n := n) ⟨i, hi, h2⟩
      refine ⟨i2, by omega, a2, fun j b1 b2 => ?_⟩
      rcases Nat.lt_or_ge j n with r | r
      · exact a3 j b1 r
      · have e : j = n := by omega
        subst e
        exact q
/-- the first greatest -/
theorem fb_best (f : Nat → Int) : ∀ {n : Nat}, 0 < n → ∃ i, i < n ∧ (∀ j, j < n → f j ≤ f i) ∧ ∀ j, j < i → f j < f i
  | 0, h => absurd h (Nat.lt_irrefl 0)
  | 1, _ => ⟨0, by omega, fun j hj => by have e : j = 0 := by omega
                                         subst e; exact Int.le_refl _, fun j hj => absurd hj (Nat.not_lt_zero j)⟩
  | n + 2, _ => by
    obtain ⟨i, h1, h2, h3⟩ := fb_best f (n := n + 1) (by omega)
    by_cases q : f i < f (n + 1)
    · refine ⟨n + 1, by omega, fun j hj => ?_, fun j hj => ?_⟩
      · rcases Nat.lt_or_ge j (n + 1) with r | r
        · have := h2 j r; omega
        · have e : j = n + 1 := by omega
          subst e; exact Int.le_refl _
      · have := h2 j hj; omega
    · refine ⟨i, by omega, fun j hj => ?_, h3⟩
      rcases Nat.lt_or_ge j (n + 1) with r | r
      · exact h2 j r
      · have e : j = n + 1 := by omega
        subst e; omega
theorem fb_best_one {f : Nat → Int} {n i j : Nat} (hi : i < n) (hi2 : ∀ k, k < n → f k ≤ f i) (hi3 : ∀ k, k < i → f k < f i) (hj : j < n) (hj2 : ∀ k, k < n → f k ≤ f j) (hj3 : ∀ k, k < j → f k < f j) : i = j := by
  rcases Nat.lt_trichotomy i j with q | q | q
  · have a := hj3 i q
    have b := hi2 j hj
    omega
  · exact q
  · have a := hi3 j q
    have b := hj2 i hi
    omega
/-- the first least -/
theorem fb_low (f : Nat → Int) {n : Nat} (h : 0 < n) : ∃ i, i < n ∧ (∀ j, j < n → f i ≤ f j) ∧ ∀ j, j < i → f i < f j := by
  obtain ⟨i, h1, h2, h3⟩ := fb_best (fun k => -f k) h
  exact ⟨i, h1, fun j hj => by have := h2 j hj; omega, fun j hj => by have := h3 j hj; omega⟩
/-! ===== signed ints as whole numbers, within bounds ===== -/
theorem fb_rng (x : Int32) : -2147483648 ≤ x.toInt ∧ x.toInt < 2147483648 := by
  have h1 := Int32.le_toInt x
  have h2 := Int32.toInt_lt x
  omega
theorem fb_bmod {z : Int} (h1 : -2147483648 ≤ z) (h2 : z < 2147483648) : z.bmod (2 ^ 32) = z := by
  rw [Int.bmod_eq_of_le (by omega) (by omega)]
theorem fb_addI {x y : Int32} (h1 : -2147483648 ≤ x.toInt + y.toInt) (h2 : x.toInt + y.toInt < 2147483648) : (x + y).toInt = x.toInt + y.toInt := by
  rw [Int32.toInt_add, fb_bmod h1 h2]
theorem fb_subI {x y : Int32} (h1 : -2147483648 ≤ x.toInt - y.toInt) (h2 : x.toInt - y.toInt < 2147483648) : (x - y).toInt = x.toInt - y.toInt := by
  rw [Int32.toInt_sub, fb_bmod h1 h2]
theorem fb_mulI {x y : Int32} (h1 : -2147483648 ≤ x.toInt * y.toInt) (h2 : x.toInt * y.toInt < 2147483648) : (x * y).toInt = x.toInt * y.toInt := by
  rw [Int32.toInt_mul, fb_bmod h1 h2]
theorem fb_negI {x : Int32} (h : x.toInt ≠ -2147483648) : (-x).toInt = -x.toInt := by
  have := fb_rng x
  rw [Int32.toInt_neg, fb_bmod (by omega) (by omega)]
theorem fb_ofI {z : Int} (h1 : -2147483648 ≤ z) (h2 : z < 2147483648) : (Int32.ofInt z).toInt = z := by
  rw [Int32.toInt_ofInt, fb_bmod h1 h2]
theorem fb_asI (x : Int32) : Int32.ofInt x.toInt = x := Int32.ofInt_toInt x
theorem fb_rngL (x : Int64) : -9223372036854775808 ≤ x.toInt ∧ x.toInt < 9223372036854775808 := by
  have h1 := Int64.le_toInt x
  have h2 := Int64.toInt_lt x
  omega
theorem fb_bmodL {z : Int} (h1 : -9223372036854775808 ≤ z) (h2 : z < 9223372036854775808) : z.bmod (2 ^ 64) = z := by
  rw [Int.bmod_eq_of_le (by omega) (by omega)]
theorem fb_addL {x y : Int64} (h1 : -9223372036854775808 ≤ x.toInt + y.toInt) (h2 : x.toInt + y.toInt < 9223372036854775808) : (x + y).toInt = x.toInt + y.toInt := by
  rw [Int64.toInt_add, fb_bmodL h1 h2]
theorem fb_subL {x y : Int64} (h1 : -9223372036854775808 ≤ x.toInt - y.toInt) (h2 : x.toInt - y.toInt < 9223372036854775808) : (x - y).toInt = x.toInt - y.toInt := by
  rw [Int64.toInt_sub, fb_bmodL h1 h2]
theorem fb_mulL {x y : Int64} (h1 : -9223372036854775808 ≤ x.toInt * y.toInt) (h2 : x.toInt * y.toInt < 9223372036854775808) : (x * y).toInt = x.toInt * y.toInt := by
  rw [Int64.toInt_mul, fb_bmodL h1 h2]
/-! ===== cuts of what is narrow already ===== -/
theorem fb_byte {x : Int32} (h1 : -128 ≤ x.toInt) (h2 : x.toInt < 128) : x.toInt8.toInt32 = x := by
  apply Int32.toInt_inj.1
  rw [Int8.toInt_toInt32, Int32.toInt_toInt8, Int.bmod_eq_of_le (by omega) (by omega)]
theorem fb_short {x : Int32} (h1 : -32768 ≤ x.toInt) (h2 : x.toInt < 32768) : x.toInt16.toInt32 = x := by
  apply Int32.toInt_inj.1
  rw [Int16.toInt_toInt32, Int32.toInt_toInt16, Int.bmod_eq_of_le (by omega) (by omega)]
theorem fb_byte_rng (x : Int32) : -128 ≤ x.toInt8.toInt32.toInt ∧ x.toInt8.toInt32.toInt < 128 := by
  rw [Int8.toInt_toInt32]
  have h1 := Int8.le_toInt x.toInt8
  have h2 := Int8.toInt_lt x.toInt8
  omega
theorem fb_short_rng (x : Int32) : -32768 ≤ x.toInt16.toInt32.toInt ∧ x.toInt16.toInt32.toInt < 32768 := by
  rw [Int16.toInt_toInt32]
  have h1 := Int16.le_toInt x.toInt16
  have h2 := Int16.toInt_lt x.toInt16
  omega
theorem fb_byte_twice (x : Int32) : x.toInt8.toInt32.toInt8.toInt32 = x.toInt8.toInt32 := fb_byte (fb_byte_rng x).1 (fb_byte_rng x).2
theorem fb_short_twice (x : Int32) : x.toInt16.toInt32.toInt16.toInt32 = x.toInt16.toInt32 := fb_short (fb_short_rng x).1 (fb_short_rng x).2
theorem fb_char {n : Nat} (h : n < 65536) : (nI n).toUInt32.toUInt16.toUInt32.toInt32 = nI n := by
  apply Int32.toBitVec_inj.1
  apply BitVec.eq_of_toNat_eq
  have e1 : (nI n).toBitVec.toNat = n := by
    show (BitVec.ofNat 32 n).toNat = n
    rw [BitVec.toNat_ofNat, Nat.mod_eq_of_lt (by omega)]
  have e2 : ((nI n).toUInt32.toUInt16.toUInt32).toNat = n := by
    rw [UInt16.toNat_toUInt32, UInt32.toNat_toUInt16]
    show (nI n).toBitVec.toNat % 2 ^ 16 = n
    rw [e1, Nat.mod_eq_of_lt (by omega)]
  rw [e1]
  exact e2
end
section
/-- the kinds of array class -/
abbrev xTy (cI cZ : ClassId) : List (ClassId × FieldType) := [(cI, .int), (cZ, .boolean)]
/-- the calls of a nest mate's private method: own, entry, method, host -/
def xNw : List (String × Nat × MethodName × String) := [(RX1, 50, yX4_one, "KeyScanner"), (RX1, 17, yX2_init, "KeyScanner"), (RX4, 11, yX1_init, "KeyScanner"), (RX4, 18, yX0_init, "KeyScanner")]
def xNs (U : State) : Prop := ∀ q ∈ xNw, va_Nw (.methodLinkNest q.1 q.2.1 q.2.2.1 q.2.2.2) U
theorem xNs.warm {s U : State} (hW : s.WarmedH U.vm) (h : xNs s) : xNs U := fun q hq => va_Nw.warmM hW (h q hq)
theorem xNs.same {u U : State} (hv : u.vm = U.vm) (h : xNs u) : xNs U := fun q hq => va_Nw.same rfl hv (h q hq)
/-- a boolean as the machine has it -/
def bI (b : Bool) : Int32 := if b then 1 else 0
def xB (f : Nat → Bool) : Nat → Int32 := fun j => bI (f j)
def xN (f : Nat → Nat) : Nat → Int32 := fun j => nI (f j)
def updB (f : Nat → Bool) (k : Nat) (x : Bool) : Nat → Bool := fun j => if j = k then x else f j
def updN (f : Nat → Nat) (k : Nat) (x : Nat) : Nat → Nat := fun j => if j = k then x else f j
theorem upd_xN (f : Nat → Nat) (k x : Nat) : upd (xN f) k (nI x) = xN (updN f k x) := by
  funext j
  by_cases h : j = k
  · simp [upd, updN, xN, h]
  · simp [upd, updN, xN, h]
theorem nar_bI (b : Bool) : vp_nar .boolean (bI b) = bI b := by cases b <;> rfl
theorem upd_xB (f : Nat → Bool) (k : Nat) (x : Bool) : upd (xB f) k (vp_nar .boolean (bI x)) = xB (updB f k x) := by
  rw [nar_bI]
  funext j
  by_cases h : j = k
  · simp [upd, updB, xB, h]
  · simp [upd, updB, xB, h]
theorem narrow_bI (b : Bool) : narrow .boolean (.int (bI b)) = .int (bI b) := by cases b <;> rfl
theorem fits_bI (b : Bool) : fits .boolean (.int (bI b)) = true := by cases b <;> rfl
theorem bnt {b : Bool} (h : b = false) : ¬ b = true := by rw [h]; decide
theorem bI_eq0 (b : Bool) : bI b = 0 ↔ b = false := by cases b <;> decide
theorem bI_ne0 (b : Bool) : ¬ bI b = 0 ↔ b = true := by cases b <;> decide
theorem bI_inj (a b : Bool) : bI a = bI b ↔ a = b := by cases a <;> cases b <;> decide
theorem bI_dec (P : Prop) [Decidable P] : bI (decide P) = if P then 1 else 0 := by
  by_cases h : P <;> simp [bI, h]
theorem xclamp {k : Nat} (h : k < 2 ^ 31) : (nI k).toNatClampNeg = k := nI_clamp h
theorem xvpin {k n : Nat} (hk : k < n) (hn : n < 2 ^ 31) : vp_in (nI k) n := nI_in hk hn
theorem xI_add (a b : Nat) : nI a + nI b = nI (a + b) := (Int32.ofNat_add a b).symm
theorem xI_mul (a b : Nat) : nI a * nI b = nI (a * b) := (Int32.ofNat_mul a b).symm
theorem xI_sub {a b : Nat} (h : b ≤ a) : nI a - nI b = nI (a - b) := by
  have h1 : nI (a - b) + nI b = nI a := by rw [xI_add, Nat.sub_add_cancel h]
  rw [← h1, Int32.add_sub_cancel]
theorem xI_lt {a b : Nat} (ha : a < 2 ^ 31) (hb : b < 2 ^ 31) : nI a < nI b ↔ a < b := by
  rw [Int32.lt_iff_toInt_lt, nI_toInt ha, nI_toInt hb]; omega
theorem xI_le {a b : Nat} (ha : a < 2 ^ 31) (hb : b < 2 ^ 31) : nI a ≤ nI b ↔ a ≤ b := by
  rw [Int32.le_iff_toInt_le, nI_toInt ha, nI_toInt hb]; omega
theorem xI_inj {a b : Nat} (ha : a < 2 ^ 31) (hb : b < 2 ^ 31) : nI a = nI b ↔ a = b := by
  rw [← Int32.toInt_inj, nI_toInt ha, nI_toInt hb]; omega
theorem xI_div {a b : Nat} (ha : a < 2 ^ 31) (h0 : 0 < b) (hb : b < 2 ^ 31) : nI a / nI b = nI (a / b) := pk_div ha h0 hb
theorem xI_rem {a b : Nat} (ha : a < 2 ^ 31) (h0 : 0 < b) (hb : b < 2 ^ 31) : nI a - nI a / nI b * nI b = nI (a % b) := pk_rem ha h0 hb
theorem xI_shl {a c : Nat} (hc : c < 32) : nI a <<< (nI c &&& 31) = nI (a <<< c) := by
  apply Int32.toBitVec_inj.mp
  rw [Int32.toBitVec_shiftLeft]
  have h : ((nI c &&& 31).toBitVec.smod 32).toNat = c := (by decide +kernel : ∀ n, n < 32 → ((nI n &&& 31).toBitVec.smod 32).toNat = n) c hc
  show (nI a).toBitVec <<< ((nI c &&& 31).toBitVec.smod 32).toNat = _
  rw [h]
  apply BitVec.eq_of_toNat_eq
  show _ = (BitVec.ofNat 32 (a <<< c)).toNat
  rw [BitVec.toNat_shiftLeft, BitVec.toNat_ofNat]
  show ((BitVec.ofNat 32 a).toNat <<< c) % 2 ^ 32 = _
  rw [BitVec.toNat_ofNat, Nat.shiftLeft_eq, Nat.shiftLeft_eq, Nat.mod_mul_mod]
theorem xI_shr {a c : Nat} (ha : a < 2 ^ 31) (hc : c < 32) : nI a >>> (nI c &&& 31) = nI (a >>> c) := by
  apply Int32.toBitVec_inj.mp
  rw [Int32.toBitVec_shiftRight]
  have h : ((nI c &&& 31).toBitVec.smod 32).toNat = c := (by decide +kernel : ∀ n, n < 32 → ((nI n &&& 31).toBitVec.smod 32).toNat = n) c hc
  show (nI a).toBitVec.sshiftRight ((nI c &&& 31).toBitVec.smod 32).toNat = _
  rw [h]
  have h2 : (nI a).toBitVec = BitVec.ofNat 32 a := rfl
  rw [h2, BitVec.sshiftRight_eq_of_msb_false]
  · apply BitVec.eq_of_toNat_eq
    show _ = (BitVec.ofNat 32 (a >>> c)).toNat
    have h3 : a >>> c ≤ a := by rw [Nat.shiftRight_eq_div_pow]; exact Nat.div_le_self _ _
    rw [BitVec.toNat_ushiftRight, BitVec.toNat_ofNat, BitVec.toNat_ofNat, Nat.mod_eq_of_lt (by omega), Nat.mod_eq_of_lt (by omega)]
  · rw [BitVec.msb_eq_decide]
    simp
    omega
/-- what stays all through a method's run -/
def xE (p : Program) (s : State) (m : MethodId) (args : Array Value) (meth : Method) (c : Code) (cc : ByteArray) (own : String) (Ts : List Cond) (nL : Nat) (D : va_G) (cI cZ : ClassId) (A : Nat → Prop) : Prop :=
  p.tables.exec = Jvm.exec ∧ c.code = cc ∧ c.maxLocals = nL ∧ s.vm.findClass own = some m.cls ∧ (∀ w ∈ Ts, w.before args s = true) ∧ va_K D vwCl (xTy cI cZ) s ∧ xNs s ∧ (∀ q : Nat, s.heap.size ≤ q → A q) ∧ meth.locks = false
/-- from a world ws, with locals lv, at pc with a stack st, the machine comes to Q -/
def X (p : Program) (l : Launch) (e : Env) (R : Room) (s : State) (m : MethodId) (args : Array Value) (below : List Frame) (meth : Method) (c : Code) (cells slots : Nat) (Q : State → Prop) (nL : Nat) (D : va_G) (A : Nat → Prop) (ws : va_W) (lv : List (Nat × Value)) (pc : Nat) (st : List Value) : Prop :=
  ∀ (H : Heap) (locs : List Loc) (ls : Array Slot), va_P D vwCl ws H → va_D A ws → va_S A s.heap H locs → lv_has ls nL lv → W p l e R s m args below meth c H locs cells slots Q (F0 m pc ls st)
/-- a method's end: an answer v and a world w with T v w -/
def xQ (D : va_G) (T : Option Value → va_W → Prop) (A : Nat → Prop) : Array Value → State → Outcome → State → Prop := fun _ st o t =>
  ∃ (v : Option Value) (w : va_W), o = .returned v ∧ T v w ∧ va_P D vwCl w t.heap ∧ va_D A w ∧ va_F A st t
/-- a method's contract: from the world W0 with the arguments av it returns, with T v w -/
def xC (l : Launch) (y : MethodName) (wsy : List Cond) (fr cs ss lo : Nat) (D : va_G) (cI cZ : ClassId) (av : List Value) (W0 : va_W) (T : Option Value → va_W → Prop) : Prop :=
  ∀ sz : Nat, Met l y wsy { frames := fr, cells := cs, slots := ss, locals := lo } (va_Pc av (fun U => U.heap.size = sz ∧ va_P D vwCl W0 U.heap ∧ va_K D vwCl (xTy cI cZ) U ∧ xNs U ∧ va_D (fun _ => True) W0)) (xQ D T (va_A W0 sz)) cs ss (va_A W0 sz)
/-- a field that a method reads (by its entry: the class's number, the place) -/
def xF (own : String) (Ts : List Cond) (index ci k : Nat) : Prop := ∃ (ref C : String) (T : u_T) (N : Nat), (∀ w ∈ u_ws C T N, w ∈ Ts) ∧ vwCl[ci]? = some (C, T, N) ∧ k < N ∧ Cond.fieldLink own index ref (T k).2.1 (T k).2.2.1 ∈ Ts ∧ (T k).1 = ref
/-- a field that a method writes -/
def xP (own : String) (Ts : List Cond) (index ci k : Nat) (fin : Bool) (ty : FieldType) : Prop := ∃ (ref C : String) (T : u_T) (N : Nat) (ty0 : Nat → FieldType), (∀ w ∈ u_ws C T N, w ∈ Ts) ∧ vwCl[ci]? = some (C, T, N) ∧ k < N ∧ Cond.fieldLink own index ref (T k).2.1 (T k).2.2.1 ∈ Ts ∧ (T k).1 = ref ∧ (∀ k, k < N → parseFieldDescriptor (T k).2.2.1 = some (ty0 k)) ∧ (∀ a, a < N → ∀ b, b < N → a ≠ b → (T a).2.1 ≠ (T b).2.1) ∧ (T k).2.2.2 = fin ∧ parseFieldDescriptor (T k).2.2.1 = some ty ∧ (fin = true → (T k).1 = own)
section
variable {p : Program} {l : Launch} {e : Env} {R : Room} {s : State} {m : MethodId} {args : Array Value} {below : List Frame} {meth : Method} {c : Code} {cells slots : Nat} {Q : State → Prop} {cc : ByteArray} {own : String} {Ts : List Cond} {nL : Nat} {D : va_G} {cI cZ : ClassId} {A : Nat → Prop} {ws : va_W} {lv : List (Nat × Value)} {pc : Nat} {st : List Value}
theorem x_iconst (hE : xE p s m args meth c cc own Ts nL D cI cZ A) {n : Int} (v : Int32) (hv : Int32.ofInt n = v) (hdg : decode cc pc = .ok (.iconst n, 1)) (kk : X p l e R s m args below meth c cells slots Q nL D A ws lv (pc + 1) (.int v :: st)) : X p l e R s m args below meth c cells slots Q nL D A ws lv pc st := fun H locs ls hP hD hS hl => lv_iconst hE.1 hE.2.1 hdg hv (kk H locs ls hP hD hS hl)
theorem x_bipush (hE : xE p s m args meth c cc own Ts nL D cI cZ A) {n : Int} (v : Int32) (hv : (Int8.ofInt n).toInt32 = v) (hdg : decode cc pc = .ok (.bipush n, 2)) (kk : X p l e R s m args below meth c cells slots Q nL D A ws lv (pc + 2) (.int v :: st)) : X p l e R s m args below meth c cells slots Q nL D A ws lv pc st := fun H locs ls hP hD hS hl => lv_bipush hE.1 hE.2.1 hdg hv (kk H locs ls hP hD hS hl)
theorem x_sipush (hE : xE p s m args meth c cc own Ts nL D cI cZ A) {n : Int} (v : Int32) (hv : (Int16.ofInt n).toInt32 = v) (hdg : decode cc pc = .ok (.sipush n, 3)) (kk : X p l e R s m args below meth c cells slots Q nL D A ws lv (pc + 3) (.int v :: st)) : X p l e R s m args below meth c cells slots Q nL D A ws lv pc st := fun H locs ls hP hD hS hl => lv_sipush hE.1 hE.2.1 hdg hv (kk H locs ls hP hD hS hl)
theorem x_iload_n (hE : xE p s m args meth c cc own Ts nL D cI cZ A) {k : Fin 4} {x : Int32} (q : Nat) (h : lv[q]? = some ((k : Nat), .int x)) (hdg : decode cc pc = .ok (.iload_n k, 1)) (kk : X p l e R s m args below meth c cells slots Q nL D A ws lv (pc + 1) (.int x :: st)) : X p l e R s m args below meth c cells slots Q nL D A ws lv pc st := fun H locs ls hP hD hS hl => lv_iload_n hE.1 hE.2.1 hdg rfl (lv_at hl q h) (kk H locs ls hP hD hS hl)
theorem x_iload (hE : xE p s m args meth c cc own Ts nL D cI cZ A) {i : Nat} {x : Int32} (q : Nat) (h : lv[q]? = some (i, .int x)) (hdg : decode cc pc = .ok (.iload i, 2)) (kk : X p l e R s m args below meth c cells slots Q nL D A ws lv (pc + 2) (.int x :: st)) : X p l e R s m args below meth c cells slots Q nL D A ws lv pc st := fun H locs ls hP hD hS hl => lv_iload hE.1 hE.2.1 hdg (lv_at hl q h) (kk H locs ls hP hD hS hl)
theorem x_istore_n (hE : xE p s m args meth c cc own Ts nL D cI cZ A) {k : Fin 4} {x : Int32} (lv' : List (Nat × Value)) (hn : (k : Nat) < nL) (hlv : ((k : Nat), Value.int x) :: lv.filter (fun q => !(q.1 == (k : Nat)) && !(q.1 + 1 == (k : Nat) && q.2.category == 2)) = lv') (hdg : decode cc pc = .ok (.istore_n k, 1)) (kk : X p l e R s m args below meth c cells slots Q nL D A ws lv' (pc + 1) st) : X p l e R s m args below meth c cells slots Q nL D A ws lv pc (.int x :: st) := fun H locs ls hP hD hS hl => lv_istore_n hE.1 hE.2.1 hdg rfl hl hn hlv (fun ls' hl' => kk H locs ls' hP hD hS hl')
theorem x_istore (hE : xE p s m args meth c cc own Ts nL D cI cZ A) {i : Nat} {x : Int32} (lv' : List (Nat × Value)) (hn : i < nL) (hlv : (i, Value.int x) :: lv.filter (fun q => !(q.1 == i) && !(q.1 + 1 == i && q.2.category == 2)) = lv') (hdg : decode cc pc = .ok (.istore i, 2)) (kk : X p l e R s m args below meth c cells slots Q nL D A ws lv' (pc + 2) st) : X p l e R s m args below meth c cells slots Q nL D A ws lv pc (.int x :: st) := fun H locs ls hP hD hS hl => lv_istore hE.1 hE.2.1 hdg hl hn hlv (fun ls' hl' => kk H locs ls' hP hD hS hl')
theorem x_aload_n (hE : xE p s m args meth c cc own Ts nL D cI cZ A) {k : Fin 4} {x : Nat} (q : Nat) (h : lv[q]? = some ((k : Nat), .ref x)) (hdg : decode cc pc = .ok (.aload_n k, 1)) (kk : X p l e R s m args below meth c cells slots Q nL D A ws lv (pc + 1) (.ref x :: st)) : X p l e R s m args below meth c cells slots Q nL D A ws lv pc st := fun H locs ls hP hD hS hl => lv_aload_n hE.1 hE.2.1 hdg rfl (lv_at hl q h) (kk H locs ls hP hD hS hl)
theorem x_aload (hE : xE p s m args meth c cc own Ts nL D cI cZ A) {i : Nat} {x : Nat} (q : Nat) (h : lv[q]? = some (i, .ref x)) (hdg : decode cc pc = .ok (.aload i, 2)) (kk : X p l e R s m args below meth c cells slots Q nL D A ws lv (pc + 2) (.ref x :: st)) : X p l e R s m args below meth c cells slots Q nL D A ws lv pc st := fun H locs ls hP hD hS hl => lv_aload hE.1 hE.2.1 hdg (lv_at hl q h) (kk H locs ls hP hD hS hl)
theorem x_astore_n (hE : xE p s m args meth c cc own Ts nL D cI cZ A) {k : Fin 4} {x : Nat} (lv' : List (Nat × Value)) (hn : (k : Nat) < nL) (hlv : ((k : Nat), Value.ref x) :: lv.filter (fun q => !(q.1 == (k : Nat)) && !(q.1 + 1 == (k : Nat) && q.2.category == 2)) = lv') (hdg : decode cc pc = .ok (.astore_n k, 1)) (kk : X p l e R s m args below meth c cells slots Q nL D A ws lv' (pc + 1) st) : X p l e R s m args below meth c cells slots Q nL D A ws lv pc (.ref x :: st) := fun H locs ls hP hD hS hl => lv_astore_n hE.1 hE.2.1 hdg rfl hl hn hlv (fun ls' hl' => kk H locs ls' hP hD hS hl')
theorem x_astore (hE : xE p s m args meth c cc own Ts nL D cI cZ A) {i : Nat} {x : Nat} (lv' : List (Nat × Value)) (hn : i < nL) (hlv : (i, Value.ref x) :: lv.filter (fun q => !(q.1 == i) && !(q.1 + 1 == i && q.2.category == 2)) = lv') (hdg : decode cc pc = .ok (.astore i, 2)) (kk : X p l e R s m args below meth c cells slots Q nL D A ws lv' (pc + 2) st) : X p l e R s m args below meth c cells slots Q nL D A ws lv pc (.ref x :: st) := fun H locs ls hP hD hS hl => lv_astore hE.1 hE.2.1 hdg hl hn hlv (fun ls' hl' => kk H locs ls' hP hD hS hl')
theorem x_iinc (hE : xE p s m args meth c cc own Ts nL D cI cZ A) {i : Nat} {n : Int} {x : Int32} (v : Int32) (lv' : List (Nat × Value)) (q : Nat) (hk : lv[q]? = some (i, .int x)) (hv : x + Int32.ofInt n = v) (hn : i < nL) (hlv : (i, Value.int v) :: lv.filter (fun q => !(q.1 == i) && !(q.1 + 1 == i && q.2.category == 2)) = lv') (hdg : decode cc pc = .ok (.iinc i n, 3)) (kk : X p l e R s m args below meth c cells slots Q nL D A ws lv' (pc + 3) st) : X p l e R s m args below meth c cells slots Q nL D A ws lv pc st := fun H locs ls hP hD hS hl => lv_iinc hE.1 hE.2.1 hdg hl hk hv hn hlv (fun ls' hl' => kk H locs ls' hP hD hS hl')
theorem x_iadd (hE : xE p s m args meth c cc own Ts nL D cI cZ A) {x y : Int32} (v : Int32) (hv : x + y = v) (hdg : decode cc pc = .ok (.iadd, 1)) (kk : X p l e R s m args below meth c cells slots Q nL D A ws lv (pc + 1) (.int v :: st)) : X p l e R s m args below meth c cells slots Q nL D A ws lv pc (.int y :: .int x :: st) := fun H locs ls hP hD hS hl => lv_iadd hE.1 hE.2.1 hdg (by rw [hv]; exact (kk H locs ls hP hD hS hl))
theorem x_isub (hE : xE p s m args meth c cc own Ts nL D cI cZ A) {x y : Int32} (v : Int32) (hv : x - y = v) (hdg : decode cc pc = .ok (.isub, 1)) (kk : X p l e R s m args below meth c cells slots Q nL D A ws lv (pc + 1) (.int v :: st)) : X p l e R s m args below meth c cells slots Q nL D A ws lv pc (.int y :: .int x :: st) := fun H locs ls hP hD hS hl => lv_isub hE.1 hE.2.1 hdg (by rw [hv]; exact (kk H locs ls hP hD hS hl))
theorem x_imul (hE : xE p s m args meth c cc own Ts nL D cI cZ A) {x y : Int32} (v : Int32) (hv : x * y = v) (hdg : decode cc pc = .ok (.imul, 1)) (kk : X p l e R s m args below meth c cells slots Q nL D A ws lv (pc + 1) (.int v :: st)) : X p l e R s m args below meth c cells slots Q nL D A ws lv pc (.int y :: .int x :: st) := fun H locs ls hP hD hS hl => lv_imul hE.1 hE.2.1 hdg (by rw [hv]; exact (kk H locs ls hP hD hS hl))
theorem x_iand (hE : xE p s m args meth c cc own Ts nL D cI cZ A) {x y : Int32} (v : Int32) (hv : x &&& y = v) (hdg : decode cc pc = .ok (.iand, 1)) (kk : X p l e R s m args below meth c cells slots Q nL D A ws lv (pc + 1) (.int v :: st)) : X p l e R s m args below meth c cells slots Q nL D A ws lv pc (.int y :: .int x :: st) := fun H locs ls hP hD hS hl => lv_iand hE.1 hE.2.1 hdg (by rw [hv]; exact (kk H locs ls hP hD hS hl))
theorem x_ior (hE : xE p s m args meth c cc own Ts nL D cI cZ A) {x y : Int32} (v : Int32) (hv : x ||| y = v) (hdg : decode cc pc = .ok (.ior, 1)) (kk : X p l e R s m args below meth c cells slots Q nL D A ws lv (pc + 1) (.int v :: st)) : X p l e R s m args below meth c cells slots Q nL D A ws lv pc (.int y :: .int x :: st) := fun H locs ls hP hD hS hl => lv_ior hE.1 hE.2.1 hdg (by rw [hv]; exact (kk H locs ls hP hD hS hl))
theorem x_ixor (hE : xE p s m args meth c cc own Ts nL D cI cZ A) {x y : Int32} (v : Int32) (hv : x ^^^ y = v) (hdg : decode cc pc = .ok (.ixor, 1)) (kk : X p l e R s m args below meth c cells slots Q nL D A ws lv (pc + 1) (.int v :: st)) : X p l e R s m args below meth c cells slots Q nL D A ws lv pc (.int y :: .int x :: st) := fun H locs ls hP hD hS hl => lv_ixor hE.1 hE.2.1 hdg (by rw [hv]; exact (kk H locs ls hP hD hS hl))
theorem x_idiv (hE : xE p s m args meth c cc own Ts nL D cI cZ A) {x y : Int32} (v : Int32) (hne : ¬ y = 0) (hv : x / y = v) (hdg : decode cc pc = .ok (.idiv, 1)) (kk : X p l e R s m args below meth c cells slots Q nL D A ws lv (pc + 1) (.int v :: st)) : X p l e R s m args below meth c cells slots Q nL D A ws lv pc (.int y :: .int x :: st) := fun H locs ls hP hD hS hl => lv_idiv hE.1 hE.2.1 hdg hne (by rw [hv]; exact (kk H locs ls hP hD hS hl))
theorem x_irem (hE : xE p s m args meth c cc own Ts nL D cI cZ A) {x y : Int32} (v : Int32) (hne : ¬ y = 0) (hv : x - x / y * y = v) (hdg : decode cc pc = .ok (.irem, 1)) (kk : X p l e R s m args below meth c cells slots Q nL D A ws lv (pc + 1) (.int v :: st)) : X p l e R s m args below meth c cells slots Q nL D A ws lv pc (.int y :: .int x :: st) := fun H locs ls hP hD hS hl => lv_irem hE.1 hE.2.1 hdg hne (by rw [hv]; exact (kk H locs ls hP hD hS hl))
theorem x_ishl (hE : xE p s m args meth c cc own Ts nL D cI cZ A) {x y : Int32} (v : Int32) (hv : x <<< (y &&& 31) = v) (hdg : decode cc pc = .ok (.ishl, 1)) (kk : X p l e R s m args below meth c cells slots Q nL D A ws lv (pc + 1) (.int v :: st)) : X p l e R s m args below meth c cells slots Q nL D A ws lv pc (.int y :: .int x :: st) := fun H locs ls hP hD hS hl => lv_ishl hE.1 hE.2.1 hdg (by rw [hv]; exact (kk H locs ls hP hD hS hl))
theorem x_ishr (hE : xE p s m args meth c cc own Ts nL D cI cZ A) {x y : Int32} (v : Int32) (hv : x >>> (y &&& 31) = v) (hdg : decode cc pc = .ok (.ishr, 1)) (kk : X p l e R s m args below meth c cells slots Q nL D A ws lv (pc + 1) (.int v :: st)) : X p l e R s m args below meth c cells slots Q nL D A ws lv pc (.int y :: .int x :: st) := fun H locs ls hP hD hS hl => lv_ishr hE.1 hE.2.1 hdg (by rw [hv]; exact (kk H locs ls hP hD hS hl))
theorem x_ineg (hE : xE p s m args meth c cc own Ts nL D cI cZ A) {x : Int32} (v : Int32) (hv : -x = v) (hdg : decode cc pc = .ok (.ineg, 1)) (kk : X p l e R s m args below meth c cells slots Q nL D A ws lv (pc + 1) (.int v :: st)) : X p l e R s m args below meth c cells slots Q nL D A ws lv pc (.int x :: st) := fun H locs ls hP hD hS hl => lv_ineg hE.1 hE.2.1 hdg (by rw [hv]; exact (kk H locs ls hP hD hS hl))
theorem x_iushr (hE : xE p s m args meth c cc own Ts nL D cI cZ A) {x y : Int32} (v : Int32) (hv : (x.toUInt32 >>> (y.toUInt32 &&& Int32.toUInt32 31)).toInt32 = v) (hdg : decode cc pc = .ok (.iushr, 1)) (kk : X p l e R s m args below meth c cells slots Q nL D A ws lv (pc + 1) (.int v :: st)) : X p l e R s m args below meth c cells slots Q nL D A ws lv pc (.int y :: .int x :: st) := fun H locs ls hP hD hS hl => lv_iushr hE.1 hE.2.1 hdg hv (kk H locs ls hP hD hS hl)
theorem x_dup (hE : xE p s m args meth c cc own Ts nL D cI cZ A) {v : Value} (hv : v.category = 1) (hdg : decode cc pc = .ok (.dup, 1)) (kk : X p l e R s m args below meth c cells slots Q nL D A ws lv (pc + 1) (v :: v :: st)) : X p l e R s m args below meth c cells slots Q nL D A ws lv pc (v :: st) := fun H locs ls hP hD hS hl => lv_dup hE.1 hE.2.1 hdg hv (kk H locs ls hP hD hS hl)
theorem x_pop (hE : xE p s m args meth c cc own Ts nL D cI cZ A) {v : Value} (hv : v.category = 1) (hdg : decode cc pc = .ok (.pop, 1)) (kk : X p l e R s m args below meth c cells slots Q nL D A ws lv (pc + 1) st) : X p l e R s m args below meth c cells slots Q nL D A ws lv pc (v :: st) := fun H locs ls hP hD hS hl => lv_pop hE.1 hE.2.1 hdg hv (kk H locs ls hP hD hS hl)
theorem x_dup2 (hE : xE p s m args meth c cc own Ts nL D cI cZ A) {v w : Value} (hv : v.category = 1) (hw : w.category = 1) (hdg : decode cc pc = .ok (.dup2, 1)) (kk : X p l e R s m args below meth c cells slots Q nL D A ws lv (pc + 1) (v :: w :: v :: w :: st)) : X p l e R s m args below meth c cells slots Q nL D A ws lv pc (v :: w :: st) := fun H locs ls hP hD hS hl => lv_dup2_11 hE.1 hE.2.1 hdg hv hw (kk H locs ls hP hD hS hl)
theorem x_if_eq (hE : xE p s m args meth c cc own Ts nL D cI cZ A) {x : Int32} {off : Int} (tgt : Nat) (ht : (pc : Int) + off = (tgt : Int)) (hdg : decode cc pc = .ok (.ifCond .eq off, 3)) (kt : x = nI 0 → X p l e R s m args below meth c cells slots Q nL D A ws lv tgt st) (kf : ¬ x = nI 0 → X p l e R s m args below meth c cells slots Q nL D A ws lv (pc + 3) st) : X p l e R s m args below meth c cells slots Q nL D A ws lv pc (.int x :: st) := fun H locs ls hP hD hS hl => lv_if_eq hE.1 hE.2.1 hdg ht (fun h => kt h H locs ls hP hD hS hl) (fun h => kf h H locs ls hP hD hS hl)
theorem xn_if_eq (hE : xE p s m args meth c cc own Ts nL D cI cZ A) {a : Nat} {off : Int} (ha : a < 2 ^ 31) (tgt : Nat) (ht : (pc : Int) + off = (tgt : Int)) (hdg : decode cc pc = .ok (.ifCond .eq off, 3)) (kt : a = 0 → X p l e R s m args below meth c cells slots Q nL D A ws lv tgt st) (kf : ¬ a = 0 → X p l e R s m args below meth c cells slots Q nL D A ws lv (pc + 3) st) : X p l e R s m args below meth c cells slots Q nL D A ws lv pc (.int (nI a) :: st) := x_if_eq hE tgt ht hdg (fun h => kt ((xI_inj ha (by decide : (0:Nat) < 2 ^ 31)).mp h)) (fun h => kf (fun q => h ((xI_inj ha (by decide : (0:Nat) < 2 ^ 31)).mpr q)))
theorem x_icmp_eq (hE : xE p s m args meth c cc own Ts nL D cI cZ A) {x y : Int32} {off : Int} (tgt : Nat) (ht : (pc : Int) + off = (tgt : Int)) (hdg : decode cc pc = .ok (.if_icmp .eq off, 3)) (kt : x = y → X p l e R s m args below meth c cells slots Q nL D A ws lv tgt st) (kf : ¬ x = y → X p l e R s m args below meth c cells slots Q nL D A ws lv (pc + 3) st) : X p l e R s m args below meth c cells slots Q nL D A ws lv pc (.int y :: .int x :: st) := fun H locs ls hP hD hS hl => lv_icmp_eq hE.1 hE.2.1 hdg ht (fun h => kt h H locs ls hP hD hS hl) (fun h => kf h H locs ls hP hD hS hl)
theorem xn_icmp_eq (hE : xE p s m args meth c cc own Ts nL D cI cZ A) {a b : Nat} {off : Int} (ha : a < 2 ^ 31) (hb : b < 2 ^ 31) (tgt : Nat) (ht : (pc : Int) + off = (tgt : Int)) (hdg : decode cc pc = .ok (.if_icmp .eq off, 3)) (kt : a = b → X p l e R s m args below meth c cells slots Q nL D A ws lv tgt st) (kf : ¬ a = b → X p l e R s m args below meth c cells slots Q nL D A ws lv (pc + 3) st) : X p l e R s m args below meth c cells slots Q nL D A ws lv pc (.int (nI b) :: .int (nI a) :: st) := x_icmp_eq hE tgt ht hdg (fun h => kt ((xI_inj ha hb).mp h)) (fun h => kf (fun q => h ((xI_inj ha hb).mpr q)))
theorem xb_if_eq (hE : xE p s m args meth c cc own Ts nL D cI cZ A) {b : Bool} {off : Int} (tgt : Nat) (ht : (pc : Int) + off = (tgt : Int)) (hdg : decode cc pc = .ok (.ifCond .eq off, 3)) (kt : b = false → X p l e R s m args below meth c cells slots Q nL D A ws lv tgt st) (kf : b = true → X p l e R s m args below meth c cells slots Q nL D A ws lv (pc + 3) st) : X p l e R s m args below meth c cells slots Q nL D A ws lv pc (.int (bI b) :: st) := x_if_eq hE tgt ht hdg (fun h => kt ((bI_eq0 b).mp h)) (fun h => kf ((bI_ne0 b).mp h))
theorem xb_icmp_eq (hE : xE p s m args meth c cc own Ts nL D cI cZ A) {a b : Bool} {off : Int} (tgt : Nat) (ht : (pc : Int) + off = (tgt : Int)) (hdg : decode cc pc = .ok (.if_icmp .eq off, 3)) (kt : a = b → X p l e R s m args below meth c cells slots Q nL D A ws lv tgt st) (kf : ¬ a = b → X p l e R s m args below meth c cells slots Q nL D A ws lv (pc + 3) st) : X p l e R s m args below meth c cells slots Q nL D A ws lv pc (.int (bI b) :: .int (bI a) :: st) := x_icmp_eq hE tgt ht hdg (fun h => kt ((bI_inj a b).mp h)) (fun h => kf (fun q => h ((bI_inj a b).mpr q)))
theorem x_if_ne (hE : xE p s m args meth c cc own Ts nL D cI cZ A) {x : Int32} {off : Int} (tgt : Nat) (ht : (pc : Int) + off = (tgt : Int)) (hdg : decode cc pc = .ok (.ifCond .ne off, 3)) (kt : ¬ x = nI 0 → X p l e R s m args below meth c cells slots Q nL D A ws lv tgt st) (kf : x = nI 0 → X p l e R s m args below meth c cells slots Q nL D A ws lv (pc + 3) st) : X p l e R s m args below meth c cells slots Q nL D A ws lv pc (.int x :: st) := fun H locs ls hP hD hS hl => lv_if_ne hE.1 hE.2.1 hdg ht (fun h => kt h H locs ls hP hD hS hl) (fun h => kf h H locs ls hP hD hS hl)
theorem xn_if_ne (hE : xE p s m args meth c cc own Ts nL D cI cZ A) {a : Nat} {off : Int} (ha : a < 2 ^ 31) (tgt : Nat) (ht : (pc : Int) + off = (tgt : Int)) (hdg : decode cc pc = .ok (.ifCond .ne off, 3)) (kt : ¬ a = 0 → X p l e R s m args below meth c cells slots Q nL D A ws lv tgt st) (kf : a = 0 → X p l e R s m args below meth c cells slots Q nL D A ws lv (pc + 3) st) : X p l e R s m args below meth c cells slots Q nL D A ws lv pc (.int (nI a) :: st) := x_if_ne hE tgt ht hdg (fun h => kt (fun q => h ((xI_inj ha (by decide : (0:Nat) < 2 ^ 31)).mpr q))) (fun h => kf ((xI_inj ha (by decide : (0:Nat) < 2 ^ 31)).mp h))
theorem x_icmp_ne (hE : xE p s m args meth c cc own Ts nL D cI cZ A) {x y : Int32} {off : Int} (tgt : Nat) (ht : (pc : Int) + off = (tgt : Int)) (hdg : decode cc pc = .ok (.if_icmp .ne off, 3)) (kt : ¬ x = y → X p l e R s m args below meth c cells slots Q nL D A ws lv tgt st) (kf : x = y → X p l e R s m args below meth c cells slots Q nL D A ws lv (pc + 3) st) : X p l e R s m args below meth c cells slots Q nL D A ws lv pc (.int y :: .int x :: st) := fun H locs ls hP hD hS hl => lv_icmp_ne hE.1 hE.2.1 hdg ht (fun h => kt h H locs ls hP hD hS hl) (fun h => kf h H locs ls hP hD hS hl)
theorem xn_icmp_ne (hE : xE p s m args meth c cc own Ts nL D cI cZ A) {a b : Nat} {off : Int} (ha : a < 2 ^ 31) (hb : b < 2 ^ 31) (tgt : Nat) (ht : (pc : Int) + off = (tgt : Int)) (hdg : decode cc pc = .ok (.if_icmp .ne off, 3)) (kt : ¬ a = b → X p l e R s m args below meth c cells slots Q nL D A ws lv tgt st) (kf : a = b → X p l e R s m args below meth c cells slots Q nL D A ws lv (pc + 3) st) : X p l e R s m args below meth c cells slots Q nL D A ws lv pc (.int (nI b) :: .int (nI a) :: st) := x_icmp_ne hE tgt ht hdg (fun h => kt (fun q => h ((xI_inj ha hb).mpr q))) (fun h => kf ((xI_inj ha hb).mp h))
theorem xb_if_ne (hE : xE p s m args meth c cc own Ts nL D cI cZ A) {b : Bool} {off : Int} (tgt : Nat) (ht : (pc : Int) + off = (tgt : Int)) (hdg : decode cc pc = .ok (.ifCond .ne off, 3)) (kt : b = true → X p l e R s m args below meth c cells slots Q nL D A ws lv tgt st) (kf : b = false → X p l e R s m args below meth c cells slots Q nL D A ws lv (pc + 3) st) : X p l e R s m args below meth c cells slots Q nL D A ws lv pc (.int (bI b) :: st) := x_if_ne hE tgt ht hdg (fun h => kt ((bI_ne0 b).mp h)) (fun h => kf ((bI_eq0 b).mp h))
theorem xb_icmp_ne (hE : xE p s m args meth c cc own Ts nL D cI cZ A) {a b : Bool} {off : Int} (tgt : Nat) (ht : (pc : Int) + off = (tgt : Int)) (hdg : decode cc pc = .ok (.if_icmp .ne off, 3)) (kt : ¬ a = b → X p l e R s m args below meth c cells slots Q nL D A ws lv tgt st) (kf : a = b → X p l e R s m args below meth c cells slots Q nL D A ws lv (pc + 3) st) : X p l e R s m args below meth c cells slots Q nL D A ws lv pc (.int (bI b) :: .int (bI a) :: st) := x_icmp_ne hE tgt ht hdg (fun h => kt (fun q => h ((bI_inj a b).mpr q))) (fun h => kf ((bI_inj a b).mp h))
theorem x_if_lt (hE : xE p s m args meth c cc own Ts nL D cI cZ A) {x : Int32} {off : Int} (tgt : Nat) (ht : (pc : Int) + off = (tgt : Int)) (hdg : decode cc pc = .ok (.ifCond .lt off, 3)) (kt : x < nI 0 → X p l e R s m args below meth c cells slots Q nL D A ws lv tgt st) (kf : ¬ x < nI 0 → X p l e R s m args below meth c cells slots Q nL D A ws lv (pc + 3) st) : X p l e R s m args below meth c cells slots Q nL D A ws lv pc (.int x :: st) := fun H locs ls hP hD hS hl => lv_if_lt hE.1 hE.2.1 hdg ht (fun h => kt h H locs ls hP hD hS hl) (fun h => kf h H locs ls hP hD hS hl)
theorem xn_if_lt (hE : xE p s m args meth c cc own Ts nL D cI cZ A) {a : Nat} {off : Int} (ha : a < 2 ^ 31) (tgt : Nat) (ht : (pc : Int) + off = (tgt : Int)) (hdg : decode cc pc = .ok (.ifCond .lt off, 3)) (kt : a < 0 → X p l e R s m args below meth c cells slots Q nL D A ws lv tgt st) (kf : ¬ a < 0 → X p l e R s m args below meth c cells slots Q nL D A ws lv (pc + 3) st) : X p l e R s m args below meth c cells slots Q nL D A ws lv pc (.int (nI a) :: st) := x_if_lt hE tgt ht hdg (fun h => kt ((xI_lt ha (by decide : (0:Nat) < 2 ^ 31)).mp h)) (fun h => kf (fun q => h ((xI_lt ha (by decide : (0:Nat) < 2 ^ 31)).mpr q)))
theorem x_icmp_lt (hE : xE p s m args meth c cc own Ts nL D cI cZ A) {x y : Int32} {off : Int} (tgt : Nat) (ht : (pc : Int) + off = (tgt : Int)) (hdg : decode cc pc = .ok (.if_icmp .lt off, 3)) (kt : x < y → X p l e R s m args below meth c cells slots Q nL D A ws lv tgt st) (kf : ¬ x < y → X p l e R s m args below meth c cells slots Q nL D A ws lv (pc + 3) st) : X p l e R s m args below meth c cells slots Q nL D A ws lv pc (.int y :: .int x :: st) := fun H locs ls hP hD hS hl => lv_icmp_lt hE.1 hE.2.1 hdg ht (fun h => kt h H locs ls hP hD hS hl) (fun h => kf h H locs ls hP hD hS hl)
theorem xn_icmp_lt (hE : xE p s m args meth c cc own Ts nL D cI cZ A) {a b : Nat} {off : Int} (ha : a < 2 ^ 31) (hb : b < 2 ^ 31) (tgt : Nat) (ht : (pc : Int) + off = (tgt : Int)) (hdg : decode cc pc = .ok (.if_icmp .lt off, 3)) (kt : a < b → X p l e R s m args below meth c cells slots Q nL D A ws lv tgt st) (kf : ¬ a < b → X p l e R s m args below meth c cells slots Q nL D A ws lv (pc + 3) st) : X p l e R s m args below meth c cells slots Q nL D A ws lv pc (.int (nI b) :: .int (nI a) :: st) := x_icmp_lt hE tgt ht hdg (fun h => kt ((xI_lt ha hb).mp h)) (fun h => kf (fun q => h ((xI_lt ha hb).mpr q)))
theorem x_if_ge (hE : xE p s m args meth c cc own Ts nL D cI cZ A) {x : Int32} {off : Int} (tgt : Nat) (ht : (pc : Int) + off = (tgt : Int)) (hdg : decode cc pc = .ok (.ifCond .ge off, 3)) (kt : ¬ x < nI 0 → X p l e R s m args below meth c cells slots Q nL D A ws lv tgt st) (kf : x < nI 0 → X p l e R s m args below meth c cells slots Q nL D A ws lv (pc + 3) st) : X p l e R s m args below meth c cells slots Q nL D A ws lv pc (.int x :: st) := fun H locs ls hP hD hS hl => lv_if_ge hE.1 hE.2.1 hdg ht (fun h => kt (Int32.not_lt.mpr h) H locs ls hP hD hS hl) (fun h => kf (Int32.not_le.mp h) H locs ls hP hD hS hl)
theorem xn_if_ge (hE : xE p s m args meth c cc own Ts nL D cI cZ A) {a : Nat} {off : Int} (ha : a < 2 ^ 31) (tgt : Nat) (ht : (pc : Int) + off = (tgt : Int)) (hdg : decode cc pc = .ok (.ifCond .ge off, 3)) (kt : ¬ a < 0 → X p l e R s m args below meth c cells slots Q nL D A ws lv tgt st) (kf : a < 0 → X p l e R s m args below meth c cells slots Q nL D A ws lv (pc + 3) st) : X p l e R s m args below meth c cells slots Q nL D A ws lv pc (.int (nI a) :: st) := x_if_ge hE tgt ht hdg (fun h => kt (fun q => h ((xI_lt ha (by decide : (0:Nat) < 2 ^ 31)).mpr q))) (fun h => kf ((xI_lt ha (by decide : (0:Nat) < 2 ^ 31)).mp h))
theorem x_icmp_ge (hE : xE p s m args meth c cc own Ts nL D cI cZ A) {x y : Int32} {off : Int} (tgt : Nat) (ht : (pc : Int) + off = (tgt : Int)) (hdg : decode cc pc = .ok (.if_icmp .ge off, 3)) (kt : ¬ x < y → X p l e R s m args below meth c cells slots Q nL D A ws lv tgt st) (kf : x < y → X p l e R s m args below meth c cells slots Q nL D A ws lv (pc + 3) st) : X p l e R s m args below meth c cells slots Q nL D A ws lv pc (.int y :: .int x :: st) := fun H locs ls hP hD hS hl => lv_icmp_ge hE.1 hE.2.1 hdg ht (fun h => kt (Int32.not_lt.mpr h) H locs ls hP hD hS hl) (fun h => kf (Int32.not_le.mp h) H locs ls hP hD hS hl)
theorem xn_icmp_ge (hE : xE p s m args meth c cc own Ts nL D cI cZ A) {a b : Nat} {off : Int} (ha : a < 2 ^ 31) (hb : b < 2 ^ 31) (tgt : Nat) (ht : (pc : Int) + off = (tgt : Int)) (hdg : decode cc pc = .ok (.if_icmp .ge off, 3)) (kt : ¬ a < b → X p l e R s m args below meth c cells slots Q nL D A ws lv tgt st) (kf : a < b → X p l e R s m args below meth c cells slots Q nL D A ws lv (pc + 3) st) : X p l e R s m args below meth c cells slots Q nL D A ws lv pc (.int (nI b) :: .int (nI a) :: st) := x_icmp_ge hE tgt ht hdg (fun h => kt (fun q => h ((xI_lt ha hb).mpr q))) (fun h => kf ((xI_lt ha hb).mp h))
theorem x_if_gt (hE : xE p s m args meth c cc own Ts nL D cI cZ A) {x : Int32} {off : Int} (tgt : Nat) (ht : (pc : Int) + off = (tgt : Int)) (hdg : decode cc pc = .ok (.ifCond .gt off, 3)) (kt : nI 0 < x → X p l e R s m args below meth c cells slots Q nL D A ws lv tgt st) (kf : ¬ nI 0 < x → X p l e R s m args below meth c cells slots Q nL D A ws lv (pc + 3) st) : X p l e R s m args below meth c cells slots Q nL D A ws lv pc (.int x :: st) := fun H locs ls hP hD hS hl => lv_if_gt hE.1 hE.2.1 hdg ht (fun h => kt h H locs ls hP hD hS hl) (fun h => kf h H locs ls hP hD hS hl)
theorem xn_if_gt (hE : xE p s m args meth c cc own Ts nL D cI cZ A) {a : Nat} {off : Int} (ha : a < 2 ^ 31) (tgt : Nat) (ht : (pc : Int) + off = (tgt : Int)) (hdg : decode cc pc = .ok (.ifCond .gt off, 3)) (kt : 0 < a → X p l e R s m args below meth c cells slots Q nL D A ws lv tgt st) (kf : ¬ 0 < a → X p l e R s m args below meth c cells slots Q nL D A ws lv (pc + 3) st) : X p l e R s m args below meth c cells slots Q nL D A ws lv pc (.int (nI a) :: st) := x_if_gt hE tgt ht hdg (fun h => kt ((xI_lt (by decide : (0:Nat) < 2 ^ 31) ha).mp h)) (fun h => kf (fun q => h ((xI_lt (by decide : (0:Nat) < 2 ^ 31) ha).mpr q)))
theorem x_icmp_gt (hE : xE p s m args meth c cc own Ts nL D cI cZ A) {x y : Int32} {off : Int} (tgt : Nat) (ht : (pc : Int) + off = (tgt : Int)) (hdg : decode cc pc = .ok (.if_icmp .gt off, 3)) (kt : y < x → X p l e R s m args below meth c cells slots Q nL D A ws lv tgt st) (kf : ¬ y < x → X p l e R s m args below meth c cells slots Q nL D A ws lv (pc + 3) st) : X p l e R s m args below meth c cells slots Q nL D A ws lv pc (.int y :: .int x :: st) := fun H locs ls hP hD hS hl => lv_icmp_gt hE.1 hE.2.1 hdg ht (fun h => kt h H locs ls hP hD hS hl) (fun h => kf h H locs ls hP hD hS hl)
theorem xn_icmp_gt (hE : xE p s m args meth c cc own Ts nL D cI cZ A) {a b : Nat} {off : Int} (ha : a < 2 ^ 31) (hb : b < 2 ^ 31) (tgt : Nat) (ht : (pc : Int) + off = (tgt : Int)) (hdg : decode cc pc = .ok (.if_icmp .gt off, 3)) (kt : b < a → X p l e R s m args below meth c cells slots Q nL D A ws lv tgt st) (kf : ¬ b < a → X p l e R s m args below meth c cells slots Q nL D A ws lv (pc + 3) st) : X p l e R s m args below meth c cells slots Q nL D A ws lv pc (.int (nI b) :: .int (nI a) :: st) := x_icmp_gt hE tgt ht hdg (fun h => kt ((xI_lt hb ha).mp h)) (fun h => kf (fun q => h ((xI_lt hb ha).mpr q)))
theorem x_if_le (hE : xE p s m args meth c cc own Ts nL D cI cZ A) {x : Int32} {off : Int} (tgt : Nat) (ht : (pc : Int) + off = (tgt : Int)) (hdg : decode cc pc = .ok (.ifCond .le off, 3)) (kt : ¬ nI 0 < x → X p l e R s m args below meth c cells slots Q nL D A ws lv tgt st) (kf : nI 0 < x → X p l e R s m args below meth c cells slots Q nL D A ws lv (pc + 3) st) : X p l e R s m args below meth c cells slots Q nL D A ws lv pc (.int x :: st) := fun H locs ls hP hD hS hl => lv_if_le hE.1 hE.2.1 hdg ht (fun h => kt (Int32.not_lt.mpr h) H locs ls hP hD hS hl) (fun h => kf (Int32.not_le.mp h) H locs ls hP hD hS hl)
theorem xn_if_le (hE : xE p s m args meth c cc own Ts nL D cI cZ A) {a : Nat} {off : Int} (ha : a < 2 ^ 31) (tgt : Nat) (ht : (pc : Int) + off = (tgt : Int)) (hdg : decode cc pc = .ok (.ifCond .le off, 3)) (kt : ¬ 0 < a → X p l e R s m args below meth c cells slots Q nL D A ws lv tgt st) (kf : 0 < a → X p l e R s m args below meth c cells slots Q nL D A ws lv (pc + 3) st) : X p l e R s m args below meth c cells slots Q nL D A ws lv pc (.int (nI a) :: st) := x_if_le hE tgt ht hdg (fun h => kt (fun q => h ((xI_lt (by decide : (0:Nat) < 2 ^ 31) ha).mpr q))) (fun h => kf ((xI_lt (by decide : (0:Nat) < 2 ^ 31) ha).mp h))
theorem x_icmp_le (hE : xE p s m args meth c cc own Ts nL D cI cZ A) {x y : Int32} {off : Int} (tgt : Nat) (ht : (pc : Int) + off = (tgt : Int)) (hdg : decode cc pc = .ok (.if_icmp .le off, 3)) (kt : ¬ y < x → X p l e R s m args below meth c cells slots Q nL D A ws lv tgt st) (kf : y < x → X p l e R s m args below meth c cells slots Q nL D A ws lv (pc + 3) st) : X p l e R s m args below meth c cells slots Q nL D A ws lv pc (.int y :: .int x :: st) := fun H locs ls hP hD hS hl => lv_icmp_le hE.1 hE.2.1 hdg ht (fun h => kt (Int32.not_lt.mpr h) H locs ls hP hD hS hl) (fun h => kf (Int32.not_le.mp h) H locs ls hP hD hS hl)
theorem xn_icmp_le (hE : xE p s m args meth c cc own Ts nL D cI cZ A) {a b : Nat} {off : Int} (ha : a < 2 ^ 31) (hb : b < 2 ^ 31) (tgt : Nat) (ht : (pc : Int) + off = (tgt : Int)) (hdg : decode cc pc = .ok (.if_icmp .le off, 3)) (kt : ¬ b < a → X p l e R s m args below meth c cells slots Q nL D A ws lv tgt st) (kf : b < a → X p l e R s m args below meth c cells slots Q nL D A ws lv (pc + 3) st) : X p l e R s m args below meth c cells slots Q nL D A ws lv pc (.int (nI b) :: .int (nI a) :: st) := x_icmp_le hE tgt ht hdg (fun h => kt (fun q => h ((xI_lt hb ha).mpr q))) (fun h => kf ((xI_lt hb ha).mp h))
theorem x_goto (hE : xE p s m args meth c cc own Ts nL D cI cZ A) {off : Int} (tgt : Nat) (ht : (pc : Int) + off = (tgt : Int)) (hdg : decode cc pc = .ok (.goto off, 3)) (kk : X p l e R s m args below meth c cells slots Q nL D A ws lv tgt st) : X p l e R s m args below meth c cells slots Q nL D A ws lv pc st := fun H locs ls hP hD hS hl => lv_goto hE.1 hE.2.1 hdg ht (kk H locs ls hP hD hS hl)
theorem x_tableOut (hE : xE p s m args meth c cc own Ts nL D cI cZ A) {dflt lo hi : Int} {offs : Array Int} {len : Nat} {x : Int32} (tgt : Nat) (h : x.toInt < lo ∨ hi < x.toInt) (ht : (pc : Int) + dflt = (tgt : Int)) (hdg : decode cc pc = .ok (.tableswitch dflt lo hi offs, len)) (kk : X p l e R s m args below meth c cells slots Q nL D A ws lv tgt st) : X p l e R s m args below meth c cells slots Q nL D A ws lv pc (.int x :: st) := fun H locs ls hP hD hS hl => lv_tableOut hE.1 hE.2.1 hdg h ht (kk H locs ls hP hD hS hl)
theorem x_tableIn (hE : xE p s m args meth c cc own Ts nL D cI cZ A) {dflt lo hi : Int} {offs : Array Int} {len : Nat} {x : Int32} {off : Int} (tgt : Nat) (h1 : ¬ x.toInt < lo) (h2 : ¬ hi < x.toInt) (ho : offs[(x.toInt - lo).toNat]? = some off) (ht : (pc : Int) + off = (tgt : Int)) (hdg : decode cc pc = .ok (.tableswitch dflt lo hi offs, len)) (kk : X p l e R s m args below meth c cells slots Q nL D A ws lv tgt st) : X p l e R s m args below meth c cells slots Q nL D A ws lv pc (.int x :: st) := fun H locs ls hP hD hS hl => lv_tableIn hE.1 hE.2.1 hdg h1 h2 ho ht (kk H locs ls hP hD hS hl)
theorem x_get (hE : xE p s m args meth c cc own Ts nL D cI cZ A) {index ci k : Nat} (hF : xF own Ts index ci k) {a : Nat} {fs : List Value} {v : Value} (q0 : Nat) (he : ws[q0]? = some (a, .inr (ci, fs))) (hv : fs[k]? = some v) (hdg : decode cc pc = .ok (.getfield index, 3)) (kk : X p l e R s m args below meth c cells slots Q nL D A ws lv (pc + 3) (v :: st)) : X p l e R s m args below meth c cells slots Q nL D A ws lv pc (.ref a :: st) := by
  obtain ⟨ref, C, T, N, hin, hc, hk, hm, hr⟩ := hF
  subst hr
  exact fun H locs ls hP hD hS hl => va_get hE.1 hE.2.1 hE.2.2.2.2.1 hin hE.2.2.2.1 hE.2.2.2.2.2.1 hP q0 he hc k hk (hE.2.2.2.2.1 _ hm) (fun _ h => h) hv hdg (kk H locs ls hP hD hS hl)
theorem x_put (hE : xE p s m args meth c cc own Ts nL D cI cZ A) {index ci k : Nat} {ty : FieldType} (hF : xP own Ts index ci k false ty) {a : Nat} {fs : List Value} {v : Value} (ws' : va_W) (q0 : Nat) (he : ws[q0]? = some (a, .inr (ci, fs))) (hw : ws.set q0 (a, .inr (ci, fs.set k v)) = ws') (hn : narrow ty v = v) (hfit : fits ty v = true) (hlen : k < fs.length) (hdg : decode cc pc = .ok (.putfield index, 3)) (kk : X p l e R s m args below meth c cells slots Q nL D A ws' lv (pc + 3) st) : X p l e R s m args below meth c cells slots Q nL D A ws lv pc (v :: .ref a :: st) := by
  obtain ⟨ref, C, T, N, ty0, hin, hc, hk, hm, hr, hty, hnm, hfin, hd, -⟩ := hF
  subst hr
  subst hw
  exact fun H locs ls hP hD hS hl => va_put hE.1 hE.2.1 hE.2.2.2.2.1 hin ty0 hty hnm hE.2.2.2.1 hE.2.2.2.2.2.1 hP hD hS q0 he hc k hk (hE.2.2.2.2.1 _ hm) (fun _ h => h) hfin hd hn hfit hlen hdg (fun H1 locs1 hP1 hD1 hS1 => kk H1 locs1 ls hP1 hD1 hS1 hl)
theorem x_putF (hE : xE p s m args meth c cc own Ts nL D cI cZ A) {index ci k : Nat} {ty : FieldType} (hF : xP own Ts index ci k true ty) (hin2 : meth.name = "<init>") {a : Nat} {fs : List Value} {v : Value} (ws' : va_W) (q0 : Nat) (he : ws[q0]? = some (a, .inr (ci, fs))) (hw : ws.set q0 (a, .inr (ci, fs.set k v)) = ws') (hn : narrow ty v = v) (hfit : fits ty v = true) (hlen : k < fs.length) (hdg : decode cc pc = .ok (.putfield index, 3)) (kk : X p l e R s m args below meth c cells slots Q nL D A ws' lv (pc + 3) st) : X p l e R s m args below meth c cells slots Q nL D A ws lv pc (v :: .ref a :: st) := by
  obtain ⟨ref, C, T, N, ty0, hin, hc, hk, hm, hr, hty, hnm, hfin, hd, ho⟩ := hF
  subst hr
  subst hw
  exact fun H locs ls hP hD hS hl => va_putF hE.1 hE.2.1 hE.2.2.2.2.1 hin ty0 hty hnm hE.2.2.2.1 hE.2.2.2.2.2.1 hP hD hS q0 he hc k hk (hE.2.2.2.2.1 _ hm) (fun _ h => h) hfin hin2 (ho rfl) hd hn hfit hlen hdg (fun H1 locs1 hP1 hD1 hS1 => kk H1 locs1 ls hP1 hD1 hS1 hl)
theorem x_iald (hE : xE p s m args meth c cc own Ts nL D cI cZ A) {a n : Nat} {f : Nat → Int32} (k : Nat) (v : Int32) (hk : k < n) (hn : n < 2 ^ 31) (hv : f k = v) (q0 : Nat) (he : ws[q0]? = some (a, .inl (cI, n, .inl f))) (hdg : decode cc pc = .ok (.iaload, 1)) (kk : X p l e R s m args below meth c cells slots Q nL D A ws lv (pc + 1) (.int v :: st)) : X p l e R s m args below meth c cells slots Q nL D A ws lv pc (.int (nI k) :: .ref a :: st) := by
  have h := xclamp (Nat.lt_trans hk hn)
  exact fun H locs ls hP hD hS hl => va_iald hE.1 hE.2.1 hE.2.2.2.2.2.1 hP q0 0 he rfl (xvpin hk hn) hdg (by rw [h, hv]; exact kk H locs ls hP hD hS hl)
theorem x_zald (hE : xE p s m args meth c cc own Ts nL D cI cZ A) {a n : Nat} {f : Nat → Bool} (k : Nat) (v : Bool) (hk : k < n) (hn : n < 2 ^ 31) (hv : f k = v) (q0 : Nat) (he : ws[q0]? = some (a, .inl (cZ, n, .inl (xB f)))) (hdg : decode cc pc = .ok (.baload, 1)) (kk : X p l e R s m args below meth c cells slots Q nL D A ws lv (pc + 1) (.int (bI v) :: st)) : X p l e R s m args below meth c cells slots Q nL D A ws lv pc (.int (nI k) :: .ref a :: st) := by
  have h := xclamp (Nat.lt_trans hk hn)
  exact fun H locs ls hP hD hS hl => va_zald hE.1 hE.2.1 hE.2.2.2.2.2.1 hP q0 1 he rfl (xvpin hk hn) hdg (by rw [h]; show W p l e R s m args below meth c H locs cells slots Q (F0 m (pc + 1) ls (.int (bI (f k)) :: st)); rw [hv]; exact kk H locs ls hP hD hS hl)
theorem x_iast (hE : xE p s m args meth c cc own Ts nL D cI cZ A) {a n : Nat} {f : Nat → Int32} {x : Int32} (k : Nat) (f' : Nat → Int32) (hk : k < n) (hn : n < 2 ^ 31) (hf : upd f k x = f') (ws' : va_W) (q0 : Nat) (he : ws[q0]? = some (a, .inl (cI, n, .inl f))) (hw : ws.set q0 (a, .inl (cI, n, .inl f')) = ws') (hdg : decode cc pc = .ok (.iastore, 1)) (kk : X p l e R s m args below meth c cells slots Q nL D A ws' lv (pc + 1) st) : X p l e R s m args below meth c cells slots Q nL D A ws lv pc (.int x :: .int (nI k) :: .ref a :: st) := by
  have h := xclamp (Nat.lt_trans hk hn)
  exact fun H locs ls hP hD hS hl => va_iast hE.1 hE.2.1 hE.2.2.2.2.2.1 hP hD hS q0 0 he rfl (xvpin hk hn) hdg (fun H1 locs1 => by rw [h, hf, hw]; exact fun hP1 hD1 hS1 => kk H1 locs1 ls hP1 hD1 hS1 hl)
theorem x_zast (hE : xE p s m args meth c cc own Ts nL D cI cZ A) {a n : Nat} {f : Nat → Bool} {x : Bool} (k : Nat) (f' : Nat → Bool) (hk : k < n) (hn : n < 2 ^ 31) (hf : updB f k x = f') (ws' : va_W) (q0 : Nat) (he : ws[q0]? = some (a, .inl (cZ, n, .inl (xB f)))) (hw : ws.set q0 (a, .inl (cZ, n, .inl (xB f'))) = ws') (hdg : decode cc pc = .ok (.bastore, 1)) (kk : X p l e R s m args below meth c cells slots Q nL D A ws' lv (pc + 1) st) : X p l e R s m args below meth c cells slots Q nL D A ws lv pc (.int (bI x) :: .int (nI k) :: .ref a :: st) := by
  have h := xclamp (Nat.lt_trans hk hn)
  exact fun H locs ls hP hD hS hl => va_zast hE.1 hE.2.1 hE.2.2.2.2.2.1 hP hD hS q0 1 he rfl (xvpin hk hn) hdg (fun H1 locs1 => by rw [h, upd_xB, hf, hw]; exact fun hP1 hD1 hS1 => kk H1 locs1 ls hP1 hD1 hS1 hl)
theorem x_sub (ws' : va_W) (is : List Nat) (hn : va_nd is = true) (hs : is.map (fun i => ws[i]?) = ws'.map some) (kk : X p l e R s m args below meth c cells slots Q nL D A ws' lv pc st) : X p l e R s m args below meth c cells slots Q nL D A ws lv pc st := by
  intro H locs ls hP hD hS hl
  refine kk H locs ls ?_ (hD.sub is hn hs) hS hl
  intro k q hk
  have h1 : (is.map (fun i => ws[i]?))[k]? = some (some q) := by rw [hs, List.getElem?_map, hk]; rfl
  rw [List.getElem?_map] at h1
  cases hi : is[k]? with
  | none => rw [hi] at h1; cases h1
  | some i => rw [hi] at h1; exact hP i q (Option.some.inj h1)
theorem x_lv (lv' : List (Nat × Value)) (ks : List Nat) (hl : lv_pick lv ks = lv') (kk : X p l e R s m args below meth c cells slots Q nL D A ws lv' pc st) : X p l e R s m args below meth c cells slots Q nL D A ws lv pc st := fun H locs ls hP hD hS h => kk H locs ls hP hD hS (lv_sub h ks hl)
theorem x_at {ws' : va_W} {st' : List Value} (hw : ws = ws') (hs : st = st') (kk : X p l e R s m args below meth c cells slots Q nL D A ws' lv pc st') : X p l e R s m args below meth c cells slots Q nL D A ws lv pc st := by
  subst hw; subst hs; exact kk
theorem x_eq {x : Int32} (v : Int32) (h : x = v) (kk : X p l e R s m args below meth c cells slots Q nL D A ws lv pc (.int v :: st)) : X p l e R s m args below meth c cells slots Q nL D A ws lv pc (.int x :: st) := by
  subst h; exact kk
theorem x_iret (hE : xE p s m args meth c cc own Ts nL D cI cZ A) {T : Option Value → va_W → Prop} {v : Int32} (hr : meth.sig.returnType = some .int) (hT : T (some (.int v)) ws) (hdg : decode cc pc = .ok (.ireturn, 1)) : X p l e R s m args below meth c cells slots (MQ below (xQ D T A) args s cells slots A) nL D A ws lv pc [.int v] := fun H locs ls hP hD hS hl => W.iret hE.1 hE.2.1 hr (fun t ht hW => ⟨_, ws, rfl, hT, by rw [ht]; exact hP, hD, hS.F ht⟩) hS.2.2 hdg hE.2.2.2.2.2.2.2.2
theorem x_zret (hE : xE p s m args meth c cc own Ts nL D cI cZ A) {T : Option Value → va_W → Prop} {v : Bool} (hr : meth.sig.returnType = some .boolean) (hT : T (some (.int (bI v))) ws) (hdg : decode cc pc = .ok (.ireturn, 1)) : X p l e R s m args below meth c cells slots (MQ below (xQ D T A) args s cells slots A) nL D A ws lv pc [.int (bI v)] := fun H locs ls hP hD hS hl => W.zret hE.1 hE.2.1 hr (narrow_bI v) (fun t ht hW => ⟨_, ws, rfl, hT, by rw [ht]; exact hP, hD, hS.F ht⟩) hS.2.2 hdg hE.2.2.2.2.2.2.2.2
theorem x_vret (hE : xE p s m args meth c cc own Ts nL D cI cZ A) {T : Option Value → va_W → Prop} (hr : meth.sig.returnType = none) (hT : T none ws) (hdg : decode cc pc = .ok (.return_, 1)) : X p l e R s m args below meth c cells slots (MQ below (xQ D T A) args s cells slots A) nL D A ws lv pc [] := fun H locs ls hP hD hS hl => W.vret hE.1 hE.2.1 hr (fun t ht hW => ⟨_, ws, rfl, hT, by rw [ht]; exact hP, hD, hS.F ht⟩) hS.2.2 hdg hE.2.2.2.2.2.2.2.2
end
theorem Met_ofWF {l : Launch} {y : MethodName} {ws ws' : List Cond} {rm : Room} {Pc : Array Value → State → Prop} {Qc : Array Value → State → Outcome → State → Prop} {mc ms : Nat} {free : Addr → Prop} {cc : ByteArray} {maxL : Nat} {ret : Option FieldType}
    (hy : plainFor y = true) (hw : ws = Cond.code y cc maxL ret :: ws')
    (body : ∀ p e s m args below meth c s₁, BodyLoose p l y (headSpec ws rm) cc maxL ret e s m args below meth c s₁ → c.maxLocals = maxL → Pc args s →
      W p l e (headSpec ws rm).room s m args below meth c s.heap [] 0 0 (MQ below Qc args s mc ms free) (entryFrame m args maxL)) : Met l y ws rm Pc Qc mc ms free := by
  refine MetFree.of_bodySF (code := cc) (maxLocals := maxL) (ret := ret) hy ?_ ?_
  · intro args s m h hn
    obtain ⟨meth, c, h1, h2, h3, h4, h5, h6, -, -⟩ := Cond.code_spec hn (atoms_spec (ws := ws) h _ (by rw [hw]; exact List.mem_cons_self))
    exact ⟨meth, c, h1, h2, h3, h4, h5, h6⟩
  · intro p e s m args below meth c s₁ B hml hP _
    have hh0 : s₁.heap = s.heap := by rw [B.state]; rfl
    obtain ⟨t, a1, o, b1, b2, b3⟩ := body p e s m args below meth c s₁ B hml hP s₁ hh0 (Stand.of_body B)
    exact ⟨t, o, a1, b1, b2, ⟨b3.1, b3.2⟩⟩
theorem xC.of {l : Launch} {y : MethodName} {wsy ws' : List Cond} {fr cs ss lo maxL : Nat} {D : va_G} {cI cZ : ClassId} {av : List Value} {W0 : va_W} {T : Option Value → va_W → Prop} {bytes : ByteArray} {ret : Option FieldType} {own : String} (hy : plainFor y = true) (hw : wsy = Cond.code y bytes maxL ret :: ws') (hsl : (lg_sl av).length ≤ maxL) (hC : y.cls = own)
    (body : ∀ (p : Program) (e : Env) (s : State) (m : MethodId) (args : Array Value) (below : List Frame) (meth : Method) (c : Code) (A : Nat → Prop), xE p s m args meth c bytes own wsy maxL D cI cZ A → meth.sig.returnType = ret → meth.name = y.name → (∀ q ∈ W0, A q.1) → X p l e { frames := fr, cells := cs, slots := ss, locals := lo } s m args below meth c 0 0 (MQ below (xQ D T A) args s cs ss A) maxL D A W0 (lv_args 0 av) 0 []) : xC l y wsy fr cs ss lo D cI cZ av W0 T := by
  intro sz
  refine Met_ofWF (cc := bytes) (maxL := maxL) (ret := ret) hy hw ?_
  intro p e s m args below meth c s₁ B hml hv
  obtain ⟨rfl, hsz, hP, hK, hN, hD0⟩ := hv
  have hts := atoms_spec (ws := wsy) B.pre
  have hown : s.vm.findClass own = some m.cls := by rw [← hC]; exact findClass_of_methodNamed B.named
  subst hsz
  have hD := hD0.self (sz := s.heap.size)
  have hA : ∀ q : Nat, s.heap.size ≤ q → va_A W0 s.heap.size q := fun q h => Or.inr h
  have hE : xE p s m av.toArray meth c bytes own wsy maxL D cI cZ (va_A W0 s.heap.size) := ⟨B.exec, B.bytes, hml, hown, hts, hK, hN, hA, B.notSynchronized⟩
  have hb := body p e s m av.toArray below meth c (va_A W0 s.heap.size) hE B.returns (name_of_methodNamed B.named B.method).1 (fun q hq => by obtain ⟨k, hk⟩ := List.getElem?_of_mem hq; exact va_A.in hk)
  rw [lg_entry_eq]
  exact hb s.heap [] _ hP hD va_S.rf (lv_entry av hsl)
theorem xC_blind {W0 : va_W} {av : List Value} {sz : Nat} {D : va_G} {cI cZ : ClassId} : FrameBlind (va_Pc av (fun U => U.heap.size = sz ∧ va_P D vwCl W0 U.heap ∧ va_K D vwCl (xTy cI cZ) U ∧ xNs U ∧ va_D (fun _ => True) W0)) :=
  fun a U g mk q => by
    obtain ⟨q0, q1, qP, qK, qN, qD⟩ := q
    exact ⟨q0, q1, qP, va_K.moved (u := U) (U := U.calling g mk a) (Vm.Alike.refl U.vm) qK, xNs.same (u := U) (U := U.calling g mk a) rfl qN, qD⟩
section
variable {p : Program} {l : Launch} {e : Env} {R : Room} {s : State} {m : MethodId} {args : Array Value} {below : List Frame} {meth : Method} {c : Code} {cells slots : Nat} {Q : State → Prop} {cc : ByteArray} {own : String} {Ts : List Cond} {nL : Nat} {D : va_G} {cI cZ : ClassId} {A : Nat → Prop} {ws : va_W} {lv : List (Nat × Value)} {pc : Nat} {st : List Value}
theorem x_goon (hE : xE p s m args meth c cc own Ts nL D cI cZ A) {T : Option Value → va_W → Prop} {W0 wr : va_W} {cs ss : Nat} {stk : List Value} {a : Array Value} {H : Heap} {locs : List Loc} {ls : Array Slot} (isC isR : List Nat) (hC : isC.map (fun i => ws[i]?) = W0.map some) (hR' : isR.map (fun i => ws[i]?) = wr.map some) (hn2 : va_nd isR = true) (hdis : ∀ i ∈ isR, i ∉ isC)
    (hP : va_P D vwCl ws H) (hD : va_D A ws) (hS : va_S A s.heap H locs) (hl : lv_has ls nL lv)
    (hr : va_Run p l e R s m args below meth c H locs cells slots cs ss (F0 m pc ls stk) st (xQ D T (va_A W0 H.size) a) (va_A W0 H.size))
    (kk : ∀ (v : Option Value) (w : va_W), T v w → X p l e R s m args below meth c (cells + cs) (slots + ss) Q nL D A (wr ++ w) lv (pc + 3) (v.toList ++ st)) : W p l e R s m args below meth c H locs cells slots Q (F0 m pc ls stk) := by
  have hF := va_free (wc := W0) hD hS hE.2.2.2.2.2.2.2.1 isC hC
  intro T0 hT0 X0
  obtain ⟨v, st₀, t, T', L, h0, X', hL, e1, e2, ⟨v', w, hv, hT, hP1, hD1, hz, hk⟩, stp⟩ := hr T0 hT0 X0
  cases hv
  rw [h0] at hz hk
  have hP1' : va_P D vwCl w T'.heap := by rw [e1]; exact hP1
  have hj := va_join (wr := wr) (w1 := w) hP hD isC isR hC hR' hn2 hdis (H1 := T'.heap) (fun q h1 h2 => by rw [e1]; exact hk q h1 h2) hF hP1' hD1
  obtain ⟨t2, a1, b1⟩ := kk v w hT T'.heap (locs ++ L) ls hj.1 hj.2 ⟨Nat.le_trans hS.1 (by rw [e1]; exact hz), fun q h1 h2 => by rw [e1, hk q (Nat.lt_of_lt_of_le h1 hS.1) (fun z => h2 (hF q z))]; exact hS.2.1 q h1 h2, fun q hq => by
      rcases List.mem_append.mp hq with h | h
      · exact hS.2.2 q h
      · exact hF _ (hL q h)⟩ hl T' rfl X'
  exact ⟨t2, stp t2 a1, b1⟩
theorem x_pre (hE : xE p s m args meth c cc own Ts nL D cI cZ A) {W0 : va_W} {av : List Value} {H : Heap} {isC : List Nat} (hC : isC.map (fun i => ws[i]?) = W0.map some) (hn1 : va_nd isC = true) (hP : va_P D vwCl ws H) (hD : va_D A ws) : va_P D vwCl W0 H ∧ ∀ U : State, U.heap = H → s.WarmedH U.vm → va_Pc av (fun U => U.heap.size = H.size ∧ va_P D vwCl W0 U.heap ∧ va_K D vwCl (xTy cI cZ) U ∧ xNs U ∧ va_D (fun _ => True) W0) av.toArray U := by
  have hPc : va_P D vwCl W0 H := by
    intro k q hk
    have h1 : (isC.map (fun i => ws[i]?))[k]? = some (some q) := by rw [hC, List.getElem?_map, hk]; rfl
    rw [List.getElem?_map] at h1
    cases hi : isC[k]? with
    | none => rw [hi] at h1; cases h1
    | some i => rw [hi] at h1; exact hP i q (Option.some.inj h1)
  have hDc : va_D A W0 := hD.sub isC hn1 hC
  exact ⟨hPc, fun U hU hW => ⟨rfl, by rw [hU], by rw [hU]; exact hPc, va_K.moved hW.alike hE.2.2.2.2.2.1, xNs.warm hW hE.2.2.2.2.2.2.1, hDc.weaken (fun _ _ _ _ => trivial)⟩⟩
theorem x_callV (hE : xE p s m args meth c cc own Ts nL D cI cZ A) {y : MethodName} {wsy ws' : List Cond} {fr cs ss lo maxL : Nat} {As : List Value} {W0 wr : va_W} {b ci : Nat} {q : vw_C} {fs : List Value} {T : Option Value → va_W → Prop} {bytes : ByteArray} {ret : Option FieldType} {index n : Nat} {stk : List Value} (hM : xC l y wsy fr cs ss lo D cI cZ (.ref b :: As) W0 T) (hG : GoodIn Ts (wsV own index y.cls y wsy)) (hw : wsy = Cond.code y bytes maxL ret :: ws') (hd : y.cls ≠ "java/lang/invoke/MethodHandle" ∧ y.cls ≠ "java/lang/invoke/VarHandle" ∧ (parseMethodDescriptor y.desc).map (fun d => d.parameters.length) = some n) (hR : fr + 1 ≤ R.frames ∧ 8 + (maxL + 11) + lo ≤ R.locals) (hcs : cells + cs ≤ R.cells ∧ slots + ss ≤ R.slots) (hn : As.length = n) (isC isR : List Nat) (hC : isC.map (fun i => ws[i]?) = W0.map some) (hR' : isR.map (fun i => ws[i]?) = wr.map some) (hn1 : va_nd isC = true) (hn2 : va_nd isR = true) (hdis : ∀ i ∈ isR, i ∉ isC) (q0 : Nat) (hrv : W0[q0]? = some (b, .inr (ci, fs))) (hcl : vwCl[ci]? = some q) (hqn : q.1 = y.cls) (hst : stk = As.reverse ++ .ref b :: st) (hcat : (st.map fun v => v.category).sum ≤ 8) (hdg : decode cc pc = .ok (.invokevirtual index, 3)) (kk : ∀ (v : Option Value) (w : va_W), T v w → X p l e R s m args below meth c (cells + cs) (slots + ss) Q nL D A (wr ++ w) lv (pc + 3) (v.toList ++ st)) : X p l e R s m args below meth c cells slots Q nL D A ws lv pc stk := by
  intro H locs ls hP hD hS hl
  obtain ⟨hPc, hpre⟩ := x_pre (av := .ref b :: As) hE hC hn1 hP hD
  refine x_goon hE isC isR hC hR' hn2 hdis hP hD hS hl (va_runV (C := y.cls) (As := As) (rest := st) ⟨hE.1, hE.2.1, hE.2.2.1, hE.2.2.2.1, hE.2.2.2.2.1⟩ (hM H.size) (cwV n hE.2.2.2.2.1 hG hw rfl rfl ⟨rfl, hd⟩ hR) ⟨xC_blind, ?_, hpre⟩ rfl hn hl.1 hst (lv_room hcat) hdg hcs) kk
  obtain ⟨cell, h1, h2, h3⟩ := va_recv hE.2.2.2.2.2.1 hPc hcl hrv
  exact ⟨cell, h1, h2, by rw [← hqn]; exact h3⟩
theorem x_callS (hE : xE p s m args meth c cc own Ts nL D cI cZ A) {y : MethodName} {wsy ws' : List Cond} {fr cs ss lo maxL : Nat} {av : List Value} {W0 wr : va_W} {T : Option Value → va_W → Prop} {bytes : ByteArray} {ret : Option FieldType} {index n : Nat} {stk : List Value} (hM : xC l y wsy fr cs ss lo D cI cZ av W0 T) (hG : GoodIn Ts (va_wsS own index y wsy)) (hw : wsy = Cond.code y bytes maxL ret :: ws') (hd : y.cls ≠ "java/lang/invoke/MethodHandle" ∧ y.cls ≠ "java/lang/invoke/VarHandle" ∧ (parseMethodDescriptor y.desc).map (fun d => d.parameters.length) = some n) (hR : fr + 1 ≤ R.frames ∧ 8 + (maxL + 11) + lo ≤ R.locals) (hcs : cells + cs ≤ R.cells ∧ slots + ss ≤ R.slots) (hn : av.length = n) (isC isR : List Nat) (hC : isC.map (fun i => ws[i]?) = W0.map some) (hR' : isR.map (fun i => ws[i]?) = wr.map some) (hn1 : va_nd isC = true) (hn2 : va_nd isR = true) (hdis : ∀ i ∈ isR, i ∉ isC) (hst : stk = av.reverse ++ st) (hcat : (st.map fun v => v.category).sum ≤ 8) (hdg : decode cc pc = .ok (.invokestatic index, 3)) (kk : ∀ (v : Option Value) (w : va_W), T v w → X p l e R s m args below meth c (cells + cs) (slots + ss) Q nL D A (wr ++ w) lv (pc + 3) (v.toList ++ st)) : X p l e R s m args below meth c cells slots Q nL D A ws lv pc stk := by
  intro H locs ls hP hD hS hl
  obtain ⟨hPc, hpre⟩ := x_pre (av := av) hE hC hn1 hP hD
  exact x_goon hE isC isR hC hR' hn2 hdis hP hD hS hl (va_runS (As := av) (rest := st) ⟨hE.1, hE.2.1, hE.2.2.1, hE.2.2.2.1, hE.2.2.2.2.1⟩ (hM H.size) (va_cwS n hE.2.2.2.2.1 hG hw rfl rfl hd hR) ⟨xC_blind, hpre⟩ rfl hn hl.1 hst (lv_room hcat) hdg hcs) kk
theorem x_callI (hE : xE p s m args meth c cc own Ts nL D cI cZ A) {y : MethodName} {wsy ws' : List Cond} {fr cs ss lo maxL : Nat} {As : List Value} {W0 wr : va_W} {b : Nat} {T : Option Value → va_W → Prop} {bytes : ByteArray} {index n : Nat} {stk : List Value} (hM : xC l y wsy fr cs ss lo D cI cZ (.ref b :: As) W0 T) (hG : GoodIn Ts wsy) (hw : wsy = Cond.code y bytes maxL none :: ws') (hini : Cond.initialized y.cls ∈ Ts) (hlk : Cond.methodLink own index y ∈ Ts) (hinm : Cond.instanceMethod y ∈ Ts) (hy1 : y.name = "<init>") (hd : y.cls ≠ "java/lang/invoke/MethodHandle" ∧ y.cls ≠ "java/lang/invoke/VarHandle" ∧ (parseMethodDescriptor y.desc).map (fun d => d.parameters.length) = some n) (hR : fr + 1 ≤ R.frames ∧ 8 + (maxL + 11) + lo ≤ R.locals) (hcs : cells + cs ≤ R.cells ∧ slots + ss ≤ R.slots) (hn : As.length = n) (isC isR : List Nat) (hC : isC.map (fun i => ws[i]?) = W0.map some) (hR' : isR.map (fun i => ws[i]?) = wr.map some) (hn1 : va_nd isC = true) (hn2 : va_nd isR = true) (hdis : ∀ i ∈ isR, i ∉ isC) (hst : stk = As.reverse ++ .ref b :: st) (hcat : (st.map fun v => v.category).sum ≤ 8) (hdg : decode cc pc = .ok (.invokespecial index, 3)) (kk : ∀ (v : Option Value) (w : va_W), T v w → X p l e R s m args below meth c (cells + cs) (slots + ss) Q nL D A (wr ++ w) lv (pc + 3) (v.toList ++ st)) : X p l e R s m args below meth c cells slots Q nL D A ws lv pc stk := by
  intro H locs ls hP hD hS hl
  obtain ⟨hPc, hpre⟩ := x_pre (av := .ref b :: As) hE hC hn1 hP hD
  exact x_goon hE isC isR hC hR' hn2 hdis hP hD hS hl (va_runI (As := As) (rest := st) ⟨hE.1, hE.2.1, hE.2.2.1, hE.2.2.2.1, hE.2.2.2.2.1⟩ (hM H.size) (cwI n hE.2.2.2.2.1 hG hw rfl rfl (hE.2.2.2.2.1 _ hini) (hE.2.2.2.2.1 _ hlk) (hE.2.2.2.2.1 _ hinm) hy1 hd hR) ⟨xC_blind, hpre⟩ rfl hn hl.1 hst (lv_room hcat) hdg hcs) kk
theorem x_callSN (hE : xE p s m args meth c cc own Ts nL D cI cZ A) {y : MethodName} {wsy ws' : List Cond} {fr cs ss lo maxL : Nat} {av : List Value} {W0 wr : va_W} {T : Option Value → va_W → Prop} {bytes : ByteArray} {ret : Option FieldType} {index n : Nat} {stk : List Value} (host : String) (hM : xC l y wsy fr cs ss lo D cI cZ av W0 T) (hG : GoodIn Ts wsy) (hw : wsy = Cond.code y bytes maxL ret :: ws') (hnw : (own, index, y, host) ∈ xNw) (hini : Cond.initialized y.cls ∈ Ts) (hstc : Cond.static y ∈ Ts) (hd : y.cls ≠ "java/lang/invoke/MethodHandle" ∧ y.cls ≠ "java/lang/invoke/VarHandle" ∧ (parseMethodDescriptor y.desc).map (fun d => d.parameters.length) = some n) (hR : fr + 1 ≤ R.frames ∧ 8 + (maxL + 11) + lo ≤ R.locals) (hcs : cells + cs ≤ R.cells ∧ slots + ss ≤ R.slots) (hn : av.length = n) (isC isR : List Nat) (hC : isC.map (fun i => ws[i]?) = W0.map some) (hR' : isR.map (fun i => ws[i]?) = wr.map some) (hn1 : va_nd isC = true) (hn2 : va_nd isR = true) (hdis : ∀ i ∈ isR, i ∉ isC) (hst : stk = av.reverse ++ st) (hcat : (st.map fun v => v.category).sum ≤ 8) (hdg : decode cc pc = .ok (.invokestatic index, 3)) (kk : ∀ (v : Option Value) (w : va_W), T v w → X p l e R s m args below meth c (cells + cs) (slots + ss) Q nL D A (wr ++ w) lv (pc + 3) (v.toList ++ st)) : X p l e R s m args below meth c cells slots Q nL D A ws lv pc stk := by
  intro H locs ls hP hD hS hl
  obtain ⟨hPc, hpre⟩ := x_pre (av := av) hE hC hn1 hP hD
  exact x_goon hE isC isR hC hR' hn2 hdis hP hD hS hl (va_runSN (As := av) (rest := st) ⟨hE.1, hE.2.1, hE.2.2.1, hE.2.2.2.1, hE.2.2.2.2.1⟩ (hM H.size) ⟨va_cnB n hE.2.2.2.2.1 hG hw rfl rfl (hE.2.2.2.2.2.2.1 _ hnw) (hE.2.2.2.2.1 _ hini) hd hR, hE.2.2.2.2.1 _ hstc, trivial⟩ ⟨xC_blind, hpre⟩ rfl hn hl.1 hst (lv_room hcat) hdg hcs) kk
theorem x_callIN (hE : xE p s m args meth c cc own Ts nL D cI cZ A) {y : MethodName} {wsy ws' : List Cond} {fr cs ss lo maxL : Nat} {As : List Value} {W0 wr : va_W} {b : Nat} {T : Option Value → va_W → Prop} {bytes : ByteArray} {index n : Nat} {stk : List Value} (host : String) (hM : xC l y wsy fr cs ss lo D cI cZ (.ref b :: As) W0 T) (hG : GoodIn Ts wsy) (hw : wsy = Cond.code y bytes maxL none :: ws') (hnw : (own, index, y, host) ∈ xNw) (hini : Cond.initialized y.cls ∈ Ts) (hinm : Cond.instanceMethod y ∈ Ts) (hy1 : y.name = "<init>") (hd : y.cls ≠ "java/lang/invoke/MethodHandle" ∧ y.cls ≠ "java/lang/invoke/VarHandle" ∧ (parseMethodDescriptor y.desc).map (fun d => d.parameters.length) = some n) (hR : fr + 1 ≤ R.frames ∧ 8 + (maxL + 11) + lo ≤ R.locals) (hcs : cells + cs ≤ R.cells ∧ slots + ss ≤ R.slots) (hn : As.length = n) (isC isR : List Nat) (hC : isC.map (fun i => ws[i]?) = W0.map some) (hR' : isR.map (fun i => ws[i]?) = wr.map some) (hn1 : va_nd isC = true) (hn2 : va_nd isR = true) (hdis : ∀ i ∈ isR, i ∉ isC) (hst : stk = As.reverse ++ .ref b :: st) (hcat : (st.map fun v => v.category).sum ≤ 8) (hdg : decode cc pc = .ok (.invokespecial index, 3)) (kk : ∀ (v : Option Value) (w : va_W), T v w → X p l e R s m args below meth c (cells + cs) (slots + ss) Q nL D A (wr ++ w) lv (pc + 3) (v.toList ++ st)) : X p l e R s m args below meth c cells slots Q nL D A ws lv pc stk := by
  intro H locs ls hP hD hS hl
  obtain ⟨hPc, hpre⟩ := x_pre (av := .ref b :: As) hE hC hn1 hP hD
  exact x_goon hE isC isR hC hR' hn2 hdis hP hD hS hl (va_runIN (As := As) (rest := st) ⟨hE.1, hE.2.1, hE.2.2.1, hE.2.2.2.1, hE.2.2.2.2.1⟩ (hM H.size) ⟨va_cnB n hE.2.2.2.2.1 hG hw rfl rfl (hE.2.2.2.2.2.2.1 _ hnw) (hE.2.2.2.2.1 _ hini) hd hR, hy1, hE.2.2.2.2.1 _ hinm⟩ ⟨xC_blind, hpre⟩ rfl hn hl.1 hst (lv_room hcat) hdg hcs) kk
theorem x_mmax (hE : xE p s m args meth c cc own Ts nL D cI cZ A) {index : Nat} {x y : Int32} (v : Int32) (hv : (if x < y then y else x) = v) (hlk : Cond.methodLink own index Lib.Math.max.name ∈ Ts) (hstc : Cond.static Lib.Math.max.name ∈ Ts) (hini : Cond.initialized "java/lang/Math" ∈ Ts) (hcd : Cond.code Lib.Math.max.name Lib.Math.max.code 2 (some .int) ∈ Ts) (hR : 1 ≤ R.frames) (hlo : (st.map fun v => v.category).sum + 13 ≤ R.locals) (hcs : cells ≤ R.cells ∧ slots ≤ R.slots) (hdg : decode cc pc = .ok (.invokestatic index, 3)) (kk : X p l e R s m args below meth c cells slots Q nL D A ws lv (pc + 3) (.int v :: st)) : X p l e R s m args below meth c cells slots Q nL D A ws lv pc (.int y :: .int x :: st) := fun H locs ls hP hD hS hl => va_mmax hE.1 hE.2.1 (hE.2.2.1.trans hl.1.symm) hE.2.2.2.1 (hE.2.2.2.2.1 _ hlk) (hE.2.2.2.2.1 _ hstc) (hE.2.2.2.2.1 _ hini) (hE.2.2.2.2.1 _ hcd) hR hlo hcs.1 hcs.2 hdg (by rw [hv]; exact kk H locs ls hP hD hS hl)
theorem x_mmin (hE : xE p s m args meth c cc own Ts nL D cI cZ A) {index : Nat} {x y : Int32} (v : Int32) (hv : (if y < x then y else x) = v) (hlk : Cond.methodLink own index Lib.Math.min.name ∈ Ts) (hstc : Cond.static Lib.Math.min.name ∈ Ts) (hini : Cond.initialized "java/lang/Math" ∈ Ts) (hcd : Cond.code Lib.Math.min.name Lib.Math.min.code 2 (some .int) ∈ Ts) (hR : 1 ≤ R.frames) (hlo : (st.map fun v => v.category).sum + 13 ≤ R.locals) (hcs : cells ≤ R.cells ∧ slots ≤ R.slots) (hdg : decode cc pc = .ok (.invokestatic index, 3)) (kk : X p l e R s m args below meth c cells slots Q nL D A ws lv (pc + 3) (.int v :: st)) : X p l e R s m args below meth c cells slots Q nL D A ws lv pc (.int y :: .int x :: st) := fun H locs ls hP hD hS hl => va_mmin hE.1 hE.2.1 (hE.2.2.1.trans hl.1.symm) hE.2.2.2.1 (hE.2.2.2.2.1 _ hlk) (hE.2.2.2.2.1 _ hstc) (hE.2.2.2.2.1 _ hini) (hE.2.2.2.2.1 _ hcd) hR hlo hcs.1 hcs.2 hdg (by rw [hv]; exact kk H locs ls hP hD hS hl)
end
theorem x_tsw (x : Int32) (hi : Nat) (h : hi < 1000) : (x.toInt < 0 ∨ (hi : Int) < x.toInt) ∨ ∃ k : Nat, k ≤ hi ∧ x = nI k := by
  rcases Int.lt_or_le x.toInt 0 with h1 | h1
  · exact Or.inl (Or.inl h1)
  · rcases Int.lt_or_le (hi : Int) x.toInt with h2 | h2
    · exact Or.inl (Or.inr h2)
    · refine Or.inr ⟨x.toInt.toNat, by omega, ?_⟩
      rw [← Int32.toInt_inj, nI_toInt (by omega)]
      omega
theorem x_tsl {x : Int32} {k : Nat} (e : x = nI k) (hk : k < 1000) : ¬ x.toInt < 0 := by rw [e, nI_toInt (by omega)]; omega
theorem x_tsh {x : Int32} {k hi : Nat} (e : x = nI k) (hk : k ≤ hi) (hh : hi < 1000) : ¬ (hi : Int) < x.toInt := by rw [e, nI_toInt (by omega)]; omega
theorem x_tsn {x : Int32} {k : Nat} (e : x = nI k) (hk : k < 1000) : (x.toInt - 0).toNat = k := by rw [e, nI_toInt (by omega)]; omega
theorem xI_dec {a n : Nat} (h : n ≤ a) : nI a + Int32.ofInt (-(n : Int)) = nI (a - n) := by
  have h1 : Int32.ofInt (-(n : Int)) = -(nI n) := by
    rw [← Int32.neg_ofInt]; rfl
  rw [h1, ← Int32.sub_eq_add_neg, xI_sub h]
theorem xI_min {a b : Nat} (ha : a < 2 ^ 31) (hb : b < 2 ^ 31) : (if nI b < nI a then nI b else nI a) = nI (min a b) := by
  by_cases h : b < a
  · rw [if_pos ((xI_lt hb ha).mpr h), Nat.min_eq_right (by omega)]
  · rw [if_neg (fun q => h ((xI_lt hb ha).mp q)), Nat.min_eq_left (by omega)]
theorem xI_max {a b : Nat} (ha : a < 2 ^ 31) (hb : b < 2 ^ 31) : (if nI a < nI b then nI b else nI a) = nI (max a b) := by
  by_cases h : a < b
  · rw [if_pos ((xI_lt ha hb).mpr h), Nat.max_eq_right (by omega)]
  · rw [if_neg (fun q => h ((xI_lt ha hb).mp q)), Nat.max_eq_left (by omega)]
section
variable {p : Program} {l : Launch} {e : Env} {R : Room} {s : State} {m : MethodId} {args : Array Value} {below : List Frame} {meth : Method} {c : Code} {cells slots : Nat} {Q : State → Prop} {cc : ByteArray} {own : String} {Ts : List Cond} {nL : Nat} {D : va_G} {cI cZ : ClassId} {A : Nat → Prop} {ws : va_W} {lv : List (Nat × Value)} {pc : Nat} {st : List Value}
theorem x_ldcw (hE : xE p s m args meth c cc own Ts nL D cI cZ A) {index : Nat} (v : Int32) (hm : Cond.constant own index v ∈ Ts) (hdg : decode cc pc = .ok (.ldc_w index, 3)) (kk : X p l e R s m args below meth c cells slots Q nL D A ws lv (pc + 3) (.int v :: st)) : X p l e R s m args below meth c cells slots Q nL D A ws lv pc st := fun H locs ls hP hD hS hl => lv_ldcw hE.1 hE.2.1 hE.2.2.2.1 (hE.2.2.2.2.1 _ hm) hdg (kk H locs ls hP hD hS hl)
theorem x_lookup2 (hE : xE p s m args meth c cc own Ts nL D cI cZ A) {dflt o0 o1 : Int} {len : Nat} {x : Int32} (t0 t1 t2 : Nat) (h0 : (pc : Int) + o0 = (t0 : Int)) (h1 : (pc : Int) + o1 = (t1 : Int)) (h2 : (pc : Int) + dflt = (t2 : Int)) (hdg : decode cc pc = .ok (.lookupswitch dflt #[(0, o0), (1, o1)], len)) (k0 : x = nI 0 → X p l e R s m args below meth c cells slots Q nL D A ws lv t0 st) (k1 : x = nI 1 → X p l e R s m args below meth c cells slots Q nL D A ws lv t1 st) (k2 : ¬ x = nI 0 → ¬ x = nI 1 → X p l e R s m args below meth c cells slots Q nL D A ws lv t2 st) : X p l e R s m args below meth c cells slots Q nL D A ws lv pc (.int x :: st) := by
  intro H locs ls hP hD hS hl
  by_cases e0 : x = nI 0
  · refine lv_lookup (off := o0) hE.1 hE.2.1 hdg (by simp) ?_ h0 (k0 e0 H locs ls hP hD hS hl)
    rw [e0]; simp [Op.lookupswitch.offset, show (nI 0).toInt = 0 from by decide]
  · by_cases e1 : x = nI 1
    · refine lv_lookup (off := o1) hE.1 hE.2.1 hdg (by simp) ?_ h1 (k1 e1 H locs ls hP hD hS hl)
      rw [e1]; simp [Op.lookupswitch.offset, show (nI 1).toInt = 1 from by decide]
    · refine lv_lookup (off := dflt) hE.1 hE.2.1 hdg (by simp) ?_ h2 (k2 e0 e1 H locs ls hP hD hS hl)
      rw [lv_osw e0 (by decide), lv_osw e1 (by decide)]; rfl
theorem x_objInit (hE : xE p s m args meth c cc own Ts nL D cI cZ A) {index a : Nat} (h1 : Cond.methodLink own index Lib.objectInit ∈ Ts) (h2 : Cond.instanceMethod Lib.objectInit ∈ Ts) (h3 : Cond.code Lib.objectInit ⟨#[0xb1]⟩ 1 none ∈ Ts) (hf : 1 ≤ R.frames) (hlo : (st.map fun v => v.category).sum + 12 ≤ R.locals) (hdg : decode cc pc = .ok (.invokespecial index, 3)) (kk : X p l e R s m args below meth c cells slots Q nL D A ws lv (pc + 3) st) : X p l e R s m args below meth c cells slots Q nL D A ws lv pc (.ref a :: st) := fun H locs ls hP hD hS hl => W.objInit hE.1 hE.2.1 hE.2.2.2.1 (hE.2.2.2.2.1 _ h1) (hE.2.2.2.2.1 _ h2) (hE.2.2.2.2.1 _ h3) rfl (hl.1.trans hE.2.2.1.symm) rfl hdg hf (by show 2 * 0 + _ + 12 ≤ _; omega) (kk H locs ls hP hD hS hl)
theorem x_newarrI (hE : xE p s m args meth c cc own Ts nL D cI cZ A) (hm : Cond.arrayClass .int ∈ Ts) (n : Nat) (c' s' : Nat) (hc : cells + 1 = c') (hs : slots + n = s') (hn : n < 65536) (hcr : c' ≤ R.cells) (hsr : s' ≤ R.slots) (hdg : decode cc pc = .ok (.newarray .int, 2)) (kk : ∀ q : Nat, X p l e R s m args below meth c c' s' Q nL D A (ws ++ [(q, .inl (cI, n, .inl (fun _ => nI 0)))]) lv (pc + 2) (.ref q :: st)) : X p l e R s m args below meth c cells slots Q nL D A ws lv pc (.int (nI n) :: st) := by
  intro H locs ls hP hD hS hl
  subst hc; subst hs
  refine va_newa (atype := .int) (ty := .int) (n := nI n) (N' := n) (a0 := (n, .inl (fun _ => nI 0))) hE.1 hE.2.1 (hE.2.2.2.2.1 _ hm) rfl hE.2.2.2.2.2.1 hP hD hS hE.2.2.2.2.2.2.2.1 (fun _ => rfl) (nI_pos (by omega)) (xclamp (by omega)) (by show n * 4 ≤ _; omega) hcr hsr hdg (fun q cA H1 hK1 hP1 hD1 hS1 => ?_)
  have e1 := (hK1.2 2 _ rfl).2
  have e2 := (hE.2.2.2.2.2.1.2 0 _ rfl).2
  have e3 : cA = cI := Option.some.inj (e1.symm.trans e2)
  subst e3
  exact kk q H1 locs ls hP1 hD1 hS1 hl
theorem x_newarrN (hE : xE p s m args meth c cc own Ts nL D cI cZ A) (hm : Cond.arrayClass .int ∈ Ts) (n : Nat) (c' s' : Nat) (hc : cells + 1 = c') (hs : slots + n = s') (hn : n < 65536) (hcr : c' ≤ R.cells) (hsr : s' ≤ R.slots) (hdg : decode cc pc = .ok (.newarray .int, 2)) (kk : ∀ q : Nat, X p l e R s m args below meth c c' s' Q nL D A (ws ++ [(q, .inl (cI, n, .inl (xN (fun _ => 0))))]) lv (pc + 2) (.ref q :: st)) : X p l e R s m args below meth c cells slots Q nL D A ws lv pc (.int (nI n) :: st) := by
  intro H locs ls hP hD hS hl
  subst hc; subst hs
  refine va_newa (atype := .int) (ty := .int) (n := nI n) (N' := n) (a0 := (n, .inl (xN (fun _ => 0)))) hE.1 hE.2.1 (hE.2.2.2.2.1 _ hm) rfl hE.2.2.2.2.2.1 hP hD hS hE.2.2.2.2.2.2.2.1 (fun _ => rfl) (nI_pos (by omega)) (xclamp (by omega)) (by show n * 4 ≤ _; omega) hcr hsr hdg (fun q cA H1 hK1 hP1 hD1 hS1 => ?_)
  have e1 := (hK1.2 2 _ rfl).2
  have e2 := (hE.2.2.2.2.2.1.2 0 _ rfl).2
  have e3 : cA = cI := Option.some.inj (e1.symm.trans e2)
  subst e3
  exact kk q H1 locs ls hP1 hD1 hS1 hl
theorem x_newarrZ (hE : xE p s m args meth c cc own Ts nL D cI cZ A) (hm : Cond.arrayClass .boolean ∈ Ts) (n : Nat) (c' s' : Nat) (hc : cells + 1 = c') (hs : slots + n = s') (hn : n < 65536) (hcr : c' ≤ R.cells) (hsr : s' ≤ R.slots) (hdg : decode cc pc = .ok (.newarray .boolean, 2)) (kk : ∀ q : Nat, X p l e R s m args below meth c c' s' Q nL D A (ws ++ [(q, .inl (cZ, n, .inl (xB (fun _ => false))))]) lv (pc + 2) (.ref q :: st)) : X p l e R s m args below meth c cells slots Q nL D A ws lv pc (.int (nI n) :: st) := by
  intro H locs ls hP hD hS hl
  subst hc; subst hs
  refine va_newa (atype := .boolean) (ty := .boolean) (n := nI n) (N' := n) (a0 := (n, .inl (xB (fun _ => false)))) hE.1 hE.2.1 (hE.2.2.2.2.1 _ hm) rfl hE.2.2.2.2.2.1 hP hD hS hE.2.2.2.2.2.2.2.1 (fun _ => rfl) (nI_pos (by omega)) (xclamp (by omega)) (by show n * 1 ≤ _; omega) hcr hsr hdg (fun q cA H1 hK1 hP1 hD1 hS1 => ?_)
  have e1 := (hK1.2 2 _ rfl).2
  have e2 := (hE.2.2.2.2.2.1.2 1 _ rfl).2
  have e3 : cA = cZ := Option.some.inj (e1.symm.trans e2)
  subst e3
  exact kk q H1 locs ls hP1 hD1 hS1 hl
theorem x_newobj (hE : xE p s m args meth c cc own Ts nL D cI cZ A) {index ci : Nat} (C : String) (T : u_T) (N : Nat) (ty : Nat → FieldType) (hin : ∀ w ∈ u_ws C T N, w ∈ Ts) (hty : ∀ k, k < N → parseFieldDescriptor (T k).2.2.1 = some (ty k)) (h1 : Cond.classLink own index C ∈ Ts) (h2 : Cond.instantiable C N ∈ Ts) (h3 : Cond.initialized C ∈ Ts) (hc : vwCl[ci]? = some (C, T, N)) (fs : List Value) (hfs : ∀ j, j < N → defaultValue (ty j) = vp_V fs j) (c' s' : Nat) (hcc : cells + 1 = c') (hs : slots + N = s') (hcr : c' ≤ R.cells) (hsr : s' ≤ R.slots) (hdg : decode cc pc = .ok (.new index, 3)) (kk : ∀ q : Nat, X p l e R s m args below meth c c' s' Q nL D A (ws ++ [(q, .inr (ci, fs))]) lv (pc + 3) (.ref q :: st)) : X p l e R s m args below meth c cells slots Q nL D A ws lv pc st := by
  intro H locs ls hP hD hS hl
  subst hcc; subst hs
  exact va_new hE.1 hE.2.1 hE.2.2.2.2.1 hin ty hty hE.2.2.2.1 (hE.2.2.2.2.1 _ h1) (hE.2.2.2.2.1 _ h2) (hE.2.2.2.2.1 _ h3) hE.2.2.2.2.2.1 hP hD hS hE.2.2.2.2.2.2.2.1 hc hfs hcr hsr hdg (fun q H1 hP1 hD1 hS1 => kk q H1 locs ls hP1 hD1 hS1 hl)
end
end
section
/-! the loops -/
def lfor {σ : Type} (f : Nat → σ → σ) : Nat → Nat → σ → σ
  | _, 0, s => s
  | i, n + 1, s => lfor f (i + 1) n (f i s)
def lany (p : Nat → Bool) : Nat → Nat → Bool
  | _, 0 => false
  | i, n + 1 => if p i = true then true else lany p (i + 1) n
/-- the first i with p i, else -3 -/
def lfind (p : Nat → Bool) : Nat → Nat → Int32
  | _, 0 => (-3)
  | i, n + 1 => if p i = true then nI i else lfind p (i + 1) n
def b2n (b : Bool) : Nat := if b = true then 1 else 0
/-! eight bits -/
def an8 (a b : Nat) : Nat := a &&& (255 ^^^ b)
theorem an8_ok {a b : Nat} (ha : a < 256) : nI a &&& (nI b ^^^ (-1)) = nI (an8 a b) := by
  rw [show ((-1 : Int32)) = nI (2 ^ 32 - 1) from by decide, fb_xorI, fa_and]
  congr 1
  unfold an8
  apply Nat.eq_of_testBit_eq
  intro i
  rw [Nat.testBit_and, Nat.testBit_and, Nat.testBit_xor, Nat.testBit_xor, Nat.testBit_two_pow_sub_one]
  by_cases h : i < 8
  · rw [show (255 : Nat) = 2 ^ 8 - 1 from rfl, Nat.testBit_two_pow_sub_one]
    simp [h, show i < 32 by omega]
  · have h1 : a.testBit i = false := Nat.testBit_lt_two_pow (Nat.lt_of_lt_of_le ha (show 256 ≤ 2 ^ i from Nat.pow_le_pow_right (n := 2) (i := 8) (by decide) (by omega)))
    rw [h1]; rfl
theorem an8_lt {a b : Nat} (ha : a < 256) : an8 a b < 256 := Nat.lt_of_le_of_lt Nat.and_le_left ha
theorem or256 {a b : Nat} (ha : a < 256) (hb : b < 256) : a ||| b < 256 := Nat.or_lt_two_pow (n := 8) ha hb
theorem and256 {a b : Nat} (ha : a < 256) : a &&& b < 256 := Nat.lt_of_le_of_lt Nat.and_le_left ha
theorem shl256 {c : Nat} (hc : c < 8) : 1 <<< c < 256 := (by decide : ∀ c, c < 8 → 1 <<< c < 256) c hc
def pop8 (x : Nat) : Nat := fb_ct (fun c => x.testBit c) 8
def bc1 (x : Int32) : Int32 := x - ((x.toUInt32 >>> ((nI 1).toUInt32 &&& Int32.toUInt32 31)).toInt32 &&& nI 1431655765)
def bc2 (x : Int32) : Int32 := (x &&& nI 858993459) + ((x.toUInt32 >>> ((nI 2).toUInt32 &&& Int32.toUInt32 31)).toInt32 &&& nI 858993459)
def bc3 (x : Int32) : Int32 := (x + (x.toUInt32 >>> ((nI 4).toUInt32 &&& Int32.toUInt32 31)).toInt32) &&& nI 252645135
def bc4 (x : Int32) : Int32 := x + (x.toUInt32 >>> ((nI 8).toUInt32 &&& Int32.toUInt32 31)).toInt32
def bc5 (x : Int32) : Int32 := x + (x.toUInt32 >>> ((nI 16).toUInt32 &&& Int32.toUInt32 31)).toInt32
theorem bc_ok : ∀ x, x < 256 → bc5 (bc4 (bc3 (bc2 (bc1 (nI x))))) &&& nI 63 = nI (pop8 x) := by decide +kernel
/-! a fill -/
theorem fillN_succ (f g : Nat → Nat) (i : Nat) : updN (fa_fill f g i) i (f i) = fa_fill f g (i + 1) := by
  funext j
  unfold updN fa_fill
  by_cases h : j = i
  · subst h; simp
  · by_cases h2 : j < i
    · simp [h, h2, show j < i + 1 by omega]
    · simp [h, h2, show ¬ j < i + 1 by omega]
theorem fillB_succ (f g : Nat → Bool) (i : Nat) : updB (fa_fill f g i) i (f i) = fa_fill f g (i + 1) := by
  funext j
  unfold updB fa_fill
  by_cases h : j = i
  · subst h; simp
  · by_cases h2 : j < i
    · simp [h, h2, show j < i + 1 by omega]
    · simp [h, h2, show ¬ j < i + 1 by omega]
theorem updN_lt {f : Nat → Nat} {b k x : Nat} (h : ∀ j, f j < b) (hx : x < b) (j : Nat) : updN f k x j < b := by
  unfold updN; by_cases e : j = k <;> simp [e, hx, h]
theorem fill_lt {f g : Nat → Nat} {b i : Nat} (hf : ∀ j, f j < b) (hg : ∀ j, g j < b) (j : Nat) : fa_fill f g i j < b := by
  unfold fa_fill; by_cases e : j < i <;> simp [e, hf, hg]
/-! the nets -/
def uniN (j : Nat → Nat) (b : Nat) : Nat := lfor (fun r u => if j r &&& b = 0 then u else u ||| j r) 0 8 0
def jthru (j : Nat → Nat) (b : Nat) : Nat → Nat := lfor (fun r j' => if j' r &&& b = 0 then j' else updN j' r (uniN j b)) 0 8 j
def joinN (cl jn : Nat → Nat) : Nat → Nat := lfor (fun c j => jthru j (1 <<< c)) 0 8 (fa_fill cl jn 8)
def putC (cl : Nat → Nat) (r c : Nat) (b : Bool) : Nat → Nat := updN cl r (if b = true then cl r ||| (1 <<< c) else an8 (cl r) (1 <<< c))
def putJ (cl jn : Nat → Nat) (r c : Nat) (b : Bool) : Nat → Nat := joinN (putC cl r c b) jn
def rjwN (jn : Nat → Nat) (r : Nat) : Nat := lfor (fun o a => if jn o &&& jn r = 0 then a else a ||| (1 <<< o)) 0 8 (1 <<< r)
theorem lfor_inv {σ : Type} {f : Nat → σ → σ} (P : σ → Prop) (h : ∀ i s, P s → P (f i s)) : ∀ (n i : Nat) (s : σ), P s → P (lfor f i n s)
  | 0, _, _, hs => hs
  | n + 1, i, s, hs => lfor_inv P h n (i + 1) (f i s) (h i s hs)
theorem uniN_lt {j : Nat → Nat} (h : ∀ r, j r < 256) (b : Nat) : uniN j b < 256 := by
  refine lfor_inv (fun u => u < 256) ?_ 8 0 0 (by decide)
  intro i u hu
  show (if j i &&& b = 0 then u else u ||| j i) < 256
  by_cases e : j i &&& b = 0
  · rw [if_pos e]; exact hu
  · rw [if_neg e]; exact or256 hu (h i)
theorem jthru_lt {j : Nat → Nat} (h : ∀ r, j r < 256) (b : Nat) : ∀ r, jthru j b r < 256 := by
  refine lfor_inv (fun j' : Nat → Nat => ∀ r, j' r < 256) ?_ 8 0 j h
  intro i j' hj'
  show ∀ r, (if j' i &&& b = 0 then j' else updN j' i (uniN j b)) r < 256
  by_cases e : j' i &&& b = 0
  · rw [if_pos e]; exact hj'
  · rw [if_neg e]; exact updN_lt hj' (uniN_lt h b)
theorem joinN_lt {cl jn : Nat → Nat} (h : ∀ r, cl r < 256) (hj : ∀ r, jn r < 256) : ∀ r, joinN cl jn r < 256 := by
  refine lfor_inv (fun j' : Nat → Nat => ∀ r, j' r < 256) ?_ 8 0 _ (fill_lt h hj)
  intro i j' hj'
  exact jthru_lt hj' _
theorem putC_lt {cl : Nat → Nat} (h : ∀ r, cl r < 256) (r : Nat) {c : Nat} (hc : c < 8) (b : Bool) : ∀ q, putC cl r c b q < 256 := by
  refine updN_lt h ?_
  cases b
  · exact an8_lt (h r)
  · exact or256 (h r) (shl256 hc)
theorem putJ_lt {cl jn : Nat → Nat} (h : ∀ r, cl r < 256) (hj : ∀ r, jn r < 256) (r : Nat) {c : Nat} (hc : c < 8) (b : Bool) : ∀ q, putJ cl jn r c b q < 256 := joinN_lt (putC_lt h r hc b) hj
/-! the matrix -/
def seenN (dio : Bool) (cl jn : Nat → Nat) (r : Nat) : Nat := if dio = true then cl r else jn r
theorem seenN_lt {dio : Bool} {cl jn : Nat → Nat} (h : ∀ r, cl r < 256) (hj : ∀ r, jn r < 256) (r : Nat) : seenN dio cl jn r < 256 := by
  cases dio
  · exact hj r
  · exact h r
def ghN (dio : Bool) (cl jn dl dn : Nat → Nat) (r : Nat) : Nat := an8 (seenN dio cl jn r) (cl r) ||| an8 (seenN dio dl dn r) (dl r)
theorem ghN_lt {dio : Bool} {cl jn dl dn : Nat → Nat} (h1 : ∀ r, cl r < 256) (h2 : ∀ r, jn r < 256) (h3 : ∀ r, dl r < 256) (h4 : ∀ r, dn r < 256) (r : Nat) : ghN dio cl jn dl dn r < 256 := or256 (an8_lt (seenN_lt h1 h2 r)) (an8_lt (seenN_lt h3 h4 r))
/-- the other row makes the key k doubtful -/
def dbS (sn : Nat → Nat) (r b o : Nat) : Bool := if o = r then false else if (sn r &&& sn o) &&& b = 0 then false else if sn r &&& sn o = b then false else true
def dbN (sn : Nat → Nat) (R C k : Nat) : Bool := lany (dbS sn (k / C) (1 <<< (k % C))) 0 R
def prN (pos : Nat → Nat) (n : Nat) : Nat := lfor (fun k a => a + (if pos k = 0 then 0 else 1)) 0 n 0
def dcN (sn : Nat → Nat) (R C : Nat) : Nat := lfor (fun k a => a + b2n (dbN sn R C k)) 0 (R * C) 0
def gcN (dio : Bool) (cl jn dl dn : Nat → Nat) (R : Nat) : Nat := lfor (fun r a => a + pop8 (ghN dio cl jn dl dn r)) 0 R 0
def hasN (k : Int32) (n : Nat) : Bool := if k < nI 0 then false else if k < nI n then true else false
def zeroN (f : Nat → Nat) (n : Nat) : Nat → Nat := fa_fill (fun _ => 0) f n
end
section
/-! the voices -/
def findN (p : Nat → Bool) : Nat → Nat → Nat
  | i, 0 => i
  | i, n + 1 => if p i = true then i else findN p (i + 1) n
/-- an index as an answer: -3 for none -/
def rV (w V : Nat) : Int32 := if w < V then nI w else (-3)
theorem nI_m3 {n : Nat} (h : n < 2 ^ 31) : ¬ nI n = (-3) := fun e => by
  have h1 := congrArg Int32.toInt e
  rw [nI_toInt h] at h1
  rw [show ((-3 : Int32)).toInt = -3 from by decide] at h1
  omega
theorem rV_some {w V : Nat} (h : w < V) : rV w V = nI w := if_pos h
theorem rV_lt {w V : Nat} (h : ¬ rV w V = (-3)) : w < V := by
  by_cases e : w < V
  · exact e
  · exact absurd (if_neg e) h
theorem rV_none {w V : Nat} (hV : V < 2 ^ 31) (h : rV w V = (-3)) : ¬ w < V := fun e => by
  rw [rV_some e] at h
  exact nI_m3 (by omega) h
def wkP (st kk : Nat → Int32) (key : Int32) (v : Nat) : Bool := if st v = nI 0 then false else if kk v = key then true else false
def ffP (st : Nat → Int32) (v : Nat) : Bool := if st v = nI 0 then true else false
/-- the voice v goes before o -/
def gbB (st ve si : Nat → Int32) (ru : Int32) (v o : Nat) : Bool :=
  if ru = nI 2 then
    (if st v = st o then
      (if ru = nI 1 then (if ve v = ve o then (if si v < si o then true else false) else if ve v < ve o then true else false) else if si v < si o then true else false)
    else if st v = nI 2 then true else false)
  else
    (if ru = nI 1 then (if ve v = ve o then (if si v < si o then true else false) else if ve v < ve o then true else false) else if si v < si o then true else false)
def vicN (st ve si : Nat → Int32) (ru : Int32) (V : Nat) : Nat := lfor (fun v b => if gbB st ve si ru v b = true then v else b) 1 (V - 1) 0
def isN (st : Nat → Int32) (x : Int32) (V : Nat) : Nat := lfor (fun v a => if st v = x then a + 1 else a) 0 V 0
def kpB (sus sos : Bool) (ca : Nat → Bool) (v : Nat) : Bool := if sus = true then true else if sos = true then (if ca v = true then true else false) else false
abbrev VJ : Type := (Nat → Int32) × (Nat → Bool) × (Nat → Int32) × (Nat → Int32) × (Nat → Int32) × Nat
def freeV (kk : Nat → Int32) (now : Int32) (v : Nat) (s : VJ) : VJ := (upd s.1 v (nI 0), updB s.2.1 v false, upd s.2.2.1 (s.2.2.2.2.2 % 16) now, upd s.2.2.2.1 (s.2.2.2.2.2 % 16) (nI 2), upd s.2.2.2.2.1 (s.2.2.2.2.2 % 16) (kk v), s.2.2.2.2.2 + 1)
def limS (kk : Nat → Int32) (now : Int32) (v : Nat) (s : VJ) : VJ := if s.1 v = nI 0 then s else freeV kk now v s
def limV (kk : Nat → Int32) (now : Int32) (nV V : Nat) (s : VJ) : VJ := lfor (limS kk now) nV (V - nV) s
def relV (kk : Nat → Int32) (sus sos : Bool) (key now : Int32) (V : Nat) (s : VJ) : VJ :=
  if findN (wkP s.1 kk key) 0 V < V then
    (if s.1 (findN (wkP s.1 kk key) 0 V) = nI 1 then
      (if kpB sus sos s.2.1 (findN (wkP s.1 kk key) 0 V) = true then (upd s.1 (findN (wkP s.1 kk key) 0 V) (nI 2), s.2) else freeV kk now (findN (wkP s.1 kk key) 0 V) s)
    else s)
  else s
def fkS (kk : Nat → Int32) (now : Int32) (sus sos : Bool) (v : Nat) (s : VJ × Nat) : VJ × Nat := if s.1.1 v = nI 2 then (if kpB sus sos s.1.2.1 v = true then s else (freeV kk now v s.1, s.2 + 1)) else s
def fkV (kk : Nat → Int32) (now : Int32) (sus sos : Bool) (V : Nat) (s : VJ) : VJ × Nat := lfor (fkS kk now sus sos) 0 V (s, 0)
def msuV (kk : Nat → Int32) (now : Int32) (sus sos down : Bool) (V : Nat) (s : VJ) : VJ × Nat := if down = sus then (s, 0) else if down = true then (s, 0) else fkV kk now down sos V s
def capS (st : Nat → Int32) (down : Bool) (v : Nat) (c : Nat → Bool) : Nat → Bool := updB c v (if down = true then (if st v = nI 1 then true else false) else false)
def capV (st : Nat → Int32) (down : Bool) (V : Nat) (c : Nat → Bool) : Nat → Bool := lfor (capS st down) 0 V c
def msoV (kk : Nat → Int32) (now : Int32) (sus sos down : Bool) (V : Nat) (s : VJ) : VJ × Nat :=
  if down = sos then (s, 0) else if down = true then ((s.1, capV s.1 down V s.2.1, s.2.2), isN s.1 (nI 1) V) else fkV kk now sus down V (s.1, capV s.1 down V s.2.1, s.2.2)
def zeroI (f : Nat → Int32) (n : Nat) : Nat → Int32 := fa_fill (fun _ => nI 0) f n
def zeroB (f : Nat → Bool) (n : Nat) : Nat → Bool := fa_fill (fun _ => false) f n
/-- the voice that a strike takes, and whether it is taken away -/
def sndW (st kk ve si : Nat → Int32) (ru key : Int32) (V : Nat) : Nat := if findN (wkP st kk key) 0 V < V then findN (wkP st kk key) 0 V else if findN (ffP st) 0 V < V then findN (ffP st) 0 V else vicN st ve si ru V
def sndT (st kk : Nat → Int32) (key : Int32) (V : Nat) : Bool := if findN (wkP st kk key) 0 V < V then false else if findN (ffP st) 0 V < V then false else true
abbrev JT : Type := (Nat → Int32) × (Nat → Int32) × (Nat → Int32) × Nat
def wrJ (t k y : Int32) (j : JT) : JT := (upd j.1 (j.2.2.2 % 16) t, upd j.2.1 (j.2.2.2 % 16) k, upd j.2.2.1 (j.2.2.2 % 16) y, j.2.2.2 + 1)
def sndJ (st kk ve si : Nat → Int32) (ru key now : Int32) (V : Nat) (j : JT) : JT := wrJ now (nI 1) key (if sndT st kk key V = true then wrJ now (nI 3) (kk (sndW st kk ve si ru key V)) j else j)
theorem lfor_lt {P : Nat → Prop} {f : Nat → Nat → Nat} (h : ∀ i b, f i b = i ∨ f i b = b) : ∀ (n i b V : Nat), i + n ≤ V → b < V → lfor f i n b < V
  | 0, _, _, _, _, hb => hb
  | n + 1, i, b, V, hi, hb => by
    show lfor f (i + 1) n (f i b) < V
    refine lfor_lt (P := P) h n (i + 1) _ V (by omega) ?_
    rcases h i b with e | e <;> rw [e] <;> omega
theorem vicN_lt {st ve si : Nat → Int32} {ru : Int32} {V : Nat} (h : 1 ≤ V) : vicN st ve si ru V < V := by
  refine lfor_lt (P := fun _ => True) (fun i b => ?_) (V - 1) 1 0 V (by omega) (by omega)
  by_cases e : gbB st ve si ru i b = true
  · exact Or.inl (if_pos e)
  · exact Or.inr (if_neg e)
end
section
/-! arguments -/
def wiB (v a b : Int32) : Bool := if v < a then false else if b < v then false else true
theorem wi_nat {v : Int32} {a b : Nat} (ha : a < 2 ^ 31) (hb : b < 2 ^ 31) (h : wiB v (nI a) (nI b) = true) : ∃ n, a ≤ n ∧ n ≤ b ∧ v = nI n := by
  unfold wiB at h
  by_cases h1 : v < nI a
  · rw [if_pos h1] at h; cases h
  · by_cases h2 : nI b < v
    · rw [if_neg h1, if_pos h2] at h; cases h
    · rw [Int32.lt_iff_toInt_lt, nI_toInt ha] at h1
      rw [Int32.lt_iff_toInt_lt, nI_toInt hb] at h2
      refine ⟨v.toInt.toNat, by omega, by omega, ?_⟩
      rw [← Int32.toInt_inj, nI_toInt (by omega)]
      omega
theorem wi_ok {n a b : Nat} (h1 : a ≤ n) (h2 : n ≤ b) (hb : b < 2 ^ 31) : wiB (nI n) (nI a) (nI b) = true := by
  unfold wiB
  rw [if_neg (fun q => absurd ((xI_lt (by omega) (by omega)).mp q) (by omega)), if_neg (fun q => absurd ((xI_lt (by omega) (by omega)).mp q) (by omega))]
theorem wi_or (v : Int32) (a b : Nat) (ha : a < 2 ^ 31) (hb : b < 2 ^ 31) : (∃ n, a ≤ n ∧ n ≤ b ∧ v = nI n) ∨ wiB v (nI a) (nI b) = false := by
  cases h : wiB v (nI a) (nI b)
  · exact Or.inr rfl
  · exact Or.inl (wi_nat ha hb h)
theorem has_nat {k : Int32} {n : Nat} (hn : n < 2 ^ 31) (h : hasN k n = true) : ∃ j, j < n ∧ k = nI j := by
  unfold hasN at h
  by_cases h1 : k < nI 0
  · rw [if_pos h1] at h; cases h
  · by_cases h2 : k < nI n
    · rw [Int32.lt_iff_toInt_lt, nI_toInt (by decide)] at h1
      rw [Int32.lt_iff_toInt_lt, nI_toInt hn] at h2
      refine ⟨k.toInt.toNat, by omega, ?_⟩
      rw [← Int32.toInt_inj, nI_toInt (by omega)]
      omega
    · rw [if_neg h1, if_neg h2] at h; cases h
theorem has_ok {j n : Nat} (h : j < n) (hn : n < 2 ^ 31) : hasN (nI j) n = true := by
  unfold hasN
  rw [if_neg (fun q => absurd ((xI_lt (by omega) (by omega)).mp q) (by omega)), if_pos ((xI_lt (by omega) (by omega)).mpr h)]
theorem has_or (k : Int32) (n : Nat) (hn : n < 2 ^ 31) : (∃ j, j < n ∧ k = nI j) ∨ hasN k n = false := by
  cases h : hasN k n
  · exact Or.inr rfl
  · exact Or.inl (has_nat hn h)
/-- an answer by a number of 0 to hi, else -2 -/
def selN (w : Int32) (hi : Nat) (f : Nat → Int32) : Int32 := if w.toInt < 0 ∨ (hi : Int) < w.toInt then (-2) else f w.toInt.toNat
theorem selN_in {w : Int32} {j hi : Nat} {f : Nat → Int32} (e : w = nI j) (h : j ≤ hi) (hh : hi < 1000) : selN w hi f = f j := by
  unfold selN
  rw [e, nI_toInt (by omega), if_neg (by omega)]
  rfl
theorem selN_out {w : Int32} {hi : Nat} {f : Nat → Int32} (h : w.toInt < 0 ∨ (hi : Int) < w.toInt) : selN w hi f = (-2) := if_pos h
def fsB (sn : Nat → Nat) (C k : Nat) : Bool := (sn (k / C)).testBit (k % C)
/-! velocities -/
def vaI (sl n : Int32) : Int32 := if nI 1 < (if nI 128 - sl * n < nI 127 then nI 128 - sl * n else nI 127) then (if nI 128 - sl * n < nI 127 then nI 128 - sl * n else nI 127) else nI 1
/-! scans -/
abbrev VS : Type := (Nat → Int32) × (Nat → Int32) × (Nat → Int32) × (Nat → Int32) × (Nat → Bool) × Int32 × (Nat → Int32) × (Nat → Int32) × (Nat → Int32) × Nat × Int32 × Int32
abbrev XS : Type := (Nat → Int32) × (Nat → Int32) × VS
/-- time, slope, rule, rows, voices, blocking, late release, the pedals -/
abbrev PR : Type := Nat × Int32 × Int32 × Nat × Nat × Bool × Bool × Bool × Bool
def hitS (pr : PR) (k : Nat) : XS → XS := fun (ph, bg, st, kk, ve, si, ca, tk, jt, jk, jy, mj, sk, rf) =>
  (upd ph k (nI 2), bg, upd st (sndW st kk ve si pr.2.2.1 (nI k) pr.2.2.2.2.1) (nI 1), upd kk (sndW st kk ve si pr.2.2.1 (nI k) pr.2.2.2.2.1) (nI k), upd ve (sndW st kk ve si pr.2.2.1 (nI k) pr.2.2.2.2.1) (vaI pr.2.1 ((nI pr.1 - bg k) / nI pr.2.2.2.1)), upd si (sndW st kk ve si pr.2.2.1 (nI k) pr.2.2.2.2.1) (nI pr.1), updB ca (sndW st kk ve si pr.2.2.1 (nI k) pr.2.2.2.2.1) false,
    (if sndT st kk (nI k) pr.2.2.2.2.1 = true then tk + nI 1 else tk), (sndJ st kk ve si pr.2.2.1 (nI k) (nI pr.1) pr.2.2.2.2.1 (jt, jk, jy, mj)).1, (sndJ st kk ve si pr.2.2.1 (nI k) (nI pr.1) pr.2.2.2.2.1 (jt, jk, jy, mj)).2.1, (sndJ st kk ve si pr.2.2.1 (nI k) (nI pr.1) pr.2.2.2.2.1 (jt, jk, jy, mj)).2.2.1, (sndJ st kk ve si pr.2.2.1 (nI k) (nI pr.1) pr.2.2.2.2.1 (jt, jk, jy, mj)).2.2.2, sk + nI 1, rf)
def refS (pr : PR) (k : Nat) : XS → XS := fun (ph, bg, st, kk, ve, si, ca, tk, jt, jk, jy, mj, sk, rf) =>
  (upd ph k (nI 2), bg, st, kk, ve, si, ca, tk, upd jt (mj % 16) (nI pr.1), upd jk (mj % 16) (nI 4), upd jy (mj % 16) (nI k), mj + 1, sk, rf + nI 1)
def strS (pr : PR) (d : Bool) (k : Nat) (s : XS) : XS := if pr.2.2.2.2.2.1 = true then (if d = true then refS pr k s else hitS pr k s) else hitS pr k s
def rlsS (pr : PR) (k : Nat) : XS → XS := fun (ph, bg, st, kk, ve, si, ca, tk, jt, jk, jy, mj, sk, rf) =>
  (ph, bg, (relV kk pr.2.2.2.2.2.2.2.1 pr.2.2.2.2.2.2.2.2 (nI k) (nI pr.1) pr.2.2.2.2.1 (st, ca, jt, jk, jy, mj)).1, kk, ve, si, (relV kk pr.2.2.2.2.2.2.2.1 pr.2.2.2.2.2.2.2.2 (nI k) (nI pr.1) pr.2.2.2.2.1 (st, ca, jt, jk, jy, mj)).2.1, tk, (relV kk pr.2.2.2.2.2.2.2.1 pr.2.2.2.2.2.2.2.2 (nI k) (nI pr.1) pr.2.2.2.2.1 (st, ca, jt, jk, jy, mj)).2.2.1, (relV kk pr.2.2.2.2.2.2.2.1 pr.2.2.2.2.2.2.2.2 (nI k) (nI pr.1) pr.2.2.2.2.1 (st, ca, jt, jk, jy, mj)).2.2.2.1, (relV kk pr.2.2.2.2.2.2.2.1 pr.2.2.2.2.2.2.2.2 (nI k) (nI pr.1) pr.2.2.2.2.1 (st, ca, jt, jk, jy, mj)).2.2.2.2.1, (relV kk pr.2.2.2.2.2.2.2.1 pr.2.2.2.2.2.2.2.2 (nI k) (nI pr.1) pr.2.2.2.2.1 (st, ca, jt, jk, jy, mj)).2.2.2.2.2, sk, rf)
def entS (pr : PR) (k : Nat) (x : Int32) (s : XS) : XS := (upd s.1 k x, upd s.2.1 k (nI pr.1), s.2.2)
def sc1 (pr : PR) (f : Bool) (k : Nat) (s : XS) : XS := if s.1 k = nI 0 then (if f = true then entS pr k (nI 1) s else s) else s
def sc2 (pr : PR) (f g d : Bool) (k : Nat) (s : XS) : XS := if s.1 k = nI 1 then (if g = true then strS pr d k s else if f = true then s else (upd s.1 k (nI 0), s.2)) else s
def sc3 (pr : PR) (g was : Bool) (k : Nat) (s : XS) : XS := if was = true then (if g = true then s else if pr.2.2.2.2.2.2.1 = true then entS pr k (nI 3) s else entS pr k (nI 3) (rlsS pr k s)) else s
def sc4 (pr : PR) (f g d : Bool) (k : Nat) (s : XS) : XS := if s.1 k = nI 3 then (if g = true then strS pr d k s else if f = true then s else (upd (rlsS pr k s).1 k (nI 0), (rlsS pr k s).2)) else s
def wasB (ph : Nat → Int32) (k : Nat) : Bool := if ph k = nI 2 then true else false
def scnS (pr : PR) (F G Dd : Nat → Bool) (k : Nat) (s : XS) : XS := sc4 pr (F k) (G k) (Dd k) k (sc3 pr (G k) (wasB s.1 k) k (sc2 pr (F k) (G k) (Dd k) k (sc1 pr (F k) k s)))
def rowS (pr : PR) (F G Dd : Nat → Bool) (C row : Nat) (s : XS) : XS := lfor (fun c s => scnS pr F G Dd (row * C + c) s) 0 C s
def prT (pr : PR) (i : Nat) : PR := (pr.1 + i, pr.2)
def tckS (pr : PR) (F G Dd : Nat → Bool) (C n : Nat) (s : XS) : XS := lfor (fun i s => rowS (prT pr i) F G Dd C ((pr.1 + i) % pr.2.2.2.1) s) 0 n s
/-! entries are few -/
abbrev mkS (s : XS) : Nat := s.2.2.2.2.2.2.2.2.2.2.2.1
theorem sndJ_mk (st kk ve si : Nat → Int32) (ru key now : Int32) (V : Nat) (j : JT) : (sndJ st kk ve si ru key now V j).2.2.2 ≤ j.2.2.2 + 2 := by
  unfold sndJ
  by_cases h : sndT st kk key V = true
  · rw [if_pos h]; simp only [wrJ]; omega
  · rw [if_neg h]; simp only [wrJ]; omega
theorem relV_mk (kk : Nat → Int32) (sus sos : Bool) (key now : Int32) (V : Nat) (s : VJ) : (relV kk sus sos key now V s).2.2.2.2.2 ≤ s.2.2.2.2.2 + 1 := by
  unfold relV
  repeat' split
  all_goals first | exact Nat.le_refl _ | exact Nat.le_add_right _ _
theorem strS_mk (pr : PR) (d : Bool) (k : Nat) (s : XS) : mkS (strS pr d k s) ≤ mkS s + 2 := by
  obtain ⟨ph, bg, st, kk, ve, si, ca, tk, jt, jk, jy, mj, sk, rf⟩ := s
  unfold strS
  have h := sndJ_mk st kk ve si pr.2.2.1 (nI k) (nI pr.1) pr.2.2.2.2.1 (jt, jk, jy, mj)
  repeat' split
  all_goals (simp only [mkS, hitS, refS] at h ⊢; omega)
theorem rlsS_mk (pr : PR) (k : Nat) (s : XS) : mkS (rlsS pr k s) ≤ mkS s + 1 := by
  obtain ⟨ph, bg, st, kk, ve, si, ca, tk, jt, jk, jy, mj, sk, rf⟩ := s
  exact relV_mk kk pr.2.2.2.2.2.2.2.1 pr.2.2.2.2.2.2.2.2 (nI k) (nI pr.1) pr.2.2.2.2.1 (st, ca, jt, jk, jy, mj)
theorem sc1_mk (pr : PR) (f : Bool) (k : Nat) (s : XS) : mkS (sc1 pr f k s) = mkS s := by
  unfold sc1
  repeat' split
  all_goals rfl
theorem sc2_mk (pr : PR) (f g d : Bool) (k : Nat) (s : XS) : mkS (sc2 pr f g d k s) ≤ mkS s + 2 := by
  unfold sc2
  repeat' split
  · exact strS_mk pr d k s
  · exact Nat.le_add_right _ _
  · exact Nat.le_add_right _ _
  · exact Nat.le_add_right _ _
theorem sc3_mk (pr : PR) (g was : Bool) (k : Nat) (s : XS) : mkS (sc3 pr g was k s) ≤ mkS s + 1 := by
  unfold sc3
  repeat' split
  · exact Nat.le_add_right _ _
  · exact Nat.le_add_right _ _
  · exact rlsS_mk pr k s
  · exact Nat.le_add_right _ _
theorem sc4_mk (pr : PR) (f g d : Bool) (k : Nat) (s : XS) : mkS (sc4 pr f g d k s) ≤ mkS s + 2 := by
  unfold sc4
  repeat' split
  · exact strS_mk pr d k s
  · exact Nat.le_add_right _ _
  · exact Nat.le_trans (rlsS_mk pr k s) (Nat.add_le_add_left (by decide) _)
  · exact Nat.le_add_right _ _
theorem scnS_mk (pr : PR) (F G Dd : Nat → Bool) (k : Nat) (s : XS) : mkS (scnS pr F G Dd k s) ≤ mkS s + 5 := by
  unfold scnS
  have h1 := sc1_mk pr (F k) k s
  have h2 := sc2_mk pr (F k) (G k) (Dd k) k (sc1 pr (F k) k s)
  have h3 := sc3_mk pr (G k) (wasB s.1 k) k (sc2 pr (F k) (G k) (Dd k) k (sc1 pr (F k) k s))
  have h4 := sc4_mk pr (F k) (G k) (Dd k) k (sc3 pr (G k) (wasB s.1 k) k (sc2 pr (F k) (G k) (Dd k) k (sc1 pr (F k) k s)))
  omega
theorem lfor_mk {f : Nat → XS → XS} {b : Nat} (h : ∀ i s, mkS (f i s) ≤ mkS s + b) : ∀ (n i : Nat) (s : XS), mkS (lfor f i n s) ≤ mkS s + n * b
  | 0, _, _ => by simp [lfor]
  | n + 1, i, s => by
    have h1 := lfor_mk h n (i + 1) (f i s)
    have h2 := h i s
    show mkS (lfor f (i + 1) n (f i s)) ≤ _
    rw [Nat.add_mul]; omega
theorem rowS_mk (pr : PR) (F G Dd : Nat → Bool) (C row : Nat) (s : XS) : mkS (rowS pr F G Dd C row s) ≤ mkS s + C * 5 := lfor_mk (fun i s => scnS_mk pr F G Dd (row * C + i) s) C 0 s
theorem tckS_mk (pr : PR) (F G Dd : Nat → Bool) (C n : Nat) (s : XS) : mkS (tckS pr F G Dd C n s) ≤ mkS s + n * (C * 5) := lfor_mk (fun i s => rowS_mk (prT pr i) F G Dd C _ s) n 0 s
end
section
def sel3 (a b c : Int32) (w : Int32) : Int32 := if w = nI 0 then a else if w = nI 1 then b else c
def sel5 (a0 a1 a2 a3 a4 : Int32) : Nat → Int32
  | 0 => a0 | 1 => a1 | 2 => a2 | 3 => a3 | _ => a4
def sel8 (a0 a1 a2 a3 a4 a5 a6 a7 : Int32) : Nat → Int32
  | 0 => a0 | 1 => a1 | 2 => a2 | 3 => a3 | 4 => a4 | 5 => a5 | 6 => a6 | _ => a7
def sel12 (a0 a1 a2 a3 a4 a5 a6 a7 a8 a9 a10 a11 : Int32) : Nat → Int32
  | 0 => a0 | 1 => a1 | 2 => a2 | 3 => a3 | 4 => a4 | 5 => a5 | 6 => a6 | 7 => a7 | 8 => a8 | 9 => a9 | 10 => a10 | _ => a11
theorem isN_le (st : Nat → Int32) (x : Int32) : ∀ (n i u : Nat), lfor (fun v a => if st v = x then a + 1 else a) i n u ≤ u + n
  | 0, _, _ => Nat.le_refl _
  | n + 1, i, u => by
    show lfor _ (i + 1) n (if st i = x then u + 1 else u) ≤ _
    have h := isN_le st x n (i + 1) (if st i = x then u + 1 else u)
    by_cases e : st i = x
    · rw [if_pos e] at h ⊢; omega
    · rw [if_neg e] at h ⊢; omega
theorem isN_V (st : Nat → Int32) (x : Int32) (V : Nat) : isN st x V ≤ V := by
  have h := isN_le st x V 0 0
  unfold isN
  omega
def ntF (st ve si : Nat → Int32) (ru : Int32) (V : Nat) : Int32 := if findN (ffP st) 0 V < V then (-3) else nI (vicN st ve si ru V)
/-- (r - t) floorMod y, where t may be greater -/
def fmN (r t y : Nat) : Nat := if t ≤ r then (r - t) % y else if (t - r) % y = 0 then 0 else y - (t - r) % y
theorem fmN_lt {r t y : Nat} (h : 0 < y) : fmN r t y < y := by
  unfold fmN
  repeat' split
  · exact Nat.mod_lt _ h
  · exact h
  · omega
def lall (p : Nat → Bool) : Nat → Nat → Bool
  | _, 0 => true
  | i, n + 1 => if p i = true then lall p (i + 1) n else false
def rsN (ph : Nat → Int32) (C r : Nat) : Bool := lall (fun c => if ph (r * C + c) = nI 0 then true else false) 0 C
def arS (ph : Nat → Int32) (sn : Nat → Nat) (T R C t r : Nat) : Bool := if fmN r T R < t then (if sn r = 0 then true else false) else rsN ph C r
def arN (ph : Nat → Int32) (sn : Nat → Nat) (T R C t : Nat) : Bool := lall (arS ph sn T R C t) 0 R
/-- the first number of ticks, up to last, else -3 -/
def raN (p : Nat → Bool) : Nat → Nat → Int32
  | _, 0 => (-3)
  | i, n + 1 => if p i = true then nI i else raN p (i + 1) n
/-! the remainder of a negative number -/
theorem xneg_toInt {d : Nat} (h : d < 2 ^ 31) : (-(nI d)).toInt = -(d : Int) := by
  rw [Int32.toInt_neg, nI_toInt h]
  exact Int.bmod_eq_of_le (by omega) (by omega)
theorem xneg_eq0 {d : Nat} (h : d < 2 ^ 31) (e : -(nI d) = nI 0) : d = 0 := by
  have h7 := congrArg Int32.toInt e
  rw [xneg_toInt h, show (nI 0).toInt = 0 from by decide] at h7
  omega
theorem xneg_div {d y : Nat} (hd : d < 2 ^ 31) (h0 : 0 < y) (hy : y < 2 ^ 31) : -(nI d) / nI y = -(nI (d / y)) := by
  have h1 : d / y < 2 ^ 31 := Nat.lt_of_le_of_lt (Nat.div_le_self d y) hd
  rw [← Int32.toInt_inj, Int32.toInt_div, xneg_toInt hd, nI_toInt hy, xneg_toInt h1, Int.neg_tdiv, show (d : Int).tdiv (y : Int) = ((d / y : Nat) : Int) from (Int.ofNat_tdiv d y).symm]
  generalize d / y = q at h1 ⊢
  exact Int.bmod_eq_of_le (by omega) (by omega)
theorem xneg_rem {d y : Nat} (hd : d < 2 ^ 31) (h0 : 0 < y) (hy : y < 2 ^ 31) : -(nI d) - -(nI d) / nI y * nI y = -(nI (d % y)) := by
  rw [xneg_div hd h0 hy, Int32.neg_mul, xI_mul]
  have h2 : d / y * y ≤ d := Nat.div_mul_le_self d y
  have h3 : d % y = d - d / y * y := by
    have := Nat.div_add_mod d y
    rw [Nat.mul_comm] at this
    omega
  rw [h3, ← xI_sub h2, Int32.sub_neg, Int32.neg_sub, Int32.sub_eq_add_neg, Int32.add_comm]
theorem xneg_xor {d y : Nat} (h0 : 0 < d) (hd : d < 2 ^ 31) (hy : y < 2 ^ 31) : -(nI d) ^^^ nI y < nI 0 := by
  rw [Int32.lt_iff_toInt_lt, show (nI 0).toInt = 0 from by decide]
  have h1 : (-(nI d)).toBitVec.msb = true := by
    rw [BitVec.msb_eq_toInt]
    have := xneg_toInt hd
    simp only [Int32.toInt] at this
    rw [this]; simp; omega
  have h2 : (nI y).toBitVec.msb = false := by
    rw [BitVec.msb_eq_toInt]
    have := nI_toInt hy
    simp only [Int32.toInt] at this
    rw [this]; simp
  have h3 : (-(nI d) ^^^ nI y).toBitVec.msb = true := by
    rw [Int32.toBitVec_xor, BitVec.msb_xor, h1, h2]; rfl
  have h4 := (BitVec.msb_eq_toInt (x := (-(nI d) ^^^ nI y).toBitVec)).symm.trans h3
  exact of_decide_eq_true h4
end
section
/-! the reference: its log shifts -/
def shL (lg : Nat → Int32) (x : Nat) : Nat → Int32 := fun j => if x < j ∧ j < 48 then lg (j - 3) else lg j
theorem shL_47 (lg : Nat → Int32) : shL lg 47 = lg := by
  funext j
  exact if_neg (by omega)
theorem shL_step (lg : Nat → Int32) {x : Nat} (h : 3 ≤ x) (hx : x < 48) : upd (shL lg x) x (shL lg x (x - 3)) = shL lg (x - 1) := by
  funext j
  unfold upd shL
  by_cases e : j = x
  · subst e
    rw [if_pos rfl, if_neg (by omega), if_pos (by omega)]
  · rw [if_neg e]
    by_cases e2 : x < j ∧ j < 48
    · rw [if_pos e2, if_pos (by omega)]
    · rw [if_neg e2, if_neg (by omega)]
def entL (t k y : Int32) (lg : Nat → Int32) : Nat → Int32 := upd (upd (upd (shL lg 2) 0 t) 1 k) 2 y
abbrev VM : Type := (Nat → Int32) × (Nat → Bool) × (Nat → Int32) × Nat
def freeM (kk : Nat → Int32) (T v : Nat) (s : VM) : VM := (upd s.1 v (nI 0), updB s.2.1 v false, entL (nI T) (nI 2) (kk v) s.2.2.1, s.2.2.2 + 1)
def limM (kk : Nat → Int32) (T v : Nat) (s : VM) : VM := if s.1 v = nI 0 then s else freeM kk T v s
def lmV (kk : Nat → Int32) (T q V : Nat) (s : VM) : VM := lfor (limM kk T) q (V - q) s
def wkB (ve si : Nat → Int32) (ru : Int32) (v o : Nat) : Bool := if ru = nI 1 then (if ve v = ve o then (if si v < si o then true else false) else if ve v < ve o then true else false) else if si v < si o then true else false
/-- weakest's step; V stands for none -/
def wkS (kept : Bool) (st ve si : Nat → Int32) (ru : Int32) (V v b : Nat) : Nat :=
  if kept = true then (if st v = nI 2 then (if b < V then (if wkB ve si ru v b = true then v else b) else v) else b)
  else (if b < V then (if wkB ve si ru v b = true then v else b) else v)
def wkN (kept : Bool) (st ve si : Nat → Int32) (ru : Int32) (V : Nat) : Nat := lfor (wkS kept st ve si ru V) 0 V V
def tkN (st ve si : Nat → Int32) (ru : Int32) (V : Nat) : Nat := if ru = nI 2 then (if wkN true st ve si ru V < V then wkN true st ve si ru V else wkN false st ve si ru V) else wkN false st ve si ru V
theorem rV_neg {w V : Nat} (hV : V < 2 ^ 31) : rV w V < nI 0 ↔ ¬ w < V := by
  unfold rV
  by_cases h : w < V
  · rw [if_pos h, xI_lt (by omega) (by decide)]; omega
  · rw [if_neg h]; simp [h]; decide
theorem wkS_lt {kept : Bool} {st ve si : Nat → Int32} {ru : Int32} {V v b : Nat} (hv : v < V) : wkS kept st ve si ru V v b < V ∨ wkS kept st ve si ru V v b = b := by
  unfold wkS
  repeat' split
  all_goals first | exact Or.inl hv | exact Or.inr rfl
theorem wkF_lt {st ve si : Nat → Int32} {ru : Int32} {V v b : Nat} (hv : v < V) : wkS false st ve si ru V v b < V := by
  unfold wkS
  rw [if_neg (by decide)]
  repeat' split
  all_goals first | exact hv | assumption
theorem wkN_lt {st ve si : Nat → Int32} {ru : Int32} {V : Nat} (hV : 1 ≤ V) : wkN false st ve si ru V < V := by
  have key : ∀ (n i b : Nat), i + n = V → 1 ≤ n → lfor (wkS false st ve si ru V) i n b < V := by
    intro n
    induction n with
    | zero => intro i b h1 h2; omega
    | succ n ih =>
      intro i b h1 _
      show lfor _ (i + 1) n (wkS false st ve si ru V i b) < V
      cases n with
      | zero => exact wkF_lt (by omega)
      | succ n => exact ih (i + 1) _ (by omega) (by omega)
  exact key V 0 V (by omega) hV
theorem tkN_lt {st ve si : Nat → Int32} {ru : Int32} {V : Nat} (hV : 1 ≤ V) : tkN st ve si ru V < V := by
  unfold tkN
  have := wkN_lt (st := st) (ve := ve) (si := si) (ru := ru) hV
  repeat' split
  all_goals first | assumption
def ntM (st ve si : Nat → Int32) (ru : Int32) (V : Nat) : Int32 := if findN (ffP st) 0 V < V then (-3) else rV (tkN st ve si ru V) V
def vaM (sl n : Int32) : Int32 := if nI 127 < nI 128 - sl * n then nI 127 else if nI 128 - sl * n < nI 1 then nI 1 else nI 128 - sl * n
def snM (st kk ve si : Nat → Int32) (ru key : Int32) (V : Nat) : Nat := if findN (wkP st kk key) 0 V < V then findN (wkP st kk key) 0 V else if findN (ffP st) 0 V < V then findN (ffP st) 0 V else tkN st ve si ru V
abbrev LJ : Type := (Nat → Int32) × Nat
def enJ (t k y : Int32) (j : LJ) : LJ := (entL t k y j.1, j.2 + 1)
def snJ (st kk ve si : Nat → Int32) (ru key now : Int32) (V : Nat) (j : LJ) : LJ := enJ now (nI 1) key (if sndT st kk key V = true then enJ now (nI 3) (kk (snM st kk ve si ru key V)) j else j)
def relM (kk : Nat → Int32) (sus sos : Bool) (key : Int32) (T V : Nat) (s : VM) : VM :=
  if findN (wkP s.1 kk key) 0 V < V then
    (if s.1 (findN (wkP s.1 kk key) 0 V) = nI 1 then
      (if kpB sus sos s.2.1 (findN (wkP s.1 kk key) 0 V) = true then (upd s.1 (findN (wkP s.1 kk key) 0 V) (nI 2), s.2) else limM kk T (findN (wkP s.1 kk key) 0 V) s)
    else s)
  else s
def fkM (kk : Nat → Int32) (T : Nat) (sus sos : Bool) (v : Nat) (s : VM × Nat) : VM × Nat := if s.1.1 v = nI 2 then (if kpB sus sos s.1.2.1 v = true then s else (limM kk T v s.1, s.2 + (if s.1.1 v = nI 0 then 0 else 1))) else s
def dkM (kk : Nat → Int32) (T : Nat) (sus sos : Bool) (V : Nat) (s : VM) : VM × Nat := lfor (fkM kk T sus sos) 0 V (s, 0)
def cpM (st : Nat → Int32) (dn : Bool) (v : Nat) (s : (Nat → Bool) × Nat) : (Nat → Bool) × Nat := if (if dn = true then (if st v = nI 1 then true else false) else false) = true then (updB s.1 v true, s.2 + 1) else (updB s.1 v false, s.2 + 0)
def soM (kk : Nat → Int32) (T : Nat) (sus sos dn : Bool) (V : Nat) (s : VM) : VM × Nat :=
  if sos = dn then (s, 0) else if dn = true then ((s.1, (lfor (cpM s.1 dn) 0 V (s.2.1, 0)).1, s.2.2), (lfor (cpM s.1 dn) 0 V (s.2.1, 0)).2) else dkM kk T sus dn V (s.1, (lfor (cpM s.1 dn) 0 V (s.2.1, 0)).1, s.2.2)
/-! appearances -/
def cnS (pos : Nat → Nat) (C x k : Nat) (s : Nat × Nat × Bool) : Nat × Nat × Bool := if pos k < x then s else if s.1.testBit (k / C) = s.2.1.testBit (k % C) then s else (s.1 ||| 1 <<< (k / C), s.2.1 ||| 1 <<< (k % C), true)
def cnI (pos : Nat → Nat) (R C x : Nat) (s : Nat × Nat) : Nat × Nat × Bool := lfor (cnS pos C x) 0 (R * C) (s.1, s.2, false)
def cnO (pos : Nat → Nat) (R C x : Nat) : Nat → Nat × Nat → Nat × Nat
  | 0, s => s
  | n + 1, s => if (cnI pos R C x s).2.2 = true then cnO pos R C x n ((cnI pos R C x s).1, (cnI pos R C x s).2.1) else ((cnI pos R C x s).1, (cnI pos R C x s).2.1)
def cnF (pos : Nat → Nat) (R C x r : Nat) : Nat × Nat := cnO pos R C x 17 (1 <<< r, 0)
theorem pop8_le (x : Nat) : pop8 x ≤ 8 := fb_ct_le _ 8
theorem pop8_or {a c : Nat} (hc : c < 8) (h : a.testBit c = false) : pop8 (a ||| 1 <<< c) = pop8 a + 1 := by
  unfold pop8
  have e : (fun i => (a ||| 1 <<< c).testBit i) = fun i => if i = c then true else a.testBit i := by
    funext i
    rw [Nat.shiftLeft_eq, Nat.one_mul, fb_bit_set]
    by_cases q : i = c <;> simp [q]
  rw [e]
  have := fb_ct_upd (fun i => a.testBit i) true hc
  simp only [h] at this
  simpa using this
theorem pop8_or' {a c : Nat} (hc : c < 8) : pop8 a ≤ pop8 (a ||| 1 <<< c) := by
  by_cases h : a.testBit c = true
  · have e : a ||| 1 <<< c = a := by
      apply Nat.eq_of_testBit_eq
      intro i
      rw [Nat.shiftLeft_eq, Nat.one_mul, fb_bit_set]
      by_cases q : i = c
      · simp [q, h]
      · simp [q]
    rw [e]; exact Nat.le_refl _
  · rw [pop8_or hc (by simpa using h)]; exact Nat.le_add_right _ _
theorem pop8_two {a b r c : Nat} (hr : r < 8) (hc : c < 8) (h : ¬ a.testBit r = b.testBit c) : pop8 a + pop8 b + 1 ≤ pop8 (a ||| 1 <<< r) + pop8 (b ||| 1 <<< c) := by
  have h1 := pop8_or' (a := a) hr
  have h2 := pop8_or' (a := b) hc
  by_cases e : a.testBit r = true
  · have e2 : b.testBit c = false := by cases q : b.testBit c <;> simp_all
    rw [pop8_or hc e2]; omega
  · rw [pop8_or hr (by simpa using e)]; omega
def ap2 (dio : Bool) (pos : Nat → Nat) (R C k : Nat) : Bool := if dio = true then (if pos k = 2 then true else false) else (cnF pos R C 2 (k / C)).2.testBit (k % C)
def ap1 (dio : Bool) (pos : Nat → Nat) (R C k : Nat) : Bool := if ap2 dio pos R C k = true then true else if dio = true then (if 0 < pos k then true else false) else (cnF pos R C 1 (k / C)).2.testBit (k % C)
abbrev AS : Type := (Nat → Bool) × (Nat → Bool)
def apC (dio : Bool) (pos : Nat → Nat) (R C r c : Nat) (s : AS) : AS := (updB s.1 (r * C + c) (ap1 dio pos R C (r * C + c)), updB s.2 (r * C + c) (ap2 dio pos R C (r * C + c)))
def apR (dio : Bool) (pos : Nat → Nat) (R C r : Nat) (s : AS) : AS := lfor (apC dio pos R C r) 0 C s
def apA (dio : Bool) (pos : Nat → Nat) (R C : Nat) (s : AS) : AS := lfor (apR dio pos R C) 0 R s
theorem rc_lt {r c R C : Nat} (hr : r < R) (hc : c < C) : r * C + c < R * C := Nat.lt_of_lt_of_le (Nat.add_lt_add_left hc _) (by rw [← Nat.succ_mul]; exact Nat.mul_le_mul_right C hr)
theorem rc_div {r c C : Nat} (hc : c < C) : (r * C + c) / C = r := by
  rw [Nat.mul_comm, Nat.mul_add_div (by omega), Nat.div_eq_of_lt hc]; rfl
theorem rc_mod {r c C : Nat} (hc : c < C) : (r * C + c) % C = c := by
  rw [Nat.mul_comm, Nat.mul_add_mod, Nat.mod_eq_of_lt hc]
theorem bit1 (a c : Nat) : (a >>> c) &&& 1 = if a.testBit c = true then 1 else 0 := by
  rw [Nat.testBit, Nat.and_comm]
  have h : (a >>> c) &&& 1 = 0 ∨ (a >>> c) &&& 1 = 1 := by
    rw [Nat.and_one_is_mod]; omega
  rw [Nat.and_comm 1]
  rcases h with h | h <;> rw [h] <;> rfl
def ghM (fs gs : Nat → Bool) (pos : Nat → Nat) (k : Nat) : Bool := if fs k = true then (if pos k = 0 then true else (if gs k = true then (if pos k < 2 then true else false) else false)) else (if gs k = true then (if pos k < 2 then true else false) else false)
def gcM (fs gs : Nat → Bool) (pos : Nat → Nat) (n : Nat) : Nat := lfor (fun k a => a + (if ghM fs gs pos k = true then 1 else 0)) 0 n 0
def dmS (fs : Nat → Bool) (C k x : Nat) : Bool := if x / C = k / C then false else if x % C = k % C then false else if fs x = true then (if fs (x / C * C + k % C) = true then (if fs (k / C * C + x % C) = true then true else false) else false) else false
def dmM (fs : Nat → Bool) (R C k : Nat) : Bool := if fs k = true then lany (dmS fs C k) 0 (R * C) else false
def dcM (fs : Nat → Bool) (R C : Nat) : Nat := lfor (fun k a => a + (if dmM fs R C k = true then 1 else 0)) 0 (R * C) 0
def prM (pos : Nat → Nat) (n : Nat) : Nat := lfor (fun k a => a + (if 0 < pos k then 1 else 0)) 0 n 0
def nkB (k : Int32) (n : Nat) : Bool := if wiB k (nI 0) (nI (n - 1)) = true then false else true
/-! scans -/
abbrev MS : Type := (Nat → Int32) × (Nat → Int32) × (Nat → Int32) × (Nat → Int32) × (Nat → Int32) × (Nat → Int32) × (Nat → Bool) × Int32 × (Nat → Int32) × Nat × Int32 × Int32
def hiM (pr : PR) (k : Nat) : MS → MS := fun (ph, bg, st, kk, ve, si, ca, tk, lg, mj, sk, rf) =>
  (ph, bg, upd st (snM st kk ve si pr.2.2.1 (nI k) pr.2.2.2.2.1) (nI 1), upd kk (snM st kk ve si pr.2.2.1 (nI k) pr.2.2.2.2.1) (nI k), upd ve (snM st kk ve si pr.2.2.1 (nI k) pr.2.2.2.2.1) (vaM pr.2.1 ((nI pr.1 - bg k) / nI pr.2.2.2.1)), upd si (snM st kk ve si pr.2.2.1 (nI k) pr.2.2.2.2.1) (nI pr.1), updB ca (snM st kk ve si pr.2.2.1 (nI k) pr.2.2.2.2.1) false,
    (if sndT st kk (nI k) pr.2.2.2.2.1 = true then tk + nI 1 else tk), (snJ st kk ve si pr.2.2.1 (nI k) (nI pr.1) pr.2.2.2.2.1 (lg, mj)).1, (snJ st kk ve si pr.2.2.1 (nI k) (nI pr.1) pr.2.2.2.2.1 (lg, mj)).2, sk + nI 1, rf)
def reM (pr : PR) (k : Nat) : MS → MS := fun (ph, bg, st, kk, ve, si, ca, tk, lg, mj, sk, rf) => (ph, bg, st, kk, ve, si, ca, tk, entL (nI pr.1) (nI 4) (nI k) lg, mj + 1, sk, rf + nI 1)
def stM (pr : PR) (d : Bool) (k : Nat) (s : MS) : MS := if pr.2.2.2.2.2.1 = true then (if d = true then reM pr k s else hiM pr k s) else hiM pr k s
def rlM (pr : PR) (k : Nat) : MS → MS := fun (ph, bg, st, kk, ve, si, ca, tk, lg, mj, sk, rf) =>
  (ph, bg, (relM kk pr.2.2.2.2.2.2.2.1 pr.2.2.2.2.2.2.2.2 (nI k) pr.1 pr.2.2.2.2.1 (st, ca, lg, mj)).1, kk, ve, si, (relM kk pr.2.2.2.2.2.2.2.1 pr.2.2.2.2.2.2.2.2 (nI k) pr.1 pr.2.2.2.2.1 (st, ca, lg, mj)).2.1, tk, (relM kk pr.2.2.2.2.2.2.2.1 pr.2.2.2.2.2.2.2.2 (nI k) pr.1 pr.2.2.2.2.1 (st, ca, lg, mj)).2.2.1, (relM kk pr.2.2.2.2.2.2.2.1 pr.2.2.2.2.2.2.2.2 (nI k) pr.1 pr.2.2.2.2.1 (st, ca, lg, mj)).2.2.2, sk, rf)
def hsM (pr : PR) (pl d : Bool) (k : Nat) (s : MS) : MS := if pl = true then (upd (stM pr d k s).1 k (nI 2), (stM pr d k s).2) else (upd s.1 k (nI 2), s.2)
def enM (pr : PR) (k : Nat) (x : Int32) (s : MS) : MS := (upd s.1 k x, upd s.2.1 k (nI pr.1), s.2.2)
def m1 (pr : PR) (f : Bool) (k : Nat) (s : MS) : MS := if s.1 k = nI 0 then (if f = true then enM pr k (nI 1) s else s) else s
def m2 (pr : PR) (pl f g d : Bool) (k : Nat) (s : MS) : MS := if s.1 k = nI 1 then (if g = true then hsM pr pl d k s else if f = true then s else (upd s.1 k (nI 0), s.2)) else s
def m3 (pr : PR) (pl g : Bool) (was : Int32) (k : Nat) (s : MS) : MS := if was = nI 2 then (if g = true then s else if pr.2.2.2.2.2.2.1 = true then enM pr k (nI 3) s else if pl = true then enM pr k (nI 3) (rlM pr k s) else enM pr k (nI 3) s) else s
def m4 (pr : PR) (pl f g d : Bool) (k : Nat) (s : MS) : MS := if s.1 k = nI 3 then (if g = true then hsM pr pl d k s else if f = true then s else if pl = true then (upd (rlM pr k s).1 k (nI 0), (rlM pr k s).2) else (upd s.1 k (nI 0), s.2)) else s
def mscn (pr : PR) (pl : Bool) (F G Dd : Nat → Bool) (k : Nat) (s : MS) : MS := m4 pr pl (F k) (G k) (Dd k) k (m3 pr pl (G k) (s.1 k) k (m2 pr pl (F k) (G k) (Dd k) k (m1 pr (F k) k s)))
def mrow (pr : PR) (pl : Bool) (F G Dd : Nat → Bool) (C row : Nat) (s : MS) : MS := lfor (fun c s => mscn pr pl F G Dd (row * C + c) s) 0 C s
def mtck (pr : PR) (pl : Bool) (F G Dd : Nat → Bool) (C n : Nat) (s : MS) : MS := lfor (fun i s => mrow (prT pr i) pl F G Dd C ((pr.1 + i) % pr.2.2.2.1) s) 0 n s
end
section
set_option maxHeartbeats 4000000 in
set_option maxRecDepth 100000 in
theorem kX5_in (l : Launch) (D : va_G) (cI cZ : ClassId) (x : Int32) (a : Int32) (b : Int32)  : xC l yX5_in wsX5_in 0 0 0 0 D cI cZ [.int x, .int a, .int b] [] (fun v8 w8 => v8 = some (.int (bI (wiB x a b))) ∧ w8 = []) := by
  refine xC.of (bytes := cX5_in) (maxL := 3) (ret := (some .boolean)) (own := RX5) (by decide +kernel) rfl (Nat.le_of_ble_eq_true rfl) rfl ?_
  intro p9 e9 s9 m9 args9 below9 meth9 cd9 A hE hr hin2 hA9
  refine x_at (ws' := []) (st' := []) rfl rfl ?_
  refine x_lv [(0, .int x), (1, .int a), (2, .int b)] [0, 1, 2] rfl ?_
  refine x_iload_n hE 0 rfl dX5_in_0 ?_
  refine x_iload_n hE 1 rfl dX5_in_1 ?_
  refine x_icmp_lt hE 14 (by decide) dX5_in_2 (fun c2 => ?_) (fun c2 => ?_)
  · skip
    refine x_iconst hE (nI 0) (by decide) dX5_in_14 ?_
    refine x_eq (bI false) rfl ?_
    exact x_zret hE hr (⟨by simp only [wiB, if_pos c2, reduceIte, Bool.false_eq_true, Bool.true_eq_false], rfl⟩) dX5_in_15
  · skip
    refine x_iload_n hE 0 rfl dX5_in_5 ?_
    refine x_iload_n hE 2 rfl dX5_in_6 ?_
    refine x_icmp_gt hE 14 (by decide) dX5_in_7 (fun c7 => ?_) (fun c7 => ?_)
    · skip
      refine x_iconst hE (nI 0) (by decide) dX5_in_14 ?_
      refine x_eq (bI false) rfl ?_
      exact x_zret hE hr (⟨by simp only [wiB, if_neg c2, if_pos c7, reduceIte, Bool.false_eq_true, Bool.true_eq_false], rfl⟩) dX5_in_15
    · skip
      refine x_iconst hE (nI 1) (by decide) dX5_in_10 ?_
      refine x_goto hE 15 (by decide) dX5_in_11 ?_
      refine x_eq (bI true) rfl ?_
      exact x_zret hE hr (⟨by simp only [wiB, if_neg c2, if_neg c7, reduceIte, Bool.false_eq_true, Bool.true_eq_false], rfl⟩) dX5_in_15
set_option maxHeartbeats 4000000 in
set_option maxRecDepth 100000 in
theorem kX5_keys (l : Launch) (D : va_G) (cI cZ : ClassId) (h0 : Nat) (d1 : Nat) (d2 : Nat) (d3 : Nat) (d4 : Nat) (d5 : Nat) (d6 : Nat) (d7 : Nat) (d8 : Nat) (d9 : Nat) (d10 : Nat) (d11 : Nat) (d12 : Nat) (d13 : Nat) (R : Nat) (C : Nat) (dio : Bool) (bk : Bool) (lt : Bool) (sl : Int32) (V : Nat) (ru : Int32) (sus : Bool) (sos : Bool) (T : Nat) (pos : Nat → Nat) (ph : Nat → Int32) (bg : Nat → Int32) (fs : Nat → Bool) (gs : Nat → Bool) (st : Nat → Int32) (kk : Nat → Int32) (ve : Nat → Int32) (si : Nat → Int32) (ca : Nat → Bool) (mk : Nat) (lg : Nat → Int32) (sk : Int32) (rf : Int32) (tk : Int32) (fr : Nat) (fc : Nat) (op : Nat → Int32) (ob : Nat → Int32)  : xC l yX5_keys wsX5_keys 0 0 0 0 D cI cZ [.ref h0] [(h0, .inr (5, [.int (nI R), .int (nI C), .int (bI dio), .int (bI bk), .int (bI lt), .int sl, .int (nI V), .int ru, .int (bI sus), .int (bI sos), .int (nI T), .ref d1, .ref d2, .ref d3, .ref d4, .ref d5, .ref d6, .ref d7, .ref d8, .ref d9, .ref d10, .int (nI mk), .ref d11, .int sk, .int rf, .int tk, .int (nI fr), .int (nI fc), .ref d12, .ref d13])), (d1, .inl (cI, 64, .inl (xN pos))), (d2, .inl (cI, 64, .inl ph)), (d3, .inl (cI, 64, .inl bg)), (d4, .inl (cZ, 64, .inl (xB fs))), (d5, .inl (cZ, 64, .inl (xB gs))), (d6, .inl (cI, 8, .inl st)), (d7, .inl (cI, 8, .inl kk)), (d8, .inl (cI, 8, .inl ve)), (d9, .inl (cI, 8, .inl si)), (d10, .inl (cZ, 8, .inl (xB ca))), (d11, .inl (cI, 48, .inl lg)), (d12, .inl (cI, 64, .inl op)), (d13, .inl (cI, 64, .inl ob))] (fun v8 w8 => v8 = some (.int (nI (R * C))) ∧ w8 = [(h0, .inr (5, [.int (nI R), .int (nI C), .int (bI dio), .int (bI bk), .int (bI lt), .int sl, .int (nI V), .int ru, .int (bI sus), .int (bI sos), .int (nI T), .ref d1, .ref d2, .ref d3, .ref d4, .ref d5, .ref d6, .ref d7, .ref d8, .ref d9, .ref d10, .int (nI mk), .ref d11, .int sk, .int rf, .int tk, .int (nI fr), .int (nI fc), .ref d12, .ref d13])), (d1, .inl (cI, 64, .inl (xN pos))), (d2, .inl (cI, 64, .inl ph)), (d3, .inl (cI, 64, .inl bg)), (d4, .inl (cZ, 64, .inl (xB fs))), (d5, .inl (cZ, 64, .inl (xB gs))), (d6, .inl (cI, 8, .inl st)), (d7, .inl (cI, 8, .inl kk)), (d8, .inl (cI, 8, .inl ve)), (d9, .inl (cI, 8, .inl si)), (d10, .inl (cZ, 8, .inl (xB ca))), (d11, .inl (cI, 48, .inl lg)), (d12, .inl (cI, 64, .inl op)), (d13, .inl (cI, 64, .inl ob))]) := by
  refine xC.of (bytes := cX5_keys) (maxL := 1) (ret := (some .int)) (own := RX5) (by decide +kernel) rfl (Nat.le_of_ble_eq_true rfl) rfl ?_
  intro p9 e9 s9 m9 args9 below9 meth9 cd9 A hE hr hin2 hA9
  have inX5 : ∀ w ∈ wsX50, w ∈ wsX5_keys := fun w h => List.mem_cons_of_mem _ (List.mem_append_right _ h)
  have g61 : xF RX5 wsX5_keys 61 5 0 := ⟨"KeyScannerModel", RX5, TX5, 30, inX5, rfl, by decide, List.mem_of_getElem? (i := 1) rfl, rfl⟩
  have g64 : xF RX5 wsX5_keys 64 5 1 := ⟨"KeyScannerModel", RX5, TX5, 30, inX5, rfl, by decide, List.mem_of_getElem? (i := 2) rfl, rfl⟩
  refine x_at (ws' := [(h0, .inr (5, [.int (nI R), .int (nI C), .int (bI dio), .int (bI bk), .int (bI lt), .int sl, .int (nI V), .int ru, .int (bI sus), .int (bI sos), .int (nI T), .ref d1, .ref d2, .ref d3, .ref d4, .ref d5, .ref d6, .ref d7, .ref d8, .ref d9, .ref d10, .int (nI mk), .ref d11, .int sk, .int rf, .int tk, .int (nI fr), .int (nI fc), .ref d12, .ref d13])), (d1, .inl (cI, 64, .inl (xN pos))), (d2, .inl (cI, 64, .inl ph)), (d3, .inl (cI, 64, .inl bg)), (d4, .inl (cZ, 64, .inl (xB fs))), (d5, .inl (cZ, 64, .inl (xB gs))), (d6, .inl (cI, 8, .inl st)), (d7, .inl (cI, 8, .inl kk)), (d8, .inl (cI, 8, .inl ve)), (d9, .inl (cI, 8, .inl si)), (d10, .inl (cZ, 8, .inl (xB ca))), (d11, .inl (cI, 48, .inl lg)), (d12, .inl (cI, 64, .inl op)), (d13, .inl (cI, 64, .inl ob))]) (st' := []) rfl rfl ?_
  refine x_lv [(0, .ref h0)] [0] rfl ?_
  refine x_aload_n hE 0 rfl dX5_keys_0 ?_
  refine x_get hE g61 0 rfl rfl dX5_keys_1 ?_
  refine x_aload_n hE 0 rfl dX5_keys_4 ?_
  refine x_get hE g64 0 rfl rfl dX5_keys_5 ?_
  refine x_imul hE (nI (R * C)) (xI_mul _ _) dX5_keys_8 ?_
  exact x_iret hE hr (⟨rfl, rfl⟩) dX5_keys_9
set_option maxHeartbeats 4000000 in
set_option maxRecDepth 100000 in
theorem kX5_enter (l : Launch) (D : va_G) (cI cZ : ClassId) (h0 : Nat) (d1 : Nat) (d2 : Nat) (d3 : Nat) (d4 : Nat) (d5 : Nat) (d6 : Nat) (d7 : Nat) (d8 : Nat) (d9 : Nat) (d10 : Nat) (d11 : Nat) (d12 : Nat) (d13 : Nat) (R : Nat) (C : Nat) (dio : Bool) (bk : Bool) (lt : Bool) (sl : Int32) (V : Nat) (ru : Int32) (sus : Bool) (sos : Bool) (T : Nat) (pos : Nat → Nat) (ph : Nat → Int32) (bg : Nat → Int32) (fs : Nat → Bool) (gs : Nat → Bool) (st : Nat → Int32) (kk : Nat → Int32) (ve : Nat → Int32) (si : Nat → Int32) (ca : Nat → Bool) (mk : Nat) (lg : Nat → Int32) (sk : Int32) (rf : Int32) (tk : Int32) (fr : Nat) (fc : Nat) (op : Nat → Int32) (ob : Nat → Int32) (kd : Int32) (ky : Int32)  : xC l yX5_enter wsX5_enter 0 0 0 0 D cI cZ [.ref h0, .int kd, .int ky] [(h0, .inr (5, [.int (nI R), .int (nI C), .int (bI dio), .int (bI bk), .int (bI lt), .int sl, .int (nI V), .int ru, .int (bI sus), .int (bI sos), .int (nI T), .ref d1, .ref d2, .ref d3, .ref d4, .ref d5, .ref d6, .ref d7, .ref d8, .ref d9, .ref d10, .int (nI mk), .ref d11, .int sk, .int rf, .int tk, .int (nI fr), .int (nI fc), .ref d12, .ref d13])), (d1, .inl (cI, 64, .inl (xN pos))), (d2, .inl (cI, 64, .inl ph)), (d3, .inl (cI, 64, .inl bg)), (d4, .inl (cZ, 64, .inl (xB fs))), (d5, .inl (cZ, 64, .inl (xB gs))), (d6, .inl (cI, 8, .inl st)), (d7, .inl (cI, 8, .inl kk)), (d8, .inl (cI, 8, .inl ve)), (d9, .inl (cI, 8, .inl si)), (d10, .inl (cZ, 8, .inl (xB ca))), (d11, .inl (cI, 48, .inl lg)), (d12, .inl (cI, 64, .inl op)), (d13, .inl (cI, 64, .inl ob))] (fun v8 w8 => v8 = none ∧ w8 = [(h0, .inr (5, [.int (nI R), .int (nI C), .int (bI dio), .int (bI bk), .int (bI lt), .int sl, .int (nI V), .int ru, .int (bI sus), .int (bI sos), .int (nI T), .ref d1, .ref d2, .ref d3, .ref d4, .ref d5, .ref d6, .ref d7, .ref d8, .ref d9, .ref d10, .int (nI (mk + 1)), .ref d11, .int sk, .int rf, .int tk, .int (nI fr), .int (nI fc), .ref d12, .ref d13])), (d1, .inl (cI, 64, .inl (xN pos))), (d2, .inl (cI, 64, .inl ph)), (d3, .inl (cI, 64, .inl bg)), (d4, .inl (cZ, 64, .inl (xB fs))), (d5, .inl (cZ, 64, .inl (xB gs))), (d6, .inl (cI, 8, .inl st)), (d7, .inl (cI, 8, .inl kk)), (d8, .inl (cI, 8, .inl ve)), (d9, .inl (cI, 8, .inl si)), (d10, .inl (cZ, 8, .inl (xB ca))), (d11, .inl (cI, 48, .inl (entL (nI T) kd ky lg))), (d12, .inl (cI, 64, .inl op)), (d13, .inl (cI, 64, .inl ob))]) := by
  refine xC.of (bytes := cX5_enter) (maxL := 4) (ret := none) (own := RX5) (by decide +kernel) rfl (Nat.le_of_ble_eq_true rfl) rfl ?_
  intro p9 e9 s9 m9 args9 below9 meth9 cd9 A hE hr hin2 hA9
  have inX5 : ∀ w ∈ wsX50, w ∈ wsX5_enter := fun w h => List.mem_cons_of_mem _ (List.mem_append_right _ h)
  have g48 : xF RX5 wsX5_enter 48 5 22 := ⟨"KeyScannerModel", RX5, TX5, 30, inX5, rfl, by decide, List.mem_of_getElem? (i := 1) rfl, rfl⟩
  have g74 : xF RX5 wsX5_enter 74 5 10 := ⟨"KeyScannerModel", RX5, TX5, 30, inX5, rfl, by decide, List.mem_of_getElem? (i := 2) rfl, rfl⟩
  have g77 : xF RX5 wsX5_enter 77 5 21 := ⟨"KeyScannerModel", RX5, TX5, 30, inX5, rfl, by decide, List.mem_of_getElem? (i := 3) rfl, rfl⟩
  have p77 : xP RX5 wsX5_enter 77 5 21 false .int := ⟨"KeyScannerModel", RX5, TX5, 30, tyX5, inX5, rfl, by decide, List.mem_of_getElem? (i := 3) rfl, rfl, tyX5_ok, nmX5, rfl, by decide +kernel, fun h => by cases h⟩
  refine x_at (ws' := [(h0, .inr (5, [.int (nI R), .int (nI C), .int (bI dio), .int (bI bk), .int (bI lt), .int sl, .int (nI V), .int ru, .int (bI sus), .int (bI sos), .int (nI T), .ref d1, .ref d2, .ref d3, .ref d4, .ref d5, .ref d6, .ref d7, .ref d8, .ref d9, .ref d10, .int (nI mk), .ref d11, .int sk, .int rf, .int tk, .int (nI fr), .int (nI fc), .ref d12, .ref d13])), (d1, .inl (cI, 64, .inl (xN pos))), (d2, .inl (cI, 64, .inl ph)), (d3, .inl (cI, 64, .inl bg)), (d4, .inl (cZ, 64, .inl (xB fs))), (d5, .inl (cZ, 64, .inl (xB gs))), (d6, .inl (cI, 8, .inl st)), (d7, .inl (cI, 8, .inl kk)), (d8, .inl (cI, 8, .inl ve)), (d9, .inl (cI, 8, .inl si)), (d10, .inl (cZ, 8, .inl (xB ca))), (d11, .inl (cI, 48, .inl lg)), (d12, .inl (cI, 64, .inl op)), (d13, .inl (cI, 64, .inl ob))]) (st' := []) rfl rfl ?_
  refine x_lv [(0, .ref h0), (1, .int kd), (2, .int ky)] [0, 1, 2] rfl ?_
  have lp3 : ∀ (n : Nat) (i : Nat) (lx : Nat → Int32) (hi : i = n + 2) (hi8 : i < 48) (hl : lx = shL lg i), X p9 l e9 { frames := 0, cells := 0, slots := 0, locals := 0 } s9 m9 args9 below9 meth9 cd9 0 0 (MQ below9 (xQ D (fun v8 w8 => v8 = none ∧ w8 = [(h0, .inr (5, [.int (nI R), .int (nI C), .int (bI dio), .int (bI bk), .int (bI lt), .int sl, .int (nI V), .int ru, .int (bI sus), .int (bI sos), .int (nI T), .ref d1, .ref d2, .ref d3, .ref d4, .ref d5, .ref d6, .ref d7, .ref d8, .ref d9, .ref d10, .int (nI (mk + 1)), .ref d11, .int sk, .int rf, .int tk, .int (nI fr), .int (nI fc), .ref d12, .ref d13])), (d1, .inl (cI, 64, .inl (xN pos))), (d2, .inl (cI, 64, .inl ph)), (d3, .inl (cI, 64, .inl bg)), (d4, .inl (cZ, 64, .inl (xB fs))), (d5, .inl (cZ, 64, .inl (xB gs))), (d6, .inl (cI, 8, .inl st)), (d7, .inl (cI, 8, .inl kk)), (d8, .inl (cI, 8, .inl ve)), (d9, .inl (cI, 8, .inl si)), (d10, .inl (cZ, 8, .inl (xB ca))), (d11, .inl (cI, 48, .inl (entL (nI T) kd ky lg))), (d12, .inl (cI, 64, .inl op)), (d13, .inl (cI, 64, .inl ob))]) A) args9 s9 0 0 A) 4 D A [(h0, .inr (5, [.int (nI R), .int (nI C), .int (bI dio), .int (bI bk), .int (bI lt), .int sl, .int (nI V), .int ru, .int (bI sus), .int (bI sos), .int (nI T), .ref d1, .ref d2, .ref d3, .ref d4, .ref d5, .ref d6, .ref d7, .ref d8, .ref d9, .ref d10, .int (nI mk), .ref d11, .int sk, .int rf, .int tk, .int (nI fr), .int (nI fc), .ref d12, .ref d13])), (d1, .inl (cI, 64, .inl (xN pos))), (d2, .inl (cI, 64, .inl ph)), (d3, .inl (cI, 64, .inl bg)), (d4, .inl (cZ, 64, .inl (xB fs))), (d5, .inl (cZ, 64, .inl (xB gs))), (d6, .inl (cI, 8, .inl st)), (d7, .inl (cI, 8, .inl kk)), (d8, .inl (cI, 8, .inl ve)), (d9, .inl (cI, 8, .inl si)), (d10, .inl (cZ, 8, .inl (xB ca))), (d11, .inl (cI, 48, .inl lx)), (d12, .inl (cI, 64, .inl op)), (d13, .inl (cI, 64, .inl ob))] [(0, .ref h0), (1, .int kd), (2, .int ky), (3, .int (nI i))] 3 [] := by
    intro n
    induction n with
    | zero =>
      intro i lx hi hi8 hl
      refine x_iload_n hE 3 rfl dX5_enter_3 ?_
      refine x_iconst hE (nI 3) (by decide) dX5_enter_4 ?_
      refine xn_icmp_lt hE (by omega) (by omega) 28 (by decide) dX5_enter_5 (fun c5 => ?_) (fun c5 => ?_)
      · skip
        refine x_aload_n hE 0 rfl dX5_enter_28 ?_
        refine x_get hE g48 0 rfl rfl dX5_enter_29 ?_
        refine x_iconst hE (nI 0) (by decide) dX5_enter_32 ?_
        refine x_aload_n hE 0 rfl dX5_enter_33 ?_
        refine x_get hE g74 0 rfl rfl dX5_enter_34 ?_
        refine x_iast hE 0 (upd lx 0 (nI T)) (by omega) (by decide) rfl [(h0, .inr (5, [.int (nI R), .int (nI C), .int (bI dio), .int (bI bk), .int (bI lt), .int sl, .int (nI V), .int ru, .int (bI sus), .int (bI sos), .int (nI T), .ref d1, .ref d2, .ref d3, .ref d4, .ref d5, .ref d6, .ref d7, .ref d8, .ref d9, .ref d10, .int (nI mk), .ref d11, .int sk, .int rf, .int tk, .int (nI fr), .int (nI fc), .ref d12, .ref d13])), (d1, .inl (cI, 64, .inl (xN pos))), (d2, .inl (cI, 64, .inl ph)), (d3, .inl (cI, 64, .inl bg)), (d4, .inl (cZ, 64, .inl (xB fs))), (d5, .inl (cZ, 64, .inl (xB gs))), (d6, .inl (cI, 8, .inl st)), (d7, .inl (cI, 8, .inl kk)), (d8, .inl (cI, 8, .inl ve)), (d9, .inl (cI, 8, .inl si)), (d10, .inl (cZ, 8, .inl (xB ca))), (d11, .inl (cI, 48, .inl (upd lx 0 (nI T)))), (d12, .inl (cI, 64, .inl op)), (d13, .inl (cI, 64, .inl ob))] 11 rfl rfl dX5_enter_37 ?_
        refine x_aload_n hE 0 rfl dX5_enter_38 ?_
        refine x_get hE g48 0 rfl rfl dX5_enter_39 ?_
        refine x_iconst hE (nI 1) (by decide) dX5_enter_42 ?_
        refine x_iload_n hE 1 rfl dX5_enter_43 ?_
        refine x_iast hE 1 (upd (upd lx 0 (nI T)) 1 kd) (by omega) (by decide) rfl [(h0, .inr (5, [.int (nI R), .int (nI C), .int (bI dio), .int (bI bk), .int (bI lt), .int sl, .int (nI V), .int ru, .int (bI sus), .int (bI sos), .int (nI T), .ref d1, .ref d2, .ref d3, .ref d4, .ref d5, .ref d6, .ref d7, .ref d8, .ref d9, .ref d10, .int (nI mk), .ref d11, .int sk, .int rf, .int tk, .int (nI fr), .int (nI fc), .ref d12, .ref d13])), (d1, .inl (cI, 64, .inl (xN pos))), (d2, .inl (cI, 64, .inl ph)), (d3, .inl (cI, 64, .inl bg)), (d4, .inl (cZ, 64, .inl (xB fs))), (d5, .inl (cZ, 64, .inl (xB gs))), (d6, .inl (cI, 8, .inl st)), (d7, .inl (cI, 8, .inl kk)), (d8, .inl (cI, 8, .inl ve)), (d9, .inl (cI, 8, .inl si)), (d10, .inl (cZ, 8, .inl (xB ca))), (d11, .inl (cI, 48, .inl (upd (upd lx 0 (nI T)) 1 kd))), (d12, .inl (cI, 64, .inl op)), (d13, .inl (cI, 64, .inl ob))] 11 rfl rfl dX5_enter_44 ?_
        refine x_aload_n hE 0 rfl dX5_enter_45 ?_
        refine x_get hE g48 0 rfl rfl dX5_enter_46 ?_
        refine x_iconst hE (nI 2) (by decide) dX5_enter_49 ?_
        refine x_iload_n hE 2 rfl dX5_enter_50 ?_
        refine x_iast hE 2 (upd (upd (upd lx 0 (nI T)) 1 kd) 2 ky) (by omega) (by decide) rfl [(h0, .inr (5, [.int (nI R), .int (nI C), .int (bI dio), .int (bI bk), .int (bI lt), .int sl, .int (nI V), .int ru, .int (bI sus), .int (bI sos), .int (nI T), .ref d1, .ref d2, .ref d3, .ref d4, .ref d5, .ref d6, .ref d7, .ref d8, .ref d9, .ref d10, .int (nI mk), .ref d11, .int sk, .int rf, .int tk, .int (nI fr), .int (nI fc), .ref d12, .ref d13])), (d1, .inl (cI, 64, .inl (xN pos))), (d2, .inl (cI, 64, .inl ph)), (d3, .inl (cI, 64, .inl bg)), (d4, .inl (cZ, 64, .inl (xB fs))), (d5, .inl (cZ, 64, .inl (xB gs))), (d6, .inl (cI, 8, .inl st)), (d7, .inl (cI, 8, .inl kk)), (d8, .inl (cI, 8, .inl ve)), (d9, .inl (cI, 8, .inl si)), (d10, .inl (cZ, 8, .inl (xB ca))), (d11, .inl (cI, 48, .inl (upd (upd (upd lx 0 (nI T)) 1 kd) 2 ky))), (d12, .inl (cI, 64, .inl op)), (d13, .inl (cI, 64, .inl ob))] 11 rfl rfl dX5_enter_51 ?_
        refine x_aload_n hE 0 rfl dX5_enter_52 ?_
        refine x_dup hE rfl dX5_enter_53 ?_
        refine x_get hE g77 0 rfl rfl dX5_enter_54 ?_
        refine x_iconst hE (nI 1) (by decide) dX5_enter_57 ?_
        refine x_iadd hE (nI (mk + 1)) (nI_add _ _) dX5_enter_58 ?_
        refine x_put hE p77 [(h0, .inr (5, [.int (nI R), .int (nI C), .int (bI dio), .int (bI bk), .int (bI lt), .int sl, .int (nI V), .int ru, .int (bI sus), .int (bI sos), .int (nI T), .ref d1, .ref d2, .ref d3, .ref d4, .ref d5, .ref d6, .ref d7, .ref d8, .ref d9, .ref d10, .int (nI (mk + 1)), .ref d11, .int sk, .int rf, .int tk, .int (nI fr), .int (nI fc), .ref d12, .ref d13])), (d1, .inl (cI, 64, .inl (xN pos))), (d2, .inl (cI, 64, .inl ph)), (d3, .inl (cI, 64, .inl bg)), (d4, .inl (cZ, 64, .inl (xB fs))), (d5, .inl (cZ, 64, .inl (xB gs))), (d6, .inl (cI, 8, .inl st)), (d7, .inl (cI, 8, .inl kk)), (d8, .inl (cI, 8, .inl ve)), (d9, .inl (cI, 8, .inl si)), (d10, .inl (cZ, 8, .inl (xB ca))), (d11, .inl (cI, 48, .inl (upd (upd (upd lx 0 (nI T)) 1 kd) 2 ky))), (d12, .inl (cI, 64, .inl op)), (d13, .inl (cI, 64, .inl ob))] 0 rfl rfl rfl rfl (Nat.le_of_ble_eq_true rfl) dX5_enter_59 ?_
        exact x_vret hE hr (⟨rfl, by rw [hl, show i = 2 by omega]; rfl⟩) dX5_enter_62
      · skip
        exfalso; omega
    | succ n ih =>
      intro i lx hi hi8 hl
      refine x_iload_n hE 3 rfl dX5_enter_3 ?_
      refine x_iconst hE (nI 3) (by decide) dX5_enter_4 ?_
      refine xn_icmp_lt hE (by omega) (by omega) 28 (by decide) dX5_enter_5 (fun c5 => ?_) (fun c5 => ?_)
      · skip
        exfalso; omega
      · skip
        refine x_aload_n hE 0 rfl dX5_enter_8 ?_
        refine x_get hE g48 0 rfl rfl dX5_enter_9 ?_
        refine x_iload_n hE 3 rfl dX5_enter_12 ?_
        refine x_aload_n hE 0 rfl dX5_enter_13 ?_
        refine x_get hE g48 0 rfl rfl dX5_enter_14 ?_
        refine x_iload_n hE 3 rfl dX5_enter_17 ?_
        refine x_iconst hE (nI 3) (by decide) dX5_enter_18 ?_
        refine x_isub hE (nI (i - 3)) (xI_sub (by omega)) dX5_enter_19 ?_
        refine x_iald hE (i - 3) (lx (i - 3)) (by omega) (by decide) rfl 11 rfl dX5_enter_20 ?_
        refine x_iast hE i (upd lx i (lx (i - 3))) (by omega) (by decide) rfl [(h0, .inr (5, [.int (nI R), .int (nI C), .int (bI dio), .int (bI bk), .int (bI lt), .int sl, .int (nI V), .int ru, .int (bI sus), .int (bI sos), .int (nI T), .ref d1, .ref d2, .ref d3, .ref d4, .ref d5, .ref d6, .ref d7, .ref d8, .ref d9, .ref d10, .int (nI mk), .ref d11, .int sk, .int rf, .int tk, .int (nI fr), .int (nI fc), .ref d12, .ref d13])), (d1, .inl (cI, 64, .inl (xN pos))), (d2, .inl (cI, 64, .inl ph)), (d3, .inl (cI, 64, .inl bg)), (d4, .inl (cZ, 64, .inl (xB fs))), (d5, .inl (cZ, 64, .inl (xB gs))), (d6, .inl (cI, 8, .inl st)), (d7, .inl (cI, 8, .inl kk)), (d8, .inl (cI, 8, .inl ve)), (d9, .inl (cI, 8, .inl si)), (d10, .inl (cZ, 8, .inl (xB ca))), (d11, .inl (cI, 48, .inl (upd lx i (lx (i - 3))))), (d12, .inl (cI, 64, .inl op)), (d13, .inl (cI, 64, .inl ob))] 11 rfl rfl dX5_enter_21 ?_
        refine x_iinc hE (nI (i - 1)) [(3, .int (nI (i - 1))), (0, .ref h0), (1, .int kd), (2, .int ky)] 3 rfl (xI_dec (n := 1) (by omega)) (by decide) rfl dX5_enter_22 ?_
        refine x_goto hE 3 (by decide) dX5_enter_25 ?_
        refine x_lv [(0, .ref h0), (1, .int kd), (2, .int ky), (3, .int (nI (i - 1)))] [1, 2, 3, 0] rfl ?_
        exact ih (i - 1) (upd lx i (lx (i - 3))) (by omega) (by omega) (by rw [hl]; exact shL_step lg (by omega) hi8)
  refine x_bipush hE (nI 47) (by decide) dX5_enter_0 ?_
  refine x_istore_n hE [(3, .int (nI 47)), (0, .ref h0), (1, .int kd), (2, .int ky)] (by decide) rfl dX5_enter_2 ?_
  refine x_lv [(0, .ref h0), (1, .int kd), (2, .int ky), (3, .int (nI 47))] [1, 2, 3, 0] rfl ?_
  exact lp3 45 47 lg (rfl) (by decide) (by rw [shL_47])
set_option maxHeartbeats 4000000 in
set_option maxRecDepth 100000 in
theorem kX5_frees (l : Launch) (D : va_G) (cI cZ : ClassId) (h0 : Nat) (d1 : Nat) (d2 : Nat) (d3 : Nat) (d4 : Nat) (d5 : Nat) (d6 : Nat) (d7 : Nat) (d8 : Nat) (d9 : Nat) (d10 : Nat) (d11 : Nat) (d12 : Nat) (d13 : Nat) (R : Nat) (C : Nat) (dio : Bool) (bk : Bool) (lt : Bool) (sl : Int32) (V : Nat) (ru : Int32) (sus : Bool) (sos : Bool) (T : Nat) (pos : Nat → Nat) (ph : Nat → Int32) (bg : Nat → Int32) (fs : Nat → Bool) (gs : Nat → Bool) (st : Nat → Int32) (kk : Nat → Int32) (ve : Nat → Int32) (si : Nat → Int32) (ca : Nat → Bool) (mk : Nat) (lg : Nat → Int32) (sk : Int32) (rf : Int32) (tk : Int32) (fr : Nat) (fc : Nat) (op : Nat → Int32) (ob : Nat → Int32) (v : Nat) (hv8 : v < 8) : xC l yX5_frees wsX5_frees 1 0 0 23 D cI cZ [.ref h0, .int (nI v)] [(h0, .inr (5, [.int (nI R), .int (nI C), .int (bI dio), .int (bI bk), .int (bI lt), .int sl, .int (nI V), .int ru, .int (bI sus), .int (bI sos), .int (nI T), .ref d1, .ref d2, .ref d3, .ref d4, .ref d5, .ref d6, .ref d7, .ref d8, .ref d9, .ref d10, .int (nI mk), .ref d11, .int sk, .int rf, .int tk, .int (nI fr), .int (nI fc), .ref d12, .ref d13])), (d1, .inl (cI, 64, .inl (xN pos))), (d2, .inl (cI, 64, .inl ph)), (d3, .inl (cI, 64, .inl bg)), (d4, .inl (cZ, 64, .inl (xB fs))), (d5, .inl (cZ, 64, .inl (xB gs))), (d6, .inl (cI, 8, .inl st)), (d7, .inl (cI, 8, .inl kk)), (d8, .inl (cI, 8, .inl ve)), (d9, .inl (cI, 8, .inl si)), (d10, .inl (cZ, 8, .inl (xB ca))), (d11, .inl (cI, 48, .inl lg)), (d12, .inl (cI, 64, .inl op)), (d13, .inl (cI, 64, .inl ob))] (fun v8 w8 => v8 = some (.int (nI (if st v = nI 0 then 0 else 1))) ∧ w8 = [(h0, .inr (5, [.int (nI R), .int (nI C), .int (bI dio), .int (bI bk), .int (bI lt), .int sl, .int (nI V), .int ru, .int (bI sus), .int (bI sos), .int (nI T), .ref d1, .ref d2, .ref d3, .ref d4, .ref d5, .ref d6, .ref d7, .ref d8, .ref d9, .ref d10, .int (nI ((limM kk T v (st, ca, lg, mk)).2.2.2)), .ref d11, .int sk, .int rf, .int tk, .int (nI fr), .int (nI fc), .ref d12, .ref d13])), (d1, .inl (cI, 64, .inl (xN pos))), (d2, .inl (cI, 64, .inl ph)), (d3, .inl (cI, 64, .inl bg)), (d4, .inl (cZ, 64, .inl (xB fs))), (d5, .inl (cZ, 64, .inl (xB gs))), (d6, .inl (cI, 8, .inl ((limM kk T v (st, ca, lg, mk)).1))), (d7, .inl (cI, 8, .inl kk)), (d8, .inl (cI, 8, .inl ve)), (d9, .inl (cI, 8, .inl si)), (d10, .inl (cZ, 8, .inl (xB ((limM kk T v (st, ca, lg, mk)).2.1)))), (d11, .inl (cI, 48, .inl ((limM kk T v (st, ca, lg, mk)).2.2.1))), (d12, .inl (cI, 64, .inl op)), (d13, .inl (cI, 64, .inl ob))]) := by
  refine xC.of (bytes := cX5_frees) (maxL := 2) (ret := (some .int)) (own := RX5) (by decide +kernel) rfl (Nat.le_of_ble_eq_true rfl) rfl ?_
  intro p9 e9 s9 m9 args9 below9 meth9 cd9 A hE hr hin2 hA9
  have inX5 : ∀ w ∈ wsX50, w ∈ wsX5_frees := fun w h => List.mem_cons_of_mem _ (List.mem_append_right _ h)
  have g33 : xF RX5 wsX5_frees 33 5 16 := ⟨"KeyScannerModel", RX5, TX5, 30, inX5, rfl, by decide, List.mem_of_getElem? (i := 1) rfl, rfl⟩
  have g45 : xF RX5 wsX5_frees 45 5 20 := ⟨"KeyScannerModel", RX5, TX5, 30, inX5, rfl, by decide, List.mem_of_getElem? (i := 2) rfl, rfl⟩
  have g36 : xF RX5 wsX5_frees 36 5 17 := ⟨"KeyScannerModel", RX5, TX5, 30, inX5, rfl, by decide, List.mem_of_getElem? (i := 3) rfl, rfl⟩
  refine x_at (ws' := [(h0, .inr (5, [.int (nI R), .int (nI C), .int (bI dio), .int (bI bk), .int (bI lt), .int sl, .int (nI V), .int ru, .int (bI sus), .int (bI sos), .int (nI T), .ref d1, .ref d2, .ref d3, .ref d4, .ref d5, .ref d6, .ref d7, .ref d8, .ref d9, .ref d10, .int (nI mk), .ref d11, .int sk, .int rf, .int tk, .int (nI fr), .int (nI fc), .ref d12, .ref d13])), (d1, .inl (cI, 64, .inl (xN pos))), (d2, .inl (cI, 64, .inl ph)), (d3, .inl (cI, 64, .inl bg)), (d4, .inl (cZ, 64, .inl (xB fs))), (d5, .inl (cZ, 64, .inl (xB gs))), (d6, .inl (cI, 8, .inl st)), (d7, .inl (cI, 8, .inl kk)), (d8, .inl (cI, 8, .inl ve)), (d9, .inl (cI, 8, .inl si)), (d10, .inl (cZ, 8, .inl (xB ca))), (d11, .inl (cI, 48, .inl lg)), (d12, .inl (cI, 64, .inl op)), (d13, .inl (cI, 64, .inl ob))]) (st' := []) rfl rfl ?_
  refine x_lv [(0, .ref h0), (1, .int (nI v))] [0, 1] rfl ?_
  refine x_aload_n hE 0 rfl dX5_frees_0 ?_
  refine x_get hE g33 0 rfl rfl dX5_frees_1 ?_
  refine x_iload_n hE 1 rfl dX5_frees_4 ?_
  refine x_iald hE v (st v) (by omega) (by decide) rfl 6 rfl dX5_frees_5 ?_
  refine x_if_ne hE 11 (by decide) dX5_frees_6 (fun c6 => ?_) (fun c6 => ?_)
  · skip
    refine x_aload_n hE 0 rfl dX5_frees_11 ?_
    refine x_get hE g33 0 rfl rfl dX5_frees_12 ?_
    refine x_iload_n hE 1 rfl dX5_frees_15 ?_
    refine x_iconst hE (nI 0) (by decide) dX5_frees_16 ?_
    refine x_iast hE v (upd st v (nI 0)) (by omega) (by decide) rfl [(h0, .inr (5, [.int (nI R), .int (nI C), .int (bI dio), .int (bI bk), .int (bI lt), .int sl, .int (nI V), .int ru, .int (bI sus), .int (bI sos), .int (nI T), .ref d1, .ref d2, .ref d3, .ref d4, .ref d5, .ref d6, .ref d7, .ref d8, .ref d9, .ref d10, .int (nI mk), .ref d11, .int sk, .int rf, .int tk, .int (nI fr), .int (nI fc), .ref d12, .ref d13])), (d1, .inl (cI, 64, .inl (xN pos))), (d2, .inl (cI, 64, .inl ph)), (d3, .inl (cI, 64, .inl bg)), (d4, .inl (cZ, 64, .inl (xB fs))), (d5, .inl (cZ, 64, .inl (xB gs))), (d6, .inl (cI, 8, .inl (upd st v (nI 0)))), (d7, .inl (cI, 8, .inl kk)), (d8, .inl (cI, 8, .inl ve)), (d9, .inl (cI, 8, .inl si)), (d10, .inl (cZ, 8, .inl (xB ca))), (d11, .inl (cI, 48, .inl lg)), (d12, .inl (cI, 64, .inl op)), (d13, .inl (cI, 64, .inl ob))] 6 rfl rfl dX5_frees_17 ?_
    refine x_aload_n hE 0 rfl dX5_frees_18 ?_
    refine x_get hE g45 0 rfl rfl dX5_frees_19 ?_
    refine x_iload_n hE 1 rfl dX5_frees_22 ?_
    refine x_iconst hE (nI 0) (by decide) dX5_frees_23 ?_
    refine x_eq (bI false) rfl ?_
    refine x_zast hE v (updB ca v false) (by omega) (by decide) rfl [(h0, .inr (5, [.int (nI R), .int (nI C), .int (bI dio), .int (bI bk), .int (bI lt), .int sl, .int (nI V), .int ru, .int (bI sus), .int (bI sos), .int (nI T), .ref d1, .ref d2, .ref d3, .ref d4, .ref d5, .ref d6, .ref d7, .ref d8, .ref d9, .ref d10, .int (nI mk), .ref d11, .int sk, .int rf, .int tk, .int (nI fr), .int (nI fc), .ref d12, .ref d13])), (d1, .inl (cI, 64, .inl (xN pos))), (d2, .inl (cI, 64, .inl ph)), (d3, .inl (cI, 64, .inl bg)), (d4, .inl (cZ, 64, .inl (xB fs))), (d5, .inl (cZ, 64, .inl (xB gs))), (d6, .inl (cI, 8, .inl (upd st v (nI 0)))), (d7, .inl (cI, 8, .inl kk)), (d8, .inl (cI, 8, .inl ve)), (d9, .inl (cI, 8, .inl si)), (d10, .inl (cZ, 8, .inl (xB (updB ca v false)))), (d11, .inl (cI, 48, .inl lg)), (d12, .inl (cI, 64, .inl op)), (d13, .inl (cI, 64, .inl ob))] 10 rfl rfl dX5_frees_24 ?_
    refine x_aload_n hE 0 rfl dX5_frees_25 ?_
    refine x_iconst hE (nI 2) (by decide) dX5_frees_26 ?_
    refine x_aload_n hE 0 rfl dX5_frees_27 ?_
    refine x_get hE g36 0 rfl rfl dX5_frees_28 ?_
    refine x_iload_n hE 1 rfl dX5_frees_31 ?_
    refine x_iald hE v (kk v) (by omega) (by decide) rfl 7 rfl dX5_frees_32 ?_
    refine x_callV (n := 2) (st := []) hE (kX5_enter l D cI cZ h0 d1 d2 d3 d4 d5 d6 d7 d8 d9 d10 d11 d12 d13 R C dio bk lt sl V ru sus sos T pos ph bg fs gs (upd st v (nI 0)) kk ve si (updB ca v false) mk lg sk rf tk fr fc op ob (nI 2) (kk v) ) gX5_frees_X5_enter rfl (by decide +kernel) ⟨by decide, by decide⟩ ⟨Nat.zero_le _, Nat.zero_le _⟩ rfl [0, 1, 2, 3, 4, 5, 6, 7, 8, 9, 10, 11, 12, 13] [] rfl (wr := []) rfl (by decide) (by decide) (by decide) 0 rfl rfl rfl rfl (Nat.le_of_ble_eq_true rfl) dX5_frees_33 (fun v9 w9 hT9 => ?_)
    obtain ⟨rfl, rfl⟩ := hT9
    refine x_at (ws' := [(h0, .inr (5, [.int (nI R), .int (nI C), .int (bI dio), .int (bI bk), .int (bI lt), .int sl, .int (nI V), .int ru, .int (bI sus), .int (bI sos), .int (nI T), .ref d1, .ref d2, .ref d3, .ref d4, .ref d5, .ref d6, .ref d7, .ref d8, .ref d9, .ref d10, .int (nI (mk + 1)), .ref d11, .int sk, .int rf, .int tk, .int (nI fr), .int (nI fc), .ref d12, .ref d13])), (d1, .inl (cI, 64, .inl (xN pos))), (d2, .inl (cI, 64, .inl ph)), (d3, .inl (cI, 64, .inl bg)), (d4, .inl (cZ, 64, .inl (xB fs))), (d5, .inl (cZ, 64, .inl (xB gs))), (d6, .inl (cI, 8, .inl (upd st v (nI 0)))), (d7, .inl (cI, 8, .inl kk)), (d8, .inl (cI, 8, .inl ve)), (d9, .inl (cI, 8, .inl si)), (d10, .inl (cZ, 8, .inl (xB (updB ca v false)))), (d11, .inl (cI, 48, .inl (entL (nI T) (nI 2) (kk v) lg))), (d12, .inl (cI, 64, .inl op)), (d13, .inl (cI, 64, .inl ob))]) (st' := []) rfl rfl ?_
    refine x_iconst hE (nI 1) (by decide) dX5_frees_36 ?_
    exact x_iret hE hr (⟨by simp only [if_neg c6, reduceIte, Bool.false_eq_true, Bool.true_eq_false], by simp only [limM, freeM, if_neg c6, reduceIte, Bool.false_eq_true, Bool.true_eq_false]⟩) dX5_frees_37
  · skip
    refine x_iconst hE (nI 0) (by decide) dX5_frees_9 ?_
    exact x_iret hE hr (⟨by simp only [if_pos c6, reduceIte, Bool.false_eq_true, Bool.true_eq_false], by simp only [limM, freeM, if_pos c6, reduceIte, Bool.false_eq_true, Bool.true_eq_false]⟩) dX5_frees_10
set_option maxHeartbeats 4000000 in
set_option maxRecDepth 100000 in
theorem kX5_voiceOf (l : Launch) (D : va_G) (cI cZ : ClassId) (h0 : Nat) (d1 : Nat) (d2 : Nat) (d3 : Nat) (d4 : Nat) (d5 : Nat) (d6 : Nat) (d7 : Nat) (d8 : Nat) (d9 : Nat) (d10 : Nat) (d11 : Nat) (d12 : Nat) (d13 : Nat) (R : Nat) (C : Nat) (dio : Bool) (bk : Bool) (lt : Bool) (sl : Int32) (V : Nat) (ru : Int32) (sus : Bool) (sos : Bool) (T : Nat) (pos : Nat → Nat) (ph : Nat → Int32) (bg : Nat → Int32) (fs : Nat → Bool) (gs : Nat → Bool) (st : Nat → Int32) (kk : Nat → Int32) (ve : Nat → Int32) (si : Nat → Int32) (ca : Nat → Bool) (mk : Nat) (lg : Nat → Int32) (sk : Int32) (rf : Int32) (tk : Int32) (fr : Nat) (fc : Nat) (op : Nat → Int32) (ob : Nat → Int32) (ky : Int32) (hV : 1 ≤ V ∧ V ≤ 8) : xC l yX5_voiceOf wsX5_voiceOf 0 0 0 0 D cI cZ [.ref h0, .int ky] [(h0, .inr (5, [.int (nI R), .int (nI C), .int (bI dio), .int (bI bk), .int (bI lt), .int sl, .int (nI V), .int ru, .int (bI sus), .int (bI sos), .int (nI T), .ref d1, .ref d2, .ref d3, .ref d4, .ref d5, .ref d6, .ref d7, .ref d8, .ref d9, .ref d10, .int (nI mk), .ref d11, .int sk, .int rf, .int tk, .int (nI fr), .int (nI fc), .ref d12, .ref d13])), (d1, .inl (cI, 64, .inl (xN pos))), (d2, .inl (cI, 64, .inl ph)), (d3, .inl (cI, 64, .inl bg)), (d4, .inl (cZ, 64, .inl (xB fs))), (d5, .inl (cZ, 64, .inl (xB gs))), (d6, .inl (cI, 8, .inl st)), (d7, .inl (cI, 8, .inl kk)), (d8, .inl (cI, 8, .inl ve)), (d9, .inl (cI, 8, .inl si)), (d10, .inl (cZ, 8, .inl (xB ca))), (d11, .inl (cI, 48, .inl lg)), (d12, .inl (cI, 64, .inl op)), (d13, .inl (cI, 64, .inl ob))] (fun v8 w8 => v8 = some (.int (rV (findN (wkP st kk ky) 0 V) V)) ∧ w8 = [(h0, .inr (5, [.int (nI R), .int (nI C), .int (bI dio), .int (bI bk), .int (bI lt), .int sl, .int (nI V), .int ru, .int (bI sus), .int (bI sos), .int (nI T), .ref d1, .ref d2, .ref d3, .ref d4, .ref d5, .ref d6, .ref d7, .ref d8, .ref d9, .ref d10, .int (nI mk), .ref d11, .int sk, .int rf, .int tk, .int (nI fr), .int (nI fc), .ref d12, .ref d13])), (d1, .inl (cI, 64, .inl (xN pos))), (d2, .inl (cI, 64, .inl ph)), (d3, .inl (cI, 64, .inl bg)), (d4, .inl (cZ, 64, .inl (xB fs))), (d5, .inl (cZ, 64, .inl (xB gs))), (d6, .inl (cI, 8, .inl st)), (d7, .inl (cI, 8, .inl kk)), (d8, .inl (cI, 8, .inl ve)), (d9, .inl (cI, 8, .inl si)), (d10, .inl (cZ, 8, .inl (xB ca))), (d11, .inl (cI, 48, .inl lg)), (d12, .inl (cI, 64, .inl op)), (d13, .inl (cI, 64, .inl ob))]) := by
  refine xC.of (bytes := cX5_voiceOf) (maxL := 3) (ret := (some .int)) (own := RX5) (by decide +kernel) rfl (Nat.le_of_ble_eq_true rfl) rfl ?_
  intro p9 e9 s9 m9 args9 below9 meth9 cd9 A hE hr hin2 hA9
  have inX5 : ∀ w ∈ wsX50, w ∈ wsX5_voiceOf := fun w h => List.mem_cons_of_mem _ (List.mem_append_right _ h)
  have g13 : xF RX5 wsX5_voiceOf 13 5 6 := ⟨"KeyScannerModel", RX5, TX5, 30, inX5, rfl, by decide, List.mem_of_getElem? (i := 1) rfl, rfl⟩
  have g33 : xF RX5 wsX5_voiceOf 33 5 16 := ⟨"KeyScannerModel", RX5, TX5, 30, inX5, rfl, by decide, List.mem_of_getElem? (i := 2) rfl, rfl⟩
  have g36 : xF RX5 wsX5_voiceOf 36 5 17 := ⟨"KeyScannerModel", RX5, TX5, 30, inX5, rfl, by decide, List.mem_of_getElem? (i := 3) rfl, rfl⟩
  refine x_at (ws' := [(h0, .inr (5, [.int (nI R), .int (nI C), .int (bI dio), .int (bI bk), .int (bI lt), .int sl, .int (nI V), .int ru, .int (bI sus), .int (bI sos), .int (nI T), .ref d1, .ref d2, .ref d3, .ref d4, .ref d5, .ref d6, .ref d7, .ref d8, .ref d9, .ref d10, .int (nI mk), .ref d11, .int sk, .int rf, .int tk, .int (nI fr), .int (nI fc), .ref d12, .ref d13])), (d1, .inl (cI, 64, .inl (xN pos))), (d2, .inl (cI, 64, .inl ph)), (d3, .inl (cI, 64, .inl bg)), (d4, .inl (cZ, 64, .inl (xB fs))), (d5, .inl (cZ, 64, .inl (xB gs))), (d6, .inl (cI, 8, .inl st)), (d7, .inl (cI, 8, .inl kk)), (d8, .inl (cI, 8, .inl ve)), (d9, .inl (cI, 8, .inl si)), (d10, .inl (cZ, 8, .inl (xB ca))), (d11, .inl (cI, 48, .inl lg)), (d12, .inl (cI, 64, .inl op)), (d13, .inl (cI, 64, .inl ob))]) (st' := []) rfl rfl ?_
  refine x_lv [(0, .ref h0), (1, .int ky)] [0, 1] rfl ?_
  have lp2 : ∀ (n : Nat) (i : Nat) (hi : i + n = V) (hT : findN (wkP st kk ky) i n = findN (wkP st kk ky) 0 V), X p9 l e9 { frames := 0, cells := 0, slots := 0, locals := 0 } s9 m9 args9 below9 meth9 cd9 0 0 (MQ below9 (xQ D (fun v8 w8 => v8 = some (.int (rV (findN (wkP st kk ky) 0 V) V)) ∧ w8 = [(h0, .inr (5, [.int (nI R), .int (nI C), .int (bI dio), .int (bI bk), .int (bI lt), .int sl, .int (nI V), .int ru, .int (bI sus), .int (bI sos), .int (nI T), .ref d1, .ref d2, .ref d3, .ref d4, .ref d5, .ref d6, .ref d7, .ref d8, .ref d9, .ref d10, .int (nI mk), .ref d11, .int sk, .int rf, .int tk, .int (nI fr), .int (nI fc), .ref d12, .ref d13])), (d1, .inl (cI, 64, .inl (xN pos))), (d2, .inl (cI, 64, .inl ph)), (d3, .inl (cI, 64, .inl bg)), (d4, .inl (cZ, 64, .inl (xB fs))), (d5, .inl (cZ, 64, .inl (xB gs))), (d6, .inl (cI, 8, .inl st)), (d7, .inl (cI, 8, .inl kk)), (d8, .inl (cI, 8, .inl ve)), (d9, .inl (cI, 8, .inl si)), (d10, .inl (cZ, 8, .inl (xB ca))), (d11, .inl (cI, 48, .inl lg)), (d12, .inl (cI, 64, .inl op)), (d13, .inl (cI, 64, .inl ob))]) A) args9 s9 0 0 A) 3 D A [(h0, .inr (5, [.int (nI R), .int (nI C), .int (bI dio), .int (bI bk), .int (bI lt), .int sl, .int (nI V), .int ru, .int (bI sus), .int (bI sos), .int (nI T), .ref d1, .ref d2, .ref d3, .ref d4, .ref d5, .ref d6, .ref d7, .ref d8, .ref d9, .ref d10, .int (nI mk), .ref d11, .int sk, .int rf, .int tk, .int (nI fr), .int (nI fc), .ref d12, .ref d13])), (d1, .inl (cI, 64, .inl (xN pos))), (d2, .inl (cI, 64, .inl ph)), (d3, .inl (cI, 64, .inl bg)), (d4, .inl (cZ, 64, .inl (xB fs))), (d5, .inl (cZ, 64, .inl (xB gs))), (d6, .inl (cI, 8, .inl st)), (d7, .inl (cI, 8, .inl kk)), (d8, .inl (cI, 8, .inl ve)), (d9, .inl (cI, 8, .inl si)), (d10, .inl (cZ, 8, .inl (xB ca))), (d11, .inl (cI, 48, .inl lg)), (d12, .inl (cI, 64, .inl op)), (d13, .inl (cI, 64, .inl ob))] [(0, .ref h0), (1, .int ky), (2, .int (nI i))] 2 [] := by
    intro n
    induction n with
    | zero =>
      intro i hi hT
      refine x_iload_n hE 2 rfl dX5_voiceOf_2 ?_
      refine x_aload_n hE 0 rfl dX5_voiceOf_3 ?_
      refine x_get hE g13 0 rfl rfl dX5_voiceOf_4 ?_
      refine xn_icmp_ge hE (by omega) (by omega) 37 (by decide) dX5_voiceOf_7 (fun c7 => ?_) (fun c7 => ?_)
      · skip
        refine x_bipush hE (-3) (by decide) dX5_voiceOf_37 ?_
        exact x_iret hE hr (⟨by rw [← show i = findN (wkP st kk ky) 0 V from hT, rV, if_neg (by omega)], rfl⟩) dX5_voiceOf_39
      · skip
        exfalso; omega
    | succ n ih =>
      intro i hi hT
      refine x_iload_n hE 2 rfl dX5_voiceOf_2 ?_
      refine x_aload_n hE 0 rfl dX5_voiceOf_3 ?_
      refine x_get hE g13 0 rfl rfl dX5_voiceOf_4 ?_
      refine xn_icmp_ge hE (by omega) (by omega) 37 (by decide) dX5_voiceOf_7 (fun c7 => ?_) (fun c7 => ?_)
      · skip
        exfalso; omega
      · skip
        refine x_aload_n hE 0 rfl dX5_voiceOf_10 ?_
        refine x_get hE g33 0 rfl rfl dX5_voiceOf_11 ?_
        refine x_iload_n hE 2 rfl dX5_voiceOf_14 ?_
        refine x_iald hE i (st i) (by omega) (by decide) rfl 6 rfl dX5_voiceOf_15 ?_
        refine x_if_eq hE 31 (by decide) dX5_voiceOf_16 (fun c16 => ?_) (fun c16 => ?_)
        · skip
          refine x_iinc hE (nI (i + 1)) [(2, .int (nI (i + 1))), (0, .ref h0), (1, .int ky)] 2 rfl (nI_add _ _) (by decide) rfl dX5_voiceOf_31 ?_
          refine x_goto hE 2 (by decide) dX5_voiceOf_34 ?_
          refine x_lv [(0, .ref h0), (1, .int ky), (2, .int (nI (i + 1)))] [1, 2, 0] rfl ?_
          exact ih (i + 1) (by omega) (by simpa only [lfor, lany, lfind, findN, wkP, if_pos c7, if_pos c16, reduceIte, Bool.false_eq_true, Bool.true_eq_false] using hT)
        · skip
          refine x_aload_n hE 0 rfl dX5_voiceOf_19 ?_
          refine x_get hE g36 0 rfl rfl dX5_voiceOf_20 ?_
          refine x_iload_n hE 2 rfl dX5_voiceOf_23 ?_
          refine x_iald hE i (kk i) (by omega) (by decide) rfl 7 rfl dX5_voiceOf_24 ?_
          refine x_iload_n hE 1 rfl dX5_voiceOf_25 ?_
          refine x_icmp_ne hE 31 (by decide) dX5_voiceOf_26 (fun c26 => ?_) (fun c26 => ?_)
          · skip
            refine x_iinc hE (nI (i + 1)) [(2, .int (nI (i + 1))), (0, .ref h0), (1, .int ky)] 2 rfl (nI_add _ _) (by decide) rfl dX5_voiceOf_31 ?_
            refine x_goto hE 2 (by decide) dX5_voiceOf_34 ?_
            refine x_lv [(0, .ref h0), (1, .int ky), (2, .int (nI (i + 1)))] [1, 2, 0] rfl ?_
            exact ih (i + 1) (by omega) (by simpa only [lfor, lany, lfind, findN, wkP, if_pos c7, if_neg c16, if_neg c26, reduceIte, Bool.false_eq_true, Bool.true_eq_false] using hT)
          · skip
            refine x_iload_n hE 2 rfl dX5_voiceOf_29 ?_
            exact x_iret hE hr (⟨by rw [← show i = findN (wkP st kk ky) 0 V from by simpa only [findN, wkP, if_pos c7, if_neg c16, if_pos c26, reduceIte, Bool.false_eq_true, Bool.true_eq_false] using hT, rV_some (by omega)], rfl⟩) dX5_voiceOf_30
  refine x_iconst hE (nI 0) (by decide) dX5_voiceOf_0 ?_
  refine x_istore_n hE [(2, .int (nI 0)), (0, .ref h0), (1, .int ky)] (by decide) rfl dX5_voiceOf_1 ?_
  refine x_lv [(0, .ref h0), (1, .int ky), (2, .int (nI 0))] [1, 2, 0] rfl ?_
  exact lp2 V 0 (Nat.zero_add _) (rfl)
set_option maxHeartbeats 4000000 in
set_option maxRecDepth 100000 in
theorem kX5_freeVoice (l : Launch) (D : va_G) (cI cZ : ClassId) (h0 : Nat) (d1 : Nat) (d2 : Nat) (d3 : Nat) (d4 : Nat) (d5 : Nat) (d6 : Nat) (d7 : Nat) (d8 : Nat) (d9 : Nat) (d10 : Nat) (d11 : Nat) (d12 : Nat) (d13 : Nat) (R : Nat) (C : Nat) (dio : Bool) (bk : Bool) (lt : Bool) (sl : Int32) (V : Nat) (ru : Int32) (sus : Bool) (sos : Bool) (T : Nat) (pos : Nat → Nat) (ph : Nat → Int32) (bg : Nat → Int32) (fs : Nat → Bool) (gs : Nat → Bool) (st : Nat → Int32) (kk : Nat → Int32) (ve : Nat → Int32) (si : Nat → Int32) (ca : Nat → Bool) (mk : Nat) (lg : Nat → Int32) (sk : Int32) (rf : Int32) (tk : Int32) (fr : Nat) (fc : Nat) (op : Nat → Int32) (ob : Nat → Int32) (hV : 1 ≤ V ∧ V ≤ 8) : xC l yX5_freeVoice wsX5_freeVoice 0 0 0 0 D cI cZ [.ref h0] [(h0, .inr (5, [.int (nI R), .int (nI C), .int (bI dio), .int (bI bk), .int (bI lt), .int sl, .int (nI V), .int ru, .int (bI sus), .int (bI sos), .int (nI T), .ref d1, .ref d2, .ref d3, .ref d4, .ref d5, .ref d6, .ref d7, .ref d8, .ref d9, .ref d10, .int (nI mk), .ref d11, .int sk, .int rf, .int tk, .int (nI fr), .int (nI fc), .ref d12, .ref d13])), (d1, .inl (cI, 64, .inl (xN pos))), (d2, .inl (cI, 64, .inl ph)), (d3, .inl (cI, 64, .inl bg)), (d4, .inl (cZ, 64, .inl (xB fs))), (d5, .inl (cZ, 64, .inl (xB gs))), (d6, .inl (cI, 8, .inl st)), (d7, .inl (cI, 8, .inl kk)), (d8, .inl (cI, 8, .inl ve)), (d9, .inl (cI, 8, .inl si)), (d10, .inl (cZ, 8, .inl (xB ca))), (d11, .inl (cI, 48, .inl lg)), (d12, .inl (cI, 64, .inl op)), (d13, .inl (cI, 64, .inl ob))] (fun v8 w8 => v8 = some (.int (rV (findN (ffP st) 0 V) V)) ∧ w8 = [(h0, .inr (5, [.int (nI R), .int (nI C), .int (bI dio), .int (bI bk), .int (bI lt), .int sl, .int (nI V), .int ru, .int (bI sus), .int (bI sos), .int (nI T), .ref d1, .ref d2, .ref d3, .ref d4, .ref d5, .ref d6, .ref d7, .ref d8, .ref d9, .ref d10, .int (nI mk), .ref d11, .int sk, .int rf, .int tk, .int (nI fr), .int (nI fc), .ref d12, .ref d13])), (d1, .inl (cI, 64, .inl (xN pos))), (d2, .inl (cI, 64, .inl ph)), (d3, .inl (cI, 64, .inl bg)), (d4, .inl (cZ, 64, .inl (xB fs))), (d5, .inl (cZ, 64, .inl (xB gs))), (d6, .inl (cI, 8, .inl st)), (d7, .inl (cI, 8, .inl kk)), (d8, .inl (cI, 8, .inl ve)), (d9, .inl (cI, 8, .inl si)), (d10, .inl (cZ, 8, .inl (xB ca))), (d11, .inl (cI, 48, .inl lg)), (d12, .inl (cI, 64, .inl op)), (d13, .inl (cI, 64, .inl ob))]) := by
  refine xC.of (bytes := cX5_freeVoice) (maxL := 2) (ret := (some .int)) (own := RX5) (by decide +kernel) rfl (Nat.le_of_ble_eq_true rfl) rfl ?_
  intro p9 e9 s9 m9 args9 below9 meth9 cd9 A hE hr hin2 hA9
  have inX5 : ∀ w ∈ wsX50, w ∈ wsX5_freeVoice := fun w h => List.mem_cons_of_mem _ (List.mem_append_right _ h)
  have g13 : xF RX5 wsX5_freeVoice 13 5 6 := ⟨"KeyScannerModel", RX5, TX5, 30, inX5, rfl, by decide, List.mem_of_getElem? (i := 1) rfl, rfl⟩
  have g33 : xF RX5 wsX5_freeVoice 33 5 16 := ⟨"KeyScannerModel", RX5, TX5, 30, inX5, rfl, by decide, List.mem_of_getElem? (i := 2) rfl, rfl⟩
  refine x_at (ws' := [(h0, .inr (5, [.int (nI R), .int (nI C), .int (bI dio), .int (bI bk), .int (bI lt), .int sl, .int (nI V), .int ru, .int (bI sus), .int (bI sos), .int (nI T), .ref d1, .ref d2, .ref d3, .ref d4, .ref d5, .ref d6, .ref d7, .ref d8, .ref d9, .ref d10, .int (nI mk), .ref d11, .int sk, .int rf, .int tk, .int (nI fr), .int (nI fc), .ref d12, .ref d13])), (d1, .inl (cI, 64, .inl (xN pos))), (d2, .inl (cI, 64, .inl ph)), (d3, .inl (cI, 64, .inl bg)), (d4, .inl (cZ, 64, .inl (xB fs))), (d5, .inl (cZ, 64, .inl (xB gs))), (d6, .inl (cI, 8, .inl st)), (d7, .inl (cI, 8, .inl kk)), (d8, .inl (cI, 8, .inl ve)), (d9, .inl (cI, 8, .inl si)), (d10, .inl (cZ, 8, .inl (xB ca))), (d11, .inl (cI, 48, .inl lg)), (d12, .inl (cI, 64, .inl op)), (d13, .inl (cI, 64, .inl ob))]) (st' := []) rfl rfl ?_
  refine x_lv [(0, .ref h0)] [0] rfl ?_
  have lp2 : ∀ (n : Nat) (i : Nat) (hi : i + n = V) (hT : findN (ffP st) i n = findN (ffP st) 0 V), X p9 l e9 { frames := 0, cells := 0, slots := 0, locals := 0 } s9 m9 args9 below9 meth9 cd9 0 0 (MQ below9 (xQ D (fun v8 w8 => v8 = some (.int (rV (findN (ffP st) 0 V) V)) ∧ w8 = [(h0, .inr (5, [.int (nI R), .int (nI C), .int (bI dio), .int (bI bk), .int (bI lt), .int sl, .int (nI V), .int ru, .int (bI sus), .int (bI sos), .int (nI T), .ref d1, .ref d2, .ref d3, .ref d4, .ref d5, .ref d6, .ref d7, .ref d8, .ref d9, .ref d10, .int (nI mk), .ref d11, .int sk, .int rf, .int tk, .int (nI fr), .int (nI fc), .ref d12, .ref d13])), (d1, .inl (cI, 64, .inl (xN pos))), (d2, .inl (cI, 64, .inl ph)), (d3, .inl (cI, 64, .inl bg)), (d4, .inl (cZ, 64, .inl (xB fs))), (d5, .inl (cZ, 64, .inl (xB gs))), (d6, .inl (cI, 8, .inl st)), (d7, .inl (cI, 8, .inl kk)), (d8, .inl (cI, 8, .inl ve)), (d9, .inl (cI, 8, .inl si)), (d10, .inl (cZ, 8, .inl (xB ca))), (d11, .inl (cI, 48, .inl lg)), (d12, .inl (cI, 64, .inl op)), (d13, .inl (cI, 64, .inl ob))]) A) args9 s9 0 0 A) 2 D A [(h0, .inr (5, [.int (nI R), .int (nI C), .int (bI dio), .int (bI bk), .int (bI lt), .int sl, .int (nI V), .int ru, .int (bI sus), .int (bI sos), .int (nI T), .ref d1, .ref d2, .ref d3, .ref d4, .ref d5, .ref d6, .ref d7, .ref d8, .ref d9, .ref d10, .int (nI mk), .ref d11, .int sk, .int rf, .int tk, .int (nI fr), .int (nI fc), .ref d12, .ref d13])), (d1, .inl (cI, 64, .inl (xN pos))), (d2, .inl (cI, 64, .inl ph)), (d3, .inl (cI, 64, .inl bg)), (d4, .inl (cZ, 64, .inl (xB fs))), (d5, .inl (cZ, 64, .inl (xB gs))), (d6, .inl (cI, 8, .inl st)), (d7, .inl (cI, 8, .inl kk)), (d8, .inl (cI, 8, .inl ve)), (d9, .inl (cI, 8, .inl si)), (d10, .inl (cZ, 8, .inl (xB ca))), (d11, .inl (cI, 48, .inl lg)), (d12, .inl (cI, 64, .inl op)), (d13, .inl (cI, 64, .inl ob))] [(0, .ref h0), (1, .int (nI i))] 2 [] := by
    intro n
    induction n with
    | zero =>
      intro i hi hT
      refine x_iload_n hE 1 rfl dX5_freeVoice_2 ?_
      refine x_aload_n hE 0 rfl dX5_freeVoice_3 ?_
      refine x_get hE g13 0 rfl rfl dX5_freeVoice_4 ?_
      refine xn_icmp_ge hE (by omega) (by omega) 27 (by decide) dX5_freeVoice_7 (fun c7 => ?_) (fun c7 => ?_)
      · skip
        refine x_bipush hE (-3) (by decide) dX5_freeVoice_27 ?_
        exact x_iret hE hr (⟨by rw [← show i = findN (ffP st) 0 V from hT, rV, if_neg (by omega)], rfl⟩) dX5_freeVoice_29
      · skip
        exfalso; omega
    | succ n ih =>
      intro i hi hT
      refine x_iload_n hE 1 rfl dX5_freeVoice_2 ?_
      refine x_aload_n hE 0 rfl dX5_freeVoice_3 ?_
      refine x_get hE g13 0 rfl rfl dX5_freeVoice_4 ?_
      refine xn_icmp_ge hE (by omega) (by omega) 27 (by decide) dX5_freeVoice_7 (fun c7 => ?_) (fun c7 => ?_)
      · skip
        exfalso; omega
      · skip
        refine x_aload_n hE 0 rfl dX5_freeVoice_10 ?_
        refine x_get hE g33 0 rfl rfl dX5_freeVoice_11 ?_
        refine x_iload_n hE 1 rfl dX5_freeVoice_14 ?_
        refine x_iald hE i (st i) (by omega) (by decide) rfl 6 rfl dX5_freeVoice_15 ?_
        refine x_if_ne hE 21 (by decide) dX5_freeVoice_16 (fun c16 => ?_) (fun c16 => ?_)
        · skip
          refine x_iinc hE (nI (i + 1)) [(1, .int (nI (i + 1))), (0, .ref h0)] 1 rfl (nI_add _ _) (by decide) rfl dX5_freeVoice_21 ?_
          refine x_goto hE 2 (by decide) dX5_freeVoice_24 ?_
          refine x_lv [(0, .ref h0), (1, .int (nI (i + 1)))] [1, 0] rfl ?_
          exact ih (i + 1) (by omega) (by simpa only [lfor, lany, lfind, findN, ffP, if_pos c7, if_neg c16, reduceIte, Bool.false_eq_true, Bool.true_eq_false] using hT)
        · skip
          refine x_iload_n hE 1 rfl dX5_freeVoice_19 ?_
          exact x_iret hE hr (⟨by rw [← show i = findN (ffP st) 0 V from by simpa only [findN, ffP, if_pos c7, if_pos c16, reduceIte, Bool.false_eq_true, Bool.true_eq_false] using hT, rV_some (by omega)], rfl⟩) dX5_freeVoice_20
  refine x_iconst hE (nI 0) (by decide) dX5_freeVoice_0 ?_
  refine x_istore_n hE [(1, .int (nI 0)), (0, .ref h0)] (by decide) rfl dX5_freeVoice_1 ?_
  refine x_lv [(0, .ref h0), (1, .int (nI 0))] [1, 0] rfl ?_
  exact lp2 V 0 (Nat.zero_add _) (rfl)
set_option maxHeartbeats 4000000 in
set_option maxRecDepth 100000 in
theorem kX5_isWeaker (l : Launch) (D : va_G) (cI cZ : ClassId) (h0 : Nat) (d1 : Nat) (d2 : Nat) (d3 : Nat) (d4 : Nat) (d5 : Nat) (d6 : Nat) (d7 : Nat) (d8 : Nat) (d9 : Nat) (d10 : Nat) (d11 : Nat) (d12 : Nat) (d13 : Nat) (R : Nat) (C : Nat) (dio : Bool) (bk : Bool) (lt : Bool) (sl : Int32) (V : Nat) (ru : Int32) (sus : Bool) (sos : Bool) (T : Nat) (pos : Nat → Nat) (ph : Nat → Int32) (bg : Nat → Int32) (fs : Nat → Bool) (gs : Nat → Bool) (st : Nat → Int32) (kk : Nat → Int32) (ve : Nat → Int32) (si : Nat → Int32) (ca : Nat → Bool) (mk : Nat) (lg : Nat → Int32) (sk : Int32) (rf : Int32) (tk : Int32) (fr : Nat) (fc : Nat) (op : Nat → Int32) (ob : Nat → Int32) (v : Nat) (o : Nat) (hv8 : v < 8) (ho8 : o < 8) : xC l yX5_isWeaker wsX5_isWeaker 0 0 0 0 D cI cZ [.ref h0, .int (nI v), .int (nI o)] [(h0, .inr (5, [.int (nI R), .int (nI C), .int (bI dio), .int (bI bk), .int (bI lt), .int sl, .int (nI V), .int ru, .int (bI sus), .int (bI sos), .int (nI T), .ref d1, .ref d2, .ref d3, .ref d4, .ref d5, .ref d6, .ref d7, .ref d8, .ref d9, .ref d10, .int (nI mk), .ref d11, .int sk, .int rf, .int tk, .int (nI fr), .int (nI fc), .ref d12, .ref d13])), (d1, .inl (cI, 64, .inl (xN pos))), (d2, .inl (cI, 64, .inl ph)), (d3, .inl (cI, 64, .inl bg)), (d4, .inl (cZ, 64, .inl (xB fs))), (d5, .inl (cZ, 64, .inl (xB gs))), (d6, .inl (cI, 8, .inl st)), (d7, .inl (cI, 8, .inl kk)), (d8, .inl (cI, 8, .inl ve)), (d9, .inl (cI, 8, .inl si)), (d10, .inl (cZ, 8, .inl (xB ca))), (d11, .inl (cI, 48, .inl lg)), (d12, .inl (cI, 64, .inl op)), (d13, .inl (cI, 64, .inl ob))] (fun v8 w8 => v8 = some (.int (bI (wkB ve si ru v o))) ∧ w8 = [(h0, .inr (5, [.int (nI R), .int (nI C), .int (bI dio), .int (bI bk), .int (bI lt), .int sl, .int (nI V), .int ru, .int (bI sus), .int (bI sos), .int (nI T), .ref d1, .ref d2, .ref d3, .ref d4, .ref d5, .ref d6, .ref d7, .ref d8, .ref d9, .ref d10, .int (nI mk), .ref d11, .int sk, .int rf, .int tk, .int (nI fr), .int (nI fc), .ref d12, .ref d13])), (d1, .inl (cI, 64, .inl (xN pos))), (d2, .inl (cI, 64, .inl ph)), (d3, .inl (cI, 64, .inl bg)), (d4, .inl (cZ, 64, .inl (xB fs))), (d5, .inl (cZ, 64, .inl (xB gs))), (d6, .inl (cI, 8, .inl st)), (d7, .inl (cI, 8, .inl kk)), (d8, .inl (cI, 8, .inl ve)), (d9, .inl (cI, 8, .inl si)), (d10, .inl (cZ, 8, .inl (xB ca))), (d11, .inl (cI, 48, .inl lg)), (d12, .inl (cI, 64, .inl op)), (d13, .inl (cI, 64, .inl ob))]) := by
  refine xC.of (bytes := cX5_isWeaker) (maxL := 3) (ret := (some .boolean)) (own := RX5) (by decide +kernel) rfl (Nat.le_of_ble_eq_true rfl) rfl ?_
  intro p9 e9 s9 m9 args9 below9 meth9 cd9 A hE hr hin2 hA9
  have inX5 : ∀ w ∈ wsX50, w ∈ wsX5_isWeaker := fun w h => List.mem_cons_of_mem _ (List.mem_append_right _ h)
  have g129 : xF RX5 wsX5_isWeaker 129 5 7 := ⟨"KeyScannerModel", RX5, TX5, 30, inX5, rfl, by decide, List.mem_of_getElem? (i := 1) rfl, rfl⟩
  have g42 : xF RX5 wsX5_isWeaker 42 5 19 := ⟨"KeyScannerModel", RX5, TX5, 30, inX5, rfl, by decide, List.mem_of_getElem? (i := 3) rfl, rfl⟩
  have g39 : xF RX5 wsX5_isWeaker 39 5 18 := ⟨"KeyScannerModel", RX5, TX5, 30, inX5, rfl, by decide, List.mem_of_getElem? (i := 2) rfl, rfl⟩
  refine x_at (ws' := [(h0, .inr (5, [.int (nI R), .int (nI C), .int (bI dio), .int (bI bk), .int (bI lt), .int sl, .int (nI V), .int ru, .int (bI sus), .int (bI sos), .int (nI T), .ref d1, .ref d2, .ref d3, .ref d4, .ref d5, .ref d6, .ref d7, .ref d8, .ref d9, .ref d10, .int (nI mk), .ref d11, .int sk, .int rf, .int tk, .int (nI fr), .int (nI fc), .ref d12, .ref d13])), (d1, .inl (cI, 64, .inl (xN pos))), (d2, .inl (cI, 64, .inl ph)), (d3, .inl (cI, 64, .inl bg)), (d4, .inl (cZ, 64, .inl (xB fs))), (d5, .inl (cZ, 64, .inl (xB gs))), (d6, .inl (cI, 8, .inl st)), (d7, .inl (cI, 8, .inl kk)), (d8, .inl (cI, 8, .inl ve)), (d9, .inl (cI, 8, .inl si)), (d10, .inl (cZ, 8, .inl (xB ca))), (d11, .inl (cI, 48, .inl lg)), (d12, .inl (cI, 64, .inl op)), (d13, .inl (cI, 64, .inl ob))]) (st' := []) rfl rfl ?_
  refine x_lv [(0, .ref h0), (1, .int (nI v)), (2, .int (nI o))] [0, 1, 2] rfl ?_
  refine x_aload_n hE 0 rfl dX5_isWeaker_0 ?_
  refine x_get hE g129 0 rfl rfl dX5_isWeaker_1 ?_
  refine x_iconst hE (nI 1) (by decide) dX5_isWeaker_4 ?_
  refine x_icmp_ne hE 44 (by decide) dX5_isWeaker_5 (fun c5 => ?_) (fun c5 => ?_)
  · skip
    refine x_aload_n hE 0 rfl dX5_isWeaker_44 ?_
    refine x_get hE g42 0 rfl rfl dX5_isWeaker_45 ?_
    refine x_iload_n hE 1 rfl dX5_isWeaker_48 ?_
    refine x_iald hE v (si v) (by omega) (by decide) rfl 9 rfl dX5_isWeaker_49 ?_
    refine x_aload_n hE 0 rfl dX5_isWeaker_50 ?_
    refine x_get hE g42 0 rfl rfl dX5_isWeaker_51 ?_
    refine x_iload_n hE 2 rfl dX5_isWeaker_54 ?_
    refine x_iald hE o (si o) (by omega) (by decide) rfl 9 rfl dX5_isWeaker_55 ?_
    refine x_icmp_ge hE 63 (by decide) dX5_isWeaker_56 (fun c56 => ?_) (fun c56 => ?_)
    · skip
      refine x_iconst hE (nI 0) (by decide) dX5_isWeaker_63 ?_
      refine x_eq (bI false) rfl ?_
      exact x_zret hE hr (⟨by simp only [wkB, if_neg c5, if_neg c56, reduceIte, Bool.false_eq_true, Bool.true_eq_false], rfl⟩) dX5_isWeaker_64
    · skip
      refine x_iconst hE (nI 1) (by decide) dX5_isWeaker_59 ?_
      refine x_goto hE 64 (by decide) dX5_isWeaker_60 ?_
      refine x_eq (bI true) rfl ?_
      exact x_zret hE hr (⟨by simp only [wkB, if_neg c5, if_pos c56, reduceIte, Bool.false_eq_true, Bool.true_eq_false], rfl⟩) dX5_isWeaker_64
  · skip
    refine x_aload_n hE 0 rfl dX5_isWeaker_8 ?_
    refine x_get hE g39 0 rfl rfl dX5_isWeaker_9 ?_
    refine x_iload_n hE 1 rfl dX5_isWeaker_12 ?_
    refine x_iald hE v (ve v) (by omega) (by decide) rfl 8 rfl dX5_isWeaker_13 ?_
    refine x_aload_n hE 0 rfl dX5_isWeaker_14 ?_
    refine x_get hE g39 0 rfl rfl dX5_isWeaker_15 ?_
    refine x_iload_n hE 2 rfl dX5_isWeaker_18 ?_
    refine x_iald hE o (ve o) (by omega) (by decide) rfl 8 rfl dX5_isWeaker_19 ?_
    refine x_icmp_eq hE 44 (by decide) dX5_isWeaker_20 (fun c20 => ?_) (fun c20 => ?_)
    · skip
      refine x_aload_n hE 0 rfl dX5_isWeaker_44 ?_
      refine x_get hE g42 0 rfl rfl dX5_isWeaker_45 ?_
      refine x_iload_n hE 1 rfl dX5_isWeaker_48 ?_
      refine x_iald hE v (si v) (by omega) (by decide) rfl 9 rfl dX5_isWeaker_49 ?_
      refine x_aload_n hE 0 rfl dX5_isWeaker_50 ?_
      refine x_get hE g42 0 rfl rfl dX5_isWeaker_51 ?_
      refine x_iload_n hE 2 rfl dX5_isWeaker_54 ?_
      refine x_iald hE o (si o) (by omega) (by decide) rfl 9 rfl dX5_isWeaker_55 ?_
      refine x_icmp_ge hE 63 (by decide) dX5_isWeaker_56 (fun c56 => ?_) (fun c56 => ?_)
      · skip
        refine x_iconst hE (nI 0) (by decide) dX5_isWeaker_63 ?_
        refine x_eq (bI false) rfl ?_
        exact x_zret hE hr (⟨by simp only [wkB, if_pos c5, if_pos c20, if_neg c56, reduceIte, Bool.false_eq_true, Bool.true_eq_false], rfl⟩) dX5_isWeaker_64
      · skip
        refine x_iconst hE (nI 1) (by decide) dX5_isWeaker_59 ?_
        refine x_goto hE 64 (by decide) dX5_isWeaker_60 ?_
        refine x_eq (bI true) rfl ?_
        exact x_zret hE hr (⟨by simp only [wkB, if_pos c5, if_pos c20, if_pos c56, reduceIte, Bool.false_eq_true, Bool.true_eq_false], rfl⟩) dX5_isWeaker_64
    · skip
      refine x_aload_n hE 0 rfl dX5_isWeaker_23 ?_
      refine x_get hE g39 0 rfl rfl dX5_isWeaker_24 ?_
      refine x_iload_n hE 1 rfl dX5_isWeaker_27 ?_
      refine x_iald hE v (ve v) (by omega) (by decide) rfl 8 rfl dX5_isWeaker_28 ?_
      refine x_aload_n hE 0 rfl dX5_isWeaker_29 ?_
      refine x_get hE g39 0 rfl rfl dX5_isWeaker_30 ?_
      refine x_iload_n hE 2 rfl dX5_isWeaker_33 ?_
      refine x_iald hE o (ve o) (by omega) (by decide) rfl 8 rfl dX5_isWeaker_34 ?_
      refine x_icmp_ge hE 42 (by decide) dX5_isWeaker_35 (fun c35 => ?_) (fun c35 => ?_)
      · skip
        refine x_iconst hE (nI 0) (by decide) dX5_isWeaker_42 ?_
        refine x_eq (bI false) rfl ?_
        exact x_zret hE hr (⟨by simp only [wkB, if_pos c5, if_neg c20, if_neg c35, reduceIte, Bool.false_eq_true, Bool.true_eq_false], rfl⟩) dX5_isWeaker_43
      · skip
        refine x_iconst hE (nI 1) (by decide) dX5_isWeaker_38 ?_
        refine x_goto hE 43 (by decide) dX5_isWeaker_39 ?_
        refine x_eq (bI true) rfl ?_
        exact x_zret hE hr (⟨by simp only [wkB, if_pos c5, if_neg c20, if_pos c35, reduceIte, Bool.false_eq_true, Bool.true_eq_false], rfl⟩) dX5_isWeaker_43
set_option maxHeartbeats 4000000 in
set_option maxRecDepth 100000 in
theorem kX5_weakest (l : Launch) (D : va_G) (cI cZ : ClassId) (h0 : Nat) (d1 : Nat) (d2 : Nat) (d3 : Nat) (d4 : Nat) (d5 : Nat) (d6 : Nat) (d7 : Nat) (d8 : Nat) (d9 : Nat) (d10 : Nat) (d11 : Nat) (d12 : Nat) (d13 : Nat) (R : Nat) (C : Nat) (dio : Bool) (bk : Bool) (lt : Bool) (sl : Int32) (V : Nat) (ru : Int32) (sus : Bool) (sos : Bool) (T : Nat) (pos : Nat → Nat) (ph : Nat → Int32) (bg : Nat → Int32) (fs : Nat → Bool) (gs : Nat → Bool) (st : Nat → Int32) (kk : Nat → Int32) (ve : Nat → Int32) (si : Nat → Int32) (ca : Nat → Bool) (mk : Nat) (lg : Nat → Int32) (sk : Int32) (rf : Int32) (tk : Int32) (fr : Nat) (fc : Nat) (op : Nat → Int32) (ob : Nat → Int32) (kp : Bool) (hV : 1 ≤ V ∧ V ≤ 8) : xC l yX5_weakest wsX5_weakest 1 0 0 22 D cI cZ [.ref h0, .int (bI kp)] [(h0, .inr (5, [.int (nI R), .int (nI C), .int (bI dio), .int (bI bk), .int (bI lt), .int sl, .int (nI V), .int ru, .int (bI sus), .int (bI sos), .int (nI T), .ref d1, .ref d2, .ref d3, .ref d4, .ref d5, .ref d6, .ref d7, .ref d8, .ref d9, .ref d10, .int (nI mk), .ref d11, .int sk, .int rf, .int tk, .int (nI fr), .int (nI fc), .ref d12, .ref d13])), (d1, .inl (cI, 64, .inl (xN pos))), (d2, .inl (cI, 64, .inl ph)), (d3, .inl (cI, 64, .inl bg)), (d4, .inl (cZ, 64, .inl (xB fs))), (d5, .inl (cZ, 64, .inl (xB gs))), (d6, .inl (cI, 8, .inl st)), (d7, .inl (cI, 8, .inl kk)), (d8, .inl (cI, 8, .inl ve)), (d9, .inl (cI, 8, .inl si)), (d10, .inl (cZ, 8, .inl (xB ca))), (d11, .inl (cI, 48, .inl lg)), (d12, .inl (cI, 64, .inl op)), (d13, .inl (cI, 64, .inl ob))] (fun v8 w8 => v8 = some (.int (rV (wkN kp st ve si ru V) V)) ∧ w8 = [(h0, .inr (5, [.int (nI R), .int (nI C), .int (bI dio), .int (bI bk), .int (bI lt), .int sl, .int (nI V), .int ru, .int (bI sus), .int (bI sos), .int (nI T), .ref d1, .ref d2, .ref d3, .ref d4, .ref d5, .ref d6, .ref d7, .ref d8, .ref d9, .ref d10, .int (nI mk), .ref d11, .int sk, .int rf, .int tk, .int (nI fr), .int (nI fc), .ref d12, .ref d13])), (d1, .inl (cI, 64, .inl (xN pos))), (d2, .inl (cI, 64, .inl ph)), (d3, .inl (cI, 64, .inl bg)), (d4, .inl (cZ, 64, .inl (xB fs))), (d5, .inl (cZ, 64, .inl (xB gs))), (d6, .inl (cI, 8, .inl st)), (d7, .inl (cI, 8, .inl kk)), (d8, .inl (cI, 8, .inl ve)), (d9, .inl (cI, 8, .inl si)), (d10, .inl (cZ, 8, .inl (xB ca))), (d11, .inl (cI, 48, .inl lg)), (d12, .inl (cI, 64, .inl op)), (d13, .inl (cI, 64, .inl ob))]) := by
  refine xC.of (bytes := cX5_weakest) (maxL := 4) (ret := (some .int)) (own := RX5) (by decide +kernel) rfl (Nat.le_of_ble_eq_true rfl) rfl ?_
  intro p9 e9 s9 m9 args9 below9 meth9 cd9 A hE hr hin2 hA9
  have inX5 : ∀ w ∈ wsX50, w ∈ wsX5_weakest := fun w h => List.mem_cons_of_mem _ (List.mem_append_right _ h)
  have g13 : xF RX5 wsX5_weakest 13 5 6 := ⟨"KeyScannerModel", RX5, TX5, 30, inX5, rfl, by decide, List.mem_of_getElem? (i := 1) rfl, rfl⟩
  have g33 : xF RX5 wsX5_weakest 33 5 16 := ⟨"KeyScannerModel", RX5, TX5, 30, inX5, rfl, by decide, List.mem_of_getElem? (i := 2) rfl, rfl⟩
  refine x_at (ws' := [(h0, .inr (5, [.int (nI R), .int (nI C), .int (bI dio), .int (bI bk), .int (bI lt), .int sl, .int (nI V), .int ru, .int (bI sus), .int (bI sos), .int (nI T), .ref d1, .ref d2, .ref d3, .ref d4, .ref d5, .ref d6, .ref d7, .ref d8, .ref d9, .ref d10, .int (nI mk), .ref d11, .int sk, .int rf, .int tk, .int (nI fr), .int (nI fc), .ref d12, .ref d13])), (d1, .inl (cI, 64, .inl (xN pos))), (d2, .inl (cI, 64, .inl ph)), (d3, .inl (cI, 64, .inl bg)), (d4, .inl (cZ, 64, .inl (xB fs))), (d5, .inl (cZ, 64, .inl (xB gs))), (d6, .inl (cI, 8, .inl st)), (d7, .inl (cI, 8, .inl kk)), (d8, .inl (cI, 8, .inl ve)), (d9, .inl (cI, 8, .inl si)), (d10, .inl (cZ, 8, .inl (xB ca))), (d11, .inl (cI, 48, .inl lg)), (d12, .inl (cI, 64, .inl op)), (d13, .inl (cI, 64, .inl ob))]) (st' := []) rfl rfl ?_
  refine x_lv [(0, .ref h0), (1, .int (bI kp))] [0, 1] rfl ?_
  have lp5 : ∀ (n : Nat) (i : Nat) (b : Nat) (hi : i + n = V) (hT : lfor (wkS kp st ve si ru V) i n b = wkN kp st ve si ru V), X p9 l e9 { frames := 1, cells := 0, slots := 0, locals := 22 } s9 m9 args9 below9 meth9 cd9 0 0 (MQ below9 (xQ D (fun v8 w8 => v8 = some (.int (rV (wkN kp st ve si ru V) V)) ∧ w8 = [(h0, .inr (5, [.int (nI R), .int (nI C), .int (bI dio), .int (bI bk), .int (bI lt), .int sl, .int (nI V), .int ru, .int (bI sus), .int (bI sos), .int (nI T), .ref d1, .ref d2, .ref d3, .ref d4, .ref d5, .ref d6, .ref d7, .ref d8, .ref d9, .ref d10, .int (nI mk), .ref d11, .int sk, .int rf, .int tk, .int (nI fr), .int (nI fc), .ref d12, .ref d13])), (d1, .inl (cI, 64, .inl (xN pos))), (d2, .inl (cI, 64, .inl ph)), (d3, .inl (cI, 64, .inl bg)), (d4, .inl (cZ, 64, .inl (xB fs))), (d5, .inl (cZ, 64, .inl (xB gs))), (d6, .inl (cI, 8, .inl st)), (d7, .inl (cI, 8, .inl kk)), (d8, .inl (cI, 8, .inl ve)), (d9, .inl (cI, 8, .inl si)), (d10, .inl (cZ, 8, .inl (xB ca))), (d11, .inl (cI, 48, .inl lg)), (d12, .inl (cI, 64, .inl op)), (d13, .inl (cI, 64, .inl ob))]) A) args9 s9 0 0 A) 4 D A [(h0, .inr (5, [.int (nI R), .int (nI C), .int (bI dio), .int (bI bk), .int (bI lt), .int sl, .int (nI V), .int ru, .int (bI sus), .int (bI sos), .int (nI T), .ref d1, .ref d2, .ref d3, .ref d4, .ref d5, .ref d6, .ref d7, .ref d8, .ref d9, .ref d10, .int (nI mk), .ref d11, .int sk, .int rf, .int tk, .int (nI fr), .int (nI fc), .ref d12, .ref d13])), (d1, .inl (cI, 64, .inl (xN pos))), (d2, .inl (cI, 64, .inl ph)), (d3, .inl (cI, 64, .inl bg)), (d4, .inl (cZ, 64, .inl (xB fs))), (d5, .inl (cZ, 64, .inl (xB gs))), (d6, .inl (cI, 8, .inl st)), (d7, .inl (cI, 8, .inl kk)), (d8, .inl (cI, 8, .inl ve)), (d9, .inl (cI, 8, .inl si)), (d10, .inl (cZ, 8, .inl (xB ca))), (d11, .inl (cI, 48, .inl lg)), (d12, .inl (cI, 64, .inl op)), (d13, .inl (cI, 64, .inl ob))] [(0, .ref h0), (1, .int (bI kp)), (2, .int (rV b V)), (3, .int (nI i))] 5 [] := by
    intro n
    induction n with
    | zero =>
      intro i b hi hT
      refine x_iload_n hE 3 rfl dX5_weakest_5 ?_
      refine x_aload_n hE 0 rfl dX5_weakest_6 ?_
      refine x_get hE g13 0 rfl rfl dX5_weakest_7 ?_
      refine xn_icmp_ge hE (by omega) (by omega) 52 (by decide) dX5_weakest_10 (fun c10 => ?_) (fun c10 => ?_)
      · skip
        refine x_iload_n hE 2 rfl dX5_weakest_52 ?_
        exact x_iret hE hr (⟨by rw [show b = wkN kp st ve si ru V from hT], rfl⟩) dX5_weakest_53
      · skip
        exfalso; omega
    | succ n ih =>
      intro i b hi hT
      refine x_iload_n hE 3 rfl dX5_weakest_5 ?_
      refine x_aload_n hE 0 rfl dX5_weakest_6 ?_
      refine x_get hE g13 0 rfl rfl dX5_weakest_7 ?_
      refine xn_icmp_ge hE (by omega) (by omega) 52 (by decide) dX5_weakest_10 (fun c10 => ?_) (fun c10 => ?_)
      · skip
        exfalso; omega
      · skip
        refine x_iload_n hE 1 rfl dX5_weakest_13 ?_
        refine xb_if_eq hE 27 (by decide) dX5_weakest_14 (fun c14 => ?_) (fun c14 => ?_)
        · skip
          refine x_iload_n hE 2 rfl dX5_weakest_27 ?_
          refine x_if_lt hE 40 (by decide) dX5_weakest_28 (fun c28 => ?_) (fun c28 => ?_)
          · skip
            have hb28 : ¬ b < V := (rV_neg (by omega)).mp c28
            refine x_iload_n hE 3 rfl dX5_weakest_40 ?_
            refine x_goto hE 45 (by decide) dX5_weakest_41 ?_
            refine x_eq (rV i V) (by rw [rV_some (by omega)]) ?_
            refine x_istore_n hE [(2, .int (rV i V)), (0, .ref h0), (1, .int (bI kp)), (3, .int (nI i))] (by decide) rfl dX5_weakest_45 ?_
            refine x_iinc hE (nI (i + 1)) [(3, .int (nI (i + 1))), (2, .int (rV i V)), (0, .ref h0), (1, .int (bI kp))] 3 rfl (nI_add _ _) (by decide) rfl dX5_weakest_46 ?_
            refine x_goto hE 5 (by decide) dX5_weakest_49 ?_
            refine x_lv [(0, .ref h0), (1, .int (bI kp)), (2, .int (rV i V)), (3, .int (nI (i + 1)))] [2, 3, 1, 0] rfl ?_
            exact ih (i + 1) i (by omega) (by simpa only [lfor, lany, lfind, wkS, if_pos c10, if_neg (bnt c14), if_pos c28, if_neg hb28, reduceIte, Bool.false_eq_true, Bool.true_eq_false] using hT)
          · skip
            have hb28 : b < V := Decidable.of_not_not (fun q9 => c28 ((rV_neg (by omega)).mpr q9))
            rw [rV_some hb28]
            refine x_aload_n hE 0 rfl dX5_weakest_31 ?_
            refine x_iload_n hE 3 rfl dX5_weakest_32 ?_
            refine x_iload_n hE 2 rfl dX5_weakest_33 ?_
            refine x_callV (n := 2) (st := []) hE (kX5_isWeaker l D cI cZ h0 d1 d2 d3 d4 d5 d6 d7 d8 d9 d10 d11 d12 d13 R C dio bk lt sl V ru sus sos T pos ph bg fs gs st kk ve si ca mk lg sk rf tk fr fc op ob i b (by omega) (by omega)) gX5_weakest_X5_isWeaker rfl (by decide +kernel) ⟨by decide, by decide⟩ ⟨Nat.zero_le _, Nat.zero_le _⟩ rfl [0, 1, 2, 3, 4, 5, 6, 7, 8, 9, 10, 11, 12, 13] [] rfl (wr := []) rfl (by decide) (by decide) (by decide) 0 rfl rfl rfl rfl (Nat.le_of_ble_eq_true rfl) dX5_weakest_34 (fun v9 w9 hT9 => ?_)
            obtain ⟨rfl, rfl⟩ := hT9
            refine x_at (ws' := [(h0, .inr (5, [.int (nI R), .int (nI C), .int (bI dio), .int (bI bk), .int (bI lt), .int sl, .int (nI V), .int ru, .int (bI sus), .int (bI sos), .int (nI T), .ref d1, .ref d2, .ref d3, .ref d4, .ref d5, .ref d6, .ref d7, .ref d8, .ref d9, .ref d10, .int (nI mk), .ref d11, .int sk, .int rf, .int tk, .int (nI fr), .int (nI fc), .ref d12, .ref d13])), (d1, .inl (cI, 64, .inl (xN pos))), (d2, .inl (cI, 64, .inl ph)), (d3, .inl (cI, 64, .inl bg)), (d4, .inl (cZ, 64, .inl (xB fs))), (d5, .inl (cZ, 64, .inl (xB gs))), (d6, .inl (cI, 8, .inl st)), (d7, .inl (cI, 8, .inl kk)), (d8, .inl (cI, 8, .inl ve)), (d9, .inl (cI, 8, .inl si)), (d10, .inl (cZ, 8, .inl (xB ca))), (d11, .inl (cI, 48, .inl lg)), (d12, .inl (cI, 64, .inl op)), (d13, .inl (cI, 64, .inl ob))]) (st' := [.int (bI (wkB ve si ru i b))]) rfl rfl ?_
            refine xb_if_eq hE 44 (by decide) dX5_weakest_37 (fun c37 => ?_) (fun c37 => ?_)
            · skip
              refine x_iload_n hE 2 rfl dX5_weakest_44 ?_
              refine x_eq (rV b V) (by rw [rV_some (by omega)]) ?_
              refine x_istore_n hE [(2, .int (rV b V)), (0, .ref h0), (1, .int (bI kp)), (3, .int (nI i))] (by decide) rfl dX5_weakest_45 ?_
              refine x_iinc hE (nI (i + 1)) [(3, .int (nI (i + 1))), (2, .int (rV b V)), (0, .ref h0), (1, .int (bI kp))] 3 rfl (nI_add _ _) (by decide) rfl dX5_weakest_46 ?_
              refine x_goto hE 5 (by decide) dX5_weakest_49 ?_
              refine x_lv [(0, .ref h0), (1, .int (bI kp)), (2, .int (rV b V)), (3, .int (nI (i + 1)))] [2, 3, 1, 0] rfl ?_
              exact ih (i + 1) b (by omega) (by simpa only [lfor, lany, lfind, wkS, if_pos c10, if_neg (bnt c14), if_neg c28, if_pos hb28, if_neg (bnt c37), reduceIte, Bool.false_eq_true, Bool.true_eq_false] using hT)
            · skip
              refine x_iload_n hE 3 rfl dX5_weakest_40 ?_
              refine x_goto hE 45 (by decide) dX5_weakest_41 ?_
              refine x_eq (rV i V) (by rw [rV_some (by omega)]) ?_
              refine x_istore_n hE [(2, .int (rV i V)), (0, .ref h0), (1, .int (bI kp)), (3, .int (nI i))] (by decide) rfl dX5_weakest_45 ?_
              refine x_iinc hE (nI (i + 1)) [(3, .int (nI (i + 1))), (2, .int (rV i V)), (0, .ref h0), (1, .int (bI kp))] 3 rfl (nI_add _ _) (by decide) rfl dX5_weakest_46 ?_
              refine x_goto hE 5 (by decide) dX5_weakest_49 ?_
              refine x_lv [(0, .ref h0), (1, .int (bI kp)), (2, .int (rV i V)), (3, .int (nI (i + 1)))] [2, 3, 1, 0] rfl ?_
              exact ih (i + 1) i (by omega) (by simpa only [lfor, lany, lfind, wkS, if_pos c10, if_neg (bnt c14), if_neg c28, if_pos hb28, if_pos c37, reduceIte, Bool.false_eq_true, Bool.true_eq_false] using hT)
        · skip
          refine x_aload_n hE 0 rfl dX5_weakest_17 ?_
          refine x_get hE g33 0 rfl rfl dX5_weakest_18 ?_
          refine x_iload_n hE 3 rfl dX5_weakest_21 ?_
          refine x_iald hE i (st i) (by omega) (by decide) rfl 6 rfl dX5_weakest_22 ?_
          refine x_iconst hE (nI 2) (by decide) dX5_weakest_23 ?_
          refine x_icmp_ne hE 46 (by decide) dX5_weakest_24 (fun c24 => ?_) (fun c24 => ?_)
          · skip
            refine x_iinc hE (nI (i + 1)) [(3, .int (nI (i + 1))), (0, .ref h0), (1, .int (bI kp)), (2, .int (rV b V))] 3 rfl (nI_add _ _) (by decide) rfl dX5_weakest_46 ?_
            refine x_goto hE 5 (by decide) dX5_weakest_49 ?_
            refine x_lv [(0, .ref h0), (1, .int (bI kp)), (2, .int (rV b V)), (3, .int (nI (i + 1)))] [1, 2, 3, 0] rfl ?_
            exact ih (i + 1) b (by omega) (by simpa only [lfor, lany, lfind, wkS, if_pos c10, if_pos c14, if_neg c24, reduceIte, Bool.false_eq_true, Bool.true_eq_false] using hT)
          · skip
            refine x_iload_n hE 2 rfl dX5_weakest_27 ?_
            refine x_if_lt hE 40 (by decide) dX5_weakest_28 (fun c28 => ?_) (fun c28 => ?_)
            · skip
              have hb28 : ¬ b < V := (rV_neg (by omega)).mp c28
              refine x_iload_n hE 3 rfl dX5_weakest_40 ?_
              refine x_goto hE 45 (by decide) dX5_weakest_41 ?_
              refine x_eq (rV i V) (by rw [rV_some (by omega)]) ?_
              refine x_istore_n hE [(2, .int (rV i V)), (0, .ref h0), (1, .int (bI kp)), (3, .int (nI i))] (by decide) rfl dX5_weakest_45 ?_
              refine x_iinc hE (nI (i + 1)) [(3, .int (nI (i + 1))), (2, .int (rV i V)), (0, .ref h0), (1, .int (bI kp))] 3 rfl (nI_add _ _) (by decide) rfl dX5_weakest_46 ?_
              refine x_goto hE 5 (by decide) dX5_weakest_49 ?_
              refine x_lv [(0, .ref h0), (1, .int (bI kp)), (2, .int (rV i V)), (3, .int (nI (i + 1)))] [2, 3, 1, 0] rfl ?_
              exact ih (i + 1) i (by omega) (by simpa only [lfor, lany, lfind, wkS, if_pos c10, if_pos c14, if_pos c24, if_pos c28, if_neg hb28, reduceIte, Bool.false_eq_true, Bool.true_eq_false] using hT)
            · skip
              have hb28 : b < V := Decidable.of_not_not (fun q9 => c28 ((rV_neg (by omega)).mpr q9))
              rw [rV_some hb28]
              refine x_aload_n hE 0 rfl dX5_weakest_31 ?_
              refine x_iload_n hE 3 rfl dX5_weakest_32 ?_
              refine x_iload_n hE 2 rfl dX5_weakest_33 ?_
              refine x_callV (n := 2) (st := []) hE (kX5_isWeaker l D cI cZ h0 d1 d2 d3 d4 d5 d6 d7 d8 d9 d10 d11 d12 d13 R C dio bk lt sl V ru sus sos T pos ph bg fs gs st kk ve si ca mk lg sk rf tk fr fc op ob i b (by omega) (by omega)) gX5_weakest_X5_isWeaker rfl (by decide +kernel) ⟨by decide, by decide⟩ ⟨Nat.zero_le _, Nat.zero_le _⟩ rfl [0, 1, 2, 3, 4, 5, 6, 7, 8, 9, 10, 11, 12, 13] [] rfl (wr := []) rfl (by decide) (by decide) (by decide) 0 rfl rfl rfl rfl (Nat.le_of_ble_eq_true rfl) dX5_weakest_34 (fun v9 w9 hT9 => ?_)
              obtain ⟨rfl, rfl⟩ := hT9
              refine x_at (ws' := [(h0, .inr (5, [.int (nI R), .int (nI C), .int (bI dio), .int (bI bk), .int (bI lt), .int sl, .int (nI V), .int ru, .int (bI sus), .int (bI sos), .int (nI T), .ref d1, .ref d2, .ref d3, .ref d4, .ref d5, .ref d6, .ref d7, .ref d8, .ref d9, .ref d10, .int (nI mk), .ref d11, .int sk, .int rf, .int tk, .int (nI fr), .int (nI fc), .ref d12, .ref d13])), (d1, .inl (cI, 64, .inl (xN pos))), (d2, .inl (cI, 64, .inl ph)), (d3, .inl (cI, 64, .inl bg)), (d4, .inl (cZ, 64, .inl (xB fs))), (d5, .inl (cZ, 64, .inl (xB gs))), (d6, .inl (cI, 8, .inl st)), (d7, .inl (cI, 8, .inl kk)), (d8, .inl (cI, 8, .inl ve)), (d9, .inl (cI, 8, .inl si)), (d10, .inl (cZ, 8, .inl (xB ca))), (d11, .inl (cI, 48, .inl lg)), (d12, .inl (cI, 64, .inl op)), (d13, .inl (cI, 64, .inl ob))]) (st' := [.int (bI (wkB ve si ru i b))]) rfl rfl ?_
              refine xb_if_eq hE 44 (by decide) dX5_weakest_37 (fun c37 => ?_) (fun c37 => ?_)
              · skip
                refine x_iload_n hE 2 rfl dX5_weakest_44 ?_
                refine x_eq (rV b V) (by rw [rV_some (by omega)]) ?_
                refine x_istore_n hE [(2, .int (rV b V)), (0, .ref h0), (1, .int (bI kp)), (3, .int (nI i))] (by decide) rfl dX5_weakest_45 ?_
                refine x_iinc hE (nI (i + 1)) [(3, .int (nI (i + 1))), (2, .int (rV b V)), (0, .ref h0), (1, .int (bI kp))] 3 rfl (nI_add _ _) (by decide) rfl dX5_weakest_46 ?_
                refine x_goto hE 5 (by decide) dX5_weakest_49 ?_
                refine x_lv [(0, .ref h0), (1, .int (bI kp)), (2, .int (rV b V)), (3, .int (nI (i + 1)))] [2, 3, 1, 0] rfl ?_
                exact ih (i + 1) b (by omega) (by simpa only [lfor, lany, lfind, wkS, if_pos c10, if_pos c14, if_pos c24, if_neg c28, if_pos hb28, if_neg (bnt c37), reduceIte, Bool.false_eq_true, Bool.true_eq_false] using hT)
              · skip
                refine x_iload_n hE 3 rfl dX5_weakest_40 ?_
                refine x_goto hE 45 (by decide) dX5_weakest_41 ?_
                refine x_eq (rV i V) (by rw [rV_some (by omega)]) ?_
                refine x_istore_n hE [(2, .int (rV i V)), (0, .ref h0), (1, .int (bI kp)), (3, .int (nI i))] (by decide) rfl dX5_weakest_45 ?_
                refine x_iinc hE (nI (i + 1)) [(3, .int (nI (i + 1))), (2, .int (rV i V)), (0, .ref h0), (1, .int (bI kp))] 3 rfl (nI_add _ _) (by decide) rfl dX5_weakest_46 ?_
                refine x_goto hE 5 (by decide) dX5_weakest_49 ?_
                refine x_lv [(0, .ref h0), (1, .int (bI kp)), (2, .int (rV i V)), (3, .int (nI (i + 1)))] [2, 3, 1, 0] rfl ?_
                exact ih (i + 1) i (by omega) (by simpa only [lfor, lany, lfind, wkS, if_pos c10, if_pos c14, if_pos c24, if_neg c28, if_pos hb28, if_pos c37, reduceIte, Bool.false_eq_true, Bool.true_eq_false] using hT)
  refine x_bipush hE (-3) (by decide) dX5_weakest_0 ?_
  refine x_istore_n hE [(2, .int (-3)), (0, .ref h0), (1, .int (bI kp))] (by decide) rfl dX5_weakest_2 ?_
  refine x_iconst hE (nI 0) (by decide) dX5_weakest_3 ?_
  refine x_istore_n hE [(3, .int (nI 0)), (2, .int (-3)), (0, .ref h0), (1, .int (bI kp))] (by decide) rfl dX5_weakest_4 ?_
  refine x_lv [(0, .ref h0), (1, .int (bI kp)), (2, .int (-3)), (3, .int (nI 0))] [2, 3, 1, 0] rfl ?_
  rw [show ((-3) : Int32) = rV V V from (if_neg (Nat.lt_irrefl V)).symm]
  exact lp5 V 0 V (Nat.zero_add _) (rfl)
set_option maxHeartbeats 4000000 in
set_option maxRecDepth 100000 in
theorem kX5_taken (l : Launch) (D : va_G) (cI cZ : ClassId) (h0 : Nat) (d1 : Nat) (d2 : Nat) (d3 : Nat) (d4 : Nat) (d5 : Nat) (d6 : Nat) (d7 : Nat) (d8 : Nat) (d9 : Nat) (d10 : Nat) (d11 : Nat) (d12 : Nat) (d13 : Nat) (R : Nat) (C : Nat) (dio : Bool) (bk : Bool) (lt : Bool) (sl : Int32) (V : Nat) (ru : Int32) (sus : Bool) (sos : Bool) (T : Nat) (pos : Nat → Nat) (ph : Nat → Int32) (bg : Nat → Int32) (fs : Nat → Bool) (gs : Nat → Bool) (st : Nat → Int32) (kk : Nat → Int32) (ve : Nat → Int32) (si : Nat → Int32) (ca : Nat → Bool) (mk : Nat) (lg : Nat → Int32) (sk : Int32) (rf : Int32) (tk : Int32) (fr : Nat) (fc : Nat) (op : Nat → Int32) (ob : Nat → Int32) (hV : 1 ≤ V ∧ V ≤ 8) : xC l yX5_taken wsX5_taken 2 0 0 45 D cI cZ [.ref h0] [(h0, .inr (5, [.int (nI R), .int (nI C), .int (bI dio), .int (bI bk), .int (bI lt), .int sl, .int (nI V), .int ru, .int (bI sus), .int (bI sos), .int (nI T), .ref d1, .ref d2, .ref d3, .ref d4, .ref d5, .ref d6, .ref d7, .ref d8, .ref d9, .ref d10, .int (nI mk), .ref d11, .int sk, .int rf, .int tk, .int (nI fr), .int (nI fc), .ref d12, .ref d13])), (d1, .inl (cI, 64, .inl (xN pos))), (d2, .inl (cI, 64, .inl ph)), (d3, .inl (cI, 64, .inl bg)), (d4, .inl (cZ, 64, .inl (xB fs))), (d5, .inl (cZ, 64, .inl (xB gs))), (d6, .inl (cI, 8, .inl st)), (d7, .inl (cI, 8, .inl kk)), (d8, .inl (cI, 8, .inl ve)), (d9, .inl (cI, 8, .inl si)), (d10, .inl (cZ, 8, .inl (xB ca))), (d11, .inl (cI, 48, .inl lg)), (d12, .inl (cI, 64, .inl op)), (d13, .inl (cI, 64, .inl ob))] (fun v8 w8 => v8 = some (.int (rV (tkN st ve si ru V) V)) ∧ w8 = [(h0, .inr (5, [.int (nI R), .int (nI C), .int (bI dio), .int (bI bk), .int (bI lt), .int sl, .int (nI V), .int ru, .int (bI sus), .int (bI sos), .int (nI T), .ref d1, .ref d2, .ref d3, .ref d4, .ref d5, .ref d6, .ref d7, .ref d8, .ref d9, .ref d10, .int (nI mk), .ref d11, .int sk, .int rf, .int tk, .int (nI fr), .int (nI fc), .ref d12, .ref d13])), (d1, .inl (cI, 64, .inl (xN pos))), (d2, .inl (cI, 64, .inl ph)), (d3, .inl (cI, 64, .inl bg)), (d4, .inl (cZ, 64, .inl (xB fs))), (d5, .inl (cZ, 64, .inl (xB gs))), (d6, .inl (cI, 8, .inl st)), (d7, .inl (cI, 8, .inl kk)), (d8, .inl (cI, 8, .inl ve)), (d9, .inl (cI, 8, .inl si)), (d10, .inl (cZ, 8, .inl (xB ca))), (d11, .inl (cI, 48, .inl lg)), (d12, .inl (cI, 64, .inl op)), (d13, .inl (cI, 64, .inl ob))]) := by
  refine xC.of (bytes := cX5_taken) (maxL := 2) (ret := (some .int)) (own := RX5) (by decide +kernel) rfl (Nat.le_of_ble_eq_true rfl) rfl ?_
  intro p9 e9 s9 m9 args9 below9 meth9 cd9 A hE hr hin2 hA9
  have inX5 : ∀ w ∈ wsX50, w ∈ wsX5_taken := fun w h => List.mem_cons_of_mem _ (List.mem_append_right _ h)
  have g129 : xF RX5 wsX5_taken 129 5 7 := ⟨"KeyScannerModel", RX5, TX5, 30, inX5, rfl, by decide, List.mem_of_getElem? (i := 1) rfl, rfl⟩
  refine x_at (ws' := [(h0, .inr (5, [.int (nI R), .int (nI C), .int (bI dio), .int (bI bk), .int (bI lt), .int sl, .int (nI V), .int ru, .int (bI sus), .int (bI sos), .int (nI T), .ref d1, .ref d2, .ref d3, .ref d4, .ref d5, .ref d6, .ref d7, .ref d8, .ref d9, .ref d10, .int (nI mk), .ref d11, .int sk, .int rf, .int tk, .int (nI fr), .int (nI fc), .ref d12, .ref d13])), (d1, .inl (cI, 64, .inl (xN pos))), (d2, .inl (cI, 64, .inl ph)), (d3, .inl (cI, 64, .inl bg)), (d4, .inl (cZ, 64, .inl (xB fs))), (d5, .inl (cZ, 64, .inl (xB gs))), (d6, .inl (cI, 8, .inl st)), (d7, .inl (cI, 8, .inl kk)), (d8, .inl (cI, 8, .inl ve)), (d9, .inl (cI, 8, .inl si)), (d10, .inl (cZ, 8, .inl (xB ca))), (d11, .inl (cI, 48, .inl lg)), (d12, .inl (cI, 64, .inl op)), (d13, .inl (cI, 64, .inl ob))]) (st' := []) rfl rfl ?_
  refine x_lv [(0, .ref h0)] [0] rfl ?_
  refine x_aload_n hE 0 rfl dX5_taken_0 ?_
  refine x_get hE g129 0 rfl rfl dX5_taken_1 ?_
  refine x_iconst hE (nI 2) (by decide) dX5_taken_4 ?_
  refine x_icmp_ne hE 16 (by decide) dX5_taken_5 (fun c5 => ?_) (fun c5 => ?_)
  · skip
    refine x_bipush hE (-3) (by decide) dX5_taken_16 ?_
    refine x_istore_n hE [(1, .int (-3)), (0, .ref h0)] (by decide) rfl dX5_taken_18 ?_
    refine x_iload_n hE 0 rfl dX5_taken_19 ?_
    refine x_if_lt hE 27 (by decide) dX5_taken_20 (fun c20 => ?_) (fun c20 => ?_)
    · skip
      refine x_aload_n hE 1 rfl dX5_taken_27 ?_
      refine x_iconst hE (nI 0) (by decide) dX5_taken_28 ?_
      refine x_callV (n := 1) (st := []) hE (kX5_weakest l D cI cZ h0 d1 d2 d3 d4 d5 d6 d7 d8 d9 d10 d11 d12 d13 R C dio bk lt sl V ru sus sos T pos ph bg fs gs st kk ve si ca mk lg sk rf tk fr fc op ob false (by omega)) gX5_taken_X5_weakest rfl (by decide +kernel) ⟨by decide, by decide⟩ ⟨Nat.zero_le _, Nat.zero_le _⟩ rfl [0, 1, 2, 3, 4, 5, 6, 7, 8, 9, 10, 11, 12, 13] [] rfl (wr := []) rfl (by decide) (by decide) (by decide) 0 rfl rfl rfl rfl (Nat.le_of_ble_eq_true rfl) dX5_taken_29 (fun v9 w9 hT9 => ?_)
      obtain ⟨rfl, rfl⟩ := hT9
      refine x_at (ws' := [(h0, .inr (5, [.int (nI R), .int (nI C), .int (bI dio), .int (bI bk), .int (bI lt), .int sl, .int (nI V), .int ru, .int (bI sus), .int (bI sos), .int (nI T), .ref d1, .ref d2, .ref d3, .ref d4, .ref d5, .ref d6, .ref d7, .ref d8, .ref d9, .ref d10, .int (nI mk), .ref d11, .int sk, .int rf, .int tk, .int (nI fr), .int (nI fc), .ref d12, .ref d13])), (d1, .inl (cI, 64, .inl (xN pos))), (d2, .inl (cI, 64, .inl ph)), (d3, .inl (cI, 64, .inl bg)), (d4, .inl (cZ, 64, .inl (xB fs))), (d5, .inl (cZ, 64, .inl (xB gs))), (d6, .inl (cI, 8, .inl st)), (d7, .inl (cI, 8, .inl kk)), (d8, .inl (cI, 8, .inl ve)), (d9, .inl (cI, 8, .inl si)), (d10, .inl (cZ, 8, .inl (xB ca))), (d11, .inl (cI, 48, .inl lg)), (d12, .inl (cI, 64, .inl op)), (d13, .inl (cI, 64, .inl ob))]) (st' := [.int (rV (wkN false st ve si ru V) V)]) rfl rfl ?_
      exact x_iret hE hr (⟨by simp only [tkN, if_neg c5], rfl⟩) dX5_taken_32
    · skip
      exact absurd (by decide) c20
  · skip
    refine x_aload_n hE 0 rfl dX5_taken_8 ?_
    refine x_iconst hE (nI 1) (by decide) dX5_taken_9 ?_
    refine x_callV (n := 1) (st := []) hE (kX5_weakest l D cI cZ h0 d1 d2 d3 d4 d5 d6 d7 d8 d9 d10 d11 d12 d13 R C dio bk lt sl V ru sus sos T pos ph bg fs gs st kk ve si ca mk lg sk rf tk fr fc op ob true (by omega)) gX5_taken_X5_weakest rfl (by decide +kernel) ⟨by decide, by decide⟩ ⟨Nat.zero_le _, Nat.zero_le _⟩ rfl [0, 1, 2, 3, 4, 5, 6, 7, 8, 9, 10, 11, 12, 13] [] rfl (wr := []) rfl (by decide) (by decide) (by decide) 0 rfl rfl rfl rfl (Nat.le_of_ble_eq_true rfl) dX5_taken_10 (fun v9 w9 hT9 => ?_)
    obtain ⟨rfl, rfl⟩ := hT9
    refine x_at (ws' := [(h0, .inr (5, [.int (nI R), .int (nI C), .int (bI dio), .int (bI bk), .int (bI lt), .int sl, .int (nI V), .int ru, .int (bI sus), .int (bI sos), .int (nI T), .ref d1, .ref d2, .ref d3, .ref d4, .ref d5, .ref d6, .ref d7, .ref d8, .ref d9, .ref d10, .int (nI mk), .ref d11, .int sk, .int rf, .int tk, .int (nI fr), .int (nI fc), .ref d12, .ref d13])), (d1, .inl (cI, 64, .inl (xN pos))), (d2, .inl (cI, 64, .inl ph)), (d3, .inl (cI, 64, .inl bg)), (d4, .inl (cZ, 64, .inl (xB fs))), (d5, .inl (cZ, 64, .inl (xB gs))), (d6, .inl (cI, 8, .inl st)), (d7, .inl (cI, 8, .inl kk)), (d8, .inl (cI, 8, .inl ve)), (d9, .inl (cI, 8, .inl si)), (d10, .inl (cZ, 8, .inl (xB ca))), (d11, .inl (cI, 48, .inl lg)), (d12, .inl (cI, 64, .inl op)), (d13, .inl (cI, 64, .inl ob))]) (st' := [.int (rV (wkN true st ve si ru V) V)]) rfl rfl ?_
    refine x_goto hE 18 (by decide) dX5_taken_13 ?_
    refine x_istore_n hE [(1, .int (rV (wkN true st ve si ru V) V)), (0, .ref h0)] (by decide) rfl dX5_taken_18 ?_
    refine x_iload_n hE 0 rfl dX5_taken_19 ?_
    refine x_if_lt hE 27 (by decide) dX5_taken_20 (fun c20 => ?_) (fun c20 => ?_)
    · skip
      have hb20 : ¬ wkN true st ve si ru V < V := (rV_neg (by omega)).mp c20
      refine x_aload_n hE 1 rfl dX5_taken_27 ?_
      refine x_iconst hE (nI 0) (by decide) dX5_taken_28 ?_
      refine x_callV (n := 1) (st := []) hE (kX5_weakest l D cI cZ h0 d1 d2 d3 d4 d5 d6 d7 d8 d9 d10 d11 d12 d13 R C dio bk lt sl V ru sus sos T pos ph bg fs gs st kk ve si ca mk lg sk rf tk fr fc op ob false (by omega)) gX5_taken_X5_weakest rfl (by decide +kernel) ⟨by decide, by decide⟩ ⟨Nat.zero_le _, Nat.zero_le _⟩ rfl [0, 1, 2, 3, 4, 5, 6, 7, 8, 9, 10, 11, 12, 13] [] rfl (wr := []) rfl (by decide) (by decide) (by decide) 0 rfl rfl rfl rfl (Nat.le_of_ble_eq_true rfl) dX5_taken_29 (fun v9 w9 hT9 => ?_)
      obtain ⟨rfl, rfl⟩ := hT9
      refine x_at (ws' := [(h0, .inr (5, [.int (nI R), .int (nI C), .int (bI dio), .int (bI bk), .int (bI lt), .int sl, .int (nI V), .int ru, .int (bI sus), .int (bI sos), .int (nI T), .ref d1, .ref d2, .ref d3, .ref d4, .ref d5, .ref d6, .ref d7, .ref d8, .ref d9, .ref d10, .int (nI mk), .ref d11, .int sk, .int rf, .int tk, .int (nI fr), .int (nI fc), .ref d12, .ref d13])), (d1, .inl (cI, 64, .inl (xN pos))), (d2, .inl (cI, 64, .inl ph)), (d3, .inl (cI, 64, .inl bg)), (d4, .inl (cZ, 64, .inl (xB fs))), (d5, .inl (cZ, 64, .inl (xB gs))), (d6, .inl (cI, 8, .inl st)), (d7, .inl (cI, 8, .inl kk)), (d8, .inl (cI, 8, .inl ve)), (d9, .inl (cI, 8, .inl si)), (d10, .inl (cZ, 8, .inl (xB ca))), (d11, .inl (cI, 48, .inl lg)), (d12, .inl (cI, 64, .inl op)), (d13, .inl (cI, 64, .inl ob))]) (st' := [.int (rV (wkN false st ve si ru V) V)]) rfl rfl ?_
      exact x_iret hE hr (⟨by simp only [tkN, if_pos c5, if_neg hb20], rfl⟩) dX5_taken_32
    · skip
      have hb20 : wkN true st ve si ru V < V := Decidable.of_not_not (fun q9 => c20 ((rV_neg (by omega)).mpr q9))
      refine x_iload_n hE 0 rfl dX5_taken_23 ?_
      refine x_goto hE 32 (by decide) dX5_taken_24 ?_
      exact x_iret hE hr (⟨by simp only [tkN, if_pos c5, if_pos hb20], rfl⟩) dX5_taken_32
set_option maxHeartbeats 4000000 in
set_option maxRecDepth 100000 in
theorem kX5_velocityAfter (l : Launch) (D : va_G) (cI cZ : ClassId) (h0 : Nat) (d1 : Nat) (d2 : Nat) (d3 : Nat) (d4 : Nat) (d5 : Nat) (d6 : Nat) (d7 : Nat) (d8 : Nat) (d9 : Nat) (d10 : Nat) (d11 : Nat) (d12 : Nat) (d13 : Nat) (R : Nat) (C : Nat) (dio : Bool) (bk : Bool) (lt : Bool) (sl : Int32) (V : Nat) (ru : Int32) (sus : Bool) (sos : Bool) (T : Nat) (pos : Nat → Nat) (ph : Nat → Int32) (bg : Nat → Int32) (fs : Nat → Bool) (gs : Nat → Bool) (st : Nat → Int32) (kk : Nat → Int32) (ve : Nat → Int32) (si : Nat → Int32) (ca : Nat → Bool) (mk : Nat) (lg : Nat → Int32) (sk : Int32) (rf : Int32) (tk : Int32) (fr : Nat) (fc : Nat) (op : Nat → Int32) (ob : Nat → Int32) (n : Int32)  : xC l yX5_velocityAfter wsX5_velocityAfter 0 0 0 0 D cI cZ [.ref h0, .int n] [(h0, .inr (5, [.int (nI R), .int (nI C), .int (bI dio), .int (bI bk), .int (bI lt), .int sl, .int (nI V), .int ru, .int (bI sus), .int (bI sos), .int (nI T), .ref d1, .ref d2, .ref d3, .ref d4, .ref d5, .ref d6, .ref d7, .ref d8, .ref d9, .ref d10, .int (nI mk), .ref d11, .int sk, .int rf, .int tk, .int (nI fr), .int (nI fc), .ref d12, .ref d13])), (d1, .inl (cI, 64, .inl (xN pos))), (d2, .inl (cI, 64, .inl ph)), (d3, .inl (cI, 64, .inl bg)), (d4, .inl (cZ, 64, .inl (xB fs))), (d5, .inl (cZ, 64, .inl (xB gs))), (d6, .inl (cI, 8, .inl st)), (d7, .inl (cI, 8, .inl kk)), (d8, .inl (cI, 8, .inl ve)), (d9, .inl (cI, 8, .inl si)), (d10, .inl (cZ, 8, .inl (xB ca))), (d11, .inl (cI, 48, .inl lg)), (d12, .inl (cI, 64, .inl op)), (d13, .inl (cI, 64, .inl ob))] (fun v8 w8 => v8 = some (.int (vaM sl n)) ∧ w8 = [(h0, .inr (5, [.int (nI R), .int (nI C), .int (bI dio), .int (bI bk), .int (bI lt), .int sl, .int (nI V), .int ru, .int (bI sus), .int (bI sos), .int (nI T), .ref d1, .ref d2, .ref d3, .ref d4, .ref d5, .ref d6, .ref d7, .ref d8, .ref d9, .ref d10, .int (nI mk), .ref d11, .int sk, .int rf, .int tk, .int (nI fr), .int (nI fc), .ref d12, .ref d13])), (d1, .inl (cI, 64, .inl (xN pos))), (d2, .inl (cI, 64, .inl ph)), (d3, .inl (cI, 64, .inl bg)), (d4, .inl (cZ, 64, .inl (xB fs))), (d5, .inl (cZ, 64, .inl (xB gs))), (d6, .inl (cI, 8, .inl st)), (d7, .inl (cI, 8, .inl kk)), (d8, .inl (cI, 8, .inl ve)), (d9, .inl (cI, 8, .inl si)), (d10, .inl (cZ, 8, .inl (xB ca))), (d11, .inl (cI, 48, .inl lg)), (d12, .inl (cI, 64, .inl op)), (d13, .inl (cI, 64, .inl ob))]) := by
  refine xC.of (bytes := cX5_velocityAfter) (maxL := 3) (ret := (some .int)) (own := RX5) (by decide +kernel) rfl (Nat.le_of_ble_eq_true rfl) rfl ?_
  intro p9 e9 s9 m9 args9 below9 meth9 cd9 A hE hr hin2 hA9
  have inX5 : ∀ w ∈ wsX50, w ∈ wsX5_velocityAfter := fun w h => List.mem_cons_of_mem _ (List.mem_append_right _ h)
  have g7 : xF RX5 wsX5_velocityAfter 7 5 5 := ⟨"KeyScannerModel", RX5, TX5, 30, inX5, rfl, by decide, List.mem_of_getElem? (i := 1) rfl, rfl⟩
  refine x_at (ws' := [(h0, .inr (5, [.int (nI R), .int (nI C), .int (bI dio), .int (bI bk), .int (bI lt), .int sl, .int (nI V), .int ru, .int (bI sus), .int (bI sos), .int (nI T), .ref d1, .ref d2, .ref d3, .ref d4, .ref d5, .ref d6, .ref d7, .ref d8, .ref d9, .ref d10, .int (nI mk), .ref d11, .int sk, .int rf, .int tk, .int (nI fr), .int (nI fc), .ref d12, .ref d13])), (d1, .inl (cI, 64, .inl (xN pos))), (d2, .inl (cI, 64, .inl ph)), (d3, .inl (cI, 64, .inl bg)), (d4, .inl (cZ, 64, .inl (xB fs))), (d5, .inl (cZ, 64, .inl (xB gs))), (d6, .inl (cI, 8, .inl st)), (d7, .inl (cI, 8, .inl kk)), (d8, .inl (cI, 8, .inl ve)), (d9, .inl (cI, 8, .inl si)), (d10, .inl (cZ, 8, .inl (xB ca))), (d11, .inl (cI, 48, .inl lg)), (d12, .inl (cI, 64, .inl op)), (d13, .inl (cI, 64, .inl ob))]) (st' := []) rfl rfl ?_
  refine x_lv [(0, .ref h0), (1, .int n)] [0, 1] rfl ?_
  refine x_sipush hE (nI 128) (by decide) dX5_velocityAfter_0 ?_
  refine x_aload_n hE 0 rfl dX5_velocityAfter_3 ?_
  refine x_get hE g7 0 rfl rfl dX5_velocityAfter_4 ?_
  refine x_iload_n hE 1 rfl dX5_velocityAfter_7 ?_
  refine x_imul hE (sl * n) rfl dX5_velocityAfter_8 ?_
  refine x_isub hE ((nI 128) - (sl * n)) rfl dX5_velocityAfter_9 ?_
  refine x_istore_n hE [(2, .int ((nI 128) - (sl * n))), (0, .ref h0), (1, .int n)] (by decide) rfl dX5_velocityAfter_10 ?_
  refine x_iload_n hE 0 rfl dX5_velocityAfter_11 ?_
  refine x_bipush hE (nI 127) (by decide) dX5_velocityAfter_12 ?_
  refine x_icmp_le hE 22 (by decide) dX5_velocityAfter_14 (fun c14 => ?_) (fun c14 => ?_)
  · skip
    refine x_iload_n hE 0 rfl dX5_velocityAfter_22 ?_
    refine x_iconst hE (nI 1) (by decide) dX5_velocityAfter_23 ?_
    refine x_icmp_ge hE 31 (by decide) dX5_velocityAfter_24 (fun c24 => ?_) (fun c24 => ?_)
    · skip
      refine x_iload_n hE 0 rfl dX5_velocityAfter_31 ?_
      exact x_iret hE hr (⟨by simp only [vaM, if_neg c14, if_neg c24, reduceIte, Bool.false_eq_true, Bool.true_eq_false], rfl⟩) dX5_velocityAfter_32
    · skip
      refine x_iconst hE (nI 1) (by decide) dX5_velocityAfter_27 ?_
      refine x_goto hE 32 (by decide) dX5_velocityAfter_28 ?_
      exact x_iret hE hr (⟨by simp only [vaM, if_neg c14, if_pos c24, reduceIte, Bool.false_eq_true, Bool.true_eq_false], rfl⟩) dX5_velocityAfter_32
  · skip
    refine x_bipush hE (nI 127) (by decide) dX5_velocityAfter_17 ?_
    refine x_goto hE 32 (by decide) dX5_velocityAfter_19 ?_
    exact x_iret hE hr (⟨by simp only [vaM, if_pos c14, reduceIte, Bool.false_eq_true, Bool.true_eq_false], rfl⟩) dX5_velocityAfter_32
end
