section
-- ===== PART A: goes FIRST, ahead of the names: the tables' words, and 'selects' of the private methods out of them =====
/-- a private method of a class that the tables say can be made, by its rows of tables_1 -/
def lw_okq (q : MethodName × Nat) : Prop := (q.1.cls ≠ "java/lang/invoke/MethodHandle" ∧ q.1.cls ≠ "java/lang/invoke/VarHandle") ∧ Cond.instantiable q.1.cls q.2 ∈ tables_1 ∧ Cond.privateMethod q.1 ∈ tables_1 ∧ Cond.instanceMethod q.1 ∈ tables_1
theorem lw_p0 : lw_okq (⟨"WindowLines", "keepDraft", "(I)I"⟩, 4) := ⟨⟨by decide +kernel, by decide +kernel⟩, List.mem_of_getElem? (i := 14) (by decide +kernel), List.mem_of_getElem? (i := 221) (by decide +kernel), List.mem_of_getElem? (i := 222) (by decide +kernel)⟩
theorem lw_p1 : lw_okq (⟨"WindowLines", "performOnDraft", "(I)I"⟩, 4) := ⟨⟨by decide +kernel, by decide +kernel⟩, List.mem_of_getElem? (i := 14) (by decide +kernel), List.mem_of_getElem? (i := 441) (by decide +kernel), List.mem_of_getElem? (i := 442) (by decide +kernel)⟩
theorem lw_p2 : lw_okq (⟨"WindowLinesModel", "keeps", "()V"⟩, 12) := ⟨⟨by decide +kernel, by decide +kernel⟩, List.mem_of_getElem? (i := 509) (by decide +kernel), List.mem_of_getElem? (i := 556) (by decide +kernel), List.mem_of_getElem? (i := 557) (by decide +kernel)⟩
theorem lw_p3 : lw_okq (⟨"WindowLinesModel", "puts", "(III)I"⟩, 12) := ⟨⟨by decide +kernel, by decide +kernel⟩, List.mem_of_getElem? (i := 509) (by decide +kernel), List.mem_of_getElem? (i := 563) (by decide +kernel), List.mem_of_getElem? (i := 564) (by decide +kernel)⟩
theorem lw_p4 : lw_okq (⟨"WindowLinesModel", "total", "([I)I"⟩, 12) := ⟨⟨by decide +kernel, by decide +kernel⟩, List.mem_of_getElem? (i := 509) (by decide +kernel), List.mem_of_getElem? (i := 584) (by decide +kernel), List.mem_of_getElem? (i := 585) (by decide +kernel)⟩
theorem lw_p5 : lw_okq (⟨"WindowLinesModel", "topOf", "([II)I"⟩, 12) := ⟨⟨by decide +kernel, by decide +kernel⟩, List.mem_of_getElem? (i := 509) (by decide +kernel), List.mem_of_getElem? (i := 588) (by decide +kernel), List.mem_of_getElem? (i := 589) (by decide +kernel)⟩
theorem lw_p6 : lw_okq (⟨"WindowLinesModel", "laysGuesses", "([I)V"⟩, 12) := ⟨⟨by decide +kernel, by decide +kernel⟩, List.mem_of_getElem? (i := 509) (by decide +kernel), List.mem_of_getElem? (i := 592) (by decide +kernel), List.mem_of_getElem? (i := 593) (by decide +kernel)⟩
theorem lw_p7 : lw_okq (⟨"WindowLinesModel", "heightOf", "([II)I"⟩, 12) := ⟨⟨by decide +kernel, by decide +kernel⟩, List.mem_of_getElem? (i := 509) (by decide +kernel), List.mem_of_getElem? (i := 596) (by decide +kernel), List.mem_of_getElem? (i := 597) (by decide +kernel)⟩
theorem lw_p8 : lw_okq (⟨"WindowLinesModel", "acted", "(I)I"⟩, 12) := ⟨⟨by decide +kernel, by decide +kernel⟩, List.mem_of_getElem? (i := 509) (by decide +kernel), List.mem_of_getElem? (i := 600) (by decide +kernel), List.mem_of_getElem? (i := 601) (by decide +kernel)⟩
theorem lw_p9 : lw_okq (⟨"WindowLinesModel", "cuts", "(I)I"⟩, 12) := ⟨⟨by decide +kernel, by decide +kernel⟩, List.mem_of_getElem? (i := 509) (by decide +kernel), List.mem_of_getElem? (i := 608) (by decide +kernel), List.mem_of_getElem? (i := 609) (by decide +kernel)⟩
theorem lw_p10 : lw_okq (⟨"WindowLinesModel", "isLine", "(I)Z"⟩, 12) := ⟨⟨by decide +kernel, by decide +kernel⟩, List.mem_of_getElem? (i := 509) (by decide +kernel), List.mem_of_getElem? (i := 612) (by decide +kernel), List.mem_of_getElem? (i := 613) (by decide +kernel)⟩
theorem lw_p11 : lw_okq (⟨"WindowLinesModel", "scrolled", "(I)I"⟩, 12) := ⟨⟨by decide +kernel, by decide +kernel⟩, List.mem_of_getElem? (i := 509) (by decide +kernel), List.mem_of_getElem? (i := 632) (by decide +kernel), List.mem_of_getElem? (i := 633) (by decide +kernel)⟩
theorem lw_p12 : lw_okq (⟨"WindowLinesModel", "jumped", "(I)I"⟩, 12) := ⟨⟨by decide +kernel, by decide +kernel⟩, List.mem_of_getElem? (i := 509) (by decide +kernel), List.mem_of_getElem? (i := 644) (by decide +kernel), List.mem_of_getElem? (i := 645) (by decide +kernel)⟩
theorem lw_p13 : lw_okq (⟨"WindowLinesModel", "jumps", "([II)V"⟩, 12) := ⟨⟨by decide +kernel, by decide +kernel⟩, List.mem_of_getElem? (i := 509) (by decide +kernel), List.mem_of_getElem? (i := 648) (by decide +kernel), List.mem_of_getElem? (i := 649) (by decide +kernel)⟩
theorem lw_p14 : lw_okq (⟨"WindowLinesModel", "lineAt", "([II)I"⟩, 12) := ⟨⟨by decide +kernel, by decide +kernel⟩, List.mem_of_getElem? (i := 509) (by decide +kernel), List.mem_of_getElem? (i := 652) (by decide +kernel), List.mem_of_getElem? (i := 653) (by decide +kernel)⟩
theorem lw_p15 : lw_okq (⟨"WindowLinesModel", "gone", "(I)I"⟩, 12) := ⟨⟨by decide +kernel, by decide +kernel⟩, List.mem_of_getElem? (i := 509) (by decide +kernel), List.mem_of_getElem? (i := 661) (by decide +kernel), List.mem_of_getElem? (i := 662) (by decide +kernel)⟩
def lw_privs_1 : List (MethodName × Nat) := [(⟨"WindowLines", "keepDraft", "(I)I"⟩, 4), (⟨"WindowLines", "performOnDraft", "(I)I"⟩, 4), (⟨"WindowLinesModel", "keeps", "()V"⟩, 12), (⟨"WindowLinesModel", "puts", "(III)I"⟩, 12), (⟨"WindowLinesModel", "total", "([I)I"⟩, 12), (⟨"WindowLinesModel", "topOf", "([II)I"⟩, 12), (⟨"WindowLinesModel", "laysGuesses", "([I)V"⟩, 12), (⟨"WindowLinesModel", "heightOf", "([II)I"⟩, 12), (⟨"WindowLinesModel", "acted", "(I)I"⟩, 12), (⟨"WindowLinesModel", "cuts", "(I)I"⟩, 12), (⟨"WindowLinesModel", "isLine", "(I)Z"⟩, 12), (⟨"WindowLinesModel", "scrolled", "(I)I"⟩, 12), (⟨"WindowLinesModel", "jumped", "(I)I"⟩, 12), (⟨"WindowLinesModel", "jumps", "([II)V"⟩, 12), (⟨"WindowLinesModel", "lineAt", "([II)I"⟩, 12), (⟨"WindowLinesModel", "gone", "(I)I"⟩, 12)]
theorem lw_r1 : ∀ q ∈ lw_privs_1, lw_okq q := List.forall_mem_cons.mpr ⟨lw_p0, List.forall_mem_cons.mpr ⟨lw_p1, List.forall_mem_cons.mpr ⟨lw_p2, List.forall_mem_cons.mpr ⟨lw_p3, List.forall_mem_cons.mpr ⟨lw_p4, List.forall_mem_cons.mpr ⟨lw_p5, List.forall_mem_cons.mpr ⟨lw_p6, List.forall_mem_cons.mpr ⟨lw_p7, List.forall_mem_cons.mpr ⟨lw_p8, List.forall_mem_cons.mpr ⟨lw_p9, List.forall_mem_cons.mpr ⟨lw_p10, List.forall_mem_cons.mpr ⟨lw_p11, List.forall_mem_cons.mpr ⟨lw_p12, List.forall_mem_cons.mpr ⟨lw_p13, List.forall_mem_cons.mpr ⟨lw_p14, List.forall_mem_cons.mpr ⟨lw_p15, fun _ h => absurd h List.not_mem_nil⟩⟩⟩⟩⟩⟩⟩⟩⟩⟩⟩⟩⟩⟩⟩⟩
theorem lw_p16 : lw_okq (⟨"WindowLinesModel", "begins", "()V"⟩, 12) := ⟨⟨by decide +kernel, by decide +kernel⟩, List.mem_of_getElem? (i := 509) (by decide +kernel), List.mem_of_getElem? (i := 681) (by decide +kernel), List.mem_of_getElem? (i := 682) (by decide +kernel)⟩
theorem lw_p17 : lw_okq (⟨"WindowLinesModel", "next", "()I"⟩, 12) := ⟨⟨by decide +kernel, by decide +kernel⟩, List.mem_of_getElem? (i := 509) (by decide +kernel), List.mem_of_getElem? (i := 685) (by decide +kernel), List.mem_of_getElem? (i := 686) (by decide +kernel)⟩
theorem lw_p18 : lw_okq (⟨"WindowLinesModel", "fails", "()I"⟩, 12) := ⟨⟨by decide +kernel, by decide +kernel⟩, List.mem_of_getElem? (i := 509) (by decide +kernel), List.mem_of_getElem? (i := 689) (by decide +kernel), List.mem_of_getElem? (i := 690) (by decide +kernel)⟩
theorem lw_p19 : lw_okq (⟨"WindowLinesModel", "word", "()I"⟩, 12) := ⟨⟨by decide +kernel, by decide +kernel⟩, List.mem_of_getElem? (i := 509) (by decide +kernel), List.mem_of_getElem? (i := 693) (by decide +kernel), List.mem_of_getElem? (i := 694) (by decide +kernel)⟩
theorem lw_p20 : lw_okq (⟨"WindowLinesModel", "number", "()I"⟩, 12) := ⟨⟨by decide +kernel, by decide +kernel⟩, List.mem_of_getElem? (i := 509) (by decide +kernel), List.mem_of_getElem? (i := 700) (by decide +kernel), List.mem_of_getElem? (i := 701) (by decide +kernel)⟩
theorem lw_p21 : lw_okq (⟨"WindowLinesModel", "does", "(I)I"⟩, 12) := ⟨⟨by decide +kernel, by decide +kernel⟩, List.mem_of_getElem? (i := 509) (by decide +kernel), List.mem_of_getElem? (i := 704) (by decide +kernel), List.mem_of_getElem? (i := 705) (by decide +kernel)⟩
theorem lw_p22 : lw_okq (⟨"WindowLinesModel", "measured", "([I)I"⟩, 12) := ⟨⟨by decide +kernel, by decide +kernel⟩, List.mem_of_getElem? (i := 509) (by decide +kernel), List.mem_of_getElem? (i := 712) (by decide +kernel), List.mem_of_getElem? (i := 713) (by decide +kernel)⟩
theorem lw_p23 : lw_okq (⟨"WindowLinesModel", "windowOf", "([I)I"⟩, 12) := ⟨⟨by decide +kernel, by decide +kernel⟩, List.mem_of_getElem? (i := 509) (by decide +kernel), List.mem_of_getElem? (i := 716) (by decide +kernel), List.mem_of_getElem? (i := 717) (by decide +kernel)⟩
theorem lw_p24 : lw_okq (⟨"WindowLinesModel", "seenLines", "()I"⟩, 12) := ⟨⟨by decide +kernel, by decide +kernel⟩, List.mem_of_getElem? (i := 509) (by decide +kernel), List.mem_of_getElem? (i := 720) (by decide +kernel), List.mem_of_getElem? (i := 721) (by decide +kernel)⟩
theorem lw_p25 : lw_okq (⟨"WindowLinesModel", "isSeen", "([II)Z"⟩, 12) := ⟨⟨by decide +kernel, by decide +kernel⟩, List.mem_of_getElem? (i := 509) (by decide +kernel), List.mem_of_getElem? (i := 724) (by decide +kernel), List.mem_of_getElem? (i := 725) (by decide +kernel)⟩
def lw_privs_2 : List (MethodName × Nat) := [(⟨"WindowLinesModel", "begins", "()V"⟩, 12), (⟨"WindowLinesModel", "next", "()I"⟩, 12), (⟨"WindowLinesModel", "fails", "()I"⟩, 12), (⟨"WindowLinesModel", "word", "()I"⟩, 12), (⟨"WindowLinesModel", "number", "()I"⟩, 12), (⟨"WindowLinesModel", "does", "(I)I"⟩, 12), (⟨"WindowLinesModel", "measured", "([I)I"⟩, 12), (⟨"WindowLinesModel", "windowOf", "([I)I"⟩, 12), (⟨"WindowLinesModel", "seenLines", "()I"⟩, 12), (⟨"WindowLinesModel", "isSeen", "([II)Z"⟩, 12)]
theorem lw_r2 : ∀ q ∈ lw_privs_2, lw_okq q := List.forall_mem_cons.mpr ⟨lw_p16, List.forall_mem_cons.mpr ⟨lw_p17, List.forall_mem_cons.mpr ⟨lw_p18, List.forall_mem_cons.mpr ⟨lw_p19, List.forall_mem_cons.mpr ⟨lw_p20, List.forall_mem_cons.mpr ⟨lw_p21, List.forall_mem_cons.mpr ⟨lw_p22, List.forall_mem_cons.mpr ⟨lw_p23, List.forall_mem_cons.mpr ⟨lw_p24, List.forall_mem_cons.mpr ⟨lw_p25, fun _ h => absurd h List.not_mem_nil⟩⟩⟩⟩⟩⟩⟩⟩⟩⟩
def lw_privs : List (MethodName × Nat) := lw_privs_1 ++ (lw_privs_2)
def lw_tbl : List Cond := k2_sels lw_privs ++ tables_1
theorem lw_privs_ok : ∀ q ∈ lw_privs, lw_okq q := by
  show ∀ q ∈ lw_privs_1 ++ (lw_privs_2), lw_okq q
  exact List.forall_mem_append.mpr ⟨lw_r1, lw_r2⟩
end
section
/-! ===== BEGIN words of one list among another's, by their places ===== -/
theorem goodIn_r {big : List Cond} (ws : List Cond) (ps : List Nat) (hp : ws = ps.filterMap (fun i => big[i]?)) (h : ws.all goodWord = true) : GoodIn big ws := by
  intro w hw
  have h1 := List.all_eq_true.mp h w hw
  rw [hp] at hw
  obtain ⟨i, -, hi⟩ := List.mem_filterMap.mp hw
  have hm : w ∈ big := by first | exact List.mem_of_getElem? hi | exact List.getElem?_mem hi
  exact ⟨hm, good_of_word h1⟩
theorem goodIn_app {big a b : List Cond} (ha : GoodIn big a) (hb : GoodIn big b) : GoodIn big (a ++ b) := fun w h => (List.mem_append.mp h).elim (ha w) (hb w)
theorem goodIn_ca {big a b : List Cond} {c : Cond} (ha : GoodIn big (c :: a)) (hb : GoodIn big b) : GoodIn big (c :: (a ++ b)) := fun w h => (List.mem_cons.mp h).elim (fun e => ha w (List.mem_cons.mpr (Or.inl e))) (fun h => (List.mem_append.mp h).elim (fun h => ha w (List.mem_cons.mpr (Or.inr h))) (hb w))
theorem goodIn_sub {big ws : List Cond} (hm : ∀ w ∈ ws, w ∈ big) (h : ws.all goodWord = true) : GoodIn big ws := fun w hw => ⟨hm w hw, good_of_word (List.all_eq_true.mp h w hw)⟩
/-! ===== END ===== -/

/-! ===== BEGIN printed: names, fields, word lists, decode rows ===== -/
def RX0 : String := "WindowLines$History"
def TX0 : u_T := fun k => match k with
  | 0 => ("WindowLines$History", "states", "[LWindowLines$Window;", true)
  | 1 => ("WindowLines$History", "size", "I", false)
  | _ => ("WindowLines$History", "next", "I", false)
def tyX0 : Nat → FieldType := fun k => match k with
  | 0 => .array (.object "WindowLines$Window")
  | 1 => .int
  | _ => .int
abbrev wsX00 : List Cond := u_ws RX0 TX0 3
theorem nmX0 : ∀ a, a < 3 → ∀ b, b < 3 → a ≠ b → (TX0 a).2.1 ≠ (TX0 b).2.1 := by decide +kernel
theorem tyX0_ok : ∀ k, k < 3 → parseFieldDescriptor (TX0 k).2.2.1 = some (tyX0 k) := by decide +kernel
abbrev cX0_init : ByteArray := prog_2_method_1_code
def yX0_init : MethodName := ⟨RX0, "<init>", "()V"⟩
abbrev cX0_record : ByteArray := prog_2_method_2_code
def yX0_record : MethodName := ⟨RX0, "record", "(LWindowLines$Window;)V"⟩
abbrev cX0_restoreTo : ByteArray := prog_2_method_3_code
def yX0_restoreTo : MethodName := ⟨RX0, "restoreTo", "(LWindowLines$Window;)V"⟩
abbrev cX0_stateAt : ByteArray := prog_2_method_4_code
def yX0_stateAt : MethodName := ⟨RX0, "stateAt", "(I)LWindowLines$Window;"⟩
def RX1 : String := "WindowLines$Lines"
def TX1 : u_T := fun k => match k with
  | 0 => ("WindowLines$Lines", "kinds", "[I", true)
  | 1 => ("WindowLines$Lines", "lengths", "[I", true)
  | 2 => ("WindowLines$Lines", "measured", "[Z", true)
  | 3 => ("WindowLines$Lines", "measuredSums", "[I", true)
  | 4 => ("WindowLines$Lines", "measuredCounts", "[I", true)
  | 5 => ("WindowLines$Lines", "size", "I", false)
  | _ => ("WindowLines$Lines", "width", "I", false)
def tyX1 : Nat → FieldType := fun k => match k with
  | 0 => .array .int
  | 1 => .array .int
  | 2 => .array .boolean
  | 3 => .array .int
  | 4 => .array .int
  | 5 => .int
  | _ => .int
abbrev wsX10 : List Cond := u_ws RX1 TX1 7
theorem nmX1 : ∀ a, a < 7 → ∀ b, b < 7 → a ≠ b → (TX1 a).2.1 ≠ (TX1 b).2.1 := by decide +kernel
theorem tyX1_ok : ∀ k, k < 7 → parseFieldDescriptor (TX1 k).2.2.1 = some (tyX1 k) := by decide +kernel
abbrev cX1_init : ByteArray := prog_3_method_1_code
def yX1_init : MethodName := ⟨RX1, "<init>", "()V"⟩
abbrev cX1_copyFrom : ByteArray := prog_3_method_2_code
def yX1_copyFrom : MethodName := ⟨RX1, "copyFrom", "(LWindowLines$Lines;)V"⟩
abbrev cX1_isLine : ByteArray := prog_3_method_3_code
def yX1_isLine : MethodName := ⟨RX1, "isLine", "(I)Z"⟩
abbrev cX1_isKind : ByteArray := prog_3_method_4_code
def yX1_isKind : MethodName := ⟨RX1, "isKind", "(I)Z"⟩
abbrev cX1_insert : ByteArray := prog_3_method_5_code
def yX1_insert : MethodName := ⟨RX1, "insert", "(III)V"⟩
abbrev cX1_remove : ByteArray := prog_3_method_6_code
def yX1_remove : MethodName := ⟨RX1, "remove", "(I)V"⟩
abbrev cX1_setLength : ByteArray := prog_3_method_7_code
def yX1_setLength : MethodName := ⟨RX1, "setLength", "(II)V"⟩
abbrev cX1_forgetAllFor : ByteArray := prog_3_method_8_code
def yX1_forgetAllFor : MethodName := ⟨RX1, "forgetAllFor", "(I)V"⟩
abbrev cX1_measure : ByteArray := prog_3_method_9_code
def yX1_measure : MethodName := ⟨RX1, "measure", "(I)V"⟩
abbrev cX1_forget : ByteArray := prog_3_method_10_code
def yX1_forget : MethodName := ⟨RX1, "forget", "(I)V"⟩
abbrev cX1_measuredLines : ByteArray := prog_3_method_11_code
def yX1_measuredLines : MethodName := ⟨RX1, "measuredLines", "()I"⟩
abbrev cX1_trueHeightOf : ByteArray := prog_3_method_12_code
def yX1_trueHeightOf : MethodName := ⟨RX1, "trueHeightOf", "(I)I"⟩
abbrev cX1_trueHeight : ByteArray := prog_3_method_13_code
def yX1_trueHeight : MethodName := ⟨RX1, "trueHeight", "(II)I"⟩
abbrev cX1_guess : ByteArray := prog_3_method_14_code
def yX1_guess : MethodName := ⟨RX1, "guess", "(I)I"⟩
abbrev cX1_heightOf : ByteArray := prog_3_method_15_code
def yX1_heightOf : MethodName := ⟨RX1, "heightOf", "(I)I"⟩
abbrev cX1_topOf : ByteArray := prog_3_method_16_code
def yX1_topOf : MethodName := ⟨RX1, "topOf", "(I)I"⟩
abbrev cX1_total : ByteArray := prog_3_method_17_code
def yX1_total : MethodName := ⟨RX1, "total", "()I"⟩
abbrev cX1_lineAt : ByteArray := prog_3_method_18_code
def yX1_lineAt : MethodName := ⟨RX1, "lineAt", "(I)I"⟩
def RX2 : String := "WindowLines$Program"
def TX2 : u_T := fun k => match k with
  | 0 => ("WindowLines$Program", "text", "[C", true)
  | 1 => ("WindowLines$Program", "numbers", "[I", true)
  | 2 => ("WindowLines$Program", "length", "I", false)
  | 3 => ("WindowLines$Program", "start", "I", false)
  | 4 => ("WindowLines$Program", "end", "I", false)
  | _ => ("WindowLines$Program", "place", "I", false)
def tyX2 : Nat → FieldType := fun k => match k with
  | 0 => .array .char
  | 1 => .array .int
  | 2 => .int
  | 3 => .int
  | 4 => .int
  | _ => .int
abbrev wsX20 : List Cond := u_ws RX2 TX2 6
theorem nmX2 : ∀ a, a < 6 → ∀ b, b < 6 → a ≠ b → (TX2 a).2.1 ≠ (TX2 b).2.1 := by decide +kernel
theorem tyX2_ok : ∀ k, k < 6 → parseFieldDescriptor (TX2 k).2.2.1 = some (tyX2 k) := by decide +kernel
abbrev cX2_init : ByteArray := prog_4_method_1_code
def yX2_init : MethodName := ⟨RX2, "<init>", "()V"⟩
abbrev cX2_add : ByteArray := prog_4_method_2_code
def yX2_add : MethodName := ⟨RX2, "add", "(C)I"⟩
abbrev cX2_clear : ByteArray := prog_4_method_3_code
def yX2_clear : MethodName := ⟨RX2, "clear", "()I"⟩
abbrev cX2_rewind : ByteArray := prog_4_method_4_code
def yX2_rewind : MethodName := ⟨RX2, "rewind", "()V"⟩
abbrev cX2_number : ByteArray := prog_4_method_5_code
def yX2_number : MethodName := ⟨RX2, "number", "(I)I"⟩
abbrev cX2_readCommand : ByteArray := prog_4_method_6_code
def yX2_readCommand : MethodName := ⟨RX2, "readCommand", "()I"⟩
abbrev cX2_readToken : ByteArray := prog_4_method_7_code
def yX2_readToken : MethodName := ⟨RX2, "readToken", "()V"⟩
abbrev cX2_commandOfToken : ByteArray := prog_4_method_8_code
def yX2_commandOfToken : MethodName := ⟨RX2, "commandOfToken", "()I"⟩
abbrev cX2_tokenIs : ByteArray := prog_4_method_9_code
def yX2_tokenIs : MethodName := ⟨RX2, "tokenIs", "(Ljava/lang/String;)Z"⟩
abbrev cX2_numberOfToken : ByteArray := prog_4_method_10_code
def yX2_numberOfToken : MethodName := ⟨RX2, "numberOfToken", "()I"⟩
abbrev cX2_signAt : ByteArray := prog_4_method_11_code
def yX2_signAt : MethodName := ⟨RX2, "signAt", "(I)C"⟩
abbrev cX2_isLetter : ByteArray := prog_4_method_12_code
def yX2_isLetter : MethodName := ⟨RX2, "isLetter", "(C)Z"⟩
abbrev cX2_isDigit : ByteArray := prog_4_method_13_code
def yX2_isDigit : MethodName := ⟨RX2, "isDigit", "(C)Z"⟩
abbrev cX2_wordOf : ByteArray := prog_4_method_14_code
def yX2_wordOf : MethodName := ⟨RX2, "wordOf", "(I)Ljava/lang/String;"⟩
def RX3 : String := "WindowLines$Window"
def TX3 : u_T := fun k => match k with
  | 0 => ("WindowLines$Window", "lines", "LWindowLines$Lines;", true)
  | 1 => ("WindowLines$Window", "height", "I", false)
  | 2 => ("WindowLines$Window", "anchor", "I", false)
  | _ => ("WindowLines$Window", "shift", "I", false)
def tyX3 : Nat → FieldType := fun k => match k with
  | 0 => .object "WindowLines$Lines"
  | 1 => .int
  | 2 => .int
  | _ => .int
abbrev wsX30 : List Cond := u_ws RX3 TX3 4
theorem nmX3 : ∀ a, a < 4 → ∀ b, b < 4 → a ≠ b → (TX3 a).2.1 ≠ (TX3 b).2.1 := by decide +kernel
theorem tyX3_ok : ∀ k, k < 4 → parseFieldDescriptor (TX3 k).2.2.1 = some (tyX3 k) := by decide +kernel
abbrev cX3_init : ByteArray := prog_5_method_1_code
def yX3_init : MethodName := ⟨RX3, "<init>", "()V"⟩
abbrev cX3_copyFrom : ByteArray := prog_5_method_2_code
def yX3_copyFrom : MethodName := ⟨RX3, "copyFrom", "(LWindowLines$Window;)V"⟩
abbrev cX3_putIn : ByteArray := prog_5_method_3_code
def yX3_putIn : MethodName := ⟨RX3, "putIn", "(III)I"⟩
abbrev cX3_takeOut : ByteArray := prog_5_method_4_code
def yX3_takeOut : MethodName := ⟨RX3, "takeOut", "(I)I"⟩
abbrev cX3_changeLength : ByteArray := prog_5_method_5_code
def yX3_changeLength : MethodName := ⟨RX3, "changeLength", "(II)I"⟩
abbrev cX3_changeHeight : ByteArray := prog_5_method_6_code
def yX3_changeHeight : MethodName := ⟨RX3, "changeHeight", "(I)I"⟩
abbrev cX3_changeWidth : ByteArray := prog_5_method_7_code
def yX3_changeWidth : MethodName := ⟨RX3, "changeWidth", "(I)I"⟩
abbrev cX3_moveBy : ByteArray := prog_5_method_8_code
def yX3_moveBy : MethodName := ⟨RX3, "moveBy", "(I)I"⟩
abbrev cX3_moveToShare : ByteArray := prog_5_method_9_code
def yX3_moveToShare : MethodName := ⟨RX3, "moveToShare", "(I)I"⟩
abbrev cX3_moveToLine : ByteArray := prog_5_method_10_code
def yX3_moveToLine : MethodName := ⟨RX3, "moveToLine", "(I)I"⟩
abbrev cX3_settle : ByteArray := prog_5_method_11_code
def yX3_settle : MethodName := ⟨RX3, "settle", "()V"⟩
abbrev cX3_descend : ByteArray := prog_5_method_12_code
def yX3_descend : MethodName := ⟨RX3, "descend", "()V"⟩
abbrev cX3_climb : ByteArray := prog_5_method_13_code
def yX3_climb : MethodName := ⟨RX3, "climb", "()V"⟩
abbrev cX3_top : ByteArray := prog_5_method_14_code
def yX3_top : MethodName := ⟨RX3, "top", "()I"⟩
abbrev cX3_shows : ByteArray := prog_5_method_15_code
def yX3_shows : MethodName := ⟨RX3, "shows", "(I)Z"⟩
abbrev cX3_linesShown : ByteArray := prog_5_method_16_code
def yX3_linesShown : MethodName := ⟨RX3, "linesShown", "()I"⟩
def RX4 : String := "WindowLines"
def TX4 : u_T := fun k => match k with
  | 0 => ("WindowLines", "now", "LWindowLines$Window;", true)
  | 1 => ("WindowLines", "draft", "LWindowLines$Window;", true)
  | 2 => ("WindowLines", "history", "LWindowLines$History;", true)
  | _ => ("WindowLines", "program", "LWindowLines$Program;", true)
def tyX4 : Nat → FieldType := fun k => match k with
  | 0 => .object "WindowLines$Window"
  | 1 => .object "WindowLines$Window"
  | 2 => .object "WindowLines$History"
  | _ => .object "WindowLines$Program"
abbrev wsX40 : List Cond := u_ws RX4 TX4 4
theorem nmX4 : ∀ a, a < 4 → ∀ b, b < 4 → a ≠ b → (TX4 a).2.1 ≠ (TX4 b).2.1 := by decide +kernel
theorem tyX4_ok : ∀ k, k < 4 → parseFieldDescriptor (TX4 k).2.2.1 = some (tyX4 k) := by decide +kernel
abbrev cX4_init : ByteArray := prog_1_method_1_code
def yX4_init : MethodName := ⟨RX4, "<init>", "()V"⟩
abbrev cX4_put : ByteArray := prog_1_method_2_code
def yX4_put : MethodName := ⟨RX4, "put", "(III)I"⟩
abbrev cX4_cut : ByteArray := prog_1_method_3_code
def yX4_cut : MethodName := ⟨RX4, "cut", "(I)I"⟩
abbrev cX4_change : ByteArray := prog_1_method_4_code
def yX4_change : MethodName := ⟨RX4, "change", "(II)I"⟩
abbrev cX4_setHeight : ByteArray := prog_1_method_5_code
def yX4_setHeight : MethodName := ⟨RX4, "setHeight", "(I)I"⟩
abbrev cX4_setWidth : ByteArray := prog_1_method_6_code
def yX4_setWidth : MethodName := ⟨RX4, "setWidth", "(I)I"⟩
abbrev cX4_scroll : ByteArray := prog_1_method_7_code
def yX4_scroll : MethodName := ⟨RX4, "scroll", "(I)I"⟩
abbrev cX4_jump : ByteArray := prog_1_method_8_code
def yX4_jump : MethodName := ⟨RX4, "jump", "(I)I"⟩
abbrev cX4_goTo : ByteArray := prog_1_method_9_code
def yX4_goTo : MethodName := ⟨RX4, "goTo", "(I)I"⟩
abbrev cX4_undo : ByteArray := prog_1_method_10_code
def yX4_undo : MethodName := ⟨RX4, "undo", "()I"⟩
abbrev cX4_append : ByteArray := prog_1_method_11_code
def yX4_append : MethodName := ⟨RX4, "append", "(I)I"⟩
abbrev cX4_clearText : ByteArray := prog_1_method_12_code
def yX4_clearText : MethodName := ⟨RX4, "clearText", "()I"⟩
abbrev cX4_run : ByteArray := prog_1_method_13_code
def yX4_run : MethodName := ⟨RX4, "run", "()I"⟩
abbrev cX4_count : ByteArray := prog_1_method_14_code
def yX4_count : MethodName := ⟨RX4, "count", "(I)I"⟩
abbrev cX4_line : ByteArray := prog_1_method_15_code
def yX4_line : MethodName := ⟨RX4, "line", "(II)I"⟩
abbrev cX4_seen : ByteArray := prog_1_method_16_code
def yX4_seen : MethodName := ⟨RX4, "seen", "(I)I"⟩
abbrev cX4_at : ByteArray := prog_1_method_17_code
def yX4_at : MethodName := ⟨RX4, "at", "(I)I"⟩
abbrev cX4_share : ByteArray := prog_1_method_18_code
def yX4_share : MethodName := ⟨RX4, "share", "()I"⟩
abbrev cX4_trueSum : ByteArray := prog_1_method_19_code
def yX4_trueSum : MethodName := ⟨RX4, "trueSum", "(II)I"⟩
abbrev cX4_scrollsTo : ByteArray := prog_1_method_20_code
def yX4_scrollsTo : MethodName := ⟨RX4, "scrollsTo", "(II)I"⟩
abbrev cX4_measuredBy : ByteArray := prog_1_method_21_code
def yX4_measuredBy : MethodName := ⟨RX4, "measuredBy", "(I)I"⟩
abbrev cX4_isOutside : ByteArray := prog_1_method_22_code
def yX4_isOutside : MethodName := ⟨RX4, "isOutside", "(III)Z"⟩
abbrev cX4_keepDraft : ByteArray := prog_1_method_23_code
def yX4_keepDraft : MethodName := ⟨RX4, "keepDraft", "(I)I"⟩
abbrev cX4_performOnDraft : ByteArray := prog_1_method_24_code
def yX4_performOnDraft : MethodName := ⟨RX4, "performOnDraft", "(I)I"⟩
def RX5 : String := "WindowLinesModel"
def TX5 : u_T := fun k => match k with
  | 0 => ("WindowLinesModel", "now", "[I", true)
  | 1 => ("WindowLinesModel", "before", "[I", true)
  | 2 => ("WindowLinesModel", "tried", "[I", true)
  | 3 => ("WindowLinesModel", "past", "[I", true)
  | 4 => ("WindowLinesModel", "states", "I", false)
  | 5 => ("WindowLinesModel", "text", "[I", true)
  | 6 => ("WindowLinesModel", "letters", "I", false)
  | 7 => ("WindowLinesModel", "guesses", "[I", true)
  | 8 => ("WindowLinesModel", "at", "I", false)
  | 9 => ("WindowLinesModel", "from", "I", false)
  | 10 => ("WindowLinesModel", "wrong", "Z", false)
  | _ => ("WindowLinesModel", "numbers", "[I", true)
def tyX5 : Nat → FieldType := fun k => match k with
  | 0 => .array .int
  | 1 => .array .int
  | 2 => .array .int
  | 3 => .array .int
  | 4 => .int
  | 5 => .array .int
  | 6 => .int
  | 7 => .array .int
  | 8 => .int
  | 9 => .int
  | 10 => .boolean
  | _ => .array .int
abbrev wsX50 : List Cond := u_ws RX5 TX5 12
theorem nmX5 : ∀ a, a < 12 → ∀ b, b < 12 → a ≠ b → (TX5 a).2.1 ≠ (TX5 b).2.1 := by decide +kernel
theorem tyX5_ok : ∀ k, k < 12 → parseFieldDescriptor (TX5 k).2.2.1 = some (tyX5 k) := by decide +kernel
abbrev cX5_init : ByteArray := prog_7_method_1_code
def yX5_init : MethodName := ⟨RX5, "<init>", "()V"⟩
abbrev cX5_in : ByteArray := prog_7_method_2_code
def yX5_in : MethodName := ⟨RX5, "in", "(III)Z"⟩
abbrev cX5_l : ByteArray := prog_7_method_3_code
def yX5_l : MethodName := ⟨RX5, "l", "(II)I"⟩
abbrev cX5_copies : ByteArray := prog_7_method_4_code
def yX5_copies : MethodName := ⟨RX5, "copies", "([II[II)V"⟩
abbrev cX5_keeps : ByteArray := prog_7_method_5_code
def yX5_keeps : MethodName := ⟨RX5, "keeps", "()V"⟩
abbrev cX5_acted : ByteArray := prog_7_method_6_code
def yX5_acted : MethodName := ⟨RX5, "acted", "(I)I"⟩
abbrev cX5_isLine : ByteArray := prog_7_method_7_code
def yX5_isLine : MethodName := ⟨RX5, "isLine", "(I)Z"⟩
abbrev cX5_trueOf : ByteArray := prog_7_method_8_code
def yX5_trueOf : MethodName := ⟨RX5, "trueOf", "([II)I"⟩
abbrev cX5_laysGuesses : ByteArray := prog_7_method_9_code
def yX5_laysGuesses : MethodName := ⟨RX5, "laysGuesses", "([I)V"⟩
abbrev cX5_heightOf : ByteArray := prog_7_method_10_code
def yX5_heightOf : MethodName := ⟨RX5, "heightOf", "([II)I"⟩
abbrev cX5_topOf : ByteArray := prog_7_method_11_code
def yX5_topOf : MethodName := ⟨RX5, "topOf", "([II)I"⟩
abbrev cX5_total : ByteArray := prog_7_method_12_code
def yX5_total : MethodName := ⟨RX5, "total", "([I)I"⟩
abbrev cX5_windowOf : ByteArray := prog_7_method_13_code
def yX5_windowOf : MethodName := ⟨RX5, "windowOf", "([I)I"⟩
abbrev cX5_measured : ByteArray := prog_7_method_14_code
def yX5_measured : MethodName := ⟨RX5, "measured", "([I)I"⟩
abbrev cX5_lineAt : ByteArray := prog_7_method_15_code
def yX5_lineAt : MethodName := ⟨RX5, "lineAt", "([II)I"⟩
abbrev cX5_isSeen : ByteArray := prog_7_method_16_code
def yX5_isSeen : MethodName := ⟨RX5, "isSeen", "([II)Z"⟩
abbrev cX5_goesUp : ByteArray := prog_7_method_17_code
def yX5_goesUp : MethodName := ⟨RX5, "goesUp", "([I)V"⟩
abbrev cX5_settles : ByteArray := prog_7_method_18_code
def yX5_settles : MethodName := ⟨RX5, "settles", "([I)V"⟩
abbrev cX5_puts : ByteArray := prog_7_method_19_code
def yX5_puts : MethodName := ⟨RX5, "puts", "(III)I"⟩
abbrev cX5_cuts : ByteArray := prog_7_method_20_code
def yX5_cuts : MethodName := ⟨RX5, "cuts", "(I)I"⟩
abbrev cX5_scrolls : ByteArray := prog_7_method_21_code
def yX5_scrolls : MethodName := ⟨RX5, "scrolls", "([II)V"⟩
abbrev cX5_scrolled : ByteArray := prog_7_method_22_code
def yX5_scrolled : MethodName := ⟨RX5, "scrolled", "(I)I"⟩
abbrev cX5_jumps : ByteArray := prog_7_method_23_code
def yX5_jumps : MethodName := ⟨RX5, "jumps", "([II)V"⟩
abbrev cX5_jumped : ByteArray := prog_7_method_24_code
def yX5_jumped : MethodName := ⟨RX5, "jumped", "(I)I"⟩
abbrev cX5_gone : ByteArray := prog_7_method_25_code
def yX5_gone : MethodName := ⟨RX5, "gone", "(I)I"⟩
abbrev cX5_put : ByteArray := prog_7_method_26_code
def yX5_put : MethodName := ⟨RX5, "put", "(III)I"⟩
abbrev cX5_cut : ByteArray := prog_7_method_27_code
def yX5_cut : MethodName := ⟨RX5, "cut", "(I)I"⟩
abbrev cX5_change : ByteArray := prog_7_method_28_code
def yX5_change : MethodName := ⟨RX5, "change", "(II)I"⟩
abbrev cX5_setHeight : ByteArray := prog_7_method_29_code
def yX5_setHeight : MethodName := ⟨RX5, "setHeight", "(I)I"⟩
abbrev cX5_setWidth : ByteArray := prog_7_method_30_code
def yX5_setWidth : MethodName := ⟨RX5, "setWidth", "(I)I"⟩
abbrev cX5_scroll : ByteArray := prog_7_method_31_code
def yX5_scroll : MethodName := ⟨RX5, "scroll", "(I)I"⟩
abbrev cX5_jump : ByteArray := prog_7_method_32_code
def yX5_jump : MethodName := ⟨RX5, "jump", "(I)I"⟩
abbrev cX5_goTo : ByteArray := prog_7_method_33_code
def yX5_goTo : MethodName := ⟨RX5, "goTo", "(I)I"⟩
abbrev cX5_undo : ByteArray := prog_7_method_34_code
def yX5_undo : MethodName := ⟨RX5, "undo", "()I"⟩
abbrev cX5_append : ByteArray := prog_7_method_35_code
def yX5_append : MethodName := ⟨RX5, "append", "(I)I"⟩
abbrev cX5_clearText : ByteArray := prog_7_method_36_code
def yX5_clearText : MethodName := ⟨RX5, "clearText", "()I"⟩
abbrev cX5_next : ByteArray := prog_7_method_37_code
def yX5_next : MethodName := ⟨RX5, "next", "()I"⟩
abbrev cX5_begins : ByteArray := prog_7_method_38_code
def yX5_begins : MethodName := ⟨RX5, "begins", "()V"⟩
abbrev cX5_word : ByteArray := prog_7_method_39_code
def yX5_word : MethodName := ⟨RX5, "word", "()I"⟩
abbrev cX5_number : ByteArray := prog_7_method_40_code
def yX5_number : MethodName := ⟨RX5, "number", "()I"⟩
abbrev cX5_numbersOf : ByteArray := prog_7_method_41_code
def yX5_numbersOf : MethodName := ⟨RX5, "numbersOf", "(I)I"⟩
abbrev cX5_does : ByteArray := prog_7_method_42_code
def yX5_does : MethodName := ⟨RX5, "does", "(I)I"⟩
abbrev cX5_fails : ByteArray := prog_7_method_43_code
def yX5_fails : MethodName := ⟨RX5, "fails", "()I"⟩
abbrev cX5_run : ByteArray := prog_7_method_44_code
def yX5_run : MethodName := ⟨RX5, "run", "()I"⟩
abbrev cX5_seenLines : ByteArray := prog_7_method_45_code
def yX5_seenLines : MethodName := ⟨RX5, "seenLines", "()I"⟩
abbrev cX5_count : ByteArray := prog_7_method_46_code
def yX5_count : MethodName := ⟨RX5, "count", "(I)I"⟩
abbrev cX5_line : ByteArray := prog_7_method_47_code
def yX5_line : MethodName := ⟨RX5, "line", "(II)I"⟩
abbrev cX5_seen : ByteArray := prog_7_method_48_code
def yX5_seen : MethodName := ⟨RX5, "seen", "(I)I"⟩
abbrev cX5_at : ByteArray := prog_7_method_49_code
def yX5_at : MethodName := ⟨RX5, "at", "(I)I"⟩
abbrev cX5_share : ByteArray := prog_7_method_50_code
def yX5_share : MethodName := ⟨RX5, "share", "()I"⟩
abbrev cX5_trueSum : ByteArray := prog_7_method_51_code
def yX5_trueSum : MethodName := ⟨RX5, "trueSum", "(II)I"⟩
abbrev cX5_scrollsTo : ByteArray := prog_7_method_52_code
def yX5_scrollsTo : MethodName := ⟨RX5, "scrollsTo", "(II)I"⟩
abbrev cX5_measuredBy : ByteArray := prog_7_method_53_code
def yX5_measuredBy : MethodName := ⟨RX5, "measuredBy", "(I)I"⟩
def RJ9 : String := "java/lang/Math"
def TJ9 : u_T := fun k => match k with
  | _ => ("", "", "", false)
def tyJ9 : Nat → FieldType := fun k => match k with
  | _ => .int
abbrev wsJ90 : List Cond := u_ws RJ9 TJ9 0
theorem nmJ9 : ∀ a, a < 0 → ∀ b, b < 0 → a ≠ b → (TJ9 a).2.1 ≠ (TJ9 b).2.1 := by decide +kernel
theorem tyJ9_ok : ∀ k, k < 0 → parseFieldDescriptor (TJ9 k).2.2.1 = some (tyJ9 k) := by decide +kernel
abbrev cJ9_max_7cf53 : ByteArray := prog_8_method_65_code
def yJ9_max_7cf53 : MethodName := ⟨RJ9, "max", "(II)I"⟩
abbrev cJ9_min_7cf53 : ByteArray := prog_8_method_69_code
def yJ9_min_7cf53 : MethodName := ⟨RJ9, "min", "(II)I"⟩
def RJ0 : String := "java/lang/String"
def TJ0 : u_T := fun k => match k with
  | _ => ("", "", "", false)
def tyJ0 : Nat → FieldType := fun k => match k with
  | _ => .int
abbrev wsJ00 : List Cond := u_ws RJ0 TJ0 0
theorem nmJ0 : ∀ a, a < 0 → ∀ b, b < 0 → a ≠ b → (TJ0 a).2.1 ≠ (TJ0 b).2.1 := by decide +kernel
theorem tyJ0_ok : ∀ k, k < 0 → parseFieldDescriptor (TJ0 k).2.2.1 = some (tyJ0 k) := by decide +kernel
abbrev cJ0_length_8abf5 : ByteArray := prog_9_method_54_code
def yJ0_length_8abf5 : MethodName := ⟨RJ0, "length", "()I"⟩
abbrev cJ0_charAt_5068e : ByteArray := prog_9_method_56_code
def yJ0_charAt_5068e : MethodName := ⟨RJ0, "charAt", "(I)C"⟩
abbrev cJ0_coder_7d493 : ByteArray := prog_9_method_152_code
def yJ0_coder_7d493 : MethodName := ⟨RJ0, "coder", "()B"⟩
abbrev cJ0_isLatin1_aae02 : ByteArray := prog_9_method_154_code
def yJ0_isLatin1_aae02 : MethodName := ⟨RJ0, "isLatin1", "()Z"⟩
abbrev cJ0_checkIndex_df160 : ByteArray := prog_9_method_155_code
def yJ0_checkIndex_df160 : MethodName := ⟨RJ0, "checkIndex", "(II)V"⟩
def RJ1 : String := "java/lang/StringLatin1"
def TJ1 : u_T := fun k => match k with
  | _ => ("", "", "", false)
def tyJ1 : Nat → FieldType := fun k => match k with
  | _ => .int
abbrev wsJ10 : List Cond := u_ws RJ1 TJ1 0
theorem nmJ1 : ∀ a, a < 0 → ∀ b, b < 0 → a ≠ b → (TJ1 a).2.1 ≠ (TJ1 b).2.1 := by decide +kernel
theorem tyJ1_ok : ∀ k, k < 0 → parseFieldDescriptor (TJ1 k).2.2.1 = some (tyJ1 k) := by decide +kernel
abbrev cJ1_charAt_3b067 : ByteArray := prog_10_method_2_code
def yJ1_charAt_3b067 : MethodName := ⟨RJ1, "charAt", "([BI)C"⟩
def RJ2 : String := "java/lang/StringUTF16"
def TJ2 : u_T := fun k => match k with
  | _ => ("", "", "", false)
def tyJ2 : Nat → FieldType := fun k => match k with
  | _ => .int
abbrev wsJ20 : List Cond := u_ws RJ2 TJ2 0
theorem nmJ2 : ∀ a, a < 0 → ∀ b, b < 0 → a ≠ b → (TJ2 a).2.1 ≠ (TJ2 b).2.1 := by decide +kernel
theorem tyJ2_ok : ∀ k, k < 0 → parseFieldDescriptor (TJ2 k).2.2.1 = some (tyJ2 k) := by decide +kernel
abbrev cJ2_getChar_3b067 : ByteArray := prog_11_method_5_code
def yJ2_getChar_3b067 : MethodName := ⟨RJ2, "getChar", "([BI)C"⟩
abbrev cJ2_length_9d52b : ByteArray := prog_11_method_6_code
def yJ2_length_9d52b : MethodName := ⟨RJ2, "length", "([B)I"⟩
abbrev cJ2_charAt_3b067 : ByteArray := prog_11_method_83_code
def yJ2_charAt_3b067 : MethodName := ⟨RJ2, "charAt", "([BI)C"⟩
abbrev cJ2_checkIndex_2214a : ByteArray := prog_11_method_91_code
def yJ2_checkIndex_2214a : MethodName := ⟨RJ2, "checkIndex", "(I[B)V"⟩
def RJ10 : String := "java/lang/System"
def TJ10 : u_T := fun k => match k with
  | _ => ("", "", "", false)
def tyJ10 : Nat → FieldType := fun k => match k with
  | _ => .int
abbrev wsJ100 : List Cond := u_ws RJ10 TJ10 0
theorem nmJ10 : ∀ a, a < 0 → ∀ b, b < 0 → a ≠ b → (TJ10 a).2.1 ≠ (TJ10 b).2.1 := by decide +kernel
theorem tyJ10_ok : ∀ k, k < 0 → parseFieldDescriptor (TJ10 k).2.2.1 = some (tyJ10 k) := by decide +kernel
def RJ3 : String := "jdk/internal/util/Preconditions"
def TJ3 : u_T := fun k => match k with
  | _ => ("", "", "", false)
def tyJ3 : Nat → FieldType := fun k => match k with
  | _ => .int
abbrev wsJ30 : List Cond := u_ws RJ3 TJ3 0
theorem nmJ3 : ∀ a, a < 0 → ∀ b, b < 0 → a ≠ b → (TJ3 a).2.1 ≠ (TJ3 b).2.1 := by decide +kernel
theorem tyJ3_ok : ∀ k, k < 0 → parseFieldDescriptor (TJ3 k).2.2.1 = some (tyJ3 k) := by decide +kernel
abbrev cJ3_checkIndex_8e157 : ByteArray := prog_13_method_11_code
def yJ3_checkIndex_8e157 : MethodName := ⟨RJ3, "checkIndex", "(IILjava/util/function/BiFunction;)I"⟩
def RL : String := "WindowLinesLaw"
abbrev cL_law : ByteArray := code
def yL_law : MethodName := ⟨RL, "law", "([I)Z"⟩
def wsX1_init : List Cond := .code yX1_init cX1_init 1 none :: ([.methodLink RX1 3 objectInit, .instanceMethod objectInit, .code objectInit ⟨#[0xb1]⟩ 1 none, .arrayClass .int, .fieldLink RX1 9 "WindowLines$Lines" "kinds" "[I", .fieldLink RX1 15 "WindowLines$Lines" "lengths" "[I", .arrayClass .boolean, .fieldLink RX1 18 "WindowLines$Lines" "measured" "[Z", .fieldLink RX1 22 "WindowLines$Lines" "measuredSums" "[I", .fieldLink RX1 25 "WindowLines$Lines" "measuredCounts" "[I", .fieldLink RX1 28 "WindowLines$Lines" "width" "I"] ++ wsX10)
def wsX3_init : List Cond := .code yX3_init cX3_init 1 none :: ([.methodLink RX3 3 objectInit, .instanceMethod objectInit, .code objectInit ⟨#[0xb1]⟩ 1 none, .classLink RX3 9 RX1, .instantiable RX1 7, .initialized RX1, .fieldLink RX3 12 "WindowLines$Window" "lines" "LWindowLines$Lines;", .fieldLink RX3 18 "WindowLines$Window" "height" "I", .methodLink RX3 11 yX1_init, .instanceMethod yX1_init, .code yX1_init cX1_init 1 none, .methodLink RX1 3 objectInit, .arrayClass .int, .fieldLink RX1 9 "WindowLines$Lines" "kinds" "[I", .fieldLink RX1 15 "WindowLines$Lines" "lengths" "[I", .arrayClass .boolean, .fieldLink RX1 18 "WindowLines$Lines" "measured" "[Z", .fieldLink RX1 22 "WindowLines$Lines" "measuredSums" "[I", .fieldLink RX1 25 "WindowLines$Lines" "measuredCounts" "[I", .fieldLink RX1 28 "WindowLines$Lines" "width" "I"] ++ wsX10 ++ wsX30)
def wsX0_init_r1 : List Cond := [Cond.methodLink RX0 3 objectInit, Cond.instanceMethod objectInit, Cond.code objectInit ⟨#[0xb1]⟩ 1 none, Cond.classLink RX0 9 RX3, Cond.fieldLink RX0 11 "WindowLines$History" "states" "[LWindowLines$Window;", Cond.instantiable RX3 4, Cond.initialized RX3, Cond.methodLink RX0 17 yX3_init, Cond.instanceMethod yX3_init, Cond.code yX3_init cX3_init 1 none, Cond.methodLink RX3 3 objectInit, Cond.classLink RX3 9 RX1, Cond.instantiable RX1 7, Cond.initialized RX1, Cond.fieldLink RX3 12 "WindowLines$Window" "lines" "LWindowLines$Lines;", Cond.fieldLink RX3 18 "WindowLines$Window" "height" "I", Cond.methodLink RX3 11 yX1_init, Cond.instanceMethod yX1_init, Cond.code yX1_init cX1_init 1 none, Cond.methodLink RX1 3 objectInit, Cond.arrayClass .int, Cond.fieldLink RX1 9 "WindowLines$Lines" "kinds" "[I", Cond.fieldLink RX1 15 "WindowLines$Lines" "lengths" "[I", Cond.arrayClass .boolean]
def wsX0_init_r2 : List Cond := [Cond.fieldLink RX1 18 "WindowLines$Lines" "measured" "[Z", Cond.fieldLink RX1 22 "WindowLines$Lines" "measuredSums" "[I", Cond.fieldLink RX1 25 "WindowLines$Lines" "measuredCounts" "[I", Cond.fieldLink RX1 28 "WindowLines$Lines" "width" "I"]
def wsX0_init : List Cond := .code yX0_init cX0_init 2 none :: ((wsX0_init_r1 ++ wsX0_init_r2) ++ wsX00 ++ wsX30 ++ wsX10)
def wsX0_stateAt : List Cond := .code yX0_stateAt cX0_stateAt 2 (some (.object "WindowLines$Window")) :: ([.fieldLink RX0 11 "WindowLines$History" "states" "[LWindowLines$Window;"] ++ wsX00)
def wsX1_copyFrom : List Cond := .code yX1_copyFrom cX1_copyFrom 2 none :: ([.fieldLink RX1 9 "WindowLines$Lines" "kinds" "[I", .methodLink RX1 32 arraycopyName, .native arraycopyName, .static arraycopyName, .initialized "java/lang/System", .fieldLink RX1 15 "WindowLines$Lines" "lengths" "[I", .fieldLink RX1 18 "WindowLines$Lines" "measured" "[Z", .fieldLink RX1 22 "WindowLines$Lines" "measuredSums" "[I", .fieldLink RX1 25 "WindowLines$Lines" "measuredCounts" "[I", .fieldLink RX1 38 "WindowLines$Lines" "size" "I", .fieldLink RX1 28 "WindowLines$Lines" "width" "I"] ++ wsX10)
def wsX3_copyFrom : List Cond := .code yX3_copyFrom cX3_copyFrom 2 none :: ([.fieldLink RX3 12 "WindowLines$Window" "lines" "LWindowLines$Lines;", .fieldLink RX3 18 "WindowLines$Window" "height" "I", .fieldLink RX3 26 "WindowLines$Window" "anchor" "I", .fieldLink RX3 29 "WindowLines$Window" "shift" "I", .methodLink RX3 22 yX1_copyFrom, .instanceMethod yX1_copyFrom, .selects RX1 yX1_copyFrom yX1_copyFrom, .initialized RX1, .code yX1_copyFrom cX1_copyFrom 2 none, .fieldLink RX1 9 "WindowLines$Lines" "kinds" "[I", .methodLink RX1 32 arraycopyName, .native arraycopyName, .static arraycopyName, .initialized "java/lang/System", .fieldLink RX1 15 "WindowLines$Lines" "lengths" "[I", .fieldLink RX1 18 "WindowLines$Lines" "measured" "[Z", .fieldLink RX1 22 "WindowLines$Lines" "measuredSums" "[I", .fieldLink RX1 25 "WindowLines$Lines" "measuredCounts" "[I", .fieldLink RX1 38 "WindowLines$Lines" "size" "I", .fieldLink RX1 28 "WindowLines$Lines" "width" "I"] ++ wsX30 ++ wsX10)
def wsX0_record_r1 : List Cond := [Cond.fieldLink RX0 18 "WindowLines$History" "next" "I", Cond.fieldLink RX0 30 "WindowLines$History" "size" "I", Cond.methodLink RX0 33 Lib.Math.min.name, Cond.static Lib.Math.min.name, Cond.initialized "java/lang/Math", Cond.code Lib.Math.min.name Lib.Math.min.code 2 (some .int), Cond.methodLink RX0 22 yX0_stateAt, Cond.instanceMethod yX0_stateAt, Cond.selects RX0 yX0_stateAt yX0_stateAt, Cond.initialized RX0, Cond.code yX0_stateAt cX0_stateAt 2 (some (.object "WindowLines$Window")), Cond.fieldLink RX0 11 "WindowLines$History" "states" "[LWindowLines$Window;", Cond.methodLink RX0 26 yX3_copyFrom, Cond.instanceMethod yX3_copyFrom, Cond.selects RX3 yX3_copyFrom yX3_copyFrom, Cond.initialized RX3, Cond.code yX3_copyFrom cX3_copyFrom 2 none, Cond.fieldLink RX3 12 "WindowLines$Window" "lines" "LWindowLines$Lines;", Cond.fieldLink RX3 18 "WindowLines$Window" "height" "I", Cond.fieldLink RX3 26 "WindowLines$Window" "anchor" "I", Cond.fieldLink RX3 29 "WindowLines$Window" "shift" "I", Cond.methodLink RX3 22 yX1_copyFrom, Cond.instanceMethod yX1_copyFrom, Cond.selects RX1 yX1_copyFrom yX1_copyFrom]
def wsX0_record_r2 : List Cond := [Cond.initialized RX1, Cond.code yX1_copyFrom cX1_copyFrom 2 none, Cond.fieldLink RX1 9 "WindowLines$Lines" "kinds" "[I", Cond.methodLink RX1 32 arraycopyName, Cond.native arraycopyName, Cond.static arraycopyName, Cond.initialized "java/lang/System", Cond.fieldLink RX1 15 "WindowLines$Lines" "lengths" "[I", Cond.fieldLink RX1 18 "WindowLines$Lines" "measured" "[Z", Cond.fieldLink RX1 22 "WindowLines$Lines" "measuredSums" "[I", Cond.fieldLink RX1 25 "WindowLines$Lines" "measuredCounts" "[I", Cond.fieldLink RX1 38 "WindowLines$Lines" "size" "I", Cond.fieldLink RX1 28 "WindowLines$Lines" "width" "I"]
def wsX0_record : List Cond := .code yX0_record cX0_record 3 none :: ((wsX0_record_r1 ++ wsX0_record_r2) ++ wsX00 ++ wsX30 ++ wsX10)
def wsX0_restoreTo_r1 : List Cond := [Cond.fieldLink RX0 30 "WindowLines$History" "size" "I", Cond.fieldLink RX0 18 "WindowLines$History" "next" "I", Cond.methodLink RX0 22 yX0_stateAt, Cond.instanceMethod yX0_stateAt, Cond.selects RX0 yX0_stateAt yX0_stateAt, Cond.initialized RX0, Cond.code yX0_stateAt cX0_stateAt 2 (some (.object "WindowLines$Window")), Cond.fieldLink RX0 11 "WindowLines$History" "states" "[LWindowLines$Window;", Cond.methodLink RX0 26 yX3_copyFrom, Cond.instanceMethod yX3_copyFrom, Cond.selects RX3 yX3_copyFrom yX3_copyFrom, Cond.initialized RX3, Cond.code yX3_copyFrom cX3_copyFrom 2 none, Cond.fieldLink RX3 12 "WindowLines$Window" "lines" "LWindowLines$Lines;", Cond.fieldLink RX3 18 "WindowLines$Window" "height" "I", Cond.fieldLink RX3 26 "WindowLines$Window" "anchor" "I", Cond.fieldLink RX3 29 "WindowLines$Window" "shift" "I", Cond.methodLink RX3 22 yX1_copyFrom, Cond.instanceMethod yX1_copyFrom, Cond.selects RX1 yX1_copyFrom yX1_copyFrom, Cond.initialized RX1, Cond.code yX1_copyFrom cX1_copyFrom 2 none, Cond.fieldLink RX1 9 "WindowLines$Lines" "kinds" "[I", Cond.methodLink RX1 32 arraycopyName]
def wsX0_restoreTo_r2 : List Cond := [Cond.native arraycopyName, Cond.static arraycopyName, Cond.initialized "java/lang/System", Cond.fieldLink RX1 15 "WindowLines$Lines" "lengths" "[I", Cond.fieldLink RX1 18 "WindowLines$Lines" "measured" "[Z", Cond.fieldLink RX1 22 "WindowLines$Lines" "measuredSums" "[I", Cond.fieldLink RX1 25 "WindowLines$Lines" "measuredCounts" "[I", Cond.fieldLink RX1 38 "WindowLines$Lines" "size" "I", Cond.fieldLink RX1 28 "WindowLines$Lines" "width" "I"]
def wsX0_restoreTo : List Cond := .code yX0_restoreTo cX0_restoreTo 2 none :: ((wsX0_restoreTo_r1 ++ wsX0_restoreTo_r2) ++ wsX00 ++ wsX30 ++ wsX10)
def wsX1_isLine : List Cond := .code yX1_isLine cX1_isLine 2 (some .boolean) :: ([.fieldLink RX1 38 "WindowLines$Lines" "size" "I"] ++ wsX10)
def wsX1_isKind : List Cond := .code yX1_isKind cX1_isKind 2 (some .boolean) :: ([])
def wsX1_insert : List Cond := .code yX1_insert cX1_insert 4 none :: ([.fieldLink RX1 38 "WindowLines$Lines" "size" "I", .fieldLink RX1 9 "WindowLines$Lines" "kinds" "[I", .methodLink RX1 32 arraycopyName, .native arraycopyName, .static arraycopyName, .initialized "java/lang/System", .fieldLink RX1 15 "WindowLines$Lines" "lengths" "[I", .fieldLink RX1 18 "WindowLines$Lines" "measured" "[Z"] ++ wsX10)
def wsX1_trueHeight : List Cond := .code yX1_trueHeight cX1_trueHeight 4 (some .int) :: ([.fieldLink RX1 28 "WindowLines$Lines" "width" "I"] ++ wsX10)
def wsX1_forget : List Cond := .code yX1_forget cX1_forget 2 none :: ([.fieldLink RX1 18 "WindowLines$Lines" "measured" "[Z", .fieldLink RX1 9 "WindowLines$Lines" "kinds" "[I", .fieldLink RX1 22 "WindowLines$Lines" "measuredSums" "[I", .fieldLink RX1 15 "WindowLines$Lines" "lengths" "[I", .fieldLink RX1 25 "WindowLines$Lines" "measuredCounts" "[I", .methodLink RX1 41 yX1_isLine, .instanceMethod yX1_isLine, .selects RX1 yX1_isLine yX1_isLine, .initialized RX1, .code yX1_isLine cX1_isLine 2 (some .boolean), .fieldLink RX1 38 "WindowLines$Lines" "size" "I", .methodLink RX1 49 yX1_isKind, .instanceMethod yX1_isKind, .selects RX1 yX1_isKind yX1_isKind, .code yX1_isKind cX1_isKind 2 (some .boolean), .methodLink RX1 52 yX1_trueHeight, .instanceMethod yX1_trueHeight, .selects RX1 yX1_trueHeight yX1_trueHeight, .code yX1_trueHeight cX1_trueHeight 4 (some .int), .fieldLink RX1 28 "WindowLines$Lines" "width" "I"] ++ wsX10)
def wsX1_remove_r1 : List Cond := [Cond.fieldLink RX1 38 "WindowLines$Lines" "size" "I", Cond.fieldLink RX1 9 "WindowLines$Lines" "kinds" "[I", Cond.methodLink RX1 32 arraycopyName, Cond.native arraycopyName, Cond.static arraycopyName, Cond.initialized "java/lang/System", Cond.fieldLink RX1 15 "WindowLines$Lines" "lengths" "[I", Cond.fieldLink RX1 18 "WindowLines$Lines" "measured" "[Z", Cond.methodLink RX1 41 yX1_isLine, Cond.instanceMethod yX1_isLine, Cond.selects RX1 yX1_isLine yX1_isLine, Cond.initialized RX1, Cond.code yX1_isLine cX1_isLine 2 (some .boolean), Cond.methodLink RX1 45 yX1_forget, Cond.instanceMethod yX1_forget, Cond.selects RX1 yX1_forget yX1_forget, Cond.code yX1_forget cX1_forget 2 none, Cond.fieldLink RX1 22 "WindowLines$Lines" "measuredSums" "[I", Cond.fieldLink RX1 25 "WindowLines$Lines" "measuredCounts" "[I", Cond.methodLink RX1 49 yX1_isKind, Cond.instanceMethod yX1_isKind, Cond.selects RX1 yX1_isKind yX1_isKind, Cond.code yX1_isKind cX1_isKind 2 (some .boolean), Cond.methodLink RX1 52 yX1_trueHeight]
def wsX1_remove_r2 : List Cond := [Cond.instanceMethod yX1_trueHeight, Cond.selects RX1 yX1_trueHeight yX1_trueHeight, Cond.code yX1_trueHeight cX1_trueHeight 4 (some .int), Cond.fieldLink RX1 28 "WindowLines$Lines" "width" "I"]
def wsX1_remove : List Cond := .code yX1_remove cX1_remove 2 none :: ((wsX1_remove_r1 ++ wsX1_remove_r2) ++ wsX10)
def wsX1_setLength : List Cond := .code yX1_setLength cX1_setLength 3 none :: ([.fieldLink RX1 15 "WindowLines$Lines" "lengths" "[I", .methodLink RX1 41 yX1_isLine, .instanceMethod yX1_isLine, .selects RX1 yX1_isLine yX1_isLine, .initialized RX1, .code yX1_isLine cX1_isLine 2 (some .boolean), .fieldLink RX1 38 "WindowLines$Lines" "size" "I", .methodLink RX1 45 yX1_forget, .instanceMethod yX1_forget, .selects RX1 yX1_forget yX1_forget, .code yX1_forget cX1_forget 2 none, .fieldLink RX1 18 "WindowLines$Lines" "measured" "[Z", .fieldLink RX1 9 "WindowLines$Lines" "kinds" "[I", .fieldLink RX1 22 "WindowLines$Lines" "measuredSums" "[I", .fieldLink RX1 25 "WindowLines$Lines" "measuredCounts" "[I", .methodLink RX1 49 yX1_isKind, .instanceMethod yX1_isKind, .selects RX1 yX1_isKind yX1_isKind, .code yX1_isKind cX1_isKind 2 (some .boolean), .methodLink RX1 52 yX1_trueHeight, .instanceMethod yX1_trueHeight, .selects RX1 yX1_trueHeight yX1_trueHeight, .code yX1_trueHeight cX1_trueHeight 4 (some .int), .fieldLink RX1 28 "WindowLines$Lines" "width" "I"] ++ wsX10)
def wsX1_forgetAllFor : List Cond := .code yX1_forgetAllFor cX1_forgetAllFor 3 none :: ([.fieldLink RX1 38 "WindowLines$Lines" "size" "I", .fieldLink RX1 28 "WindowLines$Lines" "width" "I", .methodLink RX1 45 yX1_forget, .instanceMethod yX1_forget, .selects RX1 yX1_forget yX1_forget, .initialized RX1, .code yX1_forget cX1_forget 2 none, .fieldLink RX1 18 "WindowLines$Lines" "measured" "[Z", .fieldLink RX1 9 "WindowLines$Lines" "kinds" "[I", .fieldLink RX1 22 "WindowLines$Lines" "measuredSums" "[I", .fieldLink RX1 15 "WindowLines$Lines" "lengths" "[I", .fieldLink RX1 25 "WindowLines$Lines" "measuredCounts" "[I", .methodLink RX1 41 yX1_isLine, .instanceMethod yX1_isLine, .selects RX1 yX1_isLine yX1_isLine, .code yX1_isLine cX1_isLine 2 (some .boolean), .methodLink RX1 49 yX1_isKind, .instanceMethod yX1_isKind, .selects RX1 yX1_isKind yX1_isKind, .code yX1_isKind cX1_isKind 2 (some .boolean), .methodLink RX1 52 yX1_trueHeight, .instanceMethod yX1_trueHeight, .selects RX1 yX1_trueHeight yX1_trueHeight, .code yX1_trueHeight cX1_trueHeight 4 (some .int)] ++ wsX10)
def wsX1_measure : List Cond := .code yX1_measure cX1_measure 2 none :: ([.fieldLink RX1 18 "WindowLines$Lines" "measured" "[Z", .fieldLink RX1 9 "WindowLines$Lines" "kinds" "[I", .fieldLink RX1 22 "WindowLines$Lines" "measuredSums" "[I", .fieldLink RX1 15 "WindowLines$Lines" "lengths" "[I", .fieldLink RX1 25 "WindowLines$Lines" "measuredCounts" "[I", .methodLink RX1 41 yX1_isLine, .instanceMethod yX1_isLine, .selects RX1 yX1_isLine yX1_isLine, .initialized RX1, .code yX1_isLine cX1_isLine 2 (some .boolean), .fieldLink RX1 38 "WindowLines$Lines" "size" "I", .methodLink RX1 49 yX1_isKind, .instanceMethod yX1_isKind, .selects RX1 yX1_isKind yX1_isKind, .code yX1_isKind cX1_isKind 2 (some .boolean), .methodLink RX1 52 yX1_trueHeight, .instanceMethod yX1_trueHeight, .selects RX1 yX1_trueHeight yX1_trueHeight, .code yX1_trueHeight cX1_trueHeight 4 (some .int), .fieldLink RX1 28 "WindowLines$Lines" "width" "I"] ++ wsX10)
def wsX1_measuredLines : List Cond := .code yX1_measuredLines cX1_measuredLines 3 (some .int) :: ([.fieldLink RX1 25 "WindowLines$Lines" "measuredCounts" "[I"] ++ wsX10)
def wsX1_trueHeightOf : List Cond := .code yX1_trueHeightOf cX1_trueHeightOf 2 (some .int) :: ([.fieldLink RX1 9 "WindowLines$Lines" "kinds" "[I", .fieldLink RX1 15 "WindowLines$Lines" "lengths" "[I", .methodLink RX1 41 yX1_isLine, .instanceMethod yX1_isLine, .selects RX1 yX1_isLine yX1_isLine, .initialized RX1, .code yX1_isLine cX1_isLine 2 (some .boolean), .fieldLink RX1 38 "WindowLines$Lines" "size" "I", .methodLink RX1 52 yX1_trueHeight, .instanceMethod yX1_trueHeight, .selects RX1 yX1_trueHeight yX1_trueHeight, .code yX1_trueHeight cX1_trueHeight 4 (some .int), .fieldLink RX1 28 "WindowLines$Lines" "width" "I"] ++ wsX10)
def wsX1_guess : List Cond := .code yX1_guess cX1_guess 2 (some .int) :: ([.fieldLink RX1 25 "WindowLines$Lines" "measuredCounts" "[I", .fieldLink RX1 22 "WindowLines$Lines" "measuredSums" "[I"] ++ wsX10)
def wsX1_heightOf : List Cond := .code yX1_heightOf cX1_heightOf 2 (some .int) :: ([.fieldLink RX1 18 "WindowLines$Lines" "measured" "[Z", .fieldLink RX1 9 "WindowLines$Lines" "kinds" "[I", .fieldLink RX1 15 "WindowLines$Lines" "lengths" "[I", .methodLink RX1 41 yX1_isLine, .instanceMethod yX1_isLine, .selects RX1 yX1_isLine yX1_isLine, .initialized RX1, .code yX1_isLine cX1_isLine 2 (some .boolean), .fieldLink RX1 38 "WindowLines$Lines" "size" "I", .methodLink RX1 52 yX1_trueHeight, .instanceMethod yX1_trueHeight, .selects RX1 yX1_trueHeight yX1_trueHeight, .code yX1_trueHeight cX1_trueHeight 4 (some .int), .fieldLink RX1 28 "WindowLines$Lines" "width" "I", .methodLink RX1 56 yX1_guess, .instanceMethod yX1_guess, .selects RX1 yX1_guess yX1_guess, .code yX1_guess cX1_guess 2 (some .int), .fieldLink RX1 25 "WindowLines$Lines" "measuredCounts" "[I", .fieldLink RX1 22 "WindowLines$Lines" "measuredSums" "[I"] ++ wsX10)
def wsX1_topOf : List Cond := .code yX1_topOf cX1_topOf 4 (some .int) :: ([.fieldLink RX1 38 "WindowLines$Lines" "size" "I", .methodLink RX1 60 yX1_heightOf, .instanceMethod yX1_heightOf, .selects RX1 yX1_heightOf yX1_heightOf, .initialized RX1, .code yX1_heightOf cX1_heightOf 2 (some .int), .fieldLink RX1 18 "WindowLines$Lines" "measured" "[Z", .fieldLink RX1 9 "WindowLines$Lines" "kinds" "[I", .fieldLink RX1 15 "WindowLines$Lines" "lengths" "[I", .methodLink RX1 41 yX1_isLine, .instanceMethod yX1_isLine, .selects RX1 yX1_isLine yX1_isLine, .code yX1_isLine cX1_isLine 2 (some .boolean), .methodLink RX1 52 yX1_trueHeight, .instanceMethod yX1_trueHeight, .selects RX1 yX1_trueHeight yX1_trueHeight, .code yX1_trueHeight cX1_trueHeight 4 (some .int), .fieldLink RX1 28 "WindowLines$Lines" "width" "I", .methodLink RX1 56 yX1_guess, .instanceMethod yX1_guess, .selects RX1 yX1_guess yX1_guess, .code yX1_guess cX1_guess 2 (some .int), .fieldLink RX1 25 "WindowLines$Lines" "measuredCounts" "[I", .fieldLink RX1 22 "WindowLines$Lines" "measuredSums" "[I"] ++ wsX10)
def wsX1_total_r1 : List Cond := [Cond.fieldLink RX1 38 "WindowLines$Lines" "size" "I", Cond.methodLink RX1 63 yX1_topOf, Cond.instanceMethod yX1_topOf, Cond.selects RX1 yX1_topOf yX1_topOf, Cond.initialized RX1, Cond.code yX1_topOf cX1_topOf 4 (some .int), Cond.methodLink RX1 60 yX1_heightOf, Cond.instanceMethod yX1_heightOf, Cond.selects RX1 yX1_heightOf yX1_heightOf, Cond.code yX1_heightOf cX1_heightOf 2 (some .int), Cond.fieldLink RX1 18 "WindowLines$Lines" "measured" "[Z", Cond.fieldLink RX1 9 "WindowLines$Lines" "kinds" "[I", Cond.fieldLink RX1 15 "WindowLines$Lines" "lengths" "[I", Cond.methodLink RX1 41 yX1_isLine, Cond.instanceMethod yX1_isLine, Cond.selects RX1 yX1_isLine yX1_isLine, Cond.code yX1_isLine cX1_isLine 2 (some .boolean), Cond.methodLink RX1 52 yX1_trueHeight, Cond.instanceMethod yX1_trueHeight, Cond.selects RX1 yX1_trueHeight yX1_trueHeight, Cond.code yX1_trueHeight cX1_trueHeight 4 (some .int), Cond.fieldLink RX1 28 "WindowLines$Lines" "width" "I", Cond.methodLink RX1 56 yX1_guess, Cond.instanceMethod yX1_guess]
def wsX1_total_r2 : List Cond := [Cond.selects RX1 yX1_guess yX1_guess, Cond.code yX1_guess cX1_guess 2 (some .int), Cond.fieldLink RX1 25 "WindowLines$Lines" "measuredCounts" "[I", Cond.fieldLink RX1 22 "WindowLines$Lines" "measuredSums" "[I"]
def wsX1_total : List Cond := .code yX1_total cX1_total 1 (some .int) :: ((wsX1_total_r1 ++ wsX1_total_r2) ++ wsX10)
def wsX1_lineAt_r1 : List Cond := [Cond.fieldLink RX1 38 "WindowLines$Lines" "size" "I", Cond.constant RX1 66 (-100009), Cond.methodLink RX1 60 yX1_heightOf, Cond.instanceMethod yX1_heightOf, Cond.selects RX1 yX1_heightOf yX1_heightOf, Cond.initialized RX1, Cond.code yX1_heightOf cX1_heightOf 2 (some .int), Cond.fieldLink RX1 18 "WindowLines$Lines" "measured" "[Z", Cond.fieldLink RX1 9 "WindowLines$Lines" "kinds" "[I", Cond.fieldLink RX1 15 "WindowLines$Lines" "lengths" "[I", Cond.methodLink RX1 41 yX1_isLine, Cond.instanceMethod yX1_isLine, Cond.selects RX1 yX1_isLine yX1_isLine, Cond.code yX1_isLine cX1_isLine 2 (some .boolean), Cond.methodLink RX1 52 yX1_trueHeight, Cond.instanceMethod yX1_trueHeight, Cond.selects RX1 yX1_trueHeight yX1_trueHeight, Cond.code yX1_trueHeight cX1_trueHeight 4 (some .int), Cond.fieldLink RX1 28 "WindowLines$Lines" "width" "I", Cond.methodLink RX1 56 yX1_guess, Cond.instanceMethod yX1_guess, Cond.selects RX1 yX1_guess yX1_guess, Cond.code yX1_guess cX1_guess 2 (some .int), Cond.fieldLink RX1 25 "WindowLines$Lines" "measuredCounts" "[I"]
def wsX1_lineAt_r2 : List Cond := [Cond.fieldLink RX1 22 "WindowLines$Lines" "measuredSums" "[I"]
def wsX1_lineAt : List Cond := .code yX1_lineAt cX1_lineAt 4 (some .int) :: ((wsX1_lineAt_r1 ++ wsX1_lineAt_r2) ++ wsX10)
def wsX2_init : List Cond := .code yX2_init cX2_init 1 none :: ([.methodLink RX2 3 objectInit, .instanceMethod objectInit, .code objectInit ⟨#[0xb1]⟩ 1 none, .arrayClass .char, .fieldLink RX2 9 "WindowLines$Program" "text" "[C", .arrayClass .int, .fieldLink RX2 15 "WindowLines$Program" "numbers" "[I"] ++ wsX20)
def wsX2_add : List Cond := .code yX2_add cX2_add 2 (some .int) :: ([.fieldLink RX2 19 "WindowLines$Program" "length" "I", .constant RX2 23 (-100003), .fieldLink RX2 9 "WindowLines$Program" "text" "[C"] ++ wsX20)
def wsX2_clear : List Cond := .code yX2_clear cX2_clear 2 (some .int) :: ([.fieldLink RX2 19 "WindowLines$Program" "length" "I"] ++ wsX20)
def wsX2_rewind : List Cond := .code yX2_rewind cX2_rewind 1 none :: ([.fieldLink RX2 24 "WindowLines$Program" "start" "I", .fieldLink RX2 27 "WindowLines$Program" "end" "I", .fieldLink RX2 30 "WindowLines$Program" "place" "I"] ++ wsX20)
def wsX2_number : List Cond := .code yX2_number cX2_number 2 (some .int) :: ([.fieldLink RX2 15 "WindowLines$Program" "numbers" "[I"] ++ wsX20)
def wsX2_signAt : List Cond := .code yX2_signAt cX2_signAt 2 (some .char) :: ([.fieldLink RX2 19 "WindowLines$Program" "length" "I", .fieldLink RX2 9 "WindowLines$Program" "text" "[C"] ++ wsX20)
def wsX2_isLetter : List Cond := .code yX2_isLetter cX2_isLetter 1 (some .boolean) :: ([])
def wsX2_isDigit : List Cond := .code yX2_isDigit cX2_isDigit 1 (some .boolean) :: ([])
def wsX2_readToken : List Cond := .code yX2_readToken cX2_readToken 1 none :: ([.fieldLink RX2 27 "WindowLines$Program" "end" "I", .fieldLink RX2 24 "WindowLines$Program" "start" "I", .fieldLink RX2 19 "WindowLines$Program" "length" "I", .methodLink RX2 47 Lib.Math.min.name, .static Lib.Math.min.name, .initialized "java/lang/Math", .code Lib.Math.min.name Lib.Math.min.code 2 (some .int), .methodLink RX2 43 yX2_signAt, .instanceMethod yX2_signAt, .selects RX2 yX2_signAt yX2_signAt, .initialized RX2, .code yX2_signAt cX2_signAt 2 (some .char), .fieldLink RX2 9 "WindowLines$Program" "text" "[C", .methodLink RX2 53 yX2_isLetter, .static yX2_isLetter, .code yX2_isLetter cX2_isLetter 1 (some .boolean), .methodLink RX2 57 yX2_isDigit, .static yX2_isDigit, .code yX2_isDigit cX2_isDigit 1 (some .boolean)] ++ wsX20)
def wsX2_wordOf : List Cond := .code yX2_wordOf cX2_wordOf 1 (some (.object "java/lang/String")) :: ([])
def wsJ0_coder_7d493 : List Cond := .code yJ0_coder_7d493 cJ0_coder_7d493 1 (some .byte) :: ([.fieldLink RJ0 38 "java/lang/String" "COMPACT_STRINGS" "Z", .fieldLink RJ0 15 "java/lang/String" "coder" "B"])
def wsJ0_length_8abf5 : List Cond := .code yJ0_length_8abf5 cJ0_length_8abf5 1 (some .int) :: ([.fieldLink RJ0 9 "java/lang/String" "value" "[B", .methodLink RJ0 335 yJ0_coder_7d493, .instanceMethod yJ0_coder_7d493, .selects RJ0 yJ0_coder_7d493 yJ0_coder_7d493, .initialized RJ0, .code yJ0_coder_7d493 cJ0_coder_7d493 1 (some .byte), .fieldLink RJ0 38 "java/lang/String" "COMPACT_STRINGS" "Z", .fieldLink RJ0 15 "java/lang/String" "coder" "B"])
def wsJ0_isLatin1_aae02 : List Cond := .code yJ0_isLatin1_aae02 cJ0_isLatin1_aae02 1 (some .boolean) :: ([.fieldLink RJ0 38 "java/lang/String" "COMPACT_STRINGS" "Z", .fieldLink RJ0 15 "java/lang/String" "coder" "B"])
def wsJ3_checkIndex_8e157 : List Cond := .code yJ3_checkIndex_8e157 cJ3_checkIndex_8e157 3 (some .int) :: ([])
def wsJ0_checkIndex_df160 : List Cond := .code yJ0_checkIndex_df160 cJ0_checkIndex_df160 2 none :: ([.fieldLink RJ0 1053 "jdk/internal/util/Preconditions" "SIOOBE_FORMATTER" "Ljava/util/function/BiFunction;", .methodLink RJ0 1059 yJ3_checkIndex_8e157, .static yJ3_checkIndex_8e157, .initialized RJ3, .code yJ3_checkIndex_8e157 cJ3_checkIndex_8e157 3 (some .int)])
def wsJ1_charAt_3b067 : List Cond := .code yJ1_charAt_3b067 cJ1_charAt_3b067 2 (some .char) :: ([.methodLink RJ1 9 yJ0_checkIndex_df160, .static yJ0_checkIndex_df160, .initialized RJ0, .code yJ0_checkIndex_df160 cJ0_checkIndex_df160 2 none, .fieldLink RJ0 1053 "jdk/internal/util/Preconditions" "SIOOBE_FORMATTER" "Ljava/util/function/BiFunction;", .methodLink RJ0 1059 yJ3_checkIndex_8e157, .static yJ3_checkIndex_8e157, .initialized RJ3, .code yJ3_checkIndex_8e157 cJ3_checkIndex_8e157 3 (some .int)])
def wsJ2_length_9d52b : List Cond := .code yJ2_length_9d52b cJ2_length_9d52b 1 (some .int) :: ([])
def wsJ2_checkIndex_2214a : List Cond := .code yJ2_checkIndex_2214a cJ2_checkIndex_2214a 2 none :: ([.methodLink RJ2 48 yJ2_length_9d52b, .static yJ2_length_9d52b, .initialized RJ2, .code yJ2_length_9d52b cJ2_length_9d52b 1 (some .int), .methodLink RJ2 414 yJ0_checkIndex_df160, .static yJ0_checkIndex_df160, .initialized RJ0, .code yJ0_checkIndex_df160 cJ0_checkIndex_df160 2 none, .fieldLink RJ0 1053 "jdk/internal/util/Preconditions" "SIOOBE_FORMATTER" "Ljava/util/function/BiFunction;", .methodLink RJ0 1059 yJ3_checkIndex_8e157, .static yJ3_checkIndex_8e157, .initialized RJ3, .code yJ3_checkIndex_8e157 cJ3_checkIndex_8e157 3 (some .int)])
def wsJ2_getChar_3b067 : List Cond := .code yJ2_getChar_3b067 cJ2_getChar_3b067 2 (some .char) :: ([.fieldLink RJ2 44 "java/lang/StringUTF16" "$assertionsDisabled" "Z", .fieldLink RJ2 59 "java/lang/StringUTF16" "HI_BYTE_SHIFT" "I", .fieldLink RJ2 63 "java/lang/StringUTF16" "LO_BYTE_SHIFT" "I", .methodLink RJ2 48 yJ2_length_9d52b, .static yJ2_length_9d52b, .initialized RJ2, .code yJ2_length_9d52b cJ2_length_9d52b 1 (some .int)])
def wsJ2_charAt_3b067 : List Cond := .code yJ2_charAt_3b067 cJ2_charAt_3b067 2 (some .char) :: ([.methodLink RJ2 67 yJ2_checkIndex_2214a, .static yJ2_checkIndex_2214a, .initialized RJ2, .code yJ2_checkIndex_2214a cJ2_checkIndex_2214a 2 none, .methodLink RJ2 48 yJ2_length_9d52b, .static yJ2_length_9d52b, .code yJ2_length_9d52b cJ2_length_9d52b 1 (some .int), .methodLink RJ2 414 yJ0_checkIndex_df160, .static yJ0_checkIndex_df160, .initialized RJ0, .code yJ0_checkIndex_df160 cJ0_checkIndex_df160 2 none, .fieldLink RJ0 1053 "jdk/internal/util/Preconditions" "SIOOBE_FORMATTER" "Ljava/util/function/BiFunction;", .methodLink RJ0 1059 yJ3_checkIndex_8e157, .static yJ3_checkIndex_8e157, .initialized RJ3, .code yJ3_checkIndex_8e157 cJ3_checkIndex_8e157 3 (some .int), .methodLink RJ2 71 yJ2_getChar_3b067, .static yJ2_getChar_3b067, .code yJ2_getChar_3b067 cJ2_getChar_3b067 2 (some .char), .fieldLink RJ2 44 "java/lang/StringUTF16" "$assertionsDisabled" "Z", .fieldLink RJ2 59 "java/lang/StringUTF16" "HI_BYTE_SHIFT" "I", .fieldLink RJ2 63 "java/lang/StringUTF16" "LO_BYTE_SHIFT" "I"])
def wsJ0_charAt_5068e_r1 : List Cond := [Cond.fieldLink RJ0 9 "java/lang/String" "value" "[B", Cond.methodLink RJ0 492 yJ0_isLatin1_aae02, Cond.instanceMethod yJ0_isLatin1_aae02, Cond.selects RJ0 yJ0_isLatin1_aae02 yJ0_isLatin1_aae02, Cond.initialized RJ0, Cond.code yJ0_isLatin1_aae02 cJ0_isLatin1_aae02 1 (some .boolean), Cond.fieldLink RJ0 38 "java/lang/String" "COMPACT_STRINGS" "Z", Cond.fieldLink RJ0 15 "java/lang/String" "coder" "B", Cond.methodLink RJ0 495 yJ1_charAt_3b067, Cond.static yJ1_charAt_3b067, Cond.initialized RJ1, Cond.code yJ1_charAt_3b067 cJ1_charAt_3b067 2 (some .char), Cond.methodLink RJ1 9 yJ0_checkIndex_df160, Cond.static yJ0_checkIndex_df160, Cond.code yJ0_checkIndex_df160 cJ0_checkIndex_df160 2 none, Cond.fieldLink RJ0 1053 "jdk/internal/util/Preconditions" "SIOOBE_FORMATTER" "Ljava/util/function/BiFunction;", Cond.methodLink RJ0 1059 yJ3_checkIndex_8e157, Cond.static yJ3_checkIndex_8e157, Cond.initialized RJ3, Cond.code yJ3_checkIndex_8e157 cJ3_checkIndex_8e157 3 (some .int), Cond.methodLink RJ0 498 yJ2_charAt_3b067, Cond.static yJ2_charAt_3b067, Cond.initialized RJ2, Cond.code yJ2_charAt_3b067 cJ2_charAt_3b067 2 (some .char)]
def wsJ0_charAt_5068e_r2 : List Cond := [Cond.methodLink RJ2 67 yJ2_checkIndex_2214a, Cond.static yJ2_checkIndex_2214a, Cond.code yJ2_checkIndex_2214a cJ2_checkIndex_2214a 2 none, Cond.methodLink RJ2 48 yJ2_length_9d52b, Cond.static yJ2_length_9d52b, Cond.code yJ2_length_9d52b cJ2_length_9d52b 1 (some .int), Cond.methodLink RJ2 414 yJ0_checkIndex_df160, Cond.methodLink RJ2 71 yJ2_getChar_3b067, Cond.static yJ2_getChar_3b067, Cond.code yJ2_getChar_3b067 cJ2_getChar_3b067 2 (some .char), Cond.fieldLink RJ2 44 "java/lang/StringUTF16" "$assertionsDisabled" "Z", Cond.fieldLink RJ2 59 "java/lang/StringUTF16" "HI_BYTE_SHIFT" "I", Cond.fieldLink RJ2 63 "java/lang/StringUTF16" "LO_BYTE_SHIFT" "I"]
def wsJ0_charAt_5068e : List Cond := .code yJ0_charAt_5068e cJ0_charAt_5068e 2 (some .char) :: ((wsJ0_charAt_5068e_r1 ++ wsJ0_charAt_5068e_r2))
def wsX2_tokenIs_r1 : List Cond := [Cond.fieldLink RX2 27 "WindowLines$Program" "end" "I", Cond.fieldLink RX2 24 "WindowLines$Program" "start" "I", Cond.methodLink RX2 68 yJ0_length_8abf5, Cond.instanceMethod yJ0_length_8abf5, Cond.selects RJ0 yJ0_length_8abf5 yJ0_length_8abf5, Cond.initialized RJ0, Cond.code yJ0_length_8abf5 cJ0_length_8abf5 1 (some .int), Cond.fieldLink RJ0 9 "java/lang/String" "value" "[B", Cond.methodLink RJ0 335 yJ0_coder_7d493, Cond.instanceMethod yJ0_coder_7d493, Cond.selects RJ0 yJ0_coder_7d493 yJ0_coder_7d493, Cond.code yJ0_coder_7d493 cJ0_coder_7d493 1 (some .byte), Cond.fieldLink RJ0 38 "java/lang/String" "COMPACT_STRINGS" "Z", Cond.fieldLink RJ0 15 "java/lang/String" "coder" "B", Cond.methodLink RX2 72 yJ0_charAt_5068e, Cond.instanceMethod yJ0_charAt_5068e, Cond.selects RJ0 yJ0_charAt_5068e yJ0_charAt_5068e, Cond.code yJ0_charAt_5068e cJ0_charAt_5068e 2 (some .char), Cond.methodLink RJ0 492 yJ0_isLatin1_aae02, Cond.instanceMethod yJ0_isLatin1_aae02, Cond.selects RJ0 yJ0_isLatin1_aae02 yJ0_isLatin1_aae02, Cond.code yJ0_isLatin1_aae02 cJ0_isLatin1_aae02 1 (some .boolean), Cond.methodLink RJ0 495 yJ1_charAt_3b067, Cond.static yJ1_charAt_3b067]
def wsX2_tokenIs_r2 : List Cond := [Cond.initialized RJ1, Cond.code yJ1_charAt_3b067 cJ1_charAt_3b067 2 (some .char), Cond.methodLink RJ1 9 yJ0_checkIndex_df160, Cond.static yJ0_checkIndex_df160, Cond.code yJ0_checkIndex_df160 cJ0_checkIndex_df160 2 none, Cond.fieldLink RJ0 1053 "jdk/internal/util/Preconditions" "SIOOBE_FORMATTER" "Ljava/util/function/BiFunction;", Cond.methodLink RJ0 1059 yJ3_checkIndex_8e157, Cond.static yJ3_checkIndex_8e157, Cond.initialized RJ3, Cond.code yJ3_checkIndex_8e157 cJ3_checkIndex_8e157 3 (some .int), Cond.methodLink RJ0 498 yJ2_charAt_3b067, Cond.static yJ2_charAt_3b067, Cond.initialized RJ2, Cond.code yJ2_charAt_3b067 cJ2_charAt_3b067 2 (some .char), Cond.methodLink RJ2 67 yJ2_checkIndex_2214a, Cond.static yJ2_checkIndex_2214a, Cond.code yJ2_checkIndex_2214a cJ2_checkIndex_2214a 2 none, Cond.methodLink RJ2 48 yJ2_length_9d52b, Cond.static yJ2_length_9d52b, Cond.code yJ2_length_9d52b cJ2_length_9d52b 1 (some .int), Cond.methodLink RJ2 414 yJ0_checkIndex_df160, Cond.methodLink RJ2 71 yJ2_getChar_3b067, Cond.static yJ2_getChar_3b067, Cond.code yJ2_getChar_3b067 cJ2_getChar_3b067 2 (some .char)]
def wsX2_tokenIs_r3 : List Cond := [Cond.fieldLink RJ2 44 "java/lang/StringUTF16" "$assertionsDisabled" "Z", Cond.fieldLink RJ2 59 "java/lang/StringUTF16" "HI_BYTE_SHIFT" "I", Cond.fieldLink RJ2 63 "java/lang/StringUTF16" "LO_BYTE_SHIFT" "I", Cond.methodLink RX2 43 yX2_signAt, Cond.instanceMethod yX2_signAt, Cond.selects RX2 yX2_signAt yX2_signAt, Cond.initialized RX2, Cond.code yX2_signAt cX2_signAt 2 (some .char), Cond.fieldLink RX2 19 "WindowLines$Program" "length" "I", Cond.fieldLink RX2 9 "WindowLines$Program" "text" "[C"]
def wsX2_tokenIs : List Cond := .code yX2_tokenIs cX2_tokenIs 3 (some .boolean) :: ((wsX2_tokenIs_r1 ++ (wsX2_tokenIs_r2 ++ wsX2_tokenIs_r3)) ++ wsX20)
def wsX2_commandOfToken_r1 : List Cond := [Cond.methodLink RX2 60 yX2_wordOf, Cond.static yX2_wordOf, Cond.initialized RX2, Cond.code yX2_wordOf cX2_wordOf 1 (some (.object "java/lang/String")), Cond.methodLink RX2 64 yX2_tokenIs, Cond.instanceMethod yX2_tokenIs, Cond.selects RX2 yX2_tokenIs yX2_tokenIs, Cond.code yX2_tokenIs cX2_tokenIs 3 (some .boolean), Cond.fieldLink RX2 27 "WindowLines$Program" "end" "I", Cond.fieldLink RX2 24 "WindowLines$Program" "start" "I", Cond.methodLink RX2 68 yJ0_length_8abf5, Cond.instanceMethod yJ0_length_8abf5, Cond.selects RJ0 yJ0_length_8abf5 yJ0_length_8abf5, Cond.initialized RJ0, Cond.code yJ0_length_8abf5 cJ0_length_8abf5 1 (some .int), Cond.fieldLink RJ0 9 "java/lang/String" "value" "[B", Cond.methodLink RJ0 335 yJ0_coder_7d493, Cond.instanceMethod yJ0_coder_7d493, Cond.selects RJ0 yJ0_coder_7d493 yJ0_coder_7d493, Cond.code yJ0_coder_7d493 cJ0_coder_7d493 1 (some .byte), Cond.fieldLink RJ0 38 "java/lang/String" "COMPACT_STRINGS" "Z", Cond.fieldLink RJ0 15 "java/lang/String" "coder" "B", Cond.methodLink RX2 72 yJ0_charAt_5068e, Cond.instanceMethod yJ0_charAt_5068e]
def wsX2_commandOfToken_r2 : List Cond := [Cond.selects RJ0 yJ0_charAt_5068e yJ0_charAt_5068e, Cond.code yJ0_charAt_5068e cJ0_charAt_5068e 2 (some .char), Cond.methodLink RJ0 492 yJ0_isLatin1_aae02, Cond.instanceMethod yJ0_isLatin1_aae02, Cond.selects RJ0 yJ0_isLatin1_aae02 yJ0_isLatin1_aae02, Cond.code yJ0_isLatin1_aae02 cJ0_isLatin1_aae02 1 (some .boolean), Cond.methodLink RJ0 495 yJ1_charAt_3b067, Cond.static yJ1_charAt_3b067, Cond.initialized RJ1, Cond.code yJ1_charAt_3b067 cJ1_charAt_3b067 2 (some .char), Cond.methodLink RJ1 9 yJ0_checkIndex_df160, Cond.static yJ0_checkIndex_df160, Cond.code yJ0_checkIndex_df160 cJ0_checkIndex_df160 2 none, Cond.fieldLink RJ0 1053 "jdk/internal/util/Preconditions" "SIOOBE_FORMATTER" "Ljava/util/function/BiFunction;", Cond.methodLink RJ0 1059 yJ3_checkIndex_8e157, Cond.static yJ3_checkIndex_8e157, Cond.initialized RJ3, Cond.code yJ3_checkIndex_8e157 cJ3_checkIndex_8e157 3 (some .int), Cond.methodLink RJ0 498 yJ2_charAt_3b067, Cond.static yJ2_charAt_3b067, Cond.initialized RJ2, Cond.code yJ2_charAt_3b067 cJ2_charAt_3b067 2 (some .char), Cond.methodLink RJ2 67 yJ2_checkIndex_2214a, Cond.static yJ2_checkIndex_2214a]
def wsX2_commandOfToken_r3 : List Cond := [Cond.code yJ2_checkIndex_2214a cJ2_checkIndex_2214a 2 none, Cond.methodLink RJ2 48 yJ2_length_9d52b, Cond.static yJ2_length_9d52b, Cond.code yJ2_length_9d52b cJ2_length_9d52b 1 (some .int), Cond.methodLink RJ2 414 yJ0_checkIndex_df160, Cond.methodLink RJ2 71 yJ2_getChar_3b067, Cond.static yJ2_getChar_3b067, Cond.code yJ2_getChar_3b067 cJ2_getChar_3b067 2 (some .char), Cond.fieldLink RJ2 44 "java/lang/StringUTF16" "$assertionsDisabled" "Z", Cond.fieldLink RJ2 59 "java/lang/StringUTF16" "HI_BYTE_SHIFT" "I", Cond.fieldLink RJ2 63 "java/lang/StringUTF16" "LO_BYTE_SHIFT" "I", Cond.methodLink RX2 43 yX2_signAt, Cond.instanceMethod yX2_signAt, Cond.selects RX2 yX2_signAt yX2_signAt, Cond.code yX2_signAt cX2_signAt 2 (some .char), Cond.fieldLink RX2 19 "WindowLines$Program" "length" "I", Cond.fieldLink RX2 9 "WindowLines$Program" "text" "[C"]
def wsX2_commandOfToken : List Cond := .code yX2_commandOfToken cX2_commandOfToken 2 (some .int) :: ((wsX2_commandOfToken_r1 ++ (wsX2_commandOfToken_r2 ++ wsX2_commandOfToken_r3)) ++ wsX20)
def wsX2_numberOfToken : List Cond := .code yX2_numberOfToken cX2_numberOfToken 4 (some .int) :: ([.fieldLink RX2 27 "WindowLines$Program" "end" "I", .fieldLink RX2 24 "WindowLines$Program" "start" "I", .methodLink RX2 43 yX2_signAt, .instanceMethod yX2_signAt, .selects RX2 yX2_signAt yX2_signAt, .initialized RX2, .code yX2_signAt cX2_signAt 2 (some .char), .fieldLink RX2 19 "WindowLines$Program" "length" "I", .fieldLink RX2 9 "WindowLines$Program" "text" "[C", .methodLink RX2 57 yX2_isDigit, .static yX2_isDigit, .code yX2_isDigit cX2_isDigit 1 (some .boolean)] ++ wsX20)
def wsX2_readCommand_r1 : List Cond := [Cond.fieldLink RX2 24 "WindowLines$Program" "start" "I", Cond.fieldLink RX2 19 "WindowLines$Program" "length" "I", Cond.fieldLink RX2 30 "WindowLines$Program" "place" "I", Cond.fieldLink RX2 15 "WindowLines$Program" "numbers" "[I", Cond.methodLink RX2 33 yX2_readToken, Cond.instanceMethod yX2_readToken, Cond.selects RX2 yX2_readToken yX2_readToken, Cond.initialized RX2, Cond.code yX2_readToken cX2_readToken 1 none, Cond.fieldLink RX2 27 "WindowLines$Program" "end" "I", Cond.methodLink RX2 47 Lib.Math.min.name, Cond.static Lib.Math.min.name, Cond.initialized "java/lang/Math", Cond.code Lib.Math.min.name Lib.Math.min.code 2 (some .int), Cond.methodLink RX2 43 yX2_signAt, Cond.instanceMethod yX2_signAt, Cond.selects RX2 yX2_signAt yX2_signAt, Cond.code yX2_signAt cX2_signAt 2 (some .char), Cond.fieldLink RX2 9 "WindowLines$Program" "text" "[C", Cond.methodLink RX2 53 yX2_isLetter, Cond.static yX2_isLetter, Cond.code yX2_isLetter cX2_isLetter 1 (some .boolean), Cond.methodLink RX2 57 yX2_isDigit, Cond.static yX2_isDigit]
def wsX2_readCommand_r2 : List Cond := [Cond.code yX2_isDigit cX2_isDigit 1 (some .boolean), Cond.methodLink RX2 36 yX2_commandOfToken, Cond.instanceMethod yX2_commandOfToken, Cond.selects RX2 yX2_commandOfToken yX2_commandOfToken, Cond.code yX2_commandOfToken cX2_commandOfToken 2 (some .int), Cond.methodLink RX2 60 yX2_wordOf, Cond.static yX2_wordOf, Cond.code yX2_wordOf cX2_wordOf 1 (some (.object "java/lang/String")), Cond.methodLink RX2 64 yX2_tokenIs, Cond.instanceMethod yX2_tokenIs, Cond.selects RX2 yX2_tokenIs yX2_tokenIs, Cond.code yX2_tokenIs cX2_tokenIs 3 (some .boolean), Cond.methodLink RX2 68 yJ0_length_8abf5, Cond.instanceMethod yJ0_length_8abf5, Cond.selects RJ0 yJ0_length_8abf5 yJ0_length_8abf5, Cond.initialized RJ0, Cond.code yJ0_length_8abf5 cJ0_length_8abf5 1 (some .int), Cond.fieldLink RJ0 9 "java/lang/String" "value" "[B", Cond.methodLink RJ0 335 yJ0_coder_7d493, Cond.instanceMethod yJ0_coder_7d493, Cond.selects RJ0 yJ0_coder_7d493 yJ0_coder_7d493, Cond.code yJ0_coder_7d493 cJ0_coder_7d493 1 (some .byte), Cond.fieldLink RJ0 38 "java/lang/String" "COMPACT_STRINGS" "Z", Cond.fieldLink RJ0 15 "java/lang/String" "coder" "B"]
def wsX2_readCommand_r3 : List Cond := [Cond.methodLink RX2 72 yJ0_charAt_5068e, Cond.instanceMethod yJ0_charAt_5068e, Cond.selects RJ0 yJ0_charAt_5068e yJ0_charAt_5068e, Cond.code yJ0_charAt_5068e cJ0_charAt_5068e 2 (some .char), Cond.methodLink RJ0 492 yJ0_isLatin1_aae02, Cond.instanceMethod yJ0_isLatin1_aae02, Cond.selects RJ0 yJ0_isLatin1_aae02 yJ0_isLatin1_aae02, Cond.code yJ0_isLatin1_aae02 cJ0_isLatin1_aae02 1 (some .boolean), Cond.methodLink RJ0 495 yJ1_charAt_3b067, Cond.static yJ1_charAt_3b067, Cond.initialized RJ1, Cond.code yJ1_charAt_3b067 cJ1_charAt_3b067 2 (some .char), Cond.methodLink RJ1 9 yJ0_checkIndex_df160, Cond.static yJ0_checkIndex_df160, Cond.code yJ0_checkIndex_df160 cJ0_checkIndex_df160 2 none, Cond.fieldLink RJ0 1053 "jdk/internal/util/Preconditions" "SIOOBE_FORMATTER" "Ljava/util/function/BiFunction;", Cond.methodLink RJ0 1059 yJ3_checkIndex_8e157, Cond.static yJ3_checkIndex_8e157, Cond.initialized RJ3, Cond.code yJ3_checkIndex_8e157 cJ3_checkIndex_8e157 3 (some .int), Cond.methodLink RJ0 498 yJ2_charAt_3b067, Cond.static yJ2_charAt_3b067, Cond.initialized RJ2, Cond.code yJ2_charAt_3b067 cJ2_charAt_3b067 2 (some .char)]
def wsX2_readCommand_r4 : List Cond := [Cond.methodLink RJ2 67 yJ2_checkIndex_2214a, Cond.static yJ2_checkIndex_2214a, Cond.code yJ2_checkIndex_2214a cJ2_checkIndex_2214a 2 none, Cond.methodLink RJ2 48 yJ2_length_9d52b, Cond.static yJ2_length_9d52b, Cond.code yJ2_length_9d52b cJ2_length_9d52b 1 (some .int), Cond.methodLink RJ2 414 yJ0_checkIndex_df160, Cond.methodLink RJ2 71 yJ2_getChar_3b067, Cond.static yJ2_getChar_3b067, Cond.code yJ2_getChar_3b067 cJ2_getChar_3b067 2 (some .char), Cond.fieldLink RJ2 44 "java/lang/StringUTF16" "$assertionsDisabled" "Z", Cond.fieldLink RJ2 59 "java/lang/StringUTF16" "HI_BYTE_SHIFT" "I", Cond.fieldLink RJ2 63 "java/lang/StringUTF16" "LO_BYTE_SHIFT" "I", Cond.methodLink RX2 40 yX2_numberOfToken, Cond.instanceMethod yX2_numberOfToken, Cond.selects RX2 yX2_numberOfToken yX2_numberOfToken, Cond.code yX2_numberOfToken cX2_numberOfToken 4 (some .int)]
def wsX2_readCommand : List Cond := .code yX2_readCommand cX2_readCommand 4 (some .int) :: ((wsX2_readCommand_r1 ++ (wsX2_readCommand_r2 ++ (wsX2_readCommand_r3 ++ wsX2_readCommand_r4))) ++ wsX20)
def wsX4_isOutside : List Cond := .code yX4_isOutside cX4_isOutside 3 (some .boolean) :: ([])
def wsX3_descend_r1 : List Cond := [Cond.fieldLink RX3 12 "WindowLines$Window" "lines" "LWindowLines$Lines;", Cond.fieldLink RX3 26 "WindowLines$Window" "anchor" "I", Cond.fieldLink RX3 32 "WindowLines$Lines" "size" "I", Cond.fieldLink RX3 29 "WindowLines$Window" "shift" "I", Cond.methodLink RX3 100 yX1_measure, Cond.instanceMethod yX1_measure, Cond.selects RX1 yX1_measure yX1_measure, Cond.initialized RX1, Cond.code yX1_measure cX1_measure 2 none, Cond.fieldLink RX1 18 "WindowLines$Lines" "measured" "[Z", Cond.fieldLink RX1 9 "WindowLines$Lines" "kinds" "[I", Cond.fieldLink RX1 22 "WindowLines$Lines" "measuredSums" "[I", Cond.fieldLink RX1 15 "WindowLines$Lines" "lengths" "[I", Cond.fieldLink RX1 25 "WindowLines$Lines" "measuredCounts" "[I", Cond.methodLink RX1 41 yX1_isLine, Cond.instanceMethod yX1_isLine, Cond.selects RX1 yX1_isLine yX1_isLine, Cond.code yX1_isLine cX1_isLine 2 (some .boolean), Cond.fieldLink RX1 38 "WindowLines$Lines" "size" "I", Cond.methodLink RX1 49 yX1_isKind, Cond.instanceMethod yX1_isKind, Cond.selects RX1 yX1_isKind yX1_isKind, Cond.code yX1_isKind cX1_isKind 2 (some .boolean), Cond.methodLink RX1 52 yX1_trueHeight]
def wsX3_descend_r2 : List Cond := [Cond.instanceMethod yX1_trueHeight, Cond.selects RX1 yX1_trueHeight yX1_trueHeight, Cond.code yX1_trueHeight cX1_trueHeight 4 (some .int), Cond.fieldLink RX1 28 "WindowLines$Lines" "width" "I", Cond.methodLink RX3 97 yX1_heightOf, Cond.instanceMethod yX1_heightOf, Cond.selects RX1 yX1_heightOf yX1_heightOf, Cond.code yX1_heightOf cX1_heightOf 2 (some .int), Cond.methodLink RX1 56 yX1_guess, Cond.instanceMethod yX1_guess, Cond.selects RX1 yX1_guess yX1_guess, Cond.code yX1_guess cX1_guess 2 (some .int)]
def wsX3_descend : List Cond := .code yX3_descend cX3_descend 1 none :: ((wsX3_descend_r1 ++ wsX3_descend_r2) ++ wsX30 ++ wsX10)
def wsX3_climb_r1 : List Cond := [Cond.fieldLink RX3 26 "WindowLines$Window" "anchor" "I", Cond.fieldLink RX3 29 "WindowLines$Window" "shift" "I", Cond.fieldLink RX3 12 "WindowLines$Window" "lines" "LWindowLines$Lines;", Cond.methodLink RX3 81 Lib.Math.max.name, Cond.static Lib.Math.max.name, Cond.initialized "java/lang/Math", Cond.code Lib.Math.max.name Lib.Math.max.code 2 (some .int), Cond.methodLink RX3 100 yX1_measure, Cond.instanceMethod yX1_measure, Cond.selects RX1 yX1_measure yX1_measure, Cond.initialized RX1, Cond.code yX1_measure cX1_measure 2 none, Cond.fieldLink RX1 18 "WindowLines$Lines" "measured" "[Z", Cond.fieldLink RX1 9 "WindowLines$Lines" "kinds" "[I", Cond.fieldLink RX1 22 "WindowLines$Lines" "measuredSums" "[I", Cond.fieldLink RX1 15 "WindowLines$Lines" "lengths" "[I", Cond.fieldLink RX1 25 "WindowLines$Lines" "measuredCounts" "[I", Cond.methodLink RX1 41 yX1_isLine, Cond.instanceMethod yX1_isLine, Cond.selects RX1 yX1_isLine yX1_isLine, Cond.code yX1_isLine cX1_isLine 2 (some .boolean), Cond.fieldLink RX1 38 "WindowLines$Lines" "size" "I", Cond.methodLink RX1 49 yX1_isKind, Cond.instanceMethod yX1_isKind]
def wsX3_climb_r2 : List Cond := [Cond.selects RX1 yX1_isKind yX1_isKind, Cond.code yX1_isKind cX1_isKind 2 (some .boolean), Cond.methodLink RX1 52 yX1_trueHeight, Cond.instanceMethod yX1_trueHeight, Cond.selects RX1 yX1_trueHeight yX1_trueHeight, Cond.code yX1_trueHeight cX1_trueHeight 4 (some .int), Cond.fieldLink RX1 28 "WindowLines$Lines" "width" "I", Cond.methodLink RX3 97 yX1_heightOf, Cond.instanceMethod yX1_heightOf, Cond.selects RX1 yX1_heightOf yX1_heightOf, Cond.code yX1_heightOf cX1_heightOf 2 (some .int), Cond.methodLink RX1 56 yX1_guess, Cond.instanceMethod yX1_guess, Cond.selects RX1 yX1_guess yX1_guess, Cond.code yX1_guess cX1_guess 2 (some .int)]
def wsX3_climb : List Cond := .code yX3_climb cX3_climb 1 none :: ((wsX3_climb_r1 ++ wsX3_climb_r2) ++ wsX30 ++ wsX10)
def wsX3_settle_r1 : List Cond := [Cond.fieldLink RX3 12 "WindowLines$Window" "lines" "LWindowLines$Lines;", Cond.fieldLink RX3 32 "WindowLines$Lines" "size" "I", Cond.fieldLink RX3 29 "WindowLines$Window" "shift" "I", Cond.fieldLink RX3 18 "WindowLines$Window" "height" "I", Cond.fieldLink RX3 26 "WindowLines$Window" "anchor" "I", Cond.methodLink RX3 94 yX3_descend, Cond.instanceMethod yX3_descend, Cond.selects RX3 yX3_descend yX3_descend, Cond.initialized RX3, Cond.code yX3_descend cX3_descend 1 none, Cond.methodLink RX3 100 yX1_measure, Cond.instanceMethod yX1_measure, Cond.selects RX1 yX1_measure yX1_measure, Cond.initialized RX1, Cond.code yX1_measure cX1_measure 2 none, Cond.fieldLink RX1 18 "WindowLines$Lines" "measured" "[Z", Cond.fieldLink RX1 9 "WindowLines$Lines" "kinds" "[I", Cond.fieldLink RX1 22 "WindowLines$Lines" "measuredSums" "[I", Cond.fieldLink RX1 15 "WindowLines$Lines" "lengths" "[I", Cond.fieldLink RX1 25 "WindowLines$Lines" "measuredCounts" "[I", Cond.methodLink RX1 41 yX1_isLine, Cond.instanceMethod yX1_isLine, Cond.selects RX1 yX1_isLine yX1_isLine, Cond.code yX1_isLine cX1_isLine 2 (some .boolean)]
def wsX3_settle_r2 : List Cond := [Cond.fieldLink RX1 38 "WindowLines$Lines" "size" "I", Cond.methodLink RX1 49 yX1_isKind, Cond.instanceMethod yX1_isKind, Cond.selects RX1 yX1_isKind yX1_isKind, Cond.code yX1_isKind cX1_isKind 2 (some .boolean), Cond.methodLink RX1 52 yX1_trueHeight, Cond.instanceMethod yX1_trueHeight, Cond.selects RX1 yX1_trueHeight yX1_trueHeight, Cond.code yX1_trueHeight cX1_trueHeight 4 (some .int), Cond.fieldLink RX1 28 "WindowLines$Lines" "width" "I", Cond.methodLink RX3 97 yX1_heightOf, Cond.instanceMethod yX1_heightOf, Cond.selects RX1 yX1_heightOf yX1_heightOf, Cond.code yX1_heightOf cX1_heightOf 2 (some .int), Cond.methodLink RX1 56 yX1_guess, Cond.instanceMethod yX1_guess, Cond.selects RX1 yX1_guess yX1_guess, Cond.code yX1_guess cX1_guess 2 (some .int), Cond.methodLink RX3 78 yX3_climb, Cond.instanceMethod yX3_climb, Cond.selects RX3 yX3_climb yX3_climb, Cond.code yX3_climb cX3_climb 1 none, Cond.methodLink RX3 81 Lib.Math.max.name, Cond.static Lib.Math.max.name]
def wsX3_settle_r3 : List Cond := [Cond.initialized "java/lang/Math", Cond.code Lib.Math.max.name Lib.Math.max.code 2 (some .int)]
def wsX3_settle : List Cond := .code yX3_settle cX3_settle 4 none :: ((wsX3_settle_r1 ++ (wsX3_settle_r2 ++ wsX3_settle_r3)) ++ wsX30 ++ wsX10)
def wsX3_putIn_r1 : List Cond := [Cond.fieldLink RX3 12 "WindowLines$Window" "lines" "LWindowLines$Lines;", Cond.fieldLink RX3 32 "WindowLines$Lines" "size" "I", Cond.constant RX3 43 (-100001), Cond.constant RX3 44 (-100003), Cond.fieldLink RX3 26 "WindowLines$Window" "anchor" "I", Cond.static yX4_isOutside, Cond.initialized RX4, Cond.code yX4_isOutside cX4_isOutside 3 (some .boolean), Cond.methodLink RX3 39 yX1_isKind, Cond.instanceMethod yX1_isKind, Cond.selects RX1 yX1_isKind yX1_isKind, Cond.initialized RX1, Cond.code yX1_isKind cX1_isKind 2 (some .boolean), Cond.methodLink RX3 45 yX1_insert, Cond.instanceMethod yX1_insert, Cond.selects RX1 yX1_insert yX1_insert, Cond.code yX1_insert cX1_insert 4 none, Cond.fieldLink RX1 38 "WindowLines$Lines" "size" "I", Cond.fieldLink RX1 9 "WindowLines$Lines" "kinds" "[I", Cond.methodLink RX1 32 arraycopyName, Cond.native arraycopyName, Cond.static arraycopyName, Cond.initialized "java/lang/System", Cond.fieldLink RX1 15 "WindowLines$Lines" "lengths" "[I"]
def wsX3_putIn_r2 : List Cond := [Cond.fieldLink RX1 18 "WindowLines$Lines" "measured" "[Z", Cond.methodLink RX3 49 yX3_settle, Cond.instanceMethod yX3_settle, Cond.selects RX3 yX3_settle yX3_settle, Cond.initialized RX3, Cond.code yX3_settle cX3_settle 4 none, Cond.fieldLink RX3 29 "WindowLines$Window" "shift" "I", Cond.fieldLink RX3 18 "WindowLines$Window" "height" "I", Cond.methodLink RX3 94 yX3_descend, Cond.instanceMethod yX3_descend, Cond.selects RX3 yX3_descend yX3_descend, Cond.code yX3_descend cX3_descend 1 none, Cond.methodLink RX3 100 yX1_measure, Cond.instanceMethod yX1_measure, Cond.selects RX1 yX1_measure yX1_measure, Cond.code yX1_measure cX1_measure 2 none, Cond.fieldLink RX1 22 "WindowLines$Lines" "measuredSums" "[I", Cond.fieldLink RX1 25 "WindowLines$Lines" "measuredCounts" "[I", Cond.methodLink RX1 41 yX1_isLine, Cond.instanceMethod yX1_isLine, Cond.selects RX1 yX1_isLine yX1_isLine, Cond.code yX1_isLine cX1_isLine 2 (some .boolean), Cond.methodLink RX1 49 yX1_isKind, Cond.methodLink RX1 52 yX1_trueHeight]
def wsX3_putIn_r3 : List Cond := [Cond.instanceMethod yX1_trueHeight, Cond.selects RX1 yX1_trueHeight yX1_trueHeight, Cond.code yX1_trueHeight cX1_trueHeight 4 (some .int), Cond.fieldLink RX1 28 "WindowLines$Lines" "width" "I", Cond.methodLink RX3 97 yX1_heightOf, Cond.instanceMethod yX1_heightOf, Cond.selects RX1 yX1_heightOf yX1_heightOf, Cond.code yX1_heightOf cX1_heightOf 2 (some .int), Cond.methodLink RX1 56 yX1_guess, Cond.instanceMethod yX1_guess, Cond.selects RX1 yX1_guess yX1_guess, Cond.code yX1_guess cX1_guess 2 (some .int), Cond.methodLink RX3 78 yX3_climb, Cond.instanceMethod yX3_climb, Cond.selects RX3 yX3_climb yX3_climb, Cond.code yX3_climb cX3_climb 1 none, Cond.methodLink RX3 81 Lib.Math.max.name, Cond.static Lib.Math.max.name, Cond.initialized "java/lang/Math", Cond.code Lib.Math.max.name Lib.Math.max.code 2 (some .int), Cond.methodLink RX3 52 yX1_total, Cond.instanceMethod yX1_total, Cond.selects RX1 yX1_total yX1_total, Cond.code yX1_total cX1_total 1 (some .int)]
def wsX3_putIn_r4 : List Cond := [Cond.methodLink RX1 63 yX1_topOf, Cond.instanceMethod yX1_topOf, Cond.selects RX1 yX1_topOf yX1_topOf, Cond.code yX1_topOf cX1_topOf 4 (some .int), Cond.methodLink RX1 60 yX1_heightOf]
def wsX3_putIn : List Cond := .code yX3_putIn cX3_putIn 4 (some .int) :: ((wsX3_putIn_r1 ++ (wsX3_putIn_r2 ++ (wsX3_putIn_r3 ++ wsX3_putIn_r4))) ++ wsX30 ++ wsX10)
def wsX3_takeOut_r1 : List Cond := [Cond.fieldLink RX3 12 "WindowLines$Window" "lines" "LWindowLines$Lines;", Cond.constant RX3 43 (-100001), Cond.fieldLink RX3 32 "WindowLines$Lines" "size" "I", Cond.fieldLink RX3 26 "WindowLines$Window" "anchor" "I", Cond.fieldLink RX3 29 "WindowLines$Window" "shift" "I", Cond.methodLink RX3 56 yX1_isLine, Cond.instanceMethod yX1_isLine, Cond.selects RX1 yX1_isLine yX1_isLine, Cond.initialized RX1, Cond.code yX1_isLine cX1_isLine 2 (some .boolean), Cond.fieldLink RX1 38 "WindowLines$Lines" "size" "I", Cond.methodLink RX3 59 yX1_remove, Cond.instanceMethod yX1_remove, Cond.selects RX1 yX1_remove yX1_remove, Cond.code yX1_remove cX1_remove 2 none, Cond.fieldLink RX1 9 "WindowLines$Lines" "kinds" "[I", Cond.methodLink RX1 32 arraycopyName, Cond.native arraycopyName, Cond.static arraycopyName, Cond.initialized "java/lang/System", Cond.fieldLink RX1 15 "WindowLines$Lines" "lengths" "[I", Cond.fieldLink RX1 18 "WindowLines$Lines" "measured" "[Z", Cond.methodLink RX1 41 yX1_isLine, Cond.methodLink RX1 45 yX1_forget]
def wsX3_takeOut_r2 : List Cond := [Cond.instanceMethod yX1_forget, Cond.selects RX1 yX1_forget yX1_forget, Cond.code yX1_forget cX1_forget 2 none, Cond.fieldLink RX1 22 "WindowLines$Lines" "measuredSums" "[I", Cond.fieldLink RX1 25 "WindowLines$Lines" "measuredCounts" "[I", Cond.methodLink RX1 49 yX1_isKind, Cond.instanceMethod yX1_isKind, Cond.selects RX1 yX1_isKind yX1_isKind, Cond.code yX1_isKind cX1_isKind 2 (some .boolean), Cond.methodLink RX1 52 yX1_trueHeight, Cond.instanceMethod yX1_trueHeight, Cond.selects RX1 yX1_trueHeight yX1_trueHeight, Cond.code yX1_trueHeight cX1_trueHeight 4 (some .int), Cond.fieldLink RX1 28 "WindowLines$Lines" "width" "I", Cond.methodLink RX3 49 yX3_settle, Cond.instanceMethod yX3_settle, Cond.selects RX3 yX3_settle yX3_settle, Cond.initialized RX3, Cond.code yX3_settle cX3_settle 4 none, Cond.fieldLink RX3 18 "WindowLines$Window" "height" "I", Cond.methodLink RX3 94 yX3_descend, Cond.instanceMethod yX3_descend, Cond.selects RX3 yX3_descend yX3_descend, Cond.code yX3_descend cX3_descend 1 none]
def wsX3_takeOut_r3 : List Cond := [Cond.methodLink RX3 100 yX1_measure, Cond.instanceMethod yX1_measure, Cond.selects RX1 yX1_measure yX1_measure, Cond.code yX1_measure cX1_measure 2 none, Cond.methodLink RX3 97 yX1_heightOf, Cond.instanceMethod yX1_heightOf, Cond.selects RX1 yX1_heightOf yX1_heightOf, Cond.code yX1_heightOf cX1_heightOf 2 (some .int), Cond.methodLink RX1 56 yX1_guess, Cond.instanceMethod yX1_guess, Cond.selects RX1 yX1_guess yX1_guess, Cond.code yX1_guess cX1_guess 2 (some .int), Cond.methodLink RX3 78 yX3_climb, Cond.instanceMethod yX3_climb, Cond.selects RX3 yX3_climb yX3_climb, Cond.code yX3_climb cX3_climb 1 none, Cond.methodLink RX3 81 Lib.Math.max.name, Cond.static Lib.Math.max.name, Cond.initialized "java/lang/Math", Cond.code Lib.Math.max.name Lib.Math.max.code 2 (some .int)]
def wsX3_takeOut : List Cond := .code yX3_takeOut cX3_takeOut 3 (some .int) :: ((wsX3_takeOut_r1 ++ (wsX3_takeOut_r2 ++ wsX3_takeOut_r3)) ++ wsX30 ++ wsX10)
def wsX3_changeLength_r1 : List Cond := [Cond.fieldLink RX3 12 "WindowLines$Window" "lines" "LWindowLines$Lines;", Cond.constant RX3 43 (-100001), Cond.fieldLink RX3 63 "WindowLines$Lines" "lengths" "[I", Cond.methodLink RX3 56 yX1_isLine, Cond.instanceMethod yX1_isLine, Cond.selects RX1 yX1_isLine yX1_isLine, Cond.initialized RX1, Cond.code yX1_isLine cX1_isLine 2 (some .boolean), Cond.fieldLink RX1 38 "WindowLines$Lines" "size" "I", Cond.static yX4_isOutside, Cond.initialized RX4, Cond.code yX4_isOutside cX4_isOutside 3 (some .boolean), Cond.methodLink RX3 67 yX1_setLength, Cond.instanceMethod yX1_setLength, Cond.selects RX1 yX1_setLength yX1_setLength, Cond.code yX1_setLength cX1_setLength 3 none, Cond.fieldLink RX1 15 "WindowLines$Lines" "lengths" "[I", Cond.methodLink RX1 41 yX1_isLine, Cond.methodLink RX1 45 yX1_forget, Cond.instanceMethod yX1_forget, Cond.selects RX1 yX1_forget yX1_forget, Cond.code yX1_forget cX1_forget 2 none, Cond.fieldLink RX1 18 "WindowLines$Lines" "measured" "[Z", Cond.fieldLink RX1 9 "WindowLines$Lines" "kinds" "[I"]
def wsX3_changeLength_r2 : List Cond := [Cond.fieldLink RX1 22 "WindowLines$Lines" "measuredSums" "[I", Cond.fieldLink RX1 25 "WindowLines$Lines" "measuredCounts" "[I", Cond.methodLink RX1 49 yX1_isKind, Cond.instanceMethod yX1_isKind, Cond.selects RX1 yX1_isKind yX1_isKind, Cond.code yX1_isKind cX1_isKind 2 (some .boolean), Cond.methodLink RX1 52 yX1_trueHeight, Cond.instanceMethod yX1_trueHeight, Cond.selects RX1 yX1_trueHeight yX1_trueHeight, Cond.code yX1_trueHeight cX1_trueHeight 4 (some .int), Cond.fieldLink RX1 28 "WindowLines$Lines" "width" "I", Cond.methodLink RX3 49 yX3_settle, Cond.instanceMethod yX3_settle, Cond.selects RX3 yX3_settle yX3_settle, Cond.initialized RX3, Cond.code yX3_settle cX3_settle 4 none, Cond.fieldLink RX3 32 "WindowLines$Lines" "size" "I", Cond.fieldLink RX3 29 "WindowLines$Window" "shift" "I", Cond.fieldLink RX3 18 "WindowLines$Window" "height" "I", Cond.fieldLink RX3 26 "WindowLines$Window" "anchor" "I", Cond.methodLink RX3 94 yX3_descend, Cond.instanceMethod yX3_descend, Cond.selects RX3 yX3_descend yX3_descend, Cond.code yX3_descend cX3_descend 1 none]
def wsX3_changeLength_r3 : List Cond := [Cond.methodLink RX3 100 yX1_measure, Cond.instanceMethod yX1_measure, Cond.selects RX1 yX1_measure yX1_measure, Cond.code yX1_measure cX1_measure 2 none, Cond.methodLink RX3 97 yX1_heightOf, Cond.instanceMethod yX1_heightOf, Cond.selects RX1 yX1_heightOf yX1_heightOf, Cond.code yX1_heightOf cX1_heightOf 2 (some .int), Cond.methodLink RX1 56 yX1_guess, Cond.instanceMethod yX1_guess, Cond.selects RX1 yX1_guess yX1_guess, Cond.code yX1_guess cX1_guess 2 (some .int), Cond.methodLink RX3 78 yX3_climb, Cond.instanceMethod yX3_climb, Cond.selects RX3 yX3_climb yX3_climb, Cond.code yX3_climb cX3_climb 1 none, Cond.methodLink RX3 81 Lib.Math.max.name, Cond.static Lib.Math.max.name, Cond.initialized "java/lang/Math", Cond.code Lib.Math.max.name Lib.Math.max.code 2 (some .int)]
def wsX3_changeLength : List Cond := .code yX3_changeLength cX3_changeLength 4 (some .int) :: ((wsX3_changeLength_r1 ++ (wsX3_changeLength_r2 ++ wsX3_changeLength_r3)) ++ wsX30 ++ wsX10)
def wsX3_changeHeight_r1 : List Cond := [Cond.constant RX3 43 (-100001), Cond.fieldLink RX3 18 "WindowLines$Window" "height" "I", Cond.static yX4_isOutside, Cond.initialized RX4, Cond.code yX4_isOutside cX4_isOutside 3 (some .boolean), Cond.methodLink RX3 49 yX3_settle, Cond.instanceMethod yX3_settle, Cond.selects RX3 yX3_settle yX3_settle, Cond.initialized RX3, Cond.code yX3_settle cX3_settle 4 none, Cond.fieldLink RX3 12 "WindowLines$Window" "lines" "LWindowLines$Lines;", Cond.fieldLink RX3 32 "WindowLines$Lines" "size" "I", Cond.fieldLink RX3 29 "WindowLines$Window" "shift" "I", Cond.fieldLink RX3 26 "WindowLines$Window" "anchor" "I", Cond.methodLink RX3 94 yX3_descend, Cond.instanceMethod yX3_descend, Cond.selects RX3 yX3_descend yX3_descend, Cond.code yX3_descend cX3_descend 1 none, Cond.methodLink RX3 100 yX1_measure, Cond.instanceMethod yX1_measure, Cond.selects RX1 yX1_measure yX1_measure, Cond.initialized RX1, Cond.code yX1_measure cX1_measure 2 none, Cond.fieldLink RX1 18 "WindowLines$Lines" "measured" "[Z"]
def wsX3_changeHeight_r2 : List Cond := [Cond.fieldLink RX1 9 "WindowLines$Lines" "kinds" "[I", Cond.fieldLink RX1 22 "WindowLines$Lines" "measuredSums" "[I", Cond.fieldLink RX1 15 "WindowLines$Lines" "lengths" "[I", Cond.fieldLink RX1 25 "WindowLines$Lines" "measuredCounts" "[I", Cond.methodLink RX1 41 yX1_isLine, Cond.instanceMethod yX1_isLine, Cond.selects RX1 yX1_isLine yX1_isLine, Cond.code yX1_isLine cX1_isLine 2 (some .boolean), Cond.fieldLink RX1 38 "WindowLines$Lines" "size" "I", Cond.methodLink RX1 49 yX1_isKind, Cond.instanceMethod yX1_isKind, Cond.selects RX1 yX1_isKind yX1_isKind, Cond.code yX1_isKind cX1_isKind 2 (some .boolean), Cond.methodLink RX1 52 yX1_trueHeight, Cond.instanceMethod yX1_trueHeight, Cond.selects RX1 yX1_trueHeight yX1_trueHeight, Cond.code yX1_trueHeight cX1_trueHeight 4 (some .int), Cond.fieldLink RX1 28 "WindowLines$Lines" "width" "I", Cond.methodLink RX3 97 yX1_heightOf, Cond.instanceMethod yX1_heightOf, Cond.selects RX1 yX1_heightOf yX1_heightOf, Cond.code yX1_heightOf cX1_heightOf 2 (some .int), Cond.methodLink RX1 56 yX1_guess, Cond.instanceMethod yX1_guess]
def wsX3_changeHeight_r3 : List Cond := [Cond.selects RX1 yX1_guess yX1_guess, Cond.code yX1_guess cX1_guess 2 (some .int), Cond.methodLink RX3 78 yX3_climb, Cond.instanceMethod yX3_climb, Cond.selects RX3 yX3_climb yX3_climb, Cond.code yX3_climb cX3_climb 1 none, Cond.methodLink RX3 81 Lib.Math.max.name, Cond.static Lib.Math.max.name, Cond.initialized "java/lang/Math", Cond.code Lib.Math.max.name Lib.Math.max.code 2 (some .int)]
def wsX3_changeHeight : List Cond := .code yX3_changeHeight cX3_changeHeight 3 (some .int) :: ((wsX3_changeHeight_r1 ++ (wsX3_changeHeight_r2 ++ wsX3_changeHeight_r3)) ++ wsX30 ++ wsX10)
def wsX3_changeWidth_r1 : List Cond := [Cond.constant RX3 43 (-100001), Cond.fieldLink RX3 12 "WindowLines$Window" "lines" "LWindowLines$Lines;", Cond.fieldLink RX3 71 "WindowLines$Lines" "width" "I", Cond.static yX4_isOutside, Cond.initialized RX4, Cond.code yX4_isOutside cX4_isOutside 3 (some .boolean), Cond.methodLink RX3 74 yX1_forgetAllFor, Cond.instanceMethod yX1_forgetAllFor, Cond.selects RX1 yX1_forgetAllFor yX1_forgetAllFor, Cond.initialized RX1, Cond.code yX1_forgetAllFor cX1_forgetAllFor 3 none, Cond.fieldLink RX1 38 "WindowLines$Lines" "size" "I", Cond.fieldLink RX1 28 "WindowLines$Lines" "width" "I", Cond.methodLink RX1 45 yX1_forget, Cond.instanceMethod yX1_forget, Cond.selects RX1 yX1_forget yX1_forget, Cond.code yX1_forget cX1_forget 2 none, Cond.fieldLink RX1 18 "WindowLines$Lines" "measured" "[Z", Cond.fieldLink RX1 9 "WindowLines$Lines" "kinds" "[I", Cond.fieldLink RX1 22 "WindowLines$Lines" "measuredSums" "[I", Cond.fieldLink RX1 15 "WindowLines$Lines" "lengths" "[I", Cond.fieldLink RX1 25 "WindowLines$Lines" "measuredCounts" "[I", Cond.methodLink RX1 41 yX1_isLine, Cond.instanceMethod yX1_isLine]
def wsX3_changeWidth_r2 : List Cond := [Cond.selects RX1 yX1_isLine yX1_isLine, Cond.code yX1_isLine cX1_isLine 2 (some .boolean), Cond.methodLink RX1 49 yX1_isKind, Cond.instanceMethod yX1_isKind, Cond.selects RX1 yX1_isKind yX1_isKind, Cond.code yX1_isKind cX1_isKind 2 (some .boolean), Cond.methodLink RX1 52 yX1_trueHeight, Cond.instanceMethod yX1_trueHeight, Cond.selects RX1 yX1_trueHeight yX1_trueHeight, Cond.code yX1_trueHeight cX1_trueHeight 4 (some .int), Cond.methodLink RX3 49 yX3_settle, Cond.instanceMethod yX3_settle, Cond.selects RX3 yX3_settle yX3_settle, Cond.initialized RX3, Cond.code yX3_settle cX3_settle 4 none, Cond.fieldLink RX3 32 "WindowLines$Lines" "size" "I", Cond.fieldLink RX3 29 "WindowLines$Window" "shift" "I", Cond.fieldLink RX3 18 "WindowLines$Window" "height" "I", Cond.fieldLink RX3 26 "WindowLines$Window" "anchor" "I", Cond.methodLink RX3 94 yX3_descend, Cond.instanceMethod yX3_descend, Cond.selects RX3 yX3_descend yX3_descend, Cond.code yX3_descend cX3_descend 1 none, Cond.methodLink RX3 100 yX1_measure]
def wsX3_changeWidth_r3 : List Cond := [Cond.instanceMethod yX1_measure, Cond.selects RX1 yX1_measure yX1_measure, Cond.code yX1_measure cX1_measure 2 none, Cond.methodLink RX3 97 yX1_heightOf, Cond.instanceMethod yX1_heightOf, Cond.selects RX1 yX1_heightOf yX1_heightOf, Cond.code yX1_heightOf cX1_heightOf 2 (some .int), Cond.methodLink RX1 56 yX1_guess, Cond.instanceMethod yX1_guess, Cond.selects RX1 yX1_guess yX1_guess, Cond.code yX1_guess cX1_guess 2 (some .int), Cond.methodLink RX3 78 yX3_climb, Cond.instanceMethod yX3_climb, Cond.selects RX3 yX3_climb yX3_climb, Cond.code yX3_climb cX3_climb 1 none, Cond.methodLink RX3 81 Lib.Math.max.name, Cond.static Lib.Math.max.name, Cond.initialized "java/lang/Math", Cond.code Lib.Math.max.name Lib.Math.max.code 2 (some .int)]
def wsX3_changeWidth : List Cond := .code yX3_changeWidth cX3_changeWidth 3 (some .int) :: ((wsX3_changeWidth_r1 ++ (wsX3_changeWidth_r2 ++ wsX3_changeWidth_r3)) ++ wsX30 ++ wsX10)
def wsX3_moveBy_r1 : List Cond := [Cond.constant RX3 43 (-100001), Cond.fieldLink RX3 12 "WindowLines$Window" "lines" "LWindowLines$Lines;", Cond.fieldLink RX3 32 "WindowLines$Lines" "size" "I", Cond.constant RX3 77 (-100002), Cond.fieldLink RX3 29 "WindowLines$Window" "shift" "I", Cond.fieldLink RX3 26 "WindowLines$Window" "anchor" "I", Cond.static yX4_isOutside, Cond.initialized RX4, Cond.code yX4_isOutside cX4_isOutside 3 (some .boolean), Cond.methodLink RX3 78 yX3_climb, Cond.instanceMethod yX3_climb, Cond.selects RX3 yX3_climb yX3_climb, Cond.initialized RX3, Cond.code yX3_climb cX3_climb 1 none, Cond.methodLink RX3 81 Lib.Math.max.name, Cond.static Lib.Math.max.name, Cond.initialized "java/lang/Math", Cond.code Lib.Math.max.name Lib.Math.max.code 2 (some .int), Cond.methodLink RX3 100 yX1_measure, Cond.instanceMethod yX1_measure, Cond.selects RX1 yX1_measure yX1_measure, Cond.initialized RX1, Cond.code yX1_measure cX1_measure 2 none, Cond.fieldLink RX1 18 "WindowLines$Lines" "measured" "[Z"]
def wsX3_moveBy_r2 : List Cond := [Cond.fieldLink RX1 9 "WindowLines$Lines" "kinds" "[I", Cond.fieldLink RX1 22 "WindowLines$Lines" "measuredSums" "[I", Cond.fieldLink RX1 15 "WindowLines$Lines" "lengths" "[I", Cond.fieldLink RX1 25 "WindowLines$Lines" "measuredCounts" "[I", Cond.methodLink RX1 41 yX1_isLine, Cond.instanceMethod yX1_isLine, Cond.selects RX1 yX1_isLine yX1_isLine, Cond.code yX1_isLine cX1_isLine 2 (some .boolean), Cond.fieldLink RX1 38 "WindowLines$Lines" "size" "I", Cond.methodLink RX1 49 yX1_isKind, Cond.instanceMethod yX1_isKind, Cond.selects RX1 yX1_isKind yX1_isKind, Cond.code yX1_isKind cX1_isKind 2 (some .boolean), Cond.methodLink RX1 52 yX1_trueHeight, Cond.instanceMethod yX1_trueHeight, Cond.selects RX1 yX1_trueHeight yX1_trueHeight, Cond.code yX1_trueHeight cX1_trueHeight 4 (some .int), Cond.fieldLink RX1 28 "WindowLines$Lines" "width" "I", Cond.methodLink RX3 97 yX1_heightOf, Cond.instanceMethod yX1_heightOf, Cond.selects RX1 yX1_heightOf yX1_heightOf, Cond.code yX1_heightOf cX1_heightOf 2 (some .int), Cond.methodLink RX1 56 yX1_guess, Cond.instanceMethod yX1_guess]
def wsX3_moveBy_r3 : List Cond := [Cond.selects RX1 yX1_guess yX1_guess, Cond.code yX1_guess cX1_guess 2 (some .int), Cond.methodLink RX3 49 yX3_settle, Cond.instanceMethod yX3_settle, Cond.selects RX3 yX3_settle yX3_settle, Cond.code yX3_settle cX3_settle 4 none, Cond.fieldLink RX3 18 "WindowLines$Window" "height" "I", Cond.methodLink RX3 94 yX3_descend, Cond.instanceMethod yX3_descend, Cond.selects RX3 yX3_descend yX3_descend, Cond.code yX3_descend cX3_descend 1 none]
def wsX3_moveBy : List Cond := .code yX3_moveBy cX3_moveBy 2 (some .int) :: ((wsX3_moveBy_r1 ++ (wsX3_moveBy_r2 ++ wsX3_moveBy_r3)) ++ wsX30 ++ wsX10)
def wsX3_moveToShare_r1 : List Cond := [Cond.constant RX3 43 (-100001), Cond.fieldLink RX3 12 "WindowLines$Window" "lines" "LWindowLines$Lines;", Cond.fieldLink RX3 32 "WindowLines$Lines" "size" "I", Cond.constant RX3 77 (-100002), Cond.fieldLink RX3 18 "WindowLines$Window" "height" "I", Cond.methodLink RX3 81 Lib.Math.max.name, Cond.static Lib.Math.max.name, Cond.initialized "java/lang/Math", Cond.code Lib.Math.max.name Lib.Math.max.code 2 (some .int), Cond.fieldLink RX3 26 "WindowLines$Window" "anchor" "I", Cond.fieldLink RX3 29 "WindowLines$Window" "shift" "I", Cond.static yX4_isOutside, Cond.initialized RX4, Cond.code yX4_isOutside cX4_isOutside 3 (some .boolean), Cond.methodLink RX3 52 yX1_total, Cond.instanceMethod yX1_total, Cond.selects RX1 yX1_total yX1_total, Cond.initialized RX1, Cond.code yX1_total cX1_total 1 (some .int), Cond.fieldLink RX1 38 "WindowLines$Lines" "size" "I", Cond.methodLink RX1 63 yX1_topOf, Cond.instanceMethod yX1_topOf, Cond.selects RX1 yX1_topOf yX1_topOf, Cond.code yX1_topOf cX1_topOf 4 (some .int)]
def wsX3_moveToShare_r2 : List Cond := [Cond.methodLink RX1 60 yX1_heightOf, Cond.instanceMethod yX1_heightOf, Cond.selects RX1 yX1_heightOf yX1_heightOf, Cond.code yX1_heightOf cX1_heightOf 2 (some .int), Cond.fieldLink RX1 18 "WindowLines$Lines" "measured" "[Z", Cond.fieldLink RX1 9 "WindowLines$Lines" "kinds" "[I", Cond.fieldLink RX1 15 "WindowLines$Lines" "lengths" "[I", Cond.methodLink RX1 41 yX1_isLine, Cond.instanceMethod yX1_isLine, Cond.selects RX1 yX1_isLine yX1_isLine, Cond.code yX1_isLine cX1_isLine 2 (some .boolean), Cond.methodLink RX1 52 yX1_trueHeight, Cond.instanceMethod yX1_trueHeight, Cond.selects RX1 yX1_trueHeight yX1_trueHeight, Cond.code yX1_trueHeight cX1_trueHeight 4 (some .int), Cond.fieldLink RX1 28 "WindowLines$Lines" "width" "I", Cond.methodLink RX1 56 yX1_guess, Cond.instanceMethod yX1_guess, Cond.selects RX1 yX1_guess yX1_guess, Cond.code yX1_guess cX1_guess 2 (some .int), Cond.fieldLink RX1 25 "WindowLines$Lines" "measuredCounts" "[I", Cond.fieldLink RX1 22 "WindowLines$Lines" "measuredSums" "[I", Cond.methodLink RX3 87 yX1_lineAt, Cond.instanceMethod yX1_lineAt]
def wsX3_moveToShare_r3 : List Cond := [Cond.selects RX1 yX1_lineAt yX1_lineAt, Cond.code yX1_lineAt cX1_lineAt 4 (some .int), Cond.constant RX1 66 (-100009), Cond.methodLink RX3 91 yX1_topOf, Cond.methodLink RX3 49 yX3_settle, Cond.instanceMethod yX3_settle, Cond.selects RX3 yX3_settle yX3_settle, Cond.initialized RX3, Cond.code yX3_settle cX3_settle 4 none, Cond.methodLink RX3 94 yX3_descend, Cond.instanceMethod yX3_descend, Cond.selects RX3 yX3_descend yX3_descend, Cond.code yX3_descend cX3_descend 1 none, Cond.methodLink RX3 100 yX1_measure, Cond.instanceMethod yX1_measure, Cond.selects RX1 yX1_measure yX1_measure, Cond.code yX1_measure cX1_measure 2 none, Cond.methodLink RX1 49 yX1_isKind, Cond.instanceMethod yX1_isKind, Cond.selects RX1 yX1_isKind yX1_isKind, Cond.code yX1_isKind cX1_isKind 2 (some .boolean), Cond.methodLink RX3 97 yX1_heightOf, Cond.methodLink RX3 78 yX3_climb, Cond.instanceMethod yX3_climb]
def wsX3_moveToShare_r4 : List Cond := [Cond.selects RX3 yX3_climb yX3_climb, Cond.code yX3_climb cX3_climb 1 none]
def wsX3_moveToShare : List Cond := .code yX3_moveToShare cX3_moveToShare 3 (some .int) :: ((wsX3_moveToShare_r1 ++ (wsX3_moveToShare_r2 ++ (wsX3_moveToShare_r3 ++ wsX3_moveToShare_r4))) ++ wsX30 ++ wsX10)
def wsX3_moveToLine_r1 : List Cond := [Cond.fieldLink RX3 12 "WindowLines$Window" "lines" "LWindowLines$Lines;", Cond.constant RX3 43 (-100001), Cond.fieldLink RX3 26 "WindowLines$Window" "anchor" "I", Cond.fieldLink RX3 29 "WindowLines$Window" "shift" "I", Cond.methodLink RX3 56 yX1_isLine, Cond.instanceMethod yX1_isLine, Cond.selects RX1 yX1_isLine yX1_isLine, Cond.initialized RX1, Cond.code yX1_isLine cX1_isLine 2 (some .boolean), Cond.fieldLink RX1 38 "WindowLines$Lines" "size" "I", Cond.methodLink RX3 49 yX3_settle, Cond.instanceMethod yX3_settle, Cond.selects RX3 yX3_settle yX3_settle, Cond.initialized RX3, Cond.code yX3_settle cX3_settle 4 none, Cond.fieldLink RX3 32 "WindowLines$Lines" "size" "I", Cond.fieldLink RX3 18 "WindowLines$Window" "height" "I", Cond.methodLink RX3 94 yX3_descend, Cond.instanceMethod yX3_descend, Cond.selects RX3 yX3_descend yX3_descend, Cond.code yX3_descend cX3_descend 1 none, Cond.methodLink RX3 100 yX1_measure, Cond.instanceMethod yX1_measure, Cond.selects RX1 yX1_measure yX1_measure]
def wsX3_moveToLine_r2 : List Cond := [Cond.code yX1_measure cX1_measure 2 none, Cond.fieldLink RX1 18 "WindowLines$Lines" "measured" "[Z", Cond.fieldLink RX1 9 "WindowLines$Lines" "kinds" "[I", Cond.fieldLink RX1 22 "WindowLines$Lines" "measuredSums" "[I", Cond.fieldLink RX1 15 "WindowLines$Lines" "lengths" "[I", Cond.fieldLink RX1 25 "WindowLines$Lines" "measuredCounts" "[I", Cond.methodLink RX1 41 yX1_isLine, Cond.methodLink RX1 49 yX1_isKind, Cond.instanceMethod yX1_isKind, Cond.selects RX1 yX1_isKind yX1_isKind, Cond.code yX1_isKind cX1_isKind 2 (some .boolean), Cond.methodLink RX1 52 yX1_trueHeight, Cond.instanceMethod yX1_trueHeight, Cond.selects RX1 yX1_trueHeight yX1_trueHeight, Cond.code yX1_trueHeight cX1_trueHeight 4 (some .int), Cond.fieldLink RX1 28 "WindowLines$Lines" "width" "I", Cond.methodLink RX3 97 yX1_heightOf, Cond.instanceMethod yX1_heightOf, Cond.selects RX1 yX1_heightOf yX1_heightOf, Cond.code yX1_heightOf cX1_heightOf 2 (some .int), Cond.methodLink RX1 56 yX1_guess, Cond.instanceMethod yX1_guess, Cond.selects RX1 yX1_guess yX1_guess, Cond.code yX1_guess cX1_guess 2 (some .int)]
def wsX3_moveToLine_r3 : List Cond := [Cond.methodLink RX3 78 yX3_climb, Cond.instanceMethod yX3_climb, Cond.selects RX3 yX3_climb yX3_climb, Cond.code yX3_climb cX3_climb 1 none, Cond.methodLink RX3 81 Lib.Math.max.name, Cond.static Lib.Math.max.name, Cond.initialized "java/lang/Math", Cond.code Lib.Math.max.name Lib.Math.max.code 2 (some .int)]
def wsX3_moveToLine : List Cond := .code yX3_moveToLine cX3_moveToLine 2 (some .int) :: ((wsX3_moveToLine_r1 ++ (wsX3_moveToLine_r2 ++ wsX3_moveToLine_r3)) ++ wsX30 ++ wsX10)
def wsX3_top_r1 : List Cond := [Cond.fieldLink RX3 12 "WindowLines$Window" "lines" "LWindowLines$Lines;", Cond.fieldLink RX3 26 "WindowLines$Window" "anchor" "I", Cond.fieldLink RX3 29 "WindowLines$Window" "shift" "I", Cond.methodLink RX3 91 yX1_topOf, Cond.instanceMethod yX1_topOf, Cond.selects RX1 yX1_topOf yX1_topOf, Cond.initialized RX1, Cond.code yX1_topOf cX1_topOf 4 (some .int), Cond.fieldLink RX1 38 "WindowLines$Lines" "size" "I", Cond.methodLink RX1 60 yX1_heightOf, Cond.instanceMethod yX1_heightOf, Cond.selects RX1 yX1_heightOf yX1_heightOf, Cond.code yX1_heightOf cX1_heightOf 2 (some .int), Cond.fieldLink RX1 18 "WindowLines$Lines" "measured" "[Z", Cond.fieldLink RX1 9 "WindowLines$Lines" "kinds" "[I", Cond.fieldLink RX1 15 "WindowLines$Lines" "lengths" "[I", Cond.methodLink RX1 41 yX1_isLine, Cond.instanceMethod yX1_isLine, Cond.selects RX1 yX1_isLine yX1_isLine, Cond.code yX1_isLine cX1_isLine 2 (some .boolean), Cond.methodLink RX1 52 yX1_trueHeight, Cond.instanceMethod yX1_trueHeight, Cond.selects RX1 yX1_trueHeight yX1_trueHeight, Cond.code yX1_trueHeight cX1_trueHeight 4 (some .int)]
def wsX3_top_r2 : List Cond := [Cond.fieldLink RX1 28 "WindowLines$Lines" "width" "I", Cond.methodLink RX1 56 yX1_guess, Cond.instanceMethod yX1_guess, Cond.selects RX1 yX1_guess yX1_guess, Cond.code yX1_guess cX1_guess 2 (some .int), Cond.fieldLink RX1 25 "WindowLines$Lines" "measuredCounts" "[I", Cond.fieldLink RX1 22 "WindowLines$Lines" "measuredSums" "[I"]
def wsX3_top : List Cond := .code yX3_top cX3_top 1 (some .int) :: ((wsX3_top_r1 ++ wsX3_top_r2) ++ wsX30 ++ wsX10)
def wsX3_shows_r1 : List Cond := [Cond.fieldLink RX3 26 "WindowLines$Window" "anchor" "I", Cond.fieldLink RX3 29 "WindowLines$Window" "shift" "I", Cond.fieldLink RX3 18 "WindowLines$Window" "height" "I", Cond.fieldLink RX3 12 "WindowLines$Window" "lines" "LWindowLines$Lines;", Cond.methodLink RX3 97 yX1_heightOf, Cond.instanceMethod yX1_heightOf, Cond.selects RX1 yX1_heightOf yX1_heightOf, Cond.initialized RX1, Cond.code yX1_heightOf cX1_heightOf 2 (some .int), Cond.fieldLink RX1 18 "WindowLines$Lines" "measured" "[Z", Cond.fieldLink RX1 9 "WindowLines$Lines" "kinds" "[I", Cond.fieldLink RX1 15 "WindowLines$Lines" "lengths" "[I", Cond.methodLink RX1 41 yX1_isLine, Cond.instanceMethod yX1_isLine, Cond.selects RX1 yX1_isLine yX1_isLine, Cond.code yX1_isLine cX1_isLine 2 (some .boolean), Cond.fieldLink RX1 38 "WindowLines$Lines" "size" "I", Cond.methodLink RX1 52 yX1_trueHeight, Cond.instanceMethod yX1_trueHeight, Cond.selects RX1 yX1_trueHeight yX1_trueHeight, Cond.code yX1_trueHeight cX1_trueHeight 4 (some .int), Cond.fieldLink RX1 28 "WindowLines$Lines" "width" "I", Cond.methodLink RX1 56 yX1_guess, Cond.instanceMethod yX1_guess]
def wsX3_shows_r2 : List Cond := [Cond.selects RX1 yX1_guess yX1_guess, Cond.code yX1_guess cX1_guess 2 (some .int), Cond.fieldLink RX1 25 "WindowLines$Lines" "measuredCounts" "[I", Cond.fieldLink RX1 22 "WindowLines$Lines" "measuredSums" "[I"]
def wsX3_shows : List Cond := .code yX3_shows cX3_shows 4 (some .boolean) :: ((wsX3_shows_r1 ++ wsX3_shows_r2) ++ wsX30 ++ wsX10)
def wsX3_linesShown_r1 : List Cond := [Cond.fieldLink RX3 29 "WindowLines$Window" "shift" "I", Cond.fieldLink RX3 26 "WindowLines$Window" "anchor" "I", Cond.fieldLink RX3 12 "WindowLines$Window" "lines" "LWindowLines$Lines;", Cond.fieldLink RX3 32 "WindowLines$Lines" "size" "I", Cond.fieldLink RX3 18 "WindowLines$Window" "height" "I", Cond.methodLink RX3 97 yX1_heightOf, Cond.instanceMethod yX1_heightOf, Cond.selects RX1 yX1_heightOf yX1_heightOf, Cond.initialized RX1, Cond.code yX1_heightOf cX1_heightOf 2 (some .int), Cond.fieldLink RX1 18 "WindowLines$Lines" "measured" "[Z", Cond.fieldLink RX1 9 "WindowLines$Lines" "kinds" "[I", Cond.fieldLink RX1 15 "WindowLines$Lines" "lengths" "[I", Cond.methodLink RX1 41 yX1_isLine, Cond.instanceMethod yX1_isLine, Cond.selects RX1 yX1_isLine yX1_isLine, Cond.code yX1_isLine cX1_isLine 2 (some .boolean), Cond.fieldLink RX1 38 "WindowLines$Lines" "size" "I", Cond.methodLink RX1 52 yX1_trueHeight, Cond.instanceMethod yX1_trueHeight, Cond.selects RX1 yX1_trueHeight yX1_trueHeight, Cond.code yX1_trueHeight cX1_trueHeight 4 (some .int), Cond.fieldLink RX1 28 "WindowLines$Lines" "width" "I", Cond.methodLink RX1 56 yX1_guess]
def wsX3_linesShown_r2 : List Cond := [Cond.instanceMethod yX1_guess, Cond.selects RX1 yX1_guess yX1_guess, Cond.code yX1_guess cX1_guess 2 (some .int), Cond.fieldLink RX1 25 "WindowLines$Lines" "measuredCounts" "[I", Cond.fieldLink RX1 22 "WindowLines$Lines" "measuredSums" "[I"]
def wsX3_linesShown : List Cond := .code yX3_linesShown cX3_linesShown 4 (some .int) :: ((wsX3_linesShown_r1 ++ wsX3_linesShown_r2) ++ wsX30 ++ wsX10)
def wsX4_init_r1 : List Cond := [Cond.methodLink RX4 1 objectInit, Cond.instanceMethod objectInit, Cond.code objectInit ⟨#[0xb1]⟩ 1 none, Cond.classLink RX4 7 RX3, Cond.instantiable RX3 4, Cond.initialized RX3, Cond.fieldLink RX4 10 "WindowLines" "now" "LWindowLines$Window;", Cond.fieldLink RX4 16 "WindowLines" "draft" "LWindowLines$Window;", Cond.classLink RX4 19 RX0, Cond.instantiable RX0 3, Cond.initialized RX0, Cond.fieldLink RX4 22 "WindowLines" "history" "LWindowLines$History;", Cond.classLink RX4 26 RX2, Cond.instantiable RX2 6, Cond.initialized RX2, Cond.fieldLink RX4 29 "WindowLines" "program" "LWindowLines$Program;", Cond.methodLink RX4 9 yX3_init, Cond.instanceMethod yX3_init, Cond.code yX3_init cX3_init 1 none, Cond.methodLink RX3 3 objectInit, Cond.classLink RX3 9 RX1, Cond.instantiable RX1 7, Cond.initialized RX1, Cond.fieldLink RX3 12 "WindowLines$Window" "lines" "LWindowLines$Lines;"]
def wsX4_init_r2 : List Cond := [Cond.fieldLink RX3 18 "WindowLines$Window" "height" "I", Cond.methodLink RX3 11 yX1_init, Cond.instanceMethod yX1_init, Cond.code yX1_init cX1_init 1 none, Cond.methodLink RX1 3 objectInit, Cond.arrayClass .int, Cond.fieldLink RX1 9 "WindowLines$Lines" "kinds" "[I", Cond.fieldLink RX1 15 "WindowLines$Lines" "lengths" "[I", Cond.arrayClass .boolean, Cond.fieldLink RX1 18 "WindowLines$Lines" "measured" "[Z", Cond.fieldLink RX1 22 "WindowLines$Lines" "measuredSums" "[I", Cond.fieldLink RX1 25 "WindowLines$Lines" "measuredCounts" "[I", Cond.fieldLink RX1 28 "WindowLines$Lines" "width" "I", Cond.methodLink RX4 21 yX0_init, Cond.instanceMethod yX0_init, Cond.code yX0_init cX0_init 2 none, Cond.methodLink RX0 3 objectInit, Cond.classLink RX0 9 RX3, Cond.fieldLink RX0 11 "WindowLines$History" "states" "[LWindowLines$Window;", Cond.methodLink RX0 17 yX3_init, Cond.methodLink RX4 28 yX2_init, Cond.instanceMethod yX2_init, Cond.code yX2_init cX2_init 1 none, Cond.methodLink RX2 3 objectInit]
def wsX4_init_r3 : List Cond := [Cond.arrayClass .char, Cond.fieldLink RX2 9 "WindowLines$Program" "text" "[C", Cond.fieldLink RX2 15 "WindowLines$Program" "numbers" "[I"]
def wsX4_init : List Cond := .code yX4_init cX4_init 1 none :: ((wsX4_init_r1 ++ (wsX4_init_r2 ++ wsX4_init_r3)) ++ wsX30 ++ wsX40 ++ wsX00 ++ wsX20 ++ wsX10)
def wsX4_keepDraft_r1 : List Cond := [Cond.fieldLink RX4 22 "WindowLines" "history" "LWindowLines$History;", Cond.fieldLink RX4 10 "WindowLines" "now" "LWindowLines$Window;", Cond.fieldLink RX4 16 "WindowLines" "draft" "LWindowLines$Window;", Cond.methodLink RX4 168 yX0_record, Cond.instanceMethod yX0_record, Cond.selects RX0 yX0_record yX0_record, Cond.initialized RX0, Cond.code yX0_record cX0_record 3 none, Cond.fieldLink RX0 18 "WindowLines$History" "next" "I", Cond.fieldLink RX0 30 "WindowLines$History" "size" "I", Cond.methodLink RX0 33 Lib.Math.min.name, Cond.static Lib.Math.min.name, Cond.initialized "java/lang/Math", Cond.code Lib.Math.min.name Lib.Math.min.code 2 (some .int), Cond.methodLink RX0 22 yX0_stateAt, Cond.instanceMethod yX0_stateAt, Cond.selects RX0 yX0_stateAt yX0_stateAt, Cond.code yX0_stateAt cX0_stateAt 2 (some (.object "WindowLines$Window")), Cond.fieldLink RX0 11 "WindowLines$History" "states" "[LWindowLines$Window;", Cond.methodLink RX0 26 yX3_copyFrom, Cond.instanceMethod yX3_copyFrom, Cond.selects RX3 yX3_copyFrom yX3_copyFrom, Cond.initialized RX3, Cond.code yX3_copyFrom cX3_copyFrom 2 none]
def wsX4_keepDraft_r2 : List Cond := [Cond.fieldLink RX3 12 "WindowLines$Window" "lines" "LWindowLines$Lines;", Cond.fieldLink RX3 18 "WindowLines$Window" "height" "I", Cond.fieldLink RX3 26 "WindowLines$Window" "anchor" "I", Cond.fieldLink RX3 29 "WindowLines$Window" "shift" "I", Cond.methodLink RX3 22 yX1_copyFrom, Cond.instanceMethod yX1_copyFrom, Cond.selects RX1 yX1_copyFrom yX1_copyFrom, Cond.initialized RX1, Cond.code yX1_copyFrom cX1_copyFrom 2 none, Cond.fieldLink RX1 9 "WindowLines$Lines" "kinds" "[I", Cond.methodLink RX1 32 arraycopyName, Cond.native arraycopyName, Cond.static arraycopyName, Cond.initialized "java/lang/System", Cond.fieldLink RX1 15 "WindowLines$Lines" "lengths" "[I", Cond.fieldLink RX1 18 "WindowLines$Lines" "measured" "[Z", Cond.fieldLink RX1 22 "WindowLines$Lines" "measuredSums" "[I", Cond.fieldLink RX1 25 "WindowLines$Lines" "measuredCounts" "[I", Cond.fieldLink RX1 38 "WindowLines$Lines" "size" "I", Cond.fieldLink RX1 28 "WindowLines$Lines" "width" "I", Cond.methodLink RX4 33 yX3_copyFrom]
def wsX4_keepDraft : List Cond := .code yX4_keepDraft cX4_keepDraft 2 (some .int) :: ((wsX4_keepDraft_r1 ++ wsX4_keepDraft_r2) ++ wsX40 ++ wsX00 ++ wsX30 ++ wsX10)
def wsX4_put_r1 : List Cond := [Cond.fieldLink RX4 16 "WindowLines" "draft" "LWindowLines$Window;", Cond.fieldLink RX4 10 "WindowLines" "now" "LWindowLines$Window;", Cond.methodLink RX4 33 yX3_copyFrom, Cond.instanceMethod yX3_copyFrom, Cond.selects RX3 yX3_copyFrom yX3_copyFrom, Cond.initialized RX3, Cond.code yX3_copyFrom cX3_copyFrom 2 none, Cond.fieldLink RX3 12 "WindowLines$Window" "lines" "LWindowLines$Lines;", Cond.fieldLink RX3 18 "WindowLines$Window" "height" "I", Cond.fieldLink RX3 26 "WindowLines$Window" "anchor" "I", Cond.fieldLink RX3 29 "WindowLines$Window" "shift" "I", Cond.methodLink RX3 22 yX1_copyFrom, Cond.instanceMethod yX1_copyFrom, Cond.selects RX1 yX1_copyFrom yX1_copyFrom, Cond.initialized RX1, Cond.code yX1_copyFrom cX1_copyFrom 2 none, Cond.fieldLink RX1 9 "WindowLines$Lines" "kinds" "[I", Cond.methodLink RX1 32 arraycopyName, Cond.native arraycopyName, Cond.static arraycopyName, Cond.initialized "java/lang/System", Cond.fieldLink RX1 15 "WindowLines$Lines" "lengths" "[I", Cond.fieldLink RX1 18 "WindowLines$Lines" "measured" "[Z", Cond.fieldLink RX1 22 "WindowLines$Lines" "measuredSums" "[I"]
def wsX4_put_r2 : List Cond := [Cond.fieldLink RX1 25 "WindowLines$Lines" "measuredCounts" "[I", Cond.fieldLink RX1 38 "WindowLines$Lines" "size" "I", Cond.fieldLink RX1 28 "WindowLines$Lines" "width" "I", Cond.methodLink RX4 37 yX3_putIn, Cond.instanceMethod yX3_putIn, Cond.selects RX3 yX3_putIn yX3_putIn, Cond.code yX3_putIn cX3_putIn 4 (some .int), Cond.fieldLink RX3 32 "WindowLines$Lines" "size" "I", Cond.constant RX3 43 (-100001), Cond.constant RX3 44 (-100003), Cond.static yX4_isOutside, Cond.initialized RX4, Cond.code yX4_isOutside cX4_isOutside 3 (some .boolean), Cond.methodLink RX3 39 yX1_isKind, Cond.instanceMethod yX1_isKind, Cond.selects RX1 yX1_isKind yX1_isKind, Cond.code yX1_isKind cX1_isKind 2 (some .boolean), Cond.methodLink RX3 45 yX1_insert, Cond.instanceMethod yX1_insert, Cond.selects RX1 yX1_insert yX1_insert, Cond.code yX1_insert cX1_insert 4 none, Cond.methodLink RX3 49 yX3_settle, Cond.instanceMethod yX3_settle, Cond.selects RX3 yX3_settle yX3_settle]
def wsX4_put_r3 : List Cond := [Cond.code yX3_settle cX3_settle 4 none, Cond.methodLink RX3 94 yX3_descend, Cond.instanceMethod yX3_descend, Cond.selects RX3 yX3_descend yX3_descend, Cond.code yX3_descend cX3_descend 1 none, Cond.methodLink RX3 100 yX1_measure, Cond.instanceMethod yX1_measure, Cond.selects RX1 yX1_measure yX1_measure, Cond.code yX1_measure cX1_measure 2 none, Cond.methodLink RX1 41 yX1_isLine, Cond.instanceMethod yX1_isLine, Cond.selects RX1 yX1_isLine yX1_isLine, Cond.code yX1_isLine cX1_isLine 2 (some .boolean), Cond.methodLink RX1 49 yX1_isKind, Cond.methodLink RX1 52 yX1_trueHeight, Cond.instanceMethod yX1_trueHeight, Cond.selects RX1 yX1_trueHeight yX1_trueHeight, Cond.code yX1_trueHeight cX1_trueHeight 4 (some .int), Cond.methodLink RX3 97 yX1_heightOf, Cond.instanceMethod yX1_heightOf, Cond.selects RX1 yX1_heightOf yX1_heightOf, Cond.code yX1_heightOf cX1_heightOf 2 (some .int), Cond.methodLink RX1 56 yX1_guess, Cond.instanceMethod yX1_guess]
def wsX4_put_r4 : List Cond := [Cond.selects RX1 yX1_guess yX1_guess, Cond.code yX1_guess cX1_guess 2 (some .int), Cond.methodLink RX3 78 yX3_climb, Cond.instanceMethod yX3_climb, Cond.selects RX3 yX3_climb yX3_climb, Cond.code yX3_climb cX3_climb 1 none, Cond.methodLink RX3 81 Lib.Math.max.name, Cond.static Lib.Math.max.name, Cond.initialized "java/lang/Math", Cond.code Lib.Math.max.name Lib.Math.max.code 2 (some .int), Cond.methodLink RX3 52 yX1_total, Cond.instanceMethod yX1_total, Cond.selects RX1 yX1_total yX1_total, Cond.code yX1_total cX1_total 1 (some .int), Cond.methodLink RX1 63 yX1_topOf, Cond.instanceMethod yX1_topOf, Cond.selects RX1 yX1_topOf yX1_topOf, Cond.code yX1_topOf cX1_topOf 4 (some .int), Cond.methodLink RX1 60 yX1_heightOf, Cond.methodLink RX4 41 yX4_keepDraft, Cond.instanceMethod yX4_keepDraft, Cond.selects RX4 yX4_keepDraft yX4_keepDraft, Cond.code yX4_keepDraft cX4_keepDraft 2 (some .int), Cond.fieldLink RX4 22 "WindowLines" "history" "LWindowLines$History;"]
def wsX4_put_r5 : List Cond := [Cond.methodLink RX4 168 yX0_record, Cond.instanceMethod yX0_record, Cond.selects RX0 yX0_record yX0_record, Cond.initialized RX0, Cond.code yX0_record cX0_record 3 none, Cond.fieldLink RX0 18 "WindowLines$History" "next" "I", Cond.fieldLink RX0 30 "WindowLines$History" "size" "I", Cond.methodLink RX0 33 Lib.Math.min.name, Cond.static Lib.Math.min.name, Cond.code Lib.Math.min.name Lib.Math.min.code 2 (some .int), Cond.methodLink RX0 22 yX0_stateAt, Cond.instanceMethod yX0_stateAt, Cond.selects RX0 yX0_stateAt yX0_stateAt, Cond.code yX0_stateAt cX0_stateAt 2 (some (.object "WindowLines$Window")), Cond.fieldLink RX0 11 "WindowLines$History" "states" "[LWindowLines$Window;", Cond.methodLink RX0 26 yX3_copyFrom]
def wsX4_put : List Cond := .code yX4_put cX4_put 4 (some .int) :: ((wsX4_put_r1 ++ (wsX4_put_r2 ++ (wsX4_put_r3 ++ (wsX4_put_r4 ++ wsX4_put_r5)))) ++ wsX40 ++ wsX30 ++ wsX10 ++ wsX00)
def wsX4_cut_r1 : List Cond := [Cond.fieldLink RX4 16 "WindowLines" "draft" "LWindowLines$Window;", Cond.fieldLink RX4 10 "WindowLines" "now" "LWindowLines$Window;", Cond.methodLink RX4 33 yX3_copyFrom, Cond.instanceMethod yX3_copyFrom, Cond.selects RX3 yX3_copyFrom yX3_copyFrom, Cond.initialized RX3, Cond.code yX3_copyFrom cX3_copyFrom 2 none, Cond.fieldLink RX3 12 "WindowLines$Window" "lines" "LWindowLines$Lines;", Cond.fieldLink RX3 18 "WindowLines$Window" "height" "I", Cond.fieldLink RX3 26 "WindowLines$Window" "anchor" "I", Cond.fieldLink RX3 29 "WindowLines$Window" "shift" "I", Cond.methodLink RX3 22 yX1_copyFrom, Cond.instanceMethod yX1_copyFrom, Cond.selects RX1 yX1_copyFrom yX1_copyFrom, Cond.initialized RX1, Cond.code yX1_copyFrom cX1_copyFrom 2 none, Cond.fieldLink RX1 9 "WindowLines$Lines" "kinds" "[I", Cond.methodLink RX1 32 arraycopyName, Cond.native arraycopyName, Cond.static arraycopyName, Cond.initialized "java/lang/System", Cond.fieldLink RX1 15 "WindowLines$Lines" "lengths" "[I", Cond.fieldLink RX1 18 "WindowLines$Lines" "measured" "[Z", Cond.fieldLink RX1 22 "WindowLines$Lines" "measuredSums" "[I"]
def wsX4_cut_r2 : List Cond := [Cond.fieldLink RX1 25 "WindowLines$Lines" "measuredCounts" "[I", Cond.fieldLink RX1 38 "WindowLines$Lines" "size" "I", Cond.fieldLink RX1 28 "WindowLines$Lines" "width" "I", Cond.methodLink RX4 45 yX3_takeOut, Cond.instanceMethod yX3_takeOut, Cond.selects RX3 yX3_takeOut yX3_takeOut, Cond.code yX3_takeOut cX3_takeOut 3 (some .int), Cond.constant RX3 43 (-100001), Cond.fieldLink RX3 32 "WindowLines$Lines" "size" "I", Cond.methodLink RX3 56 yX1_isLine, Cond.instanceMethod yX1_isLine, Cond.selects RX1 yX1_isLine yX1_isLine, Cond.code yX1_isLine cX1_isLine 2 (some .boolean), Cond.methodLink RX3 59 yX1_remove, Cond.instanceMethod yX1_remove, Cond.selects RX1 yX1_remove yX1_remove, Cond.code yX1_remove cX1_remove 2 none, Cond.methodLink RX1 41 yX1_isLine, Cond.methodLink RX1 45 yX1_forget, Cond.instanceMethod yX1_forget, Cond.selects RX1 yX1_forget yX1_forget, Cond.code yX1_forget cX1_forget 2 none, Cond.methodLink RX1 49 yX1_isKind, Cond.instanceMethod yX1_isKind]
def wsX4_cut_r3 : List Cond := [Cond.selects RX1 yX1_isKind yX1_isKind, Cond.code yX1_isKind cX1_isKind 2 (some .boolean), Cond.methodLink RX1 52 yX1_trueHeight, Cond.instanceMethod yX1_trueHeight, Cond.selects RX1 yX1_trueHeight yX1_trueHeight, Cond.code yX1_trueHeight cX1_trueHeight 4 (some .int), Cond.methodLink RX3 49 yX3_settle, Cond.instanceMethod yX3_settle, Cond.selects RX3 yX3_settle yX3_settle, Cond.code yX3_settle cX3_settle 4 none, Cond.methodLink RX3 94 yX3_descend, Cond.instanceMethod yX3_descend, Cond.selects RX3 yX3_descend yX3_descend, Cond.code yX3_descend cX3_descend 1 none, Cond.methodLink RX3 100 yX1_measure, Cond.instanceMethod yX1_measure, Cond.selects RX1 yX1_measure yX1_measure, Cond.code yX1_measure cX1_measure 2 none, Cond.methodLink RX3 97 yX1_heightOf, Cond.instanceMethod yX1_heightOf, Cond.selects RX1 yX1_heightOf yX1_heightOf, Cond.code yX1_heightOf cX1_heightOf 2 (some .int), Cond.methodLink RX1 56 yX1_guess, Cond.instanceMethod yX1_guess]
def wsX4_cut_r4 : List Cond := [Cond.selects RX1 yX1_guess yX1_guess, Cond.code yX1_guess cX1_guess 2 (some .int), Cond.methodLink RX3 78 yX3_climb, Cond.instanceMethod yX3_climb, Cond.selects RX3 yX3_climb yX3_climb, Cond.code yX3_climb cX3_climb 1 none, Cond.methodLink RX3 81 Lib.Math.max.name, Cond.static Lib.Math.max.name, Cond.initialized "java/lang/Math", Cond.code Lib.Math.max.name Lib.Math.max.code 2 (some .int), Cond.methodLink RX4 41 yX4_keepDraft, Cond.instanceMethod yX4_keepDraft, Cond.selects RX4 yX4_keepDraft yX4_keepDraft, Cond.initialized RX4, Cond.code yX4_keepDraft cX4_keepDraft 2 (some .int), Cond.fieldLink RX4 22 "WindowLines" "history" "LWindowLines$History;", Cond.methodLink RX4 168 yX0_record, Cond.instanceMethod yX0_record, Cond.selects RX0 yX0_record yX0_record, Cond.initialized RX0, Cond.code yX0_record cX0_record 3 none, Cond.fieldLink RX0 18 "WindowLines$History" "next" "I", Cond.fieldLink RX0 30 "WindowLines$History" "size" "I", Cond.methodLink RX0 33 Lib.Math.min.name]
def wsX4_cut_r5 : List Cond := [Cond.static Lib.Math.min.name, Cond.code Lib.Math.min.name Lib.Math.min.code 2 (some .int), Cond.methodLink RX0 22 yX0_stateAt, Cond.instanceMethod yX0_stateAt, Cond.selects RX0 yX0_stateAt yX0_stateAt, Cond.code yX0_stateAt cX0_stateAt 2 (some (.object "WindowLines$Window")), Cond.fieldLink RX0 11 "WindowLines$History" "states" "[LWindowLines$Window;", Cond.methodLink RX0 26 yX3_copyFrom]
def wsX4_cut : List Cond := .code yX4_cut cX4_cut 2 (some .int) :: ((wsX4_cut_r1 ++ (wsX4_cut_r2 ++ (wsX4_cut_r3 ++ (wsX4_cut_r4 ++ wsX4_cut_r5)))) ++ wsX40 ++ wsX30 ++ wsX10 ++ wsX00)
def wsX4_change_r1 : List Cond := [Cond.fieldLink RX4 16 "WindowLines" "draft" "LWindowLines$Window;", Cond.fieldLink RX4 10 "WindowLines" "now" "LWindowLines$Window;", Cond.methodLink RX4 33 yX3_copyFrom, Cond.instanceMethod yX3_copyFrom, Cond.selects RX3 yX3_copyFrom yX3_copyFrom, Cond.initialized RX3, Cond.code yX3_copyFrom cX3_copyFrom 2 none, Cond.fieldLink RX3 12 "WindowLines$Window" "lines" "LWindowLines$Lines;", Cond.fieldLink RX3 18 "WindowLines$Window" "height" "I", Cond.fieldLink RX3 26 "WindowLines$Window" "anchor" "I", Cond.fieldLink RX3 29 "WindowLines$Window" "shift" "I", Cond.methodLink RX3 22 yX1_copyFrom, Cond.instanceMethod yX1_copyFrom, Cond.selects RX1 yX1_copyFrom yX1_copyFrom, Cond.initialized RX1, Cond.code yX1_copyFrom cX1_copyFrom 2 none, Cond.fieldLink RX1 9 "WindowLines$Lines" "kinds" "[I", Cond.methodLink RX1 32 arraycopyName, Cond.native arraycopyName, Cond.static arraycopyName, Cond.initialized "java/lang/System", Cond.fieldLink RX1 15 "WindowLines$Lines" "lengths" "[I", Cond.fieldLink RX1 18 "WindowLines$Lines" "measured" "[Z", Cond.fieldLink RX1 22 "WindowLines$Lines" "measuredSums" "[I"]
def wsX4_change_r2 : List Cond := [Cond.fieldLink RX1 25 "WindowLines$Lines" "measuredCounts" "[I", Cond.fieldLink RX1 38 "WindowLines$Lines" "size" "I", Cond.fieldLink RX1 28 "WindowLines$Lines" "width" "I", Cond.methodLink RX4 48 yX3_changeLength, Cond.instanceMethod yX3_changeLength, Cond.selects RX3 yX3_changeLength yX3_changeLength, Cond.code yX3_changeLength cX3_changeLength 4 (some .int), Cond.constant RX3 43 (-100001), Cond.fieldLink RX3 63 "WindowLines$Lines" "lengths" "[I", Cond.methodLink RX3 56 yX1_isLine, Cond.instanceMethod yX1_isLine, Cond.selects RX1 yX1_isLine yX1_isLine, Cond.code yX1_isLine cX1_isLine 2 (some .boolean), Cond.static yX4_isOutside, Cond.initialized RX4, Cond.code yX4_isOutside cX4_isOutside 3 (some .boolean), Cond.methodLink RX3 67 yX1_setLength, Cond.instanceMethod yX1_setLength, Cond.selects RX1 yX1_setLength yX1_setLength, Cond.code yX1_setLength cX1_setLength 3 none, Cond.methodLink RX1 41 yX1_isLine, Cond.methodLink RX1 45 yX1_forget, Cond.instanceMethod yX1_forget, Cond.selects RX1 yX1_forget yX1_forget]
def wsX4_change_r3 : List Cond := [Cond.code yX1_forget cX1_forget 2 none, Cond.methodLink RX1 49 yX1_isKind, Cond.instanceMethod yX1_isKind, Cond.selects RX1 yX1_isKind yX1_isKind, Cond.code yX1_isKind cX1_isKind 2 (some .boolean), Cond.methodLink RX1 52 yX1_trueHeight, Cond.instanceMethod yX1_trueHeight, Cond.selects RX1 yX1_trueHeight yX1_trueHeight, Cond.code yX1_trueHeight cX1_trueHeight 4 (some .int), Cond.methodLink RX3 49 yX3_settle, Cond.instanceMethod yX3_settle, Cond.selects RX3 yX3_settle yX3_settle, Cond.code yX3_settle cX3_settle 4 none, Cond.fieldLink RX3 32 "WindowLines$Lines" "size" "I", Cond.methodLink RX3 94 yX3_descend, Cond.instanceMethod yX3_descend, Cond.selects RX3 yX3_descend yX3_descend, Cond.code yX3_descend cX3_descend 1 none, Cond.methodLink RX3 100 yX1_measure, Cond.instanceMethod yX1_measure, Cond.selects RX1 yX1_measure yX1_measure, Cond.code yX1_measure cX1_measure 2 none, Cond.methodLink RX3 97 yX1_heightOf, Cond.instanceMethod yX1_heightOf]
def wsX4_change_r4 : List Cond := [Cond.selects RX1 yX1_heightOf yX1_heightOf, Cond.code yX1_heightOf cX1_heightOf 2 (some .int), Cond.methodLink RX1 56 yX1_guess, Cond.instanceMethod yX1_guess, Cond.selects RX1 yX1_guess yX1_guess, Cond.code yX1_guess cX1_guess 2 (some .int), Cond.methodLink RX3 78 yX3_climb, Cond.instanceMethod yX3_climb, Cond.selects RX3 yX3_climb yX3_climb, Cond.code yX3_climb cX3_climb 1 none, Cond.methodLink RX3 81 Lib.Math.max.name, Cond.static Lib.Math.max.name, Cond.initialized "java/lang/Math", Cond.code Lib.Math.max.name Lib.Math.max.code 2 (some .int), Cond.methodLink RX4 41 yX4_keepDraft, Cond.instanceMethod yX4_keepDraft, Cond.selects RX4 yX4_keepDraft yX4_keepDraft, Cond.code yX4_keepDraft cX4_keepDraft 2 (some .int), Cond.fieldLink RX4 22 "WindowLines" "history" "LWindowLines$History;", Cond.methodLink RX4 168 yX0_record, Cond.instanceMethod yX0_record, Cond.selects RX0 yX0_record yX0_record, Cond.initialized RX0, Cond.code yX0_record cX0_record 3 none]
def wsX4_change_r5 : List Cond := [Cond.fieldLink RX0 18 "WindowLines$History" "next" "I", Cond.fieldLink RX0 30 "WindowLines$History" "size" "I", Cond.methodLink RX0 33 Lib.Math.min.name, Cond.static Lib.Math.min.name, Cond.code Lib.Math.min.name Lib.Math.min.code 2 (some .int), Cond.methodLink RX0 22 yX0_stateAt, Cond.instanceMethod yX0_stateAt, Cond.selects RX0 yX0_stateAt yX0_stateAt, Cond.code yX0_stateAt cX0_stateAt 2 (some (.object "WindowLines$Window")), Cond.fieldLink RX0 11 "WindowLines$History" "states" "[LWindowLines$Window;", Cond.methodLink RX0 26 yX3_copyFrom]
def wsX4_change : List Cond := .code yX4_change cX4_change 3 (some .int) :: ((wsX4_change_r1 ++ (wsX4_change_r2 ++ (wsX4_change_r3 ++ (wsX4_change_r4 ++ wsX4_change_r5)))) ++ wsX40 ++ wsX30 ++ wsX10 ++ wsX00)
def wsX4_setHeight_r1 : List Cond := [Cond.fieldLink RX4 16 "WindowLines" "draft" "LWindowLines$Window;", Cond.fieldLink RX4 10 "WindowLines" "now" "LWindowLines$Window;", Cond.methodLink RX4 33 yX3_copyFrom, Cond.instanceMethod yX3_copyFrom, Cond.selects RX3 yX3_copyFrom yX3_copyFrom, Cond.initialized RX3, Cond.code yX3_copyFrom cX3_copyFrom 2 none, Cond.fieldLink RX3 12 "WindowLines$Window" "lines" "LWindowLines$Lines;", Cond.fieldLink RX3 18 "WindowLines$Window" "height" "I", Cond.fieldLink RX3 26 "WindowLines$Window" "anchor" "I", Cond.fieldLink RX3 29 "WindowLines$Window" "shift" "I", Cond.methodLink RX3 22 yX1_copyFrom, Cond.instanceMethod yX1_copyFrom, Cond.selects RX1 yX1_copyFrom yX1_copyFrom, Cond.initialized RX1, Cond.code yX1_copyFrom cX1_copyFrom 2 none, Cond.fieldLink RX1 9 "WindowLines$Lines" "kinds" "[I", Cond.methodLink RX1 32 arraycopyName, Cond.native arraycopyName, Cond.static arraycopyName, Cond.initialized "java/lang/System", Cond.fieldLink RX1 15 "WindowLines$Lines" "lengths" "[I", Cond.fieldLink RX1 18 "WindowLines$Lines" "measured" "[Z", Cond.fieldLink RX1 22 "WindowLines$Lines" "measuredSums" "[I"]
def wsX4_setHeight_r2 : List Cond := [Cond.fieldLink RX1 25 "WindowLines$Lines" "measuredCounts" "[I", Cond.fieldLink RX1 38 "WindowLines$Lines" "size" "I", Cond.fieldLink RX1 28 "WindowLines$Lines" "width" "I", Cond.methodLink RX4 52 yX3_changeHeight, Cond.instanceMethod yX3_changeHeight, Cond.selects RX3 yX3_changeHeight yX3_changeHeight, Cond.code yX3_changeHeight cX3_changeHeight 3 (some .int), Cond.constant RX3 43 (-100001), Cond.static yX4_isOutside, Cond.initialized RX4, Cond.code yX4_isOutside cX4_isOutside 3 (some .boolean), Cond.methodLink RX3 49 yX3_settle, Cond.instanceMethod yX3_settle, Cond.selects RX3 yX3_settle yX3_settle, Cond.code yX3_settle cX3_settle 4 none, Cond.fieldLink RX3 32 "WindowLines$Lines" "size" "I", Cond.methodLink RX3 94 yX3_descend, Cond.instanceMethod yX3_descend, Cond.selects RX3 yX3_descend yX3_descend, Cond.code yX3_descend cX3_descend 1 none, Cond.methodLink RX3 100 yX1_measure, Cond.instanceMethod yX1_measure, Cond.selects RX1 yX1_measure yX1_measure, Cond.code yX1_measure cX1_measure 2 none]
def wsX4_setHeight_r3 : List Cond := [Cond.methodLink RX1 41 yX1_isLine, Cond.instanceMethod yX1_isLine, Cond.selects RX1 yX1_isLine yX1_isLine, Cond.code yX1_isLine cX1_isLine 2 (some .boolean), Cond.methodLink RX1 49 yX1_isKind, Cond.instanceMethod yX1_isKind, Cond.selects RX1 yX1_isKind yX1_isKind, Cond.code yX1_isKind cX1_isKind 2 (some .boolean), Cond.methodLink RX1 52 yX1_trueHeight, Cond.instanceMethod yX1_trueHeight, Cond.selects RX1 yX1_trueHeight yX1_trueHeight, Cond.code yX1_trueHeight cX1_trueHeight 4 (some .int), Cond.methodLink RX3 97 yX1_heightOf, Cond.instanceMethod yX1_heightOf, Cond.selects RX1 yX1_heightOf yX1_heightOf, Cond.code yX1_heightOf cX1_heightOf 2 (some .int), Cond.methodLink RX1 56 yX1_guess, Cond.instanceMethod yX1_guess, Cond.selects RX1 yX1_guess yX1_guess, Cond.code yX1_guess cX1_guess 2 (some .int), Cond.methodLink RX3 78 yX3_climb, Cond.instanceMethod yX3_climb, Cond.selects RX3 yX3_climb yX3_climb, Cond.code yX3_climb cX3_climb 1 none]
def wsX4_setHeight_r4 : List Cond := [Cond.methodLink RX3 81 Lib.Math.max.name, Cond.static Lib.Math.max.name, Cond.initialized "java/lang/Math", Cond.code Lib.Math.max.name Lib.Math.max.code 2 (some .int), Cond.methodLink RX4 41 yX4_keepDraft, Cond.instanceMethod yX4_keepDraft, Cond.selects RX4 yX4_keepDraft yX4_keepDraft, Cond.code yX4_keepDraft cX4_keepDraft 2 (some .int), Cond.fieldLink RX4 22 "WindowLines" "history" "LWindowLines$History;", Cond.methodLink RX4 168 yX0_record, Cond.instanceMethod yX0_record, Cond.selects RX0 yX0_record yX0_record, Cond.initialized RX0, Cond.code yX0_record cX0_record 3 none, Cond.fieldLink RX0 18 "WindowLines$History" "next" "I", Cond.fieldLink RX0 30 "WindowLines$History" "size" "I", Cond.methodLink RX0 33 Lib.Math.min.name, Cond.static Lib.Math.min.name, Cond.code Lib.Math.min.name Lib.Math.min.code 2 (some .int), Cond.methodLink RX0 22 yX0_stateAt, Cond.instanceMethod yX0_stateAt, Cond.selects RX0 yX0_stateAt yX0_stateAt, Cond.code yX0_stateAt cX0_stateAt 2 (some (.object "WindowLines$Window")), Cond.fieldLink RX0 11 "WindowLines$History" "states" "[LWindowLines$Window;"]
def wsX4_setHeight_r5 : List Cond := [Cond.methodLink RX0 26 yX3_copyFrom]
def wsX4_setHeight : List Cond := .code yX4_setHeight cX4_setHeight 2 (some .int) :: ((wsX4_setHeight_r1 ++ (wsX4_setHeight_r2 ++ (wsX4_setHeight_r3 ++ (wsX4_setHeight_r4 ++ wsX4_setHeight_r5)))) ++ wsX40 ++ wsX30 ++ wsX10 ++ wsX00)
def wsX4_setWidth_r1 : List Cond := [Cond.fieldLink RX4 16 "WindowLines" "draft" "LWindowLines$Window;", Cond.fieldLink RX4 10 "WindowLines" "now" "LWindowLines$Window;", Cond.methodLink RX4 33 yX3_copyFrom, Cond.instanceMethod yX3_copyFrom, Cond.selects RX3 yX3_copyFrom yX3_copyFrom, Cond.initialized RX3, Cond.code yX3_copyFrom cX3_copyFrom 2 none, Cond.fieldLink RX3 12 "WindowLines$Window" "lines" "LWindowLines$Lines;", Cond.fieldLink RX3 18 "WindowLines$Window" "height" "I", Cond.fieldLink RX3 26 "WindowLines$Window" "anchor" "I", Cond.fieldLink RX3 29 "WindowLines$Window" "shift" "I", Cond.methodLink RX3 22 yX1_copyFrom, Cond.instanceMethod yX1_copyFrom, Cond.selects RX1 yX1_copyFrom yX1_copyFrom, Cond.initialized RX1, Cond.code yX1_copyFrom cX1_copyFrom 2 none, Cond.fieldLink RX1 9 "WindowLines$Lines" "kinds" "[I", Cond.methodLink RX1 32 arraycopyName, Cond.native arraycopyName, Cond.static arraycopyName, Cond.initialized "java/lang/System", Cond.fieldLink RX1 15 "WindowLines$Lines" "lengths" "[I", Cond.fieldLink RX1 18 "WindowLines$Lines" "measured" "[Z", Cond.fieldLink RX1 22 "WindowLines$Lines" "measuredSums" "[I"]
def wsX4_setWidth_r2 : List Cond := [Cond.fieldLink RX1 25 "WindowLines$Lines" "measuredCounts" "[I", Cond.fieldLink RX1 38 "WindowLines$Lines" "size" "I", Cond.fieldLink RX1 28 "WindowLines$Lines" "width" "I", Cond.methodLink RX4 55 yX3_changeWidth, Cond.instanceMethod yX3_changeWidth, Cond.selects RX3 yX3_changeWidth yX3_changeWidth, Cond.code yX3_changeWidth cX3_changeWidth 3 (some .int), Cond.constant RX3 43 (-100001), Cond.fieldLink RX3 71 "WindowLines$Lines" "width" "I", Cond.static yX4_isOutside, Cond.initialized RX4, Cond.code yX4_isOutside cX4_isOutside 3 (some .boolean), Cond.methodLink RX3 74 yX1_forgetAllFor, Cond.instanceMethod yX1_forgetAllFor, Cond.selects RX1 yX1_forgetAllFor yX1_forgetAllFor, Cond.code yX1_forgetAllFor cX1_forgetAllFor 3 none, Cond.methodLink RX1 45 yX1_forget, Cond.instanceMethod yX1_forget, Cond.selects RX1 yX1_forget yX1_forget, Cond.code yX1_forget cX1_forget 2 none, Cond.methodLink RX1 41 yX1_isLine, Cond.instanceMethod yX1_isLine, Cond.selects RX1 yX1_isLine yX1_isLine, Cond.code yX1_isLine cX1_isLine 2 (some .boolean)]
def wsX4_setWidth_r3 : List Cond := [Cond.methodLink RX1 49 yX1_isKind, Cond.instanceMethod yX1_isKind, Cond.selects RX1 yX1_isKind yX1_isKind, Cond.code yX1_isKind cX1_isKind 2 (some .boolean), Cond.methodLink RX1 52 yX1_trueHeight, Cond.instanceMethod yX1_trueHeight, Cond.selects RX1 yX1_trueHeight yX1_trueHeight, Cond.code yX1_trueHeight cX1_trueHeight 4 (some .int), Cond.methodLink RX3 49 yX3_settle, Cond.instanceMethod yX3_settle, Cond.selects RX3 yX3_settle yX3_settle, Cond.code yX3_settle cX3_settle 4 none, Cond.fieldLink RX3 32 "WindowLines$Lines" "size" "I", Cond.methodLink RX3 94 yX3_descend, Cond.instanceMethod yX3_descend, Cond.selects RX3 yX3_descend yX3_descend, Cond.code yX3_descend cX3_descend 1 none, Cond.methodLink RX3 100 yX1_measure, Cond.instanceMethod yX1_measure, Cond.selects RX1 yX1_measure yX1_measure, Cond.code yX1_measure cX1_measure 2 none, Cond.methodLink RX3 97 yX1_heightOf, Cond.instanceMethod yX1_heightOf, Cond.selects RX1 yX1_heightOf yX1_heightOf]
def wsX4_setWidth_r4 : List Cond := [Cond.code yX1_heightOf cX1_heightOf 2 (some .int), Cond.methodLink RX1 56 yX1_guess, Cond.instanceMethod yX1_guess, Cond.selects RX1 yX1_guess yX1_guess, Cond.code yX1_guess cX1_guess 2 (some .int), Cond.methodLink RX3 78 yX3_climb, Cond.instanceMethod yX3_climb, Cond.selects RX3 yX3_climb yX3_climb, Cond.code yX3_climb cX3_climb 1 none, Cond.methodLink RX3 81 Lib.Math.max.name, Cond.static Lib.Math.max.name, Cond.initialized "java/lang/Math", Cond.code Lib.Math.max.name Lib.Math.max.code 2 (some .int), Cond.methodLink RX4 41 yX4_keepDraft, Cond.instanceMethod yX4_keepDraft, Cond.selects RX4 yX4_keepDraft yX4_keepDraft, Cond.code yX4_keepDraft cX4_keepDraft 2 (some .int), Cond.fieldLink RX4 22 "WindowLines" "history" "LWindowLines$History;", Cond.methodLink RX4 168 yX0_record, Cond.instanceMethod yX0_record, Cond.selects RX0 yX0_record yX0_record, Cond.initialized RX0, Cond.code yX0_record cX0_record 3 none, Cond.fieldLink RX0 18 "WindowLines$History" "next" "I"]
def wsX4_setWidth_r5 : List Cond := [Cond.fieldLink RX0 30 "WindowLines$History" "size" "I", Cond.methodLink RX0 33 Lib.Math.min.name, Cond.static Lib.Math.min.name, Cond.code Lib.Math.min.name Lib.Math.min.code 2 (some .int), Cond.methodLink RX0 22 yX0_stateAt, Cond.instanceMethod yX0_stateAt, Cond.selects RX0 yX0_stateAt yX0_stateAt, Cond.code yX0_stateAt cX0_stateAt 2 (some (.object "WindowLines$Window")), Cond.fieldLink RX0 11 "WindowLines$History" "states" "[LWindowLines$Window;", Cond.methodLink RX0 26 yX3_copyFrom]
def wsX4_setWidth : List Cond := .code yX4_setWidth cX4_setWidth 2 (some .int) :: ((wsX4_setWidth_r1 ++ (wsX4_setWidth_r2 ++ (wsX4_setWidth_r3 ++ (wsX4_setWidth_r4 ++ wsX4_setWidth_r5)))) ++ wsX40 ++ wsX30 ++ wsX10 ++ wsX00)
def wsX4_scroll_r1 : List Cond := [Cond.fieldLink RX4 16 "WindowLines" "draft" "LWindowLines$Window;", Cond.fieldLink RX4 10 "WindowLines" "now" "LWindowLines$Window;", Cond.methodLink RX4 33 yX3_copyFrom, Cond.instanceMethod yX3_copyFrom, Cond.selects RX3 yX3_copyFrom yX3_copyFrom, Cond.initialized RX3, Cond.code yX3_copyFrom cX3_copyFrom 2 none, Cond.fieldLink RX3 12 "WindowLines$Window" "lines" "LWindowLines$Lines;", Cond.fieldLink RX3 18 "WindowLines$Window" "height" "I", Cond.fieldLink RX3 26 "WindowLines$Window" "anchor" "I", Cond.fieldLink RX3 29 "WindowLines$Window" "shift" "I", Cond.methodLink RX3 22 yX1_copyFrom, Cond.instanceMethod yX1_copyFrom, Cond.selects RX1 yX1_copyFrom yX1_copyFrom, Cond.initialized RX1, Cond.code yX1_copyFrom cX1_copyFrom 2 none, Cond.fieldLink RX1 9 "WindowLines$Lines" "kinds" "[I", Cond.methodLink RX1 32 arraycopyName, Cond.native arraycopyName, Cond.static arraycopyName, Cond.initialized "java/lang/System", Cond.fieldLink RX1 15 "WindowLines$Lines" "lengths" "[I", Cond.fieldLink RX1 18 "WindowLines$Lines" "measured" "[Z", Cond.fieldLink RX1 22 "WindowLines$Lines" "measuredSums" "[I"]
def wsX4_scroll_r2 : List Cond := [Cond.fieldLink RX1 25 "WindowLines$Lines" "measuredCounts" "[I", Cond.fieldLink RX1 38 "WindowLines$Lines" "size" "I", Cond.fieldLink RX1 28 "WindowLines$Lines" "width" "I", Cond.methodLink RX4 58 yX3_moveBy, Cond.instanceMethod yX3_moveBy, Cond.selects RX3 yX3_moveBy yX3_moveBy, Cond.code yX3_moveBy cX3_moveBy 2 (some .int), Cond.constant RX3 43 (-100001), Cond.fieldLink RX3 32 "WindowLines$Lines" "size" "I", Cond.constant RX3 77 (-100002), Cond.static yX4_isOutside, Cond.initialized RX4, Cond.code yX4_isOutside cX4_isOutside 3 (some .boolean), Cond.methodLink RX3 78 yX3_climb, Cond.instanceMethod yX3_climb, Cond.selects RX3 yX3_climb yX3_climb, Cond.code yX3_climb cX3_climb 1 none, Cond.methodLink RX3 81 Lib.Math.max.name, Cond.static Lib.Math.max.name, Cond.initialized "java/lang/Math", Cond.code Lib.Math.max.name Lib.Math.max.code 2 (some .int), Cond.methodLink RX3 100 yX1_measure, Cond.instanceMethod yX1_measure, Cond.selects RX1 yX1_measure yX1_measure]
def wsX4_scroll_r3 : List Cond := [Cond.code yX1_measure cX1_measure 2 none, Cond.methodLink RX1 41 yX1_isLine, Cond.instanceMethod yX1_isLine, Cond.selects RX1 yX1_isLine yX1_isLine, Cond.code yX1_isLine cX1_isLine 2 (some .boolean), Cond.methodLink RX1 49 yX1_isKind, Cond.instanceMethod yX1_isKind, Cond.selects RX1 yX1_isKind yX1_isKind, Cond.code yX1_isKind cX1_isKind 2 (some .boolean), Cond.methodLink RX1 52 yX1_trueHeight, Cond.instanceMethod yX1_trueHeight, Cond.selects RX1 yX1_trueHeight yX1_trueHeight, Cond.code yX1_trueHeight cX1_trueHeight 4 (some .int), Cond.methodLink RX3 97 yX1_heightOf, Cond.instanceMethod yX1_heightOf, Cond.selects RX1 yX1_heightOf yX1_heightOf, Cond.code yX1_heightOf cX1_heightOf 2 (some .int), Cond.methodLink RX1 56 yX1_guess, Cond.instanceMethod yX1_guess, Cond.selects RX1 yX1_guess yX1_guess, Cond.code yX1_guess cX1_guess 2 (some .int), Cond.methodLink RX3 49 yX3_settle, Cond.instanceMethod yX3_settle, Cond.selects RX3 yX3_settle yX3_settle]
def wsX4_scroll_r4 : List Cond := [Cond.code yX3_settle cX3_settle 4 none, Cond.methodLink RX3 94 yX3_descend, Cond.instanceMethod yX3_descend, Cond.selects RX3 yX3_descend yX3_descend, Cond.code yX3_descend cX3_descend 1 none, Cond.methodLink RX4 41 yX4_keepDraft, Cond.instanceMethod yX4_keepDraft, Cond.selects RX4 yX4_keepDraft yX4_keepDraft, Cond.code yX4_keepDraft cX4_keepDraft 2 (some .int), Cond.fieldLink RX4 22 "WindowLines" "history" "LWindowLines$History;", Cond.methodLink RX4 168 yX0_record, Cond.instanceMethod yX0_record, Cond.selects RX0 yX0_record yX0_record, Cond.initialized RX0, Cond.code yX0_record cX0_record 3 none, Cond.fieldLink RX0 18 "WindowLines$History" "next" "I", Cond.fieldLink RX0 30 "WindowLines$History" "size" "I", Cond.methodLink RX0 33 Lib.Math.min.name, Cond.static Lib.Math.min.name, Cond.code Lib.Math.min.name Lib.Math.min.code 2 (some .int), Cond.methodLink RX0 22 yX0_stateAt, Cond.instanceMethod yX0_stateAt, Cond.selects RX0 yX0_stateAt yX0_stateAt, Cond.code yX0_stateAt cX0_stateAt 2 (some (.object "WindowLines$Window"))]
def wsX4_scroll_r5 : List Cond := [Cond.fieldLink RX0 11 "WindowLines$History" "states" "[LWindowLines$Window;", Cond.methodLink RX0 26 yX3_copyFrom]
def wsX4_scroll : List Cond := .code yX4_scroll cX4_scroll 2 (some .int) :: ((wsX4_scroll_r1 ++ (wsX4_scroll_r2 ++ (wsX4_scroll_r3 ++ (wsX4_scroll_r4 ++ wsX4_scroll_r5)))) ++ wsX40 ++ wsX30 ++ wsX10 ++ wsX00)
def wsX4_jump_r1 : List Cond := [Cond.fieldLink RX4 16 "WindowLines" "draft" "LWindowLines$Window;", Cond.fieldLink RX4 10 "WindowLines" "now" "LWindowLines$Window;", Cond.methodLink RX4 33 yX3_copyFrom, Cond.instanceMethod yX3_copyFrom, Cond.selects RX3 yX3_copyFrom yX3_copyFrom, Cond.initialized RX3, Cond.code yX3_copyFrom cX3_copyFrom 2 none, Cond.fieldLink RX3 12 "WindowLines$Window" "lines" "LWindowLines$Lines;", Cond.fieldLink RX3 18 "WindowLines$Window" "height" "I", Cond.fieldLink RX3 26 "WindowLines$Window" "anchor" "I", Cond.fieldLink RX3 29 "WindowLines$Window" "shift" "I", Cond.methodLink RX3 22 yX1_copyFrom, Cond.instanceMethod yX1_copyFrom, Cond.selects RX1 yX1_copyFrom yX1_copyFrom, Cond.initialized RX1, Cond.code yX1_copyFrom cX1_copyFrom 2 none, Cond.fieldLink RX1 9 "WindowLines$Lines" "kinds" "[I", Cond.methodLink RX1 32 arraycopyName, Cond.native arraycopyName, Cond.static arraycopyName, Cond.initialized "java/lang/System", Cond.fieldLink RX1 15 "WindowLines$Lines" "lengths" "[I", Cond.fieldLink RX1 18 "WindowLines$Lines" "measured" "[Z", Cond.fieldLink RX1 22 "WindowLines$Lines" "measuredSums" "[I"]
def wsX4_jump_r2 : List Cond := [Cond.fieldLink RX1 25 "WindowLines$Lines" "measuredCounts" "[I", Cond.fieldLink RX1 38 "WindowLines$Lines" "size" "I", Cond.fieldLink RX1 28 "WindowLines$Lines" "width" "I", Cond.methodLink RX4 61 yX3_moveToShare, Cond.instanceMethod yX3_moveToShare, Cond.selects RX3 yX3_moveToShare yX3_moveToShare, Cond.code yX3_moveToShare cX3_moveToShare 3 (some .int), Cond.constant RX3 43 (-100001), Cond.fieldLink RX3 32 "WindowLines$Lines" "size" "I", Cond.constant RX3 77 (-100002), Cond.methodLink RX3 81 Lib.Math.max.name, Cond.static Lib.Math.max.name, Cond.initialized "java/lang/Math", Cond.code Lib.Math.max.name Lib.Math.max.code 2 (some .int), Cond.static yX4_isOutside, Cond.initialized RX4, Cond.code yX4_isOutside cX4_isOutside 3 (some .boolean), Cond.methodLink RX3 52 yX1_total, Cond.instanceMethod yX1_total, Cond.selects RX1 yX1_total yX1_total, Cond.code yX1_total cX1_total 1 (some .int), Cond.methodLink RX1 63 yX1_topOf, Cond.instanceMethod yX1_topOf, Cond.selects RX1 yX1_topOf yX1_topOf]
def wsX4_jump_r3 : List Cond := [Cond.code yX1_topOf cX1_topOf 4 (some .int), Cond.methodLink RX1 60 yX1_heightOf, Cond.instanceMethod yX1_heightOf, Cond.selects RX1 yX1_heightOf yX1_heightOf, Cond.code yX1_heightOf cX1_heightOf 2 (some .int), Cond.methodLink RX1 41 yX1_isLine, Cond.instanceMethod yX1_isLine, Cond.selects RX1 yX1_isLine yX1_isLine, Cond.code yX1_isLine cX1_isLine 2 (some .boolean), Cond.methodLink RX1 52 yX1_trueHeight, Cond.instanceMethod yX1_trueHeight, Cond.selects RX1 yX1_trueHeight yX1_trueHeight, Cond.code yX1_trueHeight cX1_trueHeight 4 (some .int), Cond.methodLink RX1 56 yX1_guess, Cond.instanceMethod yX1_guess, Cond.selects RX1 yX1_guess yX1_guess, Cond.code yX1_guess cX1_guess 2 (some .int), Cond.methodLink RX3 87 yX1_lineAt, Cond.instanceMethod yX1_lineAt, Cond.selects RX1 yX1_lineAt yX1_lineAt, Cond.code yX1_lineAt cX1_lineAt 4 (some .int), Cond.constant RX1 66 (-100009), Cond.methodLink RX3 91 yX1_topOf, Cond.methodLink RX3 49 yX3_settle]
def wsX4_jump_r4 : List Cond := [Cond.instanceMethod yX3_settle, Cond.selects RX3 yX3_settle yX3_settle, Cond.code yX3_settle cX3_settle 4 none, Cond.methodLink RX3 94 yX3_descend, Cond.instanceMethod yX3_descend, Cond.selects RX3 yX3_descend yX3_descend, Cond.code yX3_descend cX3_descend 1 none, Cond.methodLink RX3 100 yX1_measure, Cond.instanceMethod yX1_measure, Cond.selects RX1 yX1_measure yX1_measure, Cond.code yX1_measure cX1_measure 2 none, Cond.methodLink RX1 49 yX1_isKind, Cond.instanceMethod yX1_isKind, Cond.selects RX1 yX1_isKind yX1_isKind, Cond.code yX1_isKind cX1_isKind 2 (some .boolean), Cond.methodLink RX3 97 yX1_heightOf, Cond.methodLink RX3 78 yX3_climb, Cond.instanceMethod yX3_climb, Cond.selects RX3 yX3_climb yX3_climb, Cond.code yX3_climb cX3_climb 1 none, Cond.methodLink RX4 41 yX4_keepDraft, Cond.instanceMethod yX4_keepDraft, Cond.selects RX4 yX4_keepDraft yX4_keepDraft, Cond.code yX4_keepDraft cX4_keepDraft 2 (some .int)]
def wsX4_jump_r5 : List Cond := [Cond.fieldLink RX4 22 "WindowLines" "history" "LWindowLines$History;", Cond.methodLink RX4 168 yX0_record, Cond.instanceMethod yX0_record, Cond.selects RX0 yX0_record yX0_record, Cond.initialized RX0, Cond.code yX0_record cX0_record 3 none, Cond.fieldLink RX0 18 "WindowLines$History" "next" "I", Cond.fieldLink RX0 30 "WindowLines$History" "size" "I", Cond.methodLink RX0 33 Lib.Math.min.name, Cond.static Lib.Math.min.name, Cond.code Lib.Math.min.name Lib.Math.min.code 2 (some .int), Cond.methodLink RX0 22 yX0_stateAt, Cond.instanceMethod yX0_stateAt, Cond.selects RX0 yX0_stateAt yX0_stateAt, Cond.code yX0_stateAt cX0_stateAt 2 (some (.object "WindowLines$Window")), Cond.fieldLink RX0 11 "WindowLines$History" "states" "[LWindowLines$Window;", Cond.methodLink RX0 26 yX3_copyFrom]
def wsX4_jump : List Cond := .code yX4_jump cX4_jump 2 (some .int) :: ((wsX4_jump_r1 ++ (wsX4_jump_r2 ++ (wsX4_jump_r3 ++ (wsX4_jump_r4 ++ wsX4_jump_r5)))) ++ wsX40 ++ wsX30 ++ wsX10 ++ wsX00)
def wsX4_goTo_r1 : List Cond := [Cond.fieldLink RX4 16 "WindowLines" "draft" "LWindowLines$Window;", Cond.fieldLink RX4 10 "WindowLines" "now" "LWindowLines$Window;", Cond.methodLink RX4 33 yX3_copyFrom, Cond.instanceMethod yX3_copyFrom, Cond.selects RX3 yX3_copyFrom yX3_copyFrom, Cond.initialized RX3, Cond.code yX3_copyFrom cX3_copyFrom 2 none, Cond.fieldLink RX3 12 "WindowLines$Window" "lines" "LWindowLines$Lines;", Cond.fieldLink RX3 18 "WindowLines$Window" "height" "I", Cond.fieldLink RX3 26 "WindowLines$Window" "anchor" "I", Cond.fieldLink RX3 29 "WindowLines$Window" "shift" "I", Cond.methodLink RX3 22 yX1_copyFrom, Cond.instanceMethod yX1_copyFrom, Cond.selects RX1 yX1_copyFrom yX1_copyFrom, Cond.initialized RX1, Cond.code yX1_copyFrom cX1_copyFrom 2 none, Cond.fieldLink RX1 9 "WindowLines$Lines" "kinds" "[I", Cond.methodLink RX1 32 arraycopyName, Cond.native arraycopyName, Cond.static arraycopyName, Cond.initialized "java/lang/System", Cond.fieldLink RX1 15 "WindowLines$Lines" "lengths" "[I", Cond.fieldLink RX1 18 "WindowLines$Lines" "measured" "[Z", Cond.fieldLink RX1 22 "WindowLines$Lines" "measuredSums" "[I"]
def wsX4_goTo_r2 : List Cond := [Cond.fieldLink RX1 25 "WindowLines$Lines" "measuredCounts" "[I", Cond.fieldLink RX1 38 "WindowLines$Lines" "size" "I", Cond.fieldLink RX1 28 "WindowLines$Lines" "width" "I", Cond.methodLink RX4 64 yX3_moveToLine, Cond.instanceMethod yX3_moveToLine, Cond.selects RX3 yX3_moveToLine yX3_moveToLine, Cond.code yX3_moveToLine cX3_moveToLine 2 (some .int), Cond.constant RX3 43 (-100001), Cond.methodLink RX3 56 yX1_isLine, Cond.instanceMethod yX1_isLine, Cond.selects RX1 yX1_isLine yX1_isLine, Cond.code yX1_isLine cX1_isLine 2 (some .boolean), Cond.methodLink RX3 49 yX3_settle, Cond.instanceMethod yX3_settle, Cond.selects RX3 yX3_settle yX3_settle, Cond.code yX3_settle cX3_settle 4 none, Cond.fieldLink RX3 32 "WindowLines$Lines" "size" "I", Cond.methodLink RX3 94 yX3_descend, Cond.instanceMethod yX3_descend, Cond.selects RX3 yX3_descend yX3_descend, Cond.code yX3_descend cX3_descend 1 none, Cond.methodLink RX3 100 yX1_measure, Cond.instanceMethod yX1_measure, Cond.selects RX1 yX1_measure yX1_measure]
def wsX4_goTo_r3 : List Cond := [Cond.code yX1_measure cX1_measure 2 none, Cond.methodLink RX1 41 yX1_isLine, Cond.methodLink RX1 49 yX1_isKind, Cond.instanceMethod yX1_isKind, Cond.selects RX1 yX1_isKind yX1_isKind, Cond.code yX1_isKind cX1_isKind 2 (some .boolean), Cond.methodLink RX1 52 yX1_trueHeight, Cond.instanceMethod yX1_trueHeight, Cond.selects RX1 yX1_trueHeight yX1_trueHeight, Cond.code yX1_trueHeight cX1_trueHeight 4 (some .int), Cond.methodLink RX3 97 yX1_heightOf, Cond.instanceMethod yX1_heightOf, Cond.selects RX1 yX1_heightOf yX1_heightOf, Cond.code yX1_heightOf cX1_heightOf 2 (some .int), Cond.methodLink RX1 56 yX1_guess, Cond.instanceMethod yX1_guess, Cond.selects RX1 yX1_guess yX1_guess, Cond.code yX1_guess cX1_guess 2 (some .int), Cond.methodLink RX3 78 yX3_climb, Cond.instanceMethod yX3_climb, Cond.selects RX3 yX3_climb yX3_climb, Cond.code yX3_climb cX3_climb 1 none, Cond.methodLink RX3 81 Lib.Math.max.name, Cond.static Lib.Math.max.name]
def wsX4_goTo_r4 : List Cond := [Cond.initialized "java/lang/Math", Cond.code Lib.Math.max.name Lib.Math.max.code 2 (some .int), Cond.methodLink RX4 41 yX4_keepDraft, Cond.instanceMethod yX4_keepDraft, Cond.selects RX4 yX4_keepDraft yX4_keepDraft, Cond.initialized RX4, Cond.code yX4_keepDraft cX4_keepDraft 2 (some .int), Cond.fieldLink RX4 22 "WindowLines" "history" "LWindowLines$History;", Cond.methodLink RX4 168 yX0_record, Cond.instanceMethod yX0_record, Cond.selects RX0 yX0_record yX0_record, Cond.initialized RX0, Cond.code yX0_record cX0_record 3 none, Cond.fieldLink RX0 18 "WindowLines$History" "next" "I", Cond.fieldLink RX0 30 "WindowLines$History" "size" "I", Cond.methodLink RX0 33 Lib.Math.min.name, Cond.static Lib.Math.min.name, Cond.code Lib.Math.min.name Lib.Math.min.code 2 (some .int), Cond.methodLink RX0 22 yX0_stateAt, Cond.instanceMethod yX0_stateAt, Cond.selects RX0 yX0_stateAt yX0_stateAt, Cond.code yX0_stateAt cX0_stateAt 2 (some (.object "WindowLines$Window")), Cond.fieldLink RX0 11 "WindowLines$History" "states" "[LWindowLines$Window;", Cond.methodLink RX0 26 yX3_copyFrom]
def wsX4_goTo : List Cond := .code yX4_goTo cX4_goTo 2 (some .int) :: ((wsX4_goTo_r1 ++ (wsX4_goTo_r2 ++ (wsX4_goTo_r3 ++ wsX4_goTo_r4))) ++ wsX40 ++ wsX30 ++ wsX10 ++ wsX00)
def wsX4_undo_r1 : List Cond := [Cond.fieldLink RX4 22 "WindowLines" "history" "LWindowLines$History;", Cond.fieldLink RX4 67 "WindowLines$History" "size" "I", Cond.constant RX4 71 (-100002), Cond.fieldLink RX4 10 "WindowLines" "now" "LWindowLines$Window;", Cond.methodLink RX4 72 yX0_restoreTo, Cond.instanceMethod yX0_restoreTo, Cond.selects RX0 yX0_restoreTo yX0_restoreTo, Cond.initialized RX0, Cond.code yX0_restoreTo cX0_restoreTo 2 none, Cond.fieldLink RX0 30 "WindowLines$History" "size" "I", Cond.fieldLink RX0 18 "WindowLines$History" "next" "I", Cond.methodLink RX0 22 yX0_stateAt, Cond.instanceMethod yX0_stateAt, Cond.selects RX0 yX0_stateAt yX0_stateAt, Cond.code yX0_stateAt cX0_stateAt 2 (some (.object "WindowLines$Window")), Cond.fieldLink RX0 11 "WindowLines$History" "states" "[LWindowLines$Window;", Cond.methodLink RX0 26 yX3_copyFrom, Cond.instanceMethod yX3_copyFrom, Cond.selects RX3 yX3_copyFrom yX3_copyFrom, Cond.initialized RX3, Cond.code yX3_copyFrom cX3_copyFrom 2 none, Cond.fieldLink RX3 12 "WindowLines$Window" "lines" "LWindowLines$Lines;", Cond.fieldLink RX3 18 "WindowLines$Window" "height" "I", Cond.fieldLink RX3 26 "WindowLines$Window" "anchor" "I"]
def wsX4_undo_r2 : List Cond := [Cond.fieldLink RX3 29 "WindowLines$Window" "shift" "I", Cond.methodLink RX3 22 yX1_copyFrom, Cond.instanceMethod yX1_copyFrom, Cond.selects RX1 yX1_copyFrom yX1_copyFrom, Cond.initialized RX1, Cond.code yX1_copyFrom cX1_copyFrom 2 none, Cond.fieldLink RX1 9 "WindowLines$Lines" "kinds" "[I", Cond.methodLink RX1 32 arraycopyName, Cond.native arraycopyName, Cond.static arraycopyName, Cond.initialized "java/lang/System", Cond.fieldLink RX1 15 "WindowLines$Lines" "lengths" "[I", Cond.fieldLink RX1 18 "WindowLines$Lines" "measured" "[Z", Cond.fieldLink RX1 22 "WindowLines$Lines" "measuredSums" "[I", Cond.fieldLink RX1 25 "WindowLines$Lines" "measuredCounts" "[I", Cond.fieldLink RX1 38 "WindowLines$Lines" "size" "I", Cond.fieldLink RX1 28 "WindowLines$Lines" "width" "I"]
def wsX4_undo : List Cond := .code yX4_undo cX4_undo 1 (some .int) :: ((wsX4_undo_r1 ++ wsX4_undo_r2) ++ wsX40 ++ wsX00 ++ wsX30 ++ wsX10)
def wsX4_append : List Cond := .code yX4_append cX4_append 2 (some .int) :: ([.constant RX4 79 (-100001), .fieldLink RX4 29 "WindowLines" "program" "LWindowLines$Program;", .methodLink RX4 75 yX4_isOutside, .static yX4_isOutside, .initialized RX4, .code yX4_isOutside cX4_isOutside 3 (some .boolean), .methodLink RX4 80 yX2_add, .instanceMethod yX2_add, .selects RX2 yX2_add yX2_add, .initialized RX2, .code yX2_add cX2_add 2 (some .int), .fieldLink RX2 19 "WindowLines$Program" "length" "I", .constant RX2 23 (-100003), .fieldLink RX2 9 "WindowLines$Program" "text" "[C"] ++ wsX40 ++ wsX20)
def wsX4_clearText : List Cond := .code yX4_clearText cX4_clearText 1 (some .int) :: ([.fieldLink RX4 29 "WindowLines" "program" "LWindowLines$Program;", .methodLink RX4 84 yX2_clear, .instanceMethod yX2_clear, .selects RX2 yX2_clear yX2_clear, .initialized RX2, .code yX2_clear cX2_clear 2 (some .int), .fieldLink RX2 19 "WindowLines$Program" "length" "I"] ++ wsX40 ++ wsX20)
def wsX4_performOnDraft_r1 : List Cond := [Cond.fieldLink RX4 29 "WindowLines" "program" "LWindowLines$Program;", Cond.fieldLink RX4 16 "WindowLines" "draft" "LWindowLines$Window;", Cond.constant RX4 79 (-100001), Cond.methodLink RX4 171 yX2_number, Cond.instanceMethod yX2_number, Cond.selects RX2 yX2_number yX2_number, Cond.initialized RX2, Cond.code yX2_number cX2_number 2 (some .int), Cond.fieldLink RX2 15 "WindowLines$Program" "numbers" "[I", Cond.methodLink RX4 37 yX3_putIn, Cond.instanceMethod yX3_putIn, Cond.selects RX3 yX3_putIn yX3_putIn, Cond.initialized RX3, Cond.code yX3_putIn cX3_putIn 4 (some .int), Cond.fieldLink RX3 12 "WindowLines$Window" "lines" "LWindowLines$Lines;", Cond.fieldLink RX3 32 "WindowLines$Lines" "size" "I", Cond.constant RX3 43 (-100001), Cond.constant RX3 44 (-100003), Cond.fieldLink RX3 26 "WindowLines$Window" "anchor" "I", Cond.static yX4_isOutside, Cond.initialized RX4, Cond.code yX4_isOutside cX4_isOutside 3 (some .boolean), Cond.methodLink RX3 39 yX1_isKind, Cond.instanceMethod yX1_isKind]
def wsX4_performOnDraft_r2 : List Cond := [Cond.selects RX1 yX1_isKind yX1_isKind, Cond.initialized RX1, Cond.code yX1_isKind cX1_isKind 2 (some .boolean), Cond.methodLink RX3 45 yX1_insert, Cond.instanceMethod yX1_insert, Cond.selects RX1 yX1_insert yX1_insert, Cond.code yX1_insert cX1_insert 4 none, Cond.fieldLink RX1 38 "WindowLines$Lines" "size" "I", Cond.fieldLink RX1 9 "WindowLines$Lines" "kinds" "[I", Cond.methodLink RX1 32 arraycopyName, Cond.native arraycopyName, Cond.static arraycopyName, Cond.initialized "java/lang/System", Cond.fieldLink RX1 15 "WindowLines$Lines" "lengths" "[I", Cond.fieldLink RX1 18 "WindowLines$Lines" "measured" "[Z", Cond.methodLink RX3 49 yX3_settle, Cond.instanceMethod yX3_settle, Cond.selects RX3 yX3_settle yX3_settle, Cond.code yX3_settle cX3_settle 4 none, Cond.fieldLink RX3 29 "WindowLines$Window" "shift" "I", Cond.fieldLink RX3 18 "WindowLines$Window" "height" "I", Cond.methodLink RX3 94 yX3_descend, Cond.instanceMethod yX3_descend, Cond.selects RX3 yX3_descend yX3_descend]
def wsX4_performOnDraft_r3 : List Cond := [Cond.code yX3_descend cX3_descend 1 none, Cond.methodLink RX3 100 yX1_measure, Cond.instanceMethod yX1_measure, Cond.selects RX1 yX1_measure yX1_measure, Cond.code yX1_measure cX1_measure 2 none, Cond.fieldLink RX1 22 "WindowLines$Lines" "measuredSums" "[I", Cond.fieldLink RX1 25 "WindowLines$Lines" "measuredCounts" "[I", Cond.methodLink RX1 41 yX1_isLine, Cond.instanceMethod yX1_isLine, Cond.selects RX1 yX1_isLine yX1_isLine, Cond.code yX1_isLine cX1_isLine 2 (some .boolean), Cond.methodLink RX1 49 yX1_isKind, Cond.methodLink RX1 52 yX1_trueHeight, Cond.instanceMethod yX1_trueHeight, Cond.selects RX1 yX1_trueHeight yX1_trueHeight, Cond.code yX1_trueHeight cX1_trueHeight 4 (some .int), Cond.fieldLink RX1 28 "WindowLines$Lines" "width" "I", Cond.methodLink RX3 97 yX1_heightOf, Cond.instanceMethod yX1_heightOf, Cond.selects RX1 yX1_heightOf yX1_heightOf, Cond.code yX1_heightOf cX1_heightOf 2 (some .int), Cond.methodLink RX1 56 yX1_guess, Cond.instanceMethod yX1_guess, Cond.selects RX1 yX1_guess yX1_guess]
def wsX4_performOnDraft_r4 : List Cond := [Cond.code yX1_guess cX1_guess 2 (some .int), Cond.methodLink RX3 78 yX3_climb, Cond.instanceMethod yX3_climb, Cond.selects RX3 yX3_climb yX3_climb, Cond.code yX3_climb cX3_climb 1 none, Cond.methodLink RX3 81 Lib.Math.max.name, Cond.static Lib.Math.max.name, Cond.initialized "java/lang/Math", Cond.code Lib.Math.max.name Lib.Math.max.code 2 (some .int), Cond.methodLink RX3 52 yX1_total, Cond.instanceMethod yX1_total, Cond.selects RX1 yX1_total yX1_total, Cond.code yX1_total cX1_total 1 (some .int), Cond.methodLink RX1 63 yX1_topOf, Cond.instanceMethod yX1_topOf, Cond.selects RX1 yX1_topOf yX1_topOf, Cond.code yX1_topOf cX1_topOf 4 (some .int), Cond.methodLink RX1 60 yX1_heightOf, Cond.methodLink RX4 45 yX3_takeOut, Cond.instanceMethod yX3_takeOut, Cond.selects RX3 yX3_takeOut yX3_takeOut, Cond.code yX3_takeOut cX3_takeOut 3 (some .int), Cond.methodLink RX3 56 yX1_isLine, Cond.methodLink RX3 59 yX1_remove]
def wsX4_performOnDraft_r5 : List Cond := [Cond.instanceMethod yX1_remove, Cond.selects RX1 yX1_remove yX1_remove, Cond.code yX1_remove cX1_remove 2 none, Cond.methodLink RX1 45 yX1_forget, Cond.instanceMethod yX1_forget, Cond.selects RX1 yX1_forget yX1_forget, Cond.code yX1_forget cX1_forget 2 none, Cond.methodLink RX4 58 yX3_moveBy, Cond.instanceMethod yX3_moveBy, Cond.selects RX3 yX3_moveBy yX3_moveBy, Cond.code yX3_moveBy cX3_moveBy 2 (some .int), Cond.constant RX3 77 (-100002), Cond.methodLink RX4 61 yX3_moveToShare, Cond.instanceMethod yX3_moveToShare, Cond.selects RX3 yX3_moveToShare yX3_moveToShare, Cond.code yX3_moveToShare cX3_moveToShare 3 (some .int), Cond.methodLink RX3 87 yX1_lineAt, Cond.instanceMethod yX1_lineAt, Cond.selects RX1 yX1_lineAt yX1_lineAt, Cond.code yX1_lineAt cX1_lineAt 4 (some .int), Cond.constant RX1 66 (-100009), Cond.methodLink RX3 91 yX1_topOf, Cond.methodLink RX4 64 yX3_moveToLine, Cond.instanceMethod yX3_moveToLine]
def wsX4_performOnDraft_r6 : List Cond := [Cond.selects RX3 yX3_moveToLine yX3_moveToLine, Cond.code yX3_moveToLine cX3_moveToLine 2 (some .int)]
def wsX4_performOnDraft : List Cond := .code yX4_performOnDraft cX4_performOnDraft 3 (some .int) :: ((wsX4_performOnDraft_r1 ++ (wsX4_performOnDraft_r2 ++ (wsX4_performOnDraft_r3 ++ (wsX4_performOnDraft_r4 ++ (wsX4_performOnDraft_r5 ++ wsX4_performOnDraft_r6))))) ++ wsX40 ++ wsX20 ++ wsX30 ++ wsX10)
def wsX4_run_r1 : List Cond := [Cond.fieldLink RX4 16 "WindowLines" "draft" "LWindowLines$Window;", Cond.fieldLink RX4 10 "WindowLines" "now" "LWindowLines$Window;", Cond.fieldLink RX4 29 "WindowLines" "program" "LWindowLines$Program;", Cond.fieldLink RX4 97 "WindowLines$Program" "place" "I", Cond.methodLink RX4 33 yX3_copyFrom, Cond.instanceMethod yX3_copyFrom, Cond.selects RX3 yX3_copyFrom yX3_copyFrom, Cond.initialized RX3, Cond.code yX3_copyFrom cX3_copyFrom 2 none, Cond.fieldLink RX3 12 "WindowLines$Window" "lines" "LWindowLines$Lines;", Cond.fieldLink RX3 18 "WindowLines$Window" "height" "I", Cond.fieldLink RX3 26 "WindowLines$Window" "anchor" "I", Cond.fieldLink RX3 29 "WindowLines$Window" "shift" "I", Cond.methodLink RX3 22 yX1_copyFrom, Cond.instanceMethod yX1_copyFrom, Cond.selects RX1 yX1_copyFrom yX1_copyFrom, Cond.initialized RX1, Cond.code yX1_copyFrom cX1_copyFrom 2 none, Cond.fieldLink RX1 9 "WindowLines$Lines" "kinds" "[I", Cond.methodLink RX1 32 arraycopyName, Cond.native arraycopyName, Cond.static arraycopyName, Cond.initialized "java/lang/System", Cond.fieldLink RX1 15 "WindowLines$Lines" "lengths" "[I"]
def wsX4_run_r2 : List Cond := [Cond.fieldLink RX1 18 "WindowLines$Lines" "measured" "[Z", Cond.fieldLink RX1 22 "WindowLines$Lines" "measuredSums" "[I", Cond.fieldLink RX1 25 "WindowLines$Lines" "measuredCounts" "[I", Cond.fieldLink RX1 38 "WindowLines$Lines" "size" "I", Cond.fieldLink RX1 28 "WindowLines$Lines" "width" "I", Cond.methodLink RX4 88 yX2_rewind, Cond.instanceMethod yX2_rewind, Cond.selects RX2 yX2_rewind yX2_rewind, Cond.initialized RX2, Cond.code yX2_rewind cX2_rewind 1 none, Cond.fieldLink RX2 24 "WindowLines$Program" "start" "I", Cond.fieldLink RX2 27 "WindowLines$Program" "end" "I", Cond.fieldLink RX2 30 "WindowLines$Program" "place" "I", Cond.methodLink RX4 91 yX2_readCommand, Cond.instanceMethod yX2_readCommand, Cond.selects RX2 yX2_readCommand yX2_readCommand, Cond.code yX2_readCommand cX2_readCommand 4 (some .int), Cond.fieldLink RX2 19 "WindowLines$Program" "length" "I", Cond.fieldLink RX2 15 "WindowLines$Program" "numbers" "[I", Cond.methodLink RX2 33 yX2_readToken, Cond.instanceMethod yX2_readToken, Cond.selects RX2 yX2_readToken yX2_readToken, Cond.code yX2_readToken cX2_readToken 1 none, Cond.methodLink RX2 47 Lib.Math.min.name]
def wsX4_run_r3 : List Cond := [Cond.static Lib.Math.min.name, Cond.initialized "java/lang/Math", Cond.code Lib.Math.min.name Lib.Math.min.code 2 (some .int), Cond.methodLink RX2 43 yX2_signAt, Cond.instanceMethod yX2_signAt, Cond.selects RX2 yX2_signAt yX2_signAt, Cond.code yX2_signAt cX2_signAt 2 (some .char), Cond.fieldLink RX2 9 "WindowLines$Program" "text" "[C", Cond.methodLink RX2 53 yX2_isLetter, Cond.static yX2_isLetter, Cond.code yX2_isLetter cX2_isLetter 1 (some .boolean), Cond.methodLink RX2 57 yX2_isDigit, Cond.static yX2_isDigit, Cond.code yX2_isDigit cX2_isDigit 1 (some .boolean), Cond.methodLink RX2 36 yX2_commandOfToken, Cond.instanceMethod yX2_commandOfToken, Cond.selects RX2 yX2_commandOfToken yX2_commandOfToken, Cond.code yX2_commandOfToken cX2_commandOfToken 2 (some .int), Cond.methodLink RX2 60 yX2_wordOf, Cond.static yX2_wordOf, Cond.code yX2_wordOf cX2_wordOf 1 (some (.object "java/lang/String")), Cond.methodLink RX2 64 yX2_tokenIs, Cond.instanceMethod yX2_tokenIs, Cond.selects RX2 yX2_tokenIs yX2_tokenIs]
def wsX4_run_r4 : List Cond := [Cond.code yX2_tokenIs cX2_tokenIs 3 (some .boolean), Cond.methodLink RX2 68 yJ0_length_8abf5, Cond.instanceMethod yJ0_length_8abf5, Cond.selects RJ0 yJ0_length_8abf5 yJ0_length_8abf5, Cond.initialized RJ0, Cond.code yJ0_length_8abf5 cJ0_length_8abf5 1 (some .int), Cond.fieldLink RJ0 9 "java/lang/String" "value" "[B", Cond.methodLink RJ0 335 yJ0_coder_7d493, Cond.instanceMethod yJ0_coder_7d493, Cond.selects RJ0 yJ0_coder_7d493 yJ0_coder_7d493, Cond.code yJ0_coder_7d493 cJ0_coder_7d493 1 (some .byte), Cond.fieldLink RJ0 38 "java/lang/String" "COMPACT_STRINGS" "Z", Cond.fieldLink RJ0 15 "java/lang/String" "coder" "B", Cond.methodLink RX2 72 yJ0_charAt_5068e, Cond.instanceMethod yJ0_charAt_5068e, Cond.selects RJ0 yJ0_charAt_5068e yJ0_charAt_5068e, Cond.code yJ0_charAt_5068e cJ0_charAt_5068e 2 (some .char), Cond.methodLink RJ0 492 yJ0_isLatin1_aae02, Cond.instanceMethod yJ0_isLatin1_aae02, Cond.selects RJ0 yJ0_isLatin1_aae02 yJ0_isLatin1_aae02, Cond.code yJ0_isLatin1_aae02 cJ0_isLatin1_aae02 1 (some .boolean), Cond.methodLink RJ0 495 yJ1_charAt_3b067, Cond.static yJ1_charAt_3b067, Cond.initialized RJ1]
def wsX4_run_r5 : List Cond := [Cond.code yJ1_charAt_3b067 cJ1_charAt_3b067 2 (some .char), Cond.methodLink RJ1 9 yJ0_checkIndex_df160, Cond.static yJ0_checkIndex_df160, Cond.code yJ0_checkIndex_df160 cJ0_checkIndex_df160 2 none, Cond.fieldLink RJ0 1053 "jdk/internal/util/Preconditions" "SIOOBE_FORMATTER" "Ljava/util/function/BiFunction;", Cond.methodLink RJ0 1059 yJ3_checkIndex_8e157, Cond.static yJ3_checkIndex_8e157, Cond.initialized RJ3, Cond.code yJ3_checkIndex_8e157 cJ3_checkIndex_8e157 3 (some .int), Cond.methodLink RJ0 498 yJ2_charAt_3b067, Cond.static yJ2_charAt_3b067, Cond.initialized RJ2, Cond.code yJ2_charAt_3b067 cJ2_charAt_3b067 2 (some .char), Cond.methodLink RJ2 67 yJ2_checkIndex_2214a, Cond.static yJ2_checkIndex_2214a, Cond.code yJ2_checkIndex_2214a cJ2_checkIndex_2214a 2 none, Cond.methodLink RJ2 48 yJ2_length_9d52b, Cond.static yJ2_length_9d52b, Cond.code yJ2_length_9d52b cJ2_length_9d52b 1 (some .int), Cond.methodLink RJ2 414 yJ0_checkIndex_df160, Cond.methodLink RJ2 71 yJ2_getChar_3b067, Cond.static yJ2_getChar_3b067, Cond.code yJ2_getChar_3b067 cJ2_getChar_3b067 2 (some .char), Cond.fieldLink RJ2 44 "java/lang/StringUTF16" "$assertionsDisabled" "Z"]
def wsX4_run_r6 : List Cond := [Cond.fieldLink RJ2 59 "java/lang/StringUTF16" "HI_BYTE_SHIFT" "I", Cond.fieldLink RJ2 63 "java/lang/StringUTF16" "LO_BYTE_SHIFT" "I", Cond.methodLink RX2 40 yX2_numberOfToken, Cond.instanceMethod yX2_numberOfToken, Cond.selects RX2 yX2_numberOfToken yX2_numberOfToken, Cond.code yX2_numberOfToken cX2_numberOfToken 4 (some .int), Cond.methodLink RX4 94 yX4_performOnDraft, Cond.instanceMethod yX4_performOnDraft, Cond.selects RX4 yX4_performOnDraft yX4_performOnDraft, Cond.initialized RX4, Cond.code yX4_performOnDraft cX4_performOnDraft 3 (some .int), Cond.constant RX4 79 (-100001), Cond.methodLink RX4 171 yX2_number, Cond.instanceMethod yX2_number, Cond.selects RX2 yX2_number yX2_number, Cond.code yX2_number cX2_number 2 (some .int), Cond.methodLink RX4 37 yX3_putIn, Cond.instanceMethod yX3_putIn, Cond.selects RX3 yX3_putIn yX3_putIn, Cond.code yX3_putIn cX3_putIn 4 (some .int), Cond.fieldLink RX3 32 "WindowLines$Lines" "size" "I", Cond.constant RX3 43 (-100001), Cond.constant RX3 44 (-100003), Cond.static yX4_isOutside]
def wsX4_run_r7 : List Cond := [Cond.code yX4_isOutside cX4_isOutside 3 (some .boolean), Cond.methodLink RX3 39 yX1_isKind, Cond.instanceMethod yX1_isKind, Cond.selects RX1 yX1_isKind yX1_isKind, Cond.code yX1_isKind cX1_isKind 2 (some .boolean), Cond.methodLink RX3 45 yX1_insert, Cond.instanceMethod yX1_insert, Cond.selects RX1 yX1_insert yX1_insert, Cond.code yX1_insert cX1_insert 4 none, Cond.methodLink RX3 49 yX3_settle, Cond.instanceMethod yX3_settle, Cond.selects RX3 yX3_settle yX3_settle, Cond.code yX3_settle cX3_settle 4 none, Cond.methodLink RX3 94 yX3_descend, Cond.instanceMethod yX3_descend, Cond.selects RX3 yX3_descend yX3_descend, Cond.code yX3_descend cX3_descend 1 none, Cond.methodLink RX3 100 yX1_measure, Cond.instanceMethod yX1_measure, Cond.selects RX1 yX1_measure yX1_measure, Cond.code yX1_measure cX1_measure 2 none, Cond.methodLink RX1 41 yX1_isLine, Cond.instanceMethod yX1_isLine, Cond.selects RX1 yX1_isLine yX1_isLine]
def wsX4_run_r8 : List Cond := [Cond.code yX1_isLine cX1_isLine 2 (some .boolean), Cond.methodLink RX1 49 yX1_isKind, Cond.methodLink RX1 52 yX1_trueHeight, Cond.instanceMethod yX1_trueHeight, Cond.selects RX1 yX1_trueHeight yX1_trueHeight, Cond.code yX1_trueHeight cX1_trueHeight 4 (some .int), Cond.methodLink RX3 97 yX1_heightOf, Cond.instanceMethod yX1_heightOf, Cond.selects RX1 yX1_heightOf yX1_heightOf, Cond.code yX1_heightOf cX1_heightOf 2 (some .int), Cond.methodLink RX1 56 yX1_guess, Cond.instanceMethod yX1_guess, Cond.selects RX1 yX1_guess yX1_guess, Cond.code yX1_guess cX1_guess 2 (some .int), Cond.methodLink RX3 78 yX3_climb, Cond.instanceMethod yX3_climb, Cond.selects RX3 yX3_climb yX3_climb, Cond.code yX3_climb cX3_climb 1 none, Cond.methodLink RX3 81 Lib.Math.max.name, Cond.static Lib.Math.max.name, Cond.code Lib.Math.max.name Lib.Math.max.code 2 (some .int), Cond.methodLink RX3 52 yX1_total, Cond.instanceMethod yX1_total, Cond.selects RX1 yX1_total yX1_total]
def wsX4_run_r9 : List Cond := [Cond.code yX1_total cX1_total 1 (some .int), Cond.methodLink RX1 63 yX1_topOf, Cond.instanceMethod yX1_topOf, Cond.selects RX1 yX1_topOf yX1_topOf, Cond.code yX1_topOf cX1_topOf 4 (some .int), Cond.methodLink RX1 60 yX1_heightOf, Cond.methodLink RX4 45 yX3_takeOut, Cond.instanceMethod yX3_takeOut, Cond.selects RX3 yX3_takeOut yX3_takeOut, Cond.code yX3_takeOut cX3_takeOut 3 (some .int), Cond.methodLink RX3 56 yX1_isLine, Cond.methodLink RX3 59 yX1_remove, Cond.instanceMethod yX1_remove, Cond.selects RX1 yX1_remove yX1_remove, Cond.code yX1_remove cX1_remove 2 none, Cond.methodLink RX1 45 yX1_forget, Cond.instanceMethod yX1_forget, Cond.selects RX1 yX1_forget yX1_forget, Cond.code yX1_forget cX1_forget 2 none, Cond.methodLink RX4 58 yX3_moveBy, Cond.instanceMethod yX3_moveBy, Cond.selects RX3 yX3_moveBy yX3_moveBy, Cond.code yX3_moveBy cX3_moveBy 2 (some .int), Cond.constant RX3 77 (-100002)]
def wsX4_run_r10 : List Cond := [Cond.methodLink RX4 61 yX3_moveToShare, Cond.instanceMethod yX3_moveToShare, Cond.selects RX3 yX3_moveToShare yX3_moveToShare, Cond.code yX3_moveToShare cX3_moveToShare 3 (some .int), Cond.methodLink RX3 87 yX1_lineAt, Cond.instanceMethod yX1_lineAt, Cond.selects RX1 yX1_lineAt yX1_lineAt, Cond.code yX1_lineAt cX1_lineAt 4 (some .int), Cond.constant RX1 66 (-100009), Cond.methodLink RX3 91 yX1_topOf, Cond.methodLink RX4 64 yX3_moveToLine, Cond.instanceMethod yX3_moveToLine, Cond.selects RX3 yX3_moveToLine yX3_moveToLine, Cond.code yX3_moveToLine cX3_moveToLine 2 (some .int), Cond.methodLink RX4 84 yX2_clear, Cond.instanceMethod yX2_clear, Cond.selects RX2 yX2_clear yX2_clear, Cond.code yX2_clear cX2_clear 2 (some .int), Cond.methodLink RX4 41 yX4_keepDraft, Cond.instanceMethod yX4_keepDraft, Cond.selects RX4 yX4_keepDraft yX4_keepDraft, Cond.code yX4_keepDraft cX4_keepDraft 2 (some .int), Cond.fieldLink RX4 22 "WindowLines" "history" "LWindowLines$History;", Cond.methodLink RX4 168 yX0_record]
def wsX4_run_r11 : List Cond := [Cond.instanceMethod yX0_record, Cond.selects RX0 yX0_record yX0_record, Cond.initialized RX0, Cond.code yX0_record cX0_record 3 none, Cond.fieldLink RX0 18 "WindowLines$History" "next" "I", Cond.fieldLink RX0 30 "WindowLines$History" "size" "I", Cond.methodLink RX0 33 Lib.Math.min.name, Cond.methodLink RX0 22 yX0_stateAt, Cond.instanceMethod yX0_stateAt, Cond.selects RX0 yX0_stateAt yX0_stateAt, Cond.code yX0_stateAt cX0_stateAt 2 (some (.object "WindowLines$Window")), Cond.fieldLink RX0 11 "WindowLines$History" "states" "[LWindowLines$Window;", Cond.methodLink RX0 26 yX3_copyFrom]
def wsX4_run : List Cond := .code yX4_run cX4_run 3 (some .int) :: ((wsX4_run_r1 ++ (wsX4_run_r2 ++ (wsX4_run_r3 ++ (wsX4_run_r4 ++ (wsX4_run_r5 ++ (wsX4_run_r6 ++ (wsX4_run_r7 ++ (wsX4_run_r8 ++ (wsX4_run_r9 ++ (wsX4_run_r10 ++ wsX4_run_r11)))))))))) ++ wsX40 ++ wsX20 ++ wsX30 ++ wsX10 ++ wsX00)
def wsX4_count_r1 : List Cond := [Cond.fieldLink RX4 10 "WindowLines" "now" "LWindowLines$Window;", Cond.fieldLink RX4 100 "WindowLines$Window" "lines" "LWindowLines$Lines;", Cond.fieldLink RX4 104 "WindowLines$Lines" "size" "I", Cond.constant RX4 110 (-100009), Cond.fieldLink RX4 111 "WindowLines$Window" "anchor" "I", Cond.fieldLink RX4 114 "WindowLines$Window" "shift" "I", Cond.fieldLink RX4 123 "WindowLines$Window" "height" "I", Cond.fieldLink RX4 126 "WindowLines$Lines" "width" "I", Cond.fieldLink RX4 22 "WindowLines" "history" "LWindowLines$History;", Cond.fieldLink RX4 67 "WindowLines$History" "size" "I", Cond.fieldLink RX4 29 "WindowLines" "program" "LWindowLines$Program;", Cond.fieldLink RX4 135 "WindowLines$Program" "length" "I", Cond.constant RX4 79 (-100001), Cond.methodLink RX4 107 yX1_measuredLines, Cond.instanceMethod yX1_measuredLines, Cond.selects RX1 yX1_measuredLines yX1_measuredLines, Cond.initialized RX1, Cond.code yX1_measuredLines cX1_measuredLines 3 (some .int), Cond.fieldLink RX1 25 "WindowLines$Lines" "measuredCounts" "[I", Cond.methodLink RX4 117 yX1_total, Cond.instanceMethod yX1_total, Cond.selects RX1 yX1_total yX1_total, Cond.code yX1_total cX1_total 1 (some .int), Cond.fieldLink RX1 38 "WindowLines$Lines" "size" "I"]
def wsX4_count_r2 : List Cond := [Cond.methodLink RX1 63 yX1_topOf, Cond.instanceMethod yX1_topOf, Cond.selects RX1 yX1_topOf yX1_topOf, Cond.code yX1_topOf cX1_topOf 4 (some .int), Cond.methodLink RX1 60 yX1_heightOf, Cond.instanceMethod yX1_heightOf, Cond.selects RX1 yX1_heightOf yX1_heightOf, Cond.code yX1_heightOf cX1_heightOf 2 (some .int), Cond.fieldLink RX1 18 "WindowLines$Lines" "measured" "[Z", Cond.fieldLink RX1 9 "WindowLines$Lines" "kinds" "[I", Cond.fieldLink RX1 15 "WindowLines$Lines" "lengths" "[I", Cond.methodLink RX1 41 yX1_isLine, Cond.instanceMethod yX1_isLine, Cond.selects RX1 yX1_isLine yX1_isLine, Cond.code yX1_isLine cX1_isLine 2 (some .boolean), Cond.methodLink RX1 52 yX1_trueHeight, Cond.instanceMethod yX1_trueHeight, Cond.selects RX1 yX1_trueHeight yX1_trueHeight, Cond.code yX1_trueHeight cX1_trueHeight 4 (some .int), Cond.fieldLink RX1 28 "WindowLines$Lines" "width" "I", Cond.methodLink RX1 56 yX1_guess, Cond.instanceMethod yX1_guess, Cond.selects RX1 yX1_guess yX1_guess, Cond.code yX1_guess cX1_guess 2 (some .int)]
def wsX4_count_r3 : List Cond := [Cond.fieldLink RX1 22 "WindowLines$Lines" "measuredSums" "[I", Cond.methodLink RX4 120 yX3_top, Cond.instanceMethod yX3_top, Cond.selects RX3 yX3_top yX3_top, Cond.initialized RX3, Cond.code yX3_top cX3_top 1 (some .int), Cond.fieldLink RX3 12 "WindowLines$Window" "lines" "LWindowLines$Lines;", Cond.fieldLink RX3 26 "WindowLines$Window" "anchor" "I", Cond.fieldLink RX3 29 "WindowLines$Window" "shift" "I", Cond.methodLink RX3 91 yX1_topOf, Cond.methodLink RX4 129 yX1_guess, Cond.methodLink RX4 132 yX3_linesShown, Cond.instanceMethod yX3_linesShown, Cond.selects RX3 yX3_linesShown yX3_linesShown, Cond.code yX3_linesShown cX3_linesShown 4 (some .int), Cond.fieldLink RX3 32 "WindowLines$Lines" "size" "I", Cond.fieldLink RX3 18 "WindowLines$Window" "height" "I", Cond.methodLink RX3 97 yX1_heightOf]
def wsX4_count : List Cond := .code yX4_count cX4_count 2 (some .int) :: ((wsX4_count_r1 ++ (wsX4_count_r2 ++ wsX4_count_r3)) ++ wsX40 ++ wsX30 ++ wsX10 ++ wsX00 ++ wsX20)
def wsX4_line_r1 : List Cond := [Cond.fieldLink RX4 10 "WindowLines" "now" "LWindowLines$Window;", Cond.fieldLink RX4 100 "WindowLines$Window" "lines" "LWindowLines$Lines;", Cond.constant RX4 79 (-100001), Cond.fieldLink RX4 142 "WindowLines$Lines" "kinds" "[I", Cond.fieldLink RX4 146 "WindowLines$Lines" "lengths" "[I", Cond.fieldLink RX4 152 "WindowLines$Lines" "measured" "[Z", Cond.methodLink RX4 138 yX1_isLine, Cond.instanceMethod yX1_isLine, Cond.selects RX1 yX1_isLine yX1_isLine, Cond.initialized RX1, Cond.code yX1_isLine cX1_isLine 2 (some .boolean), Cond.fieldLink RX1 38 "WindowLines$Lines" "size" "I", Cond.methodLink RX4 149 yX1_heightOf, Cond.instanceMethod yX1_heightOf, Cond.selects RX1 yX1_heightOf yX1_heightOf, Cond.code yX1_heightOf cX1_heightOf 2 (some .int), Cond.fieldLink RX1 18 "WindowLines$Lines" "measured" "[Z", Cond.fieldLink RX1 9 "WindowLines$Lines" "kinds" "[I", Cond.fieldLink RX1 15 "WindowLines$Lines" "lengths" "[I", Cond.methodLink RX1 41 yX1_isLine, Cond.methodLink RX1 52 yX1_trueHeight, Cond.instanceMethod yX1_trueHeight, Cond.selects RX1 yX1_trueHeight yX1_trueHeight, Cond.code yX1_trueHeight cX1_trueHeight 4 (some .int)]
def wsX4_line_r2 : List Cond := [Cond.fieldLink RX1 28 "WindowLines$Lines" "width" "I", Cond.methodLink RX1 56 yX1_guess, Cond.instanceMethod yX1_guess, Cond.selects RX1 yX1_guess yX1_guess, Cond.code yX1_guess cX1_guess 2 (some .int), Cond.fieldLink RX1 25 "WindowLines$Lines" "measuredCounts" "[I", Cond.fieldLink RX1 22 "WindowLines$Lines" "measuredSums" "[I", Cond.methodLink RX4 156 yX1_topOf, Cond.instanceMethod yX1_topOf, Cond.selects RX1 yX1_topOf yX1_topOf, Cond.code yX1_topOf cX1_topOf 4 (some .int), Cond.methodLink RX1 60 yX1_heightOf, Cond.methodLink RX4 159 yX1_trueHeightOf, Cond.instanceMethod yX1_trueHeightOf, Cond.selects RX1 yX1_trueHeightOf yX1_trueHeightOf, Cond.code yX1_trueHeightOf cX1_trueHeightOf 2 (some .int), Cond.methodLink RX4 120 yX3_top, Cond.instanceMethod yX3_top, Cond.selects RX3 yX3_top yX3_top, Cond.initialized RX3, Cond.code yX3_top cX3_top 1 (some .int), Cond.fieldLink RX3 12 "WindowLines$Window" "lines" "LWindowLines$Lines;", Cond.fieldLink RX3 26 "WindowLines$Window" "anchor" "I", Cond.fieldLink RX3 29 "WindowLines$Window" "shift" "I"]
def wsX4_line_r3 : List Cond := [Cond.methodLink RX3 91 yX1_topOf]
def wsX4_line : List Cond := .code yX4_line cX4_line 3 (some .int) :: ((wsX4_line_r1 ++ (wsX4_line_r2 ++ wsX4_line_r3)) ++ wsX40 ++ wsX30 ++ wsX10)
def wsX4_seen_r1 : List Cond := [Cond.fieldLink RX4 10 "WindowLines" "now" "LWindowLines$Window;", Cond.fieldLink RX4 123 "WindowLines$Window" "height" "I", Cond.constant RX4 79 (-100001), Cond.fieldLink RX4 100 "WindowLines$Window" "lines" "LWindowLines$Lines;", Cond.methodLink RX4 75 yX4_isOutside, Cond.static yX4_isOutside, Cond.initialized RX4, Cond.code yX4_isOutside cX4_isOutside 3 (some .boolean), Cond.methodLink RX4 120 yX3_top, Cond.instanceMethod yX3_top, Cond.selects RX3 yX3_top yX3_top, Cond.initialized RX3, Cond.code yX3_top cX3_top 1 (some .int), Cond.fieldLink RX3 12 "WindowLines$Window" "lines" "LWindowLines$Lines;", Cond.fieldLink RX3 26 "WindowLines$Window" "anchor" "I", Cond.fieldLink RX3 29 "WindowLines$Window" "shift" "I", Cond.methodLink RX3 91 yX1_topOf, Cond.instanceMethod yX1_topOf, Cond.selects RX1 yX1_topOf yX1_topOf, Cond.initialized RX1, Cond.code yX1_topOf cX1_topOf 4 (some .int), Cond.fieldLink RX1 38 "WindowLines$Lines" "size" "I", Cond.methodLink RX1 60 yX1_heightOf, Cond.instanceMethod yX1_heightOf]
def wsX4_seen_r2 : List Cond := [Cond.selects RX1 yX1_heightOf yX1_heightOf, Cond.code yX1_heightOf cX1_heightOf 2 (some .int), Cond.fieldLink RX1 18 "WindowLines$Lines" "measured" "[Z", Cond.fieldLink RX1 9 "WindowLines$Lines" "kinds" "[I", Cond.fieldLink RX1 15 "WindowLines$Lines" "lengths" "[I", Cond.methodLink RX1 41 yX1_isLine, Cond.instanceMethod yX1_isLine, Cond.selects RX1 yX1_isLine yX1_isLine, Cond.code yX1_isLine cX1_isLine 2 (some .boolean), Cond.methodLink RX1 52 yX1_trueHeight, Cond.instanceMethod yX1_trueHeight, Cond.selects RX1 yX1_trueHeight yX1_trueHeight, Cond.code yX1_trueHeight cX1_trueHeight 4 (some .int), Cond.fieldLink RX1 28 "WindowLines$Lines" "width" "I", Cond.methodLink RX1 56 yX1_guess, Cond.instanceMethod yX1_guess, Cond.selects RX1 yX1_guess yX1_guess, Cond.code yX1_guess cX1_guess 2 (some .int), Cond.fieldLink RX1 25 "WindowLines$Lines" "measuredCounts" "[I", Cond.fieldLink RX1 22 "WindowLines$Lines" "measuredSums" "[I", Cond.methodLink RX4 162 yX1_lineAt, Cond.instanceMethod yX1_lineAt, Cond.selects RX1 yX1_lineAt yX1_lineAt, Cond.code yX1_lineAt cX1_lineAt 4 (some .int)]
def wsX4_seen_r3 : List Cond := [Cond.constant RX1 66 (-100009)]
def wsX4_seen : List Cond := .code yX4_seen cX4_seen 2 (some .int) :: ((wsX4_seen_r1 ++ (wsX4_seen_r2 ++ wsX4_seen_r3)) ++ wsX40 ++ wsX30 ++ wsX10)
def wsX4_at_r1 : List Cond := [Cond.constant RX4 79 (-100001), Cond.fieldLink RX4 10 "WindowLines" "now" "LWindowLines$Window;", Cond.fieldLink RX4 100 "WindowLines$Window" "lines" "LWindowLines$Lines;", Cond.methodLink RX4 162 yX1_lineAt, Cond.instanceMethod yX1_lineAt, Cond.selects RX1 yX1_lineAt yX1_lineAt, Cond.initialized RX1, Cond.code yX1_lineAt cX1_lineAt 4 (some .int), Cond.fieldLink RX1 38 "WindowLines$Lines" "size" "I", Cond.constant RX1 66 (-100009), Cond.methodLink RX1 60 yX1_heightOf, Cond.instanceMethod yX1_heightOf, Cond.selects RX1 yX1_heightOf yX1_heightOf, Cond.code yX1_heightOf cX1_heightOf 2 (some .int), Cond.fieldLink RX1 18 "WindowLines$Lines" "measured" "[Z", Cond.fieldLink RX1 9 "WindowLines$Lines" "kinds" "[I", Cond.fieldLink RX1 15 "WindowLines$Lines" "lengths" "[I", Cond.methodLink RX1 41 yX1_isLine, Cond.instanceMethod yX1_isLine, Cond.selects RX1 yX1_isLine yX1_isLine, Cond.code yX1_isLine cX1_isLine 2 (some .boolean), Cond.methodLink RX1 52 yX1_trueHeight, Cond.instanceMethod yX1_trueHeight, Cond.selects RX1 yX1_trueHeight yX1_trueHeight]
def wsX4_at_r2 : List Cond := [Cond.code yX1_trueHeight cX1_trueHeight 4 (some .int), Cond.fieldLink RX1 28 "WindowLines$Lines" "width" "I", Cond.methodLink RX1 56 yX1_guess, Cond.instanceMethod yX1_guess, Cond.selects RX1 yX1_guess yX1_guess, Cond.code yX1_guess cX1_guess 2 (some .int), Cond.fieldLink RX1 25 "WindowLines$Lines" "measuredCounts" "[I", Cond.fieldLink RX1 22 "WindowLines$Lines" "measuredSums" "[I"]
def wsX4_at : List Cond := .code yX4_at cX4_at 2 (some .int) :: ((wsX4_at_r1 ++ wsX4_at_r2) ++ wsX40 ++ wsX30 ++ wsX10)
def wsX4_share_r1 : List Cond := [Cond.fieldLink RX4 10 "WindowLines" "now" "LWindowLines$Window;", Cond.fieldLink RX4 100 "WindowLines$Window" "lines" "LWindowLines$Lines;", Cond.fieldLink RX4 123 "WindowLines$Window" "height" "I", Cond.methodLink RX4 117 yX1_total, Cond.instanceMethod yX1_total, Cond.selects RX1 yX1_total yX1_total, Cond.initialized RX1, Cond.code yX1_total cX1_total 1 (some .int), Cond.fieldLink RX1 38 "WindowLines$Lines" "size" "I", Cond.methodLink RX1 63 yX1_topOf, Cond.instanceMethod yX1_topOf, Cond.selects RX1 yX1_topOf yX1_topOf, Cond.code yX1_topOf cX1_topOf 4 (some .int), Cond.methodLink RX1 60 yX1_heightOf, Cond.instanceMethod yX1_heightOf, Cond.selects RX1 yX1_heightOf yX1_heightOf, Cond.code yX1_heightOf cX1_heightOf 2 (some .int), Cond.fieldLink RX1 18 "WindowLines$Lines" "measured" "[Z", Cond.fieldLink RX1 9 "WindowLines$Lines" "kinds" "[I", Cond.fieldLink RX1 15 "WindowLines$Lines" "lengths" "[I", Cond.methodLink RX1 41 yX1_isLine, Cond.instanceMethod yX1_isLine, Cond.selects RX1 yX1_isLine yX1_isLine, Cond.code yX1_isLine cX1_isLine 2 (some .boolean)]
def wsX4_share_r2 : List Cond := [Cond.methodLink RX1 52 yX1_trueHeight, Cond.instanceMethod yX1_trueHeight, Cond.selects RX1 yX1_trueHeight yX1_trueHeight, Cond.code yX1_trueHeight cX1_trueHeight 4 (some .int), Cond.fieldLink RX1 28 "WindowLines$Lines" "width" "I", Cond.methodLink RX1 56 yX1_guess, Cond.instanceMethod yX1_guess, Cond.selects RX1 yX1_guess yX1_guess, Cond.code yX1_guess cX1_guess 2 (some .int), Cond.fieldLink RX1 25 "WindowLines$Lines" "measuredCounts" "[I", Cond.fieldLink RX1 22 "WindowLines$Lines" "measuredSums" "[I", Cond.methodLink RX4 120 yX3_top, Cond.instanceMethod yX3_top, Cond.selects RX3 yX3_top yX3_top, Cond.initialized RX3, Cond.code yX3_top cX3_top 1 (some .int), Cond.fieldLink RX3 12 "WindowLines$Window" "lines" "LWindowLines$Lines;", Cond.fieldLink RX3 26 "WindowLines$Window" "anchor" "I", Cond.fieldLink RX3 29 "WindowLines$Window" "shift" "I", Cond.methodLink RX3 91 yX1_topOf]
def wsX4_share : List Cond := .code yX4_share cX4_share 2 (some .int) :: ((wsX4_share_r1 ++ wsX4_share_r2) ++ wsX40 ++ wsX30 ++ wsX10)
def wsX4_trueSum : List Cond := .code yX4_trueSum cX4_trueSum 5 (some .int) :: ([.fieldLink RX4 10 "WindowLines" "now" "LWindowLines$Window;", .fieldLink RX4 100 "WindowLines$Window" "lines" "LWindowLines$Lines;", .constant RX4 79 (-100001), .methodLink RX4 138 yX1_isLine, .instanceMethod yX1_isLine, .selects RX1 yX1_isLine yX1_isLine, .initialized RX1, .code yX1_isLine cX1_isLine 2 (some .boolean), .fieldLink RX1 38 "WindowLines$Lines" "size" "I", .methodLink RX4 159 yX1_trueHeightOf, .instanceMethod yX1_trueHeightOf, .selects RX1 yX1_trueHeightOf yX1_trueHeightOf, .code yX1_trueHeightOf cX1_trueHeightOf 2 (some .int), .fieldLink RX1 9 "WindowLines$Lines" "kinds" "[I", .fieldLink RX1 15 "WindowLines$Lines" "lengths" "[I", .methodLink RX1 41 yX1_isLine, .methodLink RX1 52 yX1_trueHeight, .instanceMethod yX1_trueHeight, .selects RX1 yX1_trueHeight yX1_trueHeight, .code yX1_trueHeight cX1_trueHeight 4 (some .int), .fieldLink RX1 28 "WindowLines$Lines" "width" "I"] ++ wsX40 ++ wsX30 ++ wsX10)
def wsX4_scrollsTo_r1 : List Cond := [Cond.fieldLink RX4 10 "WindowLines" "now" "LWindowLines$Window;", Cond.fieldLink RX4 100 "WindowLines$Window" "lines" "LWindowLines$Lines;", Cond.constant RX4 79 (-100001), Cond.fieldLink RX4 16 "WindowLines" "draft" "LWindowLines$Window;", Cond.constant RX4 110 (-100009), Cond.methodLink RX4 138 yX1_isLine, Cond.instanceMethod yX1_isLine, Cond.selects RX1 yX1_isLine yX1_isLine, Cond.initialized RX1, Cond.code yX1_isLine cX1_isLine 2 (some .boolean), Cond.fieldLink RX1 38 "WindowLines$Lines" "size" "I", Cond.methodLink RX4 75 yX4_isOutside, Cond.static yX4_isOutside, Cond.initialized RX4, Cond.code yX4_isOutside cX4_isOutside 3 (some .boolean), Cond.methodLink RX4 33 yX3_copyFrom, Cond.instanceMethod yX3_copyFrom, Cond.selects RX3 yX3_copyFrom yX3_copyFrom, Cond.initialized RX3, Cond.code yX3_copyFrom cX3_copyFrom 2 none, Cond.fieldLink RX3 12 "WindowLines$Window" "lines" "LWindowLines$Lines;", Cond.fieldLink RX3 18 "WindowLines$Window" "height" "I", Cond.fieldLink RX3 26 "WindowLines$Window" "anchor" "I", Cond.fieldLink RX3 29 "WindowLines$Window" "shift" "I"]
def wsX4_scrollsTo_r2 : List Cond := [Cond.methodLink RX3 22 yX1_copyFrom, Cond.instanceMethod yX1_copyFrom, Cond.selects RX1 yX1_copyFrom yX1_copyFrom, Cond.code yX1_copyFrom cX1_copyFrom 2 none, Cond.fieldLink RX1 9 "WindowLines$Lines" "kinds" "[I", Cond.methodLink RX1 32 arraycopyName, Cond.native arraycopyName, Cond.static arraycopyName, Cond.initialized "java/lang/System", Cond.fieldLink RX1 15 "WindowLines$Lines" "lengths" "[I", Cond.fieldLink RX1 18 "WindowLines$Lines" "measured" "[Z", Cond.fieldLink RX1 22 "WindowLines$Lines" "measuredSums" "[I", Cond.fieldLink RX1 25 "WindowLines$Lines" "measuredCounts" "[I", Cond.fieldLink RX1 28 "WindowLines$Lines" "width" "I", Cond.methodLink RX4 165 yX3_shows, Cond.instanceMethod yX3_shows, Cond.selects RX3 yX3_shows yX3_shows, Cond.code yX3_shows cX3_shows 4 (some .boolean), Cond.methodLink RX3 97 yX1_heightOf, Cond.instanceMethod yX1_heightOf, Cond.selects RX1 yX1_heightOf yX1_heightOf, Cond.code yX1_heightOf cX1_heightOf 2 (some .int), Cond.methodLink RX1 41 yX1_isLine, Cond.methodLink RX1 52 yX1_trueHeight]
def wsX4_scrollsTo_r3 : List Cond := [Cond.instanceMethod yX1_trueHeight, Cond.selects RX1 yX1_trueHeight yX1_trueHeight, Cond.code yX1_trueHeight cX1_trueHeight 4 (some .int), Cond.methodLink RX1 56 yX1_guess, Cond.instanceMethod yX1_guess, Cond.selects RX1 yX1_guess yX1_guess, Cond.code yX1_guess cX1_guess 2 (some .int), Cond.methodLink RX4 58 yX3_moveBy, Cond.instanceMethod yX3_moveBy, Cond.selects RX3 yX3_moveBy yX3_moveBy, Cond.code yX3_moveBy cX3_moveBy 2 (some .int), Cond.constant RX3 43 (-100001), Cond.fieldLink RX3 32 "WindowLines$Lines" "size" "I", Cond.constant RX3 77 (-100002), Cond.methodLink RX3 78 yX3_climb, Cond.instanceMethod yX3_climb, Cond.selects RX3 yX3_climb yX3_climb, Cond.code yX3_climb cX3_climb 1 none, Cond.methodLink RX3 81 Lib.Math.max.name, Cond.static Lib.Math.max.name, Cond.initialized "java/lang/Math", Cond.code Lib.Math.max.name Lib.Math.max.code 2 (some .int), Cond.methodLink RX3 100 yX1_measure, Cond.instanceMethod yX1_measure]
def wsX4_scrollsTo_r4 : List Cond := [Cond.selects RX1 yX1_measure yX1_measure, Cond.code yX1_measure cX1_measure 2 none, Cond.methodLink RX1 49 yX1_isKind, Cond.instanceMethod yX1_isKind, Cond.selects RX1 yX1_isKind yX1_isKind, Cond.code yX1_isKind cX1_isKind 2 (some .boolean), Cond.methodLink RX3 49 yX3_settle, Cond.instanceMethod yX3_settle, Cond.selects RX3 yX3_settle yX3_settle, Cond.code yX3_settle cX3_settle 4 none, Cond.methodLink RX3 94 yX3_descend, Cond.instanceMethod yX3_descend, Cond.selects RX3 yX3_descend yX3_descend, Cond.code yX3_descend cX3_descend 1 none]
def wsX4_scrollsTo : List Cond := .code yX4_scrollsTo cX4_scrollsTo 4 (some .int) :: ((wsX4_scrollsTo_r1 ++ (wsX4_scrollsTo_r2 ++ (wsX4_scrollsTo_r3 ++ wsX4_scrollsTo_r4))) ++ wsX40 ++ wsX30 ++ wsX10)
def wsX4_measuredBy_r1 : List Cond := [Cond.constant RX4 79 (-100001), Cond.fieldLink RX4 16 "WindowLines" "draft" "LWindowLines$Window;", Cond.fieldLink RX4 10 "WindowLines" "now" "LWindowLines$Window;", Cond.fieldLink RX4 100 "WindowLines$Window" "lines" "LWindowLines$Lines;", Cond.methodLink RX4 75 yX4_isOutside, Cond.static yX4_isOutside, Cond.initialized RX4, Cond.code yX4_isOutside cX4_isOutside 3 (some .boolean), Cond.methodLink RX4 33 yX3_copyFrom, Cond.instanceMethod yX3_copyFrom, Cond.selects RX3 yX3_copyFrom yX3_copyFrom, Cond.initialized RX3, Cond.code yX3_copyFrom cX3_copyFrom 2 none, Cond.fieldLink RX3 12 "WindowLines$Window" "lines" "LWindowLines$Lines;", Cond.fieldLink RX3 18 "WindowLines$Window" "height" "I", Cond.fieldLink RX3 26 "WindowLines$Window" "anchor" "I", Cond.fieldLink RX3 29 "WindowLines$Window" "shift" "I", Cond.methodLink RX3 22 yX1_copyFrom, Cond.instanceMethod yX1_copyFrom, Cond.selects RX1 yX1_copyFrom yX1_copyFrom, Cond.initialized RX1, Cond.code yX1_copyFrom cX1_copyFrom 2 none, Cond.fieldLink RX1 9 "WindowLines$Lines" "kinds" "[I", Cond.methodLink RX1 32 arraycopyName]
def wsX4_measuredBy_r2 : List Cond := [Cond.native arraycopyName, Cond.static arraycopyName, Cond.initialized "java/lang/System", Cond.fieldLink RX1 15 "WindowLines$Lines" "lengths" "[I", Cond.fieldLink RX1 18 "WindowLines$Lines" "measured" "[Z", Cond.fieldLink RX1 22 "WindowLines$Lines" "measuredSums" "[I", Cond.fieldLink RX1 25 "WindowLines$Lines" "measuredCounts" "[I", Cond.fieldLink RX1 38 "WindowLines$Lines" "size" "I", Cond.fieldLink RX1 28 "WindowLines$Lines" "width" "I", Cond.methodLink RX4 61 yX3_moveToShare, Cond.instanceMethod yX3_moveToShare, Cond.selects RX3 yX3_moveToShare yX3_moveToShare, Cond.code yX3_moveToShare cX3_moveToShare 3 (some .int), Cond.constant RX3 43 (-100001), Cond.fieldLink RX3 32 "WindowLines$Lines" "size" "I", Cond.constant RX3 77 (-100002), Cond.methodLink RX3 81 Lib.Math.max.name, Cond.static Lib.Math.max.name, Cond.initialized "java/lang/Math", Cond.code Lib.Math.max.name Lib.Math.max.code 2 (some .int), Cond.methodLink RX3 52 yX1_total, Cond.instanceMethod yX1_total, Cond.selects RX1 yX1_total yX1_total, Cond.code yX1_total cX1_total 1 (some .int)]
def wsX4_measuredBy_r3 : List Cond := [Cond.methodLink RX1 63 yX1_topOf, Cond.instanceMethod yX1_topOf, Cond.selects RX1 yX1_topOf yX1_topOf, Cond.code yX1_topOf cX1_topOf 4 (some .int), Cond.methodLink RX1 60 yX1_heightOf, Cond.instanceMethod yX1_heightOf, Cond.selects RX1 yX1_heightOf yX1_heightOf, Cond.code yX1_heightOf cX1_heightOf 2 (some .int), Cond.methodLink RX1 41 yX1_isLine, Cond.instanceMethod yX1_isLine, Cond.selects RX1 yX1_isLine yX1_isLine, Cond.code yX1_isLine cX1_isLine 2 (some .boolean), Cond.methodLink RX1 52 yX1_trueHeight, Cond.instanceMethod yX1_trueHeight, Cond.selects RX1 yX1_trueHeight yX1_trueHeight, Cond.code yX1_trueHeight cX1_trueHeight 4 (some .int), Cond.methodLink RX1 56 yX1_guess, Cond.instanceMethod yX1_guess, Cond.selects RX1 yX1_guess yX1_guess, Cond.code yX1_guess cX1_guess 2 (some .int), Cond.methodLink RX3 87 yX1_lineAt, Cond.instanceMethod yX1_lineAt, Cond.selects RX1 yX1_lineAt yX1_lineAt, Cond.code yX1_lineAt cX1_lineAt 4 (some .int)]
def wsX4_measuredBy_r4 : List Cond := [Cond.constant RX1 66 (-100009), Cond.methodLink RX3 91 yX1_topOf, Cond.methodLink RX3 49 yX3_settle, Cond.instanceMethod yX3_settle, Cond.selects RX3 yX3_settle yX3_settle, Cond.code yX3_settle cX3_settle 4 none, Cond.methodLink RX3 94 yX3_descend, Cond.instanceMethod yX3_descend, Cond.selects RX3 yX3_descend yX3_descend, Cond.code yX3_descend cX3_descend 1 none, Cond.methodLink RX3 100 yX1_measure, Cond.instanceMethod yX1_measure, Cond.selects RX1 yX1_measure yX1_measure, Cond.code yX1_measure cX1_measure 2 none, Cond.methodLink RX1 49 yX1_isKind, Cond.instanceMethod yX1_isKind, Cond.selects RX1 yX1_isKind yX1_isKind, Cond.code yX1_isKind cX1_isKind 2 (some .boolean), Cond.methodLink RX3 97 yX1_heightOf, Cond.methodLink RX3 78 yX3_climb, Cond.instanceMethod yX3_climb, Cond.selects RX3 yX3_climb yX3_climb, Cond.code yX3_climb cX3_climb 1 none, Cond.methodLink RX4 107 yX1_measuredLines]
def wsX4_measuredBy_r5 : List Cond := [Cond.instanceMethod yX1_measuredLines, Cond.selects RX1 yX1_measuredLines yX1_measuredLines, Cond.code yX1_measuredLines cX1_measuredLines 3 (some .int)]
def wsX4_measuredBy : List Cond := .code yX4_measuredBy cX4_measuredBy 2 (some .int) :: ((wsX4_measuredBy_r1 ++ (wsX4_measuredBy_r2 ++ (wsX4_measuredBy_r3 ++ (wsX4_measuredBy_r4 ++ wsX4_measuredBy_r5)))) ++ wsX40 ++ wsX30 ++ wsX10)
def wsX5_init : List Cond := .code yX5_init cX5_init 1 none :: ([.methodLink RX5 1 objectInit, .instanceMethod objectInit, .code objectInit ⟨#[0xb1]⟩ 1 none, .arrayClass .int, .fieldLink RX5 7 "WindowLinesModel" "now" "[I", .fieldLink RX5 13 "WindowLinesModel" "before" "[I", .fieldLink RX5 16 "WindowLinesModel" "tried" "[I", .fieldLink RX5 19 "WindowLinesModel" "past" "[I", .fieldLink RX5 22 "WindowLinesModel" "text" "[I", .fieldLink RX5 25 "WindowLinesModel" "guesses" "[I", .fieldLink RX5 28 "WindowLinesModel" "numbers" "[I"] ++ wsX50)
def wsX5_in : List Cond := .code yX5_in cX5_in 3 (some .boolean) :: ([])
def wsX5_l : List Cond := .code yX5_l cX5_l 2 (some .int) :: ([])
def wsX5_copies : List Cond := .code yX5_copies cX5_copies 5 none :: ([])
def wsX5_keeps : List Cond := .code yX5_keeps cX5_keeps 1 none :: ([.fieldLink RX5 7 "WindowLinesModel" "now" "[I", .fieldLink RX5 13 "WindowLinesModel" "before" "[I", .methodLink RX5 31 yX5_copies, .static yX5_copies, .initialized RX5, .code yX5_copies cX5_copies 5 none] ++ wsX50)
def wsX5_acted : List Cond := .code yX5_acted cX5_acted 3 (some .int) :: ([.constant RX5 35 (-100003), .constant RX5 36 (-100001), .fieldLink RX5 41 "WindowLinesModel" "states" "I", .fieldLink RX5 19 "WindowLinesModel" "past" "[I", .fieldLink RX5 13 "WindowLinesModel" "before" "[I", .methodLink RX5 37 yX5_in, .static yX5_in, .initialized RX5, .code yX5_in cX5_in 3 (some .boolean), .methodLink RX5 31 yX5_copies, .static yX5_copies, .code yX5_copies cX5_copies 5 none] ++ wsX50)
def wsX5_isLine : List Cond := .code yX5_isLine cX5_isLine 2 (some .boolean) :: ([.fieldLink RX5 7 "WindowLinesModel" "now" "[I", .methodLink RX5 37 yX5_in, .static yX5_in, .initialized RX5, .code yX5_in cX5_in 3 (some .boolean)] ++ wsX50)
def wsX5_trueOf : List Cond := .code yX5_trueOf cX5_trueOf 5 (some .int) :: ([.methodLink RX5 45 yX5_l, .static yX5_l, .initialized RX5, .code yX5_l cX5_l 2 (some .int)])
def wsX5_laysGuesses : List Cond := .code yX5_laysGuesses cX5_laysGuesses 7 none :: ([.fieldLink RX5 25 "WindowLinesModel" "guesses" "[I", .methodLink RX5 45 yX5_l, .static yX5_l, .initialized RX5, .code yX5_l cX5_l 2 (some .int), .methodLink RX5 49 yX5_trueOf, .static yX5_trueOf, .code yX5_trueOf cX5_trueOf 5 (some .int)] ++ wsX50)
def wsX5_heightOf : List Cond := .code yX5_heightOf cX5_heightOf 3 (some .int) :: ([.fieldLink RX5 25 "WindowLinesModel" "guesses" "[I", .methodLink RX5 45 yX5_l, .static yX5_l, .initialized RX5, .code yX5_l cX5_l 2 (some .int), .methodLink RX5 49 yX5_trueOf, .static yX5_trueOf, .code yX5_trueOf cX5_trueOf 5 (some .int)] ++ wsX50)
def wsX5_topOf : List Cond := .code yX5_topOf cX5_topOf 5 (some .int) :: ([.methodLink RX5 53 yX5_laysGuesses, .instanceMethod yX5_laysGuesses, .selects RX5 yX5_laysGuesses yX5_laysGuesses, .initialized RX5, .code yX5_laysGuesses cX5_laysGuesses 7 none, .fieldLink RX5 25 "WindowLinesModel" "guesses" "[I", .methodLink RX5 45 yX5_l, .static yX5_l, .code yX5_l cX5_l 2 (some .int), .methodLink RX5 49 yX5_trueOf, .static yX5_trueOf, .code yX5_trueOf cX5_trueOf 5 (some .int), .methodLink RX5 57 yX5_heightOf, .instanceMethod yX5_heightOf, .selects RX5 yX5_heightOf yX5_heightOf, .code yX5_heightOf cX5_heightOf 3 (some .int)] ++ wsX50)
def wsX5_total : List Cond := .code yX5_total cX5_total 2 (some .int) :: ([.methodLink RX5 60 yX5_topOf, .instanceMethod yX5_topOf, .selects RX5 yX5_topOf yX5_topOf, .initialized RX5, .code yX5_topOf cX5_topOf 5 (some .int), .methodLink RX5 53 yX5_laysGuesses, .instanceMethod yX5_laysGuesses, .selects RX5 yX5_laysGuesses yX5_laysGuesses, .code yX5_laysGuesses cX5_laysGuesses 7 none, .fieldLink RX5 25 "WindowLinesModel" "guesses" "[I", .methodLink RX5 45 yX5_l, .static yX5_l, .code yX5_l cX5_l 2 (some .int), .methodLink RX5 49 yX5_trueOf, .static yX5_trueOf, .code yX5_trueOf cX5_trueOf 5 (some .int), .methodLink RX5 57 yX5_heightOf, .instanceMethod yX5_heightOf, .selects RX5 yX5_heightOf yX5_heightOf, .code yX5_heightOf cX5_heightOf 3 (some .int)] ++ wsX50)
def wsX5_windowOf : List Cond := .code yX5_windowOf cX5_windowOf 2 (some .int) :: ([.methodLink RX5 60 yX5_topOf, .instanceMethod yX5_topOf, .selects RX5 yX5_topOf yX5_topOf, .initialized RX5, .code yX5_topOf cX5_topOf 5 (some .int), .methodLink RX5 53 yX5_laysGuesses, .instanceMethod yX5_laysGuesses, .selects RX5 yX5_laysGuesses yX5_laysGuesses, .code yX5_laysGuesses cX5_laysGuesses 7 none, .fieldLink RX5 25 "WindowLinesModel" "guesses" "[I", .methodLink RX5 45 yX5_l, .static yX5_l, .code yX5_l cX5_l 2 (some .int), .methodLink RX5 49 yX5_trueOf, .static yX5_trueOf, .code yX5_trueOf cX5_trueOf 5 (some .int), .methodLink RX5 57 yX5_heightOf, .instanceMethod yX5_heightOf, .selects RX5 yX5_heightOf yX5_heightOf, .code yX5_heightOf cX5_heightOf 3 (some .int)] ++ wsX50)
def wsX5_measured : List Cond := .code yX5_measured cX5_measured 4 (some .int) :: ([.methodLink RX5 45 yX5_l, .static yX5_l, .initialized RX5, .code yX5_l cX5_l 2 (some .int)])
def wsX5_lineAt : List Cond := .code yX5_lineAt cX5_lineAt 5 (some .int) :: ([.constant RX5 63 (-100009), .methodLink RX5 53 yX5_laysGuesses, .instanceMethod yX5_laysGuesses, .selects RX5 yX5_laysGuesses yX5_laysGuesses, .initialized RX5, .code yX5_laysGuesses cX5_laysGuesses 7 none, .fieldLink RX5 25 "WindowLinesModel" "guesses" "[I", .methodLink RX5 45 yX5_l, .static yX5_l, .code yX5_l cX5_l 2 (some .int), .methodLink RX5 49 yX5_trueOf, .static yX5_trueOf, .code yX5_trueOf cX5_trueOf 5 (some .int), .methodLink RX5 57 yX5_heightOf, .instanceMethod yX5_heightOf, .selects RX5 yX5_heightOf yX5_heightOf, .code yX5_heightOf cX5_heightOf 3 (some .int)] ++ wsX50)
def wsX5_isSeen : List Cond := .code yX5_isSeen cX5_isSeen 4 (some .boolean) :: ([.methodLink RX5 60 yX5_topOf, .instanceMethod yX5_topOf, .selects RX5 yX5_topOf yX5_topOf, .initialized RX5, .code yX5_topOf cX5_topOf 5 (some .int), .methodLink RX5 53 yX5_laysGuesses, .instanceMethod yX5_laysGuesses, .selects RX5 yX5_laysGuesses yX5_laysGuesses, .code yX5_laysGuesses cX5_laysGuesses 7 none, .fieldLink RX5 25 "WindowLinesModel" "guesses" "[I", .methodLink RX5 45 yX5_l, .static yX5_l, .code yX5_l cX5_l 2 (some .int), .methodLink RX5 49 yX5_trueOf, .static yX5_trueOf, .code yX5_trueOf cX5_trueOf 5 (some .int), .methodLink RX5 57 yX5_heightOf, .instanceMethod yX5_heightOf, .selects RX5 yX5_heightOf yX5_heightOf, .code yX5_heightOf cX5_heightOf 3 (some .int), .methodLink RX5 64 yX5_windowOf, .instanceMethod yX5_windowOf, .selects RX5 yX5_windowOf yX5_windowOf, .code yX5_windowOf cX5_windowOf 2 (some .int)] ++ wsX50)
def wsX5_goesUp : List Cond := .code yX5_goesUp cX5_goesUp 1 none :: ([.methodLink RX5 45 yX5_l, .static yX5_l, .initialized RX5, .code yX5_l cX5_l 2 (some .int), .methodLink RX5 49 yX5_trueOf, .static yX5_trueOf, .code yX5_trueOf cX5_trueOf 5 (some .int)])
def wsX5_settles : List Cond := .code yX5_settles cX5_settles 3 none :: ([.methodLink RX5 45 yX5_l, .static yX5_l, .initialized RX5, .code yX5_l cX5_l 2 (some .int), .methodLink RX5 49 yX5_trueOf, .static yX5_trueOf, .code yX5_trueOf cX5_trueOf 5 (some .int), .methodLink RX5 68 yX5_goesUp, .static yX5_goesUp, .code yX5_goesUp cX5_goesUp 1 none])
def wsX5_puts_r1 : List Cond := [Cond.fieldLink RX5 7 "WindowLinesModel" "now" "[I", Cond.constant RX5 36 (-100001), Cond.constant RX5 35 (-100003), Cond.methodLink RX5 37 yX5_in, Cond.static yX5_in, Cond.initialized RX5, Cond.code yX5_in cX5_in 3 (some .boolean), Cond.methodLink RX5 45 yX5_l, Cond.static yX5_l, Cond.code yX5_l cX5_l 2 (some .int), Cond.methodLink RX5 71 yX5_settles, Cond.static yX5_settles, Cond.code yX5_settles cX5_settles 3 none, Cond.methodLink RX5 49 yX5_trueOf, Cond.static yX5_trueOf, Cond.code yX5_trueOf cX5_trueOf 5 (some .int), Cond.methodLink RX5 68 yX5_goesUp, Cond.static yX5_goesUp, Cond.code yX5_goesUp cX5_goesUp 1 none, Cond.methodLink RX5 74 yX5_total, Cond.instanceMethod yX5_total, Cond.selects RX5 yX5_total yX5_total, Cond.code yX5_total cX5_total 2 (some .int), Cond.methodLink RX5 60 yX5_topOf]
def wsX5_puts_r2 : List Cond := [Cond.instanceMethod yX5_topOf, Cond.selects RX5 yX5_topOf yX5_topOf, Cond.code yX5_topOf cX5_topOf 5 (some .int), Cond.methodLink RX5 53 yX5_laysGuesses, Cond.instanceMethod yX5_laysGuesses, Cond.selects RX5 yX5_laysGuesses yX5_laysGuesses, Cond.code yX5_laysGuesses cX5_laysGuesses 7 none, Cond.fieldLink RX5 25 "WindowLinesModel" "guesses" "[I", Cond.methodLink RX5 57 yX5_heightOf, Cond.instanceMethod yX5_heightOf, Cond.selects RX5 yX5_heightOf yX5_heightOf, Cond.code yX5_heightOf cX5_heightOf 3 (some .int)]
def wsX5_puts : List Cond := .code yX5_puts cX5_puts 5 (some .int) :: ((wsX5_puts_r1 ++ wsX5_puts_r2) ++ wsX50)
def wsX5_cuts : List Cond := .code yX5_cuts cX5_cuts 3 (some .int) :: ([.constant RX5 36 (-100001), .fieldLink RX5 7 "WindowLinesModel" "now" "[I", .methodLink RX5 77 yX5_isLine, .instanceMethod yX5_isLine, .selects RX5 yX5_isLine yX5_isLine, .initialized RX5, .code yX5_isLine cX5_isLine 2 (some .boolean), .methodLink RX5 37 yX5_in, .static yX5_in, .code yX5_in cX5_in 3 (some .boolean), .methodLink RX5 45 yX5_l, .static yX5_l, .code yX5_l cX5_l 2 (some .int), .methodLink RX5 71 yX5_settles, .static yX5_settles, .code yX5_settles cX5_settles 3 none, .methodLink RX5 49 yX5_trueOf, .static yX5_trueOf, .code yX5_trueOf cX5_trueOf 5 (some .int), .methodLink RX5 68 yX5_goesUp, .static yX5_goesUp, .code yX5_goesUp cX5_goesUp 1 none] ++ wsX50)
def wsX5_scrolls : List Cond := .code yX5_scrolls cX5_scrolls 2 none :: ([.methodLink RX5 68 yX5_goesUp, .static yX5_goesUp, .initialized RX5, .code yX5_goesUp cX5_goesUp 1 none, .methodLink RX5 45 yX5_l, .static yX5_l, .code yX5_l cX5_l 2 (some .int), .methodLink RX5 49 yX5_trueOf, .static yX5_trueOf, .code yX5_trueOf cX5_trueOf 5 (some .int), .methodLink RX5 71 yX5_settles, .static yX5_settles, .code yX5_settles cX5_settles 3 none])
def wsX5_scrolled : List Cond := .code yX5_scrolled cX5_scrolled 2 (some .int) :: ([.constant RX5 36 (-100001), .fieldLink RX5 7 "WindowLinesModel" "now" "[I", .constant RX5 81 (-100002), .methodLink RX5 37 yX5_in, .static yX5_in, .initialized RX5, .code yX5_in cX5_in 3 (some .boolean), .methodLink RX5 82 yX5_scrolls, .static yX5_scrolls, .code yX5_scrolls cX5_scrolls 2 none, .methodLink RX5 68 yX5_goesUp, .static yX5_goesUp, .code yX5_goesUp cX5_goesUp 1 none, .methodLink RX5 45 yX5_l, .static yX5_l, .code yX5_l cX5_l 2 (some .int), .methodLink RX5 49 yX5_trueOf, .static yX5_trueOf, .code yX5_trueOf cX5_trueOf 5 (some .int), .methodLink RX5 71 yX5_settles, .static yX5_settles, .code yX5_settles cX5_settles 3 none] ++ wsX50)
def wsX5_jumps_r1 : List Cond := [Cond.methodLink RX5 74 yX5_total, Cond.instanceMethod yX5_total, Cond.selects RX5 yX5_total yX5_total, Cond.initialized RX5, Cond.code yX5_total cX5_total 2 (some .int), Cond.methodLink RX5 60 yX5_topOf, Cond.instanceMethod yX5_topOf, Cond.selects RX5 yX5_topOf yX5_topOf, Cond.code yX5_topOf cX5_topOf 5 (some .int), Cond.methodLink RX5 53 yX5_laysGuesses, Cond.instanceMethod yX5_laysGuesses, Cond.selects RX5 yX5_laysGuesses yX5_laysGuesses, Cond.code yX5_laysGuesses cX5_laysGuesses 7 none, Cond.fieldLink RX5 25 "WindowLinesModel" "guesses" "[I", Cond.methodLink RX5 45 yX5_l, Cond.static yX5_l, Cond.code yX5_l cX5_l 2 (some .int), Cond.methodLink RX5 49 yX5_trueOf, Cond.static yX5_trueOf, Cond.code yX5_trueOf cX5_trueOf 5 (some .int), Cond.methodLink RX5 57 yX5_heightOf, Cond.instanceMethod yX5_heightOf, Cond.selects RX5 yX5_heightOf yX5_heightOf, Cond.code yX5_heightOf cX5_heightOf 3 (some .int)]
def wsX5_jumps_r2 : List Cond := [Cond.methodLink RX5 86 yX5_lineAt, Cond.instanceMethod yX5_lineAt, Cond.selects RX5 yX5_lineAt yX5_lineAt, Cond.code yX5_lineAt cX5_lineAt 5 (some .int), Cond.constant RX5 63 (-100009), Cond.methodLink RX5 71 yX5_settles, Cond.static yX5_settles, Cond.code yX5_settles cX5_settles 3 none, Cond.methodLink RX5 68 yX5_goesUp, Cond.static yX5_goesUp, Cond.code yX5_goesUp cX5_goesUp 1 none]
def wsX5_jumps : List Cond := .code yX5_jumps cX5_jumps 6 none :: ((wsX5_jumps_r1 ++ wsX5_jumps_r2) ++ wsX50)
def wsX5_jumped_r1 : List Cond := [Cond.constant RX5 36 (-100001), Cond.fieldLink RX5 7 "WindowLinesModel" "now" "[I", Cond.constant RX5 81 (-100002), Cond.methodLink RX5 37 yX5_in, Cond.static yX5_in, Cond.initialized RX5, Cond.code yX5_in cX5_in 3 (some .boolean), Cond.methodLink RX5 89 yX5_jumps, Cond.instanceMethod yX5_jumps, Cond.selects RX5 yX5_jumps yX5_jumps, Cond.code yX5_jumps cX5_jumps 6 none, Cond.methodLink RX5 74 yX5_total, Cond.instanceMethod yX5_total, Cond.selects RX5 yX5_total yX5_total, Cond.code yX5_total cX5_total 2 (some .int), Cond.methodLink RX5 60 yX5_topOf, Cond.instanceMethod yX5_topOf, Cond.selects RX5 yX5_topOf yX5_topOf, Cond.code yX5_topOf cX5_topOf 5 (some .int), Cond.methodLink RX5 53 yX5_laysGuesses, Cond.instanceMethod yX5_laysGuesses, Cond.selects RX5 yX5_laysGuesses yX5_laysGuesses, Cond.code yX5_laysGuesses cX5_laysGuesses 7 none, Cond.fieldLink RX5 25 "WindowLinesModel" "guesses" "[I"]
def wsX5_jumped_r2 : List Cond := [Cond.methodLink RX5 45 yX5_l, Cond.static yX5_l, Cond.code yX5_l cX5_l 2 (some .int), Cond.methodLink RX5 49 yX5_trueOf, Cond.static yX5_trueOf, Cond.code yX5_trueOf cX5_trueOf 5 (some .int), Cond.methodLink RX5 57 yX5_heightOf, Cond.instanceMethod yX5_heightOf, Cond.selects RX5 yX5_heightOf yX5_heightOf, Cond.code yX5_heightOf cX5_heightOf 3 (some .int), Cond.methodLink RX5 86 yX5_lineAt, Cond.instanceMethod yX5_lineAt, Cond.selects RX5 yX5_lineAt yX5_lineAt, Cond.code yX5_lineAt cX5_lineAt 5 (some .int), Cond.constant RX5 63 (-100009), Cond.methodLink RX5 71 yX5_settles, Cond.static yX5_settles, Cond.code yX5_settles cX5_settles 3 none, Cond.methodLink RX5 68 yX5_goesUp, Cond.static yX5_goesUp, Cond.code yX5_goesUp cX5_goesUp 1 none]
def wsX5_jumped : List Cond := .code yX5_jumped cX5_jumped 2 (some .int) :: ((wsX5_jumped_r1 ++ wsX5_jumped_r2) ++ wsX50)
def wsX5_gone : List Cond := .code yX5_gone cX5_gone 2 (some .int) :: ([.constant RX5 36 (-100001), .fieldLink RX5 7 "WindowLinesModel" "now" "[I", .methodLink RX5 77 yX5_isLine, .instanceMethod yX5_isLine, .selects RX5 yX5_isLine yX5_isLine, .initialized RX5, .code yX5_isLine cX5_isLine 2 (some .boolean), .methodLink RX5 37 yX5_in, .static yX5_in, .code yX5_in cX5_in 3 (some .boolean), .methodLink RX5 71 yX5_settles, .static yX5_settles, .code yX5_settles cX5_settles 3 none, .methodLink RX5 45 yX5_l, .static yX5_l, .code yX5_l cX5_l 2 (some .int), .methodLink RX5 49 yX5_trueOf, .static yX5_trueOf, .code yX5_trueOf cX5_trueOf 5 (some .int), .methodLink RX5 68 yX5_goesUp, .static yX5_goesUp, .code yX5_goesUp cX5_goesUp 1 none] ++ wsX50)
def wsX5_put_r1 : List Cond := [Cond.methodLink RX5 92 yX5_keeps, Cond.instanceMethod yX5_keeps, Cond.selects RX5 yX5_keeps yX5_keeps, Cond.initialized RX5, Cond.code yX5_keeps cX5_keeps 1 none, Cond.fieldLink RX5 7 "WindowLinesModel" "now" "[I", Cond.fieldLink RX5 13 "WindowLinesModel" "before" "[I", Cond.methodLink RX5 31 yX5_copies, Cond.static yX5_copies, Cond.code yX5_copies cX5_copies 5 none, Cond.methodLink RX5 95 yX5_puts, Cond.instanceMethod yX5_puts, Cond.selects RX5 yX5_puts yX5_puts, Cond.code yX5_puts cX5_puts 5 (some .int), Cond.constant RX5 36 (-100001), Cond.constant RX5 35 (-100003), Cond.methodLink RX5 37 yX5_in, Cond.static yX5_in, Cond.code yX5_in cX5_in 3 (some .boolean), Cond.methodLink RX5 45 yX5_l, Cond.static yX5_l, Cond.code yX5_l cX5_l 2 (some .int), Cond.methodLink RX5 71 yX5_settles, Cond.static yX5_settles]
def wsX5_put_r2 : List Cond := [Cond.code yX5_settles cX5_settles 3 none, Cond.methodLink RX5 49 yX5_trueOf, Cond.static yX5_trueOf, Cond.code yX5_trueOf cX5_trueOf 5 (some .int), Cond.methodLink RX5 68 yX5_goesUp, Cond.static yX5_goesUp, Cond.code yX5_goesUp cX5_goesUp 1 none, Cond.methodLink RX5 74 yX5_total, Cond.instanceMethod yX5_total, Cond.selects RX5 yX5_total yX5_total, Cond.code yX5_total cX5_total 2 (some .int), Cond.methodLink RX5 60 yX5_topOf, Cond.instanceMethod yX5_topOf, Cond.selects RX5 yX5_topOf yX5_topOf, Cond.code yX5_topOf cX5_topOf 5 (some .int), Cond.methodLink RX5 53 yX5_laysGuesses, Cond.instanceMethod yX5_laysGuesses, Cond.selects RX5 yX5_laysGuesses yX5_laysGuesses, Cond.code yX5_laysGuesses cX5_laysGuesses 7 none, Cond.fieldLink RX5 25 "WindowLinesModel" "guesses" "[I", Cond.methodLink RX5 57 yX5_heightOf, Cond.instanceMethod yX5_heightOf, Cond.selects RX5 yX5_heightOf yX5_heightOf, Cond.code yX5_heightOf cX5_heightOf 3 (some .int)]
def wsX5_put_r3 : List Cond := [Cond.methodLink RX5 99 yX5_acted, Cond.instanceMethod yX5_acted, Cond.selects RX5 yX5_acted yX5_acted, Cond.code yX5_acted cX5_acted 3 (some .int), Cond.fieldLink RX5 41 "WindowLinesModel" "states" "I", Cond.fieldLink RX5 19 "WindowLinesModel" "past" "[I"]
def wsX5_put : List Cond := .code yX5_put cX5_put 4 (some .int) :: ((wsX5_put_r1 ++ (wsX5_put_r2 ++ wsX5_put_r3)) ++ wsX50)
def wsX5_cut_r1 : List Cond := [Cond.methodLink RX5 92 yX5_keeps, Cond.instanceMethod yX5_keeps, Cond.selects RX5 yX5_keeps yX5_keeps, Cond.initialized RX5, Cond.code yX5_keeps cX5_keeps 1 none, Cond.fieldLink RX5 7 "WindowLinesModel" "now" "[I", Cond.fieldLink RX5 13 "WindowLinesModel" "before" "[I", Cond.methodLink RX5 31 yX5_copies, Cond.static yX5_copies, Cond.code yX5_copies cX5_copies 5 none, Cond.methodLink RX5 103 yX5_cuts, Cond.instanceMethod yX5_cuts, Cond.selects RX5 yX5_cuts yX5_cuts, Cond.code yX5_cuts cX5_cuts 3 (some .int), Cond.constant RX5 36 (-100001), Cond.methodLink RX5 77 yX5_isLine, Cond.instanceMethod yX5_isLine, Cond.selects RX5 yX5_isLine yX5_isLine, Cond.code yX5_isLine cX5_isLine 2 (some .boolean), Cond.methodLink RX5 37 yX5_in, Cond.static yX5_in, Cond.code yX5_in cX5_in 3 (some .boolean), Cond.methodLink RX5 45 yX5_l, Cond.static yX5_l]
def wsX5_cut_r2 : List Cond := [Cond.code yX5_l cX5_l 2 (some .int), Cond.methodLink RX5 71 yX5_settles, Cond.static yX5_settles, Cond.code yX5_settles cX5_settles 3 none, Cond.methodLink RX5 49 yX5_trueOf, Cond.static yX5_trueOf, Cond.code yX5_trueOf cX5_trueOf 5 (some .int), Cond.methodLink RX5 68 yX5_goesUp, Cond.static yX5_goesUp, Cond.code yX5_goesUp cX5_goesUp 1 none, Cond.methodLink RX5 99 yX5_acted, Cond.instanceMethod yX5_acted, Cond.selects RX5 yX5_acted yX5_acted, Cond.code yX5_acted cX5_acted 3 (some .int), Cond.constant RX5 35 (-100003), Cond.fieldLink RX5 41 "WindowLinesModel" "states" "I", Cond.fieldLink RX5 19 "WindowLinesModel" "past" "[I"]
def wsX5_cut : List Cond := .code yX5_cut cX5_cut 2 (some .int) :: ((wsX5_cut_r1 ++ wsX5_cut_r2) ++ wsX50)
def wsX5_change_r1 : List Cond := [Cond.constant RX5 36 (-100001), Cond.fieldLink RX5 7 "WindowLinesModel" "now" "[I", Cond.methodLink RX5 77 yX5_isLine, Cond.instanceMethod yX5_isLine, Cond.selects RX5 yX5_isLine yX5_isLine, Cond.initialized RX5, Cond.code yX5_isLine cX5_isLine 2 (some .boolean), Cond.methodLink RX5 37 yX5_in, Cond.static yX5_in, Cond.code yX5_in cX5_in 3 (some .boolean), Cond.methodLink RX5 92 yX5_keeps, Cond.instanceMethod yX5_keeps, Cond.selects RX5 yX5_keeps yX5_keeps, Cond.code yX5_keeps cX5_keeps 1 none, Cond.fieldLink RX5 13 "WindowLinesModel" "before" "[I", Cond.methodLink RX5 31 yX5_copies, Cond.static yX5_copies, Cond.code yX5_copies cX5_copies 5 none, Cond.methodLink RX5 45 yX5_l, Cond.static yX5_l, Cond.code yX5_l cX5_l 2 (some .int), Cond.methodLink RX5 71 yX5_settles, Cond.static yX5_settles, Cond.code yX5_settles cX5_settles 3 none]
def wsX5_change_r2 : List Cond := [Cond.methodLink RX5 49 yX5_trueOf, Cond.static yX5_trueOf, Cond.code yX5_trueOf cX5_trueOf 5 (some .int), Cond.methodLink RX5 68 yX5_goesUp, Cond.static yX5_goesUp, Cond.code yX5_goesUp cX5_goesUp 1 none, Cond.methodLink RX5 99 yX5_acted, Cond.instanceMethod yX5_acted, Cond.selects RX5 yX5_acted yX5_acted, Cond.code yX5_acted cX5_acted 3 (some .int), Cond.constant RX5 35 (-100003), Cond.fieldLink RX5 41 "WindowLinesModel" "states" "I", Cond.fieldLink RX5 19 "WindowLinesModel" "past" "[I"]
def wsX5_change : List Cond := .code yX5_change cX5_change 4 (some .int) :: ((wsX5_change_r1 ++ wsX5_change_r2) ++ wsX50)
def wsX5_setHeight_r1 : List Cond := [Cond.constant RX5 36 (-100001), Cond.fieldLink RX5 7 "WindowLinesModel" "now" "[I", Cond.methodLink RX5 37 yX5_in, Cond.static yX5_in, Cond.initialized RX5, Cond.code yX5_in cX5_in 3 (some .boolean), Cond.methodLink RX5 92 yX5_keeps, Cond.instanceMethod yX5_keeps, Cond.selects RX5 yX5_keeps yX5_keeps, Cond.code yX5_keeps cX5_keeps 1 none, Cond.fieldLink RX5 13 "WindowLinesModel" "before" "[I", Cond.methodLink RX5 31 yX5_copies, Cond.static yX5_copies, Cond.code yX5_copies cX5_copies 5 none, Cond.methodLink RX5 71 yX5_settles, Cond.static yX5_settles, Cond.code yX5_settles cX5_settles 3 none, Cond.methodLink RX5 45 yX5_l, Cond.static yX5_l, Cond.code yX5_l cX5_l 2 (some .int), Cond.methodLink RX5 49 yX5_trueOf, Cond.static yX5_trueOf, Cond.code yX5_trueOf cX5_trueOf 5 (some .int), Cond.methodLink RX5 68 yX5_goesUp]
def wsX5_setHeight_r2 : List Cond := [Cond.static yX5_goesUp, Cond.code yX5_goesUp cX5_goesUp 1 none, Cond.methodLink RX5 99 yX5_acted, Cond.instanceMethod yX5_acted, Cond.selects RX5 yX5_acted yX5_acted, Cond.code yX5_acted cX5_acted 3 (some .int), Cond.constant RX5 35 (-100003), Cond.fieldLink RX5 41 "WindowLinesModel" "states" "I", Cond.fieldLink RX5 19 "WindowLinesModel" "past" "[I"]
def wsX5_setHeight : List Cond := .code yX5_setHeight cX5_setHeight 3 (some .int) :: ((wsX5_setHeight_r1 ++ wsX5_setHeight_r2) ++ wsX50)
def wsX5_setWidth_r1 : List Cond := [Cond.constant RX5 36 (-100001), Cond.fieldLink RX5 7 "WindowLinesModel" "now" "[I", Cond.methodLink RX5 37 yX5_in, Cond.static yX5_in, Cond.initialized RX5, Cond.code yX5_in cX5_in 3 (some .boolean), Cond.methodLink RX5 92 yX5_keeps, Cond.instanceMethod yX5_keeps, Cond.selects RX5 yX5_keeps yX5_keeps, Cond.code yX5_keeps cX5_keeps 1 none, Cond.fieldLink RX5 13 "WindowLinesModel" "before" "[I", Cond.methodLink RX5 31 yX5_copies, Cond.static yX5_copies, Cond.code yX5_copies cX5_copies 5 none, Cond.methodLink RX5 45 yX5_l, Cond.static yX5_l, Cond.code yX5_l cX5_l 2 (some .int), Cond.methodLink RX5 71 yX5_settles, Cond.static yX5_settles, Cond.code yX5_settles cX5_settles 3 none, Cond.methodLink RX5 49 yX5_trueOf, Cond.static yX5_trueOf, Cond.code yX5_trueOf cX5_trueOf 5 (some .int), Cond.methodLink RX5 68 yX5_goesUp]
def wsX5_setWidth_r2 : List Cond := [Cond.static yX5_goesUp, Cond.code yX5_goesUp cX5_goesUp 1 none, Cond.methodLink RX5 99 yX5_acted, Cond.instanceMethod yX5_acted, Cond.selects RX5 yX5_acted yX5_acted, Cond.code yX5_acted cX5_acted 3 (some .int), Cond.constant RX5 35 (-100003), Cond.fieldLink RX5 41 "WindowLinesModel" "states" "I", Cond.fieldLink RX5 19 "WindowLinesModel" "past" "[I"]
def wsX5_setWidth : List Cond := .code yX5_setWidth cX5_setWidth 4 (some .int) :: ((wsX5_setWidth_r1 ++ wsX5_setWidth_r2) ++ wsX50)
def wsX5_scroll_r1 : List Cond := [Cond.methodLink RX5 92 yX5_keeps, Cond.instanceMethod yX5_keeps, Cond.selects RX5 yX5_keeps yX5_keeps, Cond.initialized RX5, Cond.code yX5_keeps cX5_keeps 1 none, Cond.fieldLink RX5 7 "WindowLinesModel" "now" "[I", Cond.fieldLink RX5 13 "WindowLinesModel" "before" "[I", Cond.methodLink RX5 31 yX5_copies, Cond.static yX5_copies, Cond.code yX5_copies cX5_copies 5 none, Cond.methodLink RX5 106 yX5_scrolled, Cond.instanceMethod yX5_scrolled, Cond.selects RX5 yX5_scrolled yX5_scrolled, Cond.code yX5_scrolled cX5_scrolled 2 (some .int), Cond.constant RX5 36 (-100001), Cond.constant RX5 81 (-100002), Cond.methodLink RX5 37 yX5_in, Cond.static yX5_in, Cond.code yX5_in cX5_in 3 (some .boolean), Cond.methodLink RX5 82 yX5_scrolls, Cond.static yX5_scrolls, Cond.code yX5_scrolls cX5_scrolls 2 none, Cond.methodLink RX5 68 yX5_goesUp, Cond.static yX5_goesUp]
def wsX5_scroll_r2 : List Cond := [Cond.code yX5_goesUp cX5_goesUp 1 none, Cond.methodLink RX5 45 yX5_l, Cond.static yX5_l, Cond.code yX5_l cX5_l 2 (some .int), Cond.methodLink RX5 49 yX5_trueOf, Cond.static yX5_trueOf, Cond.code yX5_trueOf cX5_trueOf 5 (some .int), Cond.methodLink RX5 71 yX5_settles, Cond.static yX5_settles, Cond.code yX5_settles cX5_settles 3 none, Cond.methodLink RX5 99 yX5_acted, Cond.instanceMethod yX5_acted, Cond.selects RX5 yX5_acted yX5_acted, Cond.code yX5_acted cX5_acted 3 (some .int), Cond.constant RX5 35 (-100003), Cond.fieldLink RX5 41 "WindowLinesModel" "states" "I", Cond.fieldLink RX5 19 "WindowLinesModel" "past" "[I"]
def wsX5_scroll : List Cond := .code yX5_scroll cX5_scroll 2 (some .int) :: ((wsX5_scroll_r1 ++ wsX5_scroll_r2) ++ wsX50)
def wsX5_jump_r1 : List Cond := [Cond.methodLink RX5 92 yX5_keeps, Cond.instanceMethod yX5_keeps, Cond.selects RX5 yX5_keeps yX5_keeps, Cond.initialized RX5, Cond.code yX5_keeps cX5_keeps 1 none, Cond.fieldLink RX5 7 "WindowLinesModel" "now" "[I", Cond.fieldLink RX5 13 "WindowLinesModel" "before" "[I", Cond.methodLink RX5 31 yX5_copies, Cond.static yX5_copies, Cond.code yX5_copies cX5_copies 5 none, Cond.methodLink RX5 109 yX5_jumped, Cond.instanceMethod yX5_jumped, Cond.selects RX5 yX5_jumped yX5_jumped, Cond.code yX5_jumped cX5_jumped 2 (some .int), Cond.constant RX5 36 (-100001), Cond.constant RX5 81 (-100002), Cond.methodLink RX5 37 yX5_in, Cond.static yX5_in, Cond.code yX5_in cX5_in 3 (some .boolean), Cond.methodLink RX5 89 yX5_jumps, Cond.instanceMethod yX5_jumps, Cond.selects RX5 yX5_jumps yX5_jumps, Cond.code yX5_jumps cX5_jumps 6 none, Cond.methodLink RX5 74 yX5_total]
def wsX5_jump_r2 : List Cond := [Cond.instanceMethod yX5_total, Cond.selects RX5 yX5_total yX5_total, Cond.code yX5_total cX5_total 2 (some .int), Cond.methodLink RX5 60 yX5_topOf, Cond.instanceMethod yX5_topOf, Cond.selects RX5 yX5_topOf yX5_topOf, Cond.code yX5_topOf cX5_topOf 5 (some .int), Cond.methodLink RX5 53 yX5_laysGuesses, Cond.instanceMethod yX5_laysGuesses, Cond.selects RX5 yX5_laysGuesses yX5_laysGuesses, Cond.code yX5_laysGuesses cX5_laysGuesses 7 none, Cond.fieldLink RX5 25 "WindowLinesModel" "guesses" "[I", Cond.methodLink RX5 45 yX5_l, Cond.static yX5_l, Cond.code yX5_l cX5_l 2 (some .int), Cond.methodLink RX5 49 yX5_trueOf, Cond.static yX5_trueOf, Cond.code yX5_trueOf cX5_trueOf 5 (some .int), Cond.methodLink RX5 57 yX5_heightOf, Cond.instanceMethod yX5_heightOf, Cond.selects RX5 yX5_heightOf yX5_heightOf, Cond.code yX5_heightOf cX5_heightOf 3 (some .int), Cond.methodLink RX5 86 yX5_lineAt, Cond.instanceMethod yX5_lineAt]
def wsX5_jump_r3 : List Cond := [Cond.selects RX5 yX5_lineAt yX5_lineAt, Cond.code yX5_lineAt cX5_lineAt 5 (some .int), Cond.constant RX5 63 (-100009), Cond.methodLink RX5 71 yX5_settles, Cond.static yX5_settles, Cond.code yX5_settles cX5_settles 3 none, Cond.methodLink RX5 68 yX5_goesUp, Cond.static yX5_goesUp, Cond.code yX5_goesUp cX5_goesUp 1 none, Cond.methodLink RX5 99 yX5_acted, Cond.instanceMethod yX5_acted, Cond.selects RX5 yX5_acted yX5_acted, Cond.code yX5_acted cX5_acted 3 (some .int), Cond.constant RX5 35 (-100003), Cond.fieldLink RX5 41 "WindowLinesModel" "states" "I", Cond.fieldLink RX5 19 "WindowLinesModel" "past" "[I"]
def wsX5_jump : List Cond := .code yX5_jump cX5_jump 2 (some .int) :: ((wsX5_jump_r1 ++ (wsX5_jump_r2 ++ wsX5_jump_r3)) ++ wsX50)
def wsX5_goTo_r1 : List Cond := [Cond.methodLink RX5 92 yX5_keeps, Cond.instanceMethod yX5_keeps, Cond.selects RX5 yX5_keeps yX5_keeps, Cond.initialized RX5, Cond.code yX5_keeps cX5_keeps 1 none, Cond.fieldLink RX5 7 "WindowLinesModel" "now" "[I", Cond.fieldLink RX5 13 "WindowLinesModel" "before" "[I", Cond.methodLink RX5 31 yX5_copies, Cond.static yX5_copies, Cond.code yX5_copies cX5_copies 5 none, Cond.methodLink RX5 112 yX5_gone, Cond.instanceMethod yX5_gone, Cond.selects RX5 yX5_gone yX5_gone, Cond.code yX5_gone cX5_gone 2 (some .int), Cond.constant RX5 36 (-100001), Cond.methodLink RX5 77 yX5_isLine, Cond.instanceMethod yX5_isLine, Cond.selects RX5 yX5_isLine yX5_isLine, Cond.code yX5_isLine cX5_isLine 2 (some .boolean), Cond.methodLink RX5 37 yX5_in, Cond.static yX5_in, Cond.code yX5_in cX5_in 3 (some .boolean), Cond.methodLink RX5 71 yX5_settles, Cond.static yX5_settles]
def wsX5_goTo_r2 : List Cond := [Cond.code yX5_settles cX5_settles 3 none, Cond.methodLink RX5 45 yX5_l, Cond.static yX5_l, Cond.code yX5_l cX5_l 2 (some .int), Cond.methodLink RX5 49 yX5_trueOf, Cond.static yX5_trueOf, Cond.code yX5_trueOf cX5_trueOf 5 (some .int), Cond.methodLink RX5 68 yX5_goesUp, Cond.static yX5_goesUp, Cond.code yX5_goesUp cX5_goesUp 1 none, Cond.methodLink RX5 99 yX5_acted, Cond.instanceMethod yX5_acted, Cond.selects RX5 yX5_acted yX5_acted, Cond.code yX5_acted cX5_acted 3 (some .int), Cond.constant RX5 35 (-100003), Cond.fieldLink RX5 41 "WindowLinesModel" "states" "I", Cond.fieldLink RX5 19 "WindowLinesModel" "past" "[I"]
def wsX5_goTo : List Cond := .code yX5_goTo cX5_goTo 2 (some .int) :: ((wsX5_goTo_r1 ++ wsX5_goTo_r2) ++ wsX50)
def wsX5_undo : List Cond := .code yX5_undo cX5_undo 1 (some .int) :: ([.fieldLink RX5 41 "WindowLinesModel" "states" "I", .constant RX5 81 (-100002), .fieldLink RX5 19 "WindowLinesModel" "past" "[I", .fieldLink RX5 7 "WindowLinesModel" "now" "[I", .methodLink RX5 31 yX5_copies, .static yX5_copies, .initialized RX5, .code yX5_copies cX5_copies 5 none] ++ wsX50)
def wsX5_append : List Cond := .code yX5_append cX5_append 2 (some .int) :: ([.constant RX5 36 (-100001), .fieldLink RX5 115 "WindowLinesModel" "letters" "I", .constant RX5 35 (-100003), .fieldLink RX5 22 "WindowLinesModel" "text" "[I", .methodLink RX5 37 yX5_in, .static yX5_in, .initialized RX5, .code yX5_in cX5_in 3 (some .boolean)] ++ wsX50)
def wsX5_clearText : List Cond := .code yX5_clearText cX5_clearText 2 (some .int) :: ([.fieldLink RX5 115 "WindowLinesModel" "letters" "I"] ++ wsX50)
def wsX5_next : List Cond := .code yX5_next cX5_next 1 (some .int) :: ([.fieldLink RX5 118 "WindowLinesModel" "at" "I", .fieldLink RX5 115 "WindowLinesModel" "letters" "I", .fieldLink RX5 22 "WindowLinesModel" "text" "[I"] ++ wsX50)
def wsX5_begins : List Cond := .code yX5_begins cX5_begins 1 none :: ([.fieldLink RX5 118 "WindowLinesModel" "at" "I", .fieldLink RX5 125 "WindowLinesModel" "from" "I", .methodLink RX5 121 yX5_next, .instanceMethod yX5_next, .selects RX5 yX5_next yX5_next, .initialized RX5, .code yX5_next cX5_next 1 (some .int), .fieldLink RX5 115 "WindowLinesModel" "letters" "I", .fieldLink RX5 22 "WindowLinesModel" "text" "[I"] ++ wsX50)
def wsX5_word : List Cond := .code yX5_word cX5_word 2 (some .int) :: ([.fieldLink RX5 118 "WindowLinesModel" "at" "I", .fieldLink RX5 125 "WindowLinesModel" "from" "I", .methodLink RX5 128 yX5_begins, .instanceMethod yX5_begins, .selects RX5 yX5_begins yX5_begins, .initialized RX5, .code yX5_begins cX5_begins 1 none, .methodLink RX5 121 yX5_next, .instanceMethod yX5_next, .selects RX5 yX5_next yX5_next, .code yX5_next cX5_next 1 (some .int), .fieldLink RX5 115 "WindowLinesModel" "letters" "I", .fieldLink RX5 22 "WindowLinesModel" "text" "[I", .methodLink RX5 37 yX5_in, .static yX5_in, .code yX5_in cX5_in 3 (some .boolean)] ++ wsX50)
def wsX5_number : List Cond := .code yX5_number cX5_number 3 (some .int) :: ([.fieldLink RX5 118 "WindowLinesModel" "at" "I", .fieldLink RX5 125 "WindowLinesModel" "from" "I", .fieldLink RX5 22 "WindowLinesModel" "text" "[I", .fieldLink RX5 131 "WindowLinesModel" "wrong" "Z", .methodLink RX5 128 yX5_begins, .instanceMethod yX5_begins, .selects RX5 yX5_begins yX5_begins, .initialized RX5, .code yX5_begins cX5_begins 1 none, .methodLink RX5 121 yX5_next, .instanceMethod yX5_next, .selects RX5 yX5_next yX5_next, .code yX5_next cX5_next 1 (some .int), .fieldLink RX5 115 "WindowLinesModel" "letters" "I", .methodLink RX5 37 yX5_in, .static yX5_in, .code yX5_in cX5_in 3 (some .boolean)] ++ wsX50)
def wsX5_numbersOf : List Cond := .code yX5_numbersOf cX5_numbersOf 1 (some .int) :: ([])
def wsX5_does_r1 : List Cond := [Cond.fieldLink RX5 28 "WindowLinesModel" "numbers" "[I", Cond.methodLink RX5 95 yX5_puts, Cond.instanceMethod yX5_puts, Cond.selects RX5 yX5_puts yX5_puts, Cond.initialized RX5, Cond.code yX5_puts cX5_puts 5 (some .int), Cond.fieldLink RX5 7 "WindowLinesModel" "now" "[I", Cond.constant RX5 36 (-100001), Cond.constant RX5 35 (-100003), Cond.methodLink RX5 37 yX5_in, Cond.static yX5_in, Cond.code yX5_in cX5_in 3 (some .boolean), Cond.methodLink RX5 45 yX5_l, Cond.static yX5_l, Cond.code yX5_l cX5_l 2 (some .int), Cond.methodLink RX5 71 yX5_settles, Cond.static yX5_settles, Cond.code yX5_settles cX5_settles 3 none, Cond.methodLink RX5 49 yX5_trueOf, Cond.static yX5_trueOf, Cond.code yX5_trueOf cX5_trueOf 5 (some .int), Cond.methodLink RX5 68 yX5_goesUp, Cond.static yX5_goesUp, Cond.code yX5_goesUp cX5_goesUp 1 none]
def wsX5_does_r2 : List Cond := [Cond.methodLink RX5 74 yX5_total, Cond.instanceMethod yX5_total, Cond.selects RX5 yX5_total yX5_total, Cond.code yX5_total cX5_total 2 (some .int), Cond.methodLink RX5 60 yX5_topOf, Cond.instanceMethod yX5_topOf, Cond.selects RX5 yX5_topOf yX5_topOf, Cond.code yX5_topOf cX5_topOf 5 (some .int), Cond.methodLink RX5 53 yX5_laysGuesses, Cond.instanceMethod yX5_laysGuesses, Cond.selects RX5 yX5_laysGuesses yX5_laysGuesses, Cond.code yX5_laysGuesses cX5_laysGuesses 7 none, Cond.fieldLink RX5 25 "WindowLinesModel" "guesses" "[I", Cond.methodLink RX5 57 yX5_heightOf, Cond.instanceMethod yX5_heightOf, Cond.selects RX5 yX5_heightOf yX5_heightOf, Cond.code yX5_heightOf cX5_heightOf 3 (some .int), Cond.methodLink RX5 103 yX5_cuts, Cond.instanceMethod yX5_cuts, Cond.selects RX5 yX5_cuts yX5_cuts, Cond.code yX5_cuts cX5_cuts 3 (some .int), Cond.methodLink RX5 77 yX5_isLine, Cond.instanceMethod yX5_isLine, Cond.selects RX5 yX5_isLine yX5_isLine]
def wsX5_does_r3 : List Cond := [Cond.code yX5_isLine cX5_isLine 2 (some .boolean), Cond.methodLink RX5 106 yX5_scrolled, Cond.instanceMethod yX5_scrolled, Cond.selects RX5 yX5_scrolled yX5_scrolled, Cond.code yX5_scrolled cX5_scrolled 2 (some .int), Cond.constant RX5 81 (-100002), Cond.methodLink RX5 82 yX5_scrolls, Cond.static yX5_scrolls, Cond.code yX5_scrolls cX5_scrolls 2 none, Cond.methodLink RX5 109 yX5_jumped, Cond.instanceMethod yX5_jumped, Cond.selects RX5 yX5_jumped yX5_jumped, Cond.code yX5_jumped cX5_jumped 2 (some .int), Cond.methodLink RX5 89 yX5_jumps, Cond.instanceMethod yX5_jumps, Cond.selects RX5 yX5_jumps yX5_jumps, Cond.code yX5_jumps cX5_jumps 6 none, Cond.methodLink RX5 86 yX5_lineAt, Cond.instanceMethod yX5_lineAt, Cond.selects RX5 yX5_lineAt yX5_lineAt, Cond.code yX5_lineAt cX5_lineAt 5 (some .int), Cond.constant RX5 63 (-100009), Cond.methodLink RX5 112 yX5_gone, Cond.instanceMethod yX5_gone]
def wsX5_does_r4 : List Cond := [Cond.selects RX5 yX5_gone yX5_gone, Cond.code yX5_gone cX5_gone 2 (some .int)]
def wsX5_does : List Cond := .code yX5_does cX5_does 2 (some .int) :: ((wsX5_does_r1 ++ (wsX5_does_r2 ++ (wsX5_does_r3 ++ wsX5_does_r4))) ++ wsX50)
def wsX5_fails_r1 : List Cond := [Cond.fieldLink RX5 125 "WindowLinesModel" "from" "I", Cond.fieldLink RX5 131 "WindowLinesModel" "wrong" "Z", Cond.fieldLink RX5 28 "WindowLinesModel" "numbers" "[I", Cond.fieldLink RX5 118 "WindowLinesModel" "at" "I", Cond.constant RX5 35 (-100003), Cond.constant RX5 36 (-100001), Cond.methodLink RX5 135 yX5_word, Cond.instanceMethod yX5_word, Cond.selects RX5 yX5_word yX5_word, Cond.initialized RX5, Cond.code yX5_word cX5_word 2 (some .int), Cond.methodLink RX5 128 yX5_begins, Cond.instanceMethod yX5_begins, Cond.selects RX5 yX5_begins yX5_begins, Cond.code yX5_begins cX5_begins 1 none, Cond.methodLink RX5 121 yX5_next, Cond.instanceMethod yX5_next, Cond.selects RX5 yX5_next yX5_next, Cond.code yX5_next cX5_next 1 (some .int), Cond.fieldLink RX5 115 "WindowLinesModel" "letters" "I", Cond.fieldLink RX5 22 "WindowLinesModel" "text" "[I", Cond.methodLink RX5 37 yX5_in, Cond.static yX5_in, Cond.code yX5_in cX5_in 3 (some .boolean)]
def wsX5_fails_r2 : List Cond := [Cond.methodLink RX5 138 yX5_numbersOf, Cond.static yX5_numbersOf, Cond.code yX5_numbersOf cX5_numbersOf 1 (some .int), Cond.methodLink RX5 141 yX5_number, Cond.instanceMethod yX5_number, Cond.selects RX5 yX5_number yX5_number, Cond.code yX5_number cX5_number 3 (some .int), Cond.methodLink RX5 144 yX5_does, Cond.instanceMethod yX5_does, Cond.selects RX5 yX5_does yX5_does, Cond.code yX5_does cX5_does 2 (some .int), Cond.methodLink RX5 95 yX5_puts, Cond.instanceMethod yX5_puts, Cond.selects RX5 yX5_puts yX5_puts, Cond.code yX5_puts cX5_puts 5 (some .int), Cond.fieldLink RX5 7 "WindowLinesModel" "now" "[I", Cond.methodLink RX5 45 yX5_l, Cond.static yX5_l, Cond.code yX5_l cX5_l 2 (some .int), Cond.methodLink RX5 71 yX5_settles, Cond.static yX5_settles, Cond.code yX5_settles cX5_settles 3 none, Cond.methodLink RX5 49 yX5_trueOf, Cond.static yX5_trueOf]
def wsX5_fails_r3 : List Cond := [Cond.code yX5_trueOf cX5_trueOf 5 (some .int), Cond.methodLink RX5 68 yX5_goesUp, Cond.static yX5_goesUp, Cond.code yX5_goesUp cX5_goesUp 1 none, Cond.methodLink RX5 74 yX5_total, Cond.instanceMethod yX5_total, Cond.selects RX5 yX5_total yX5_total, Cond.code yX5_total cX5_total 2 (some .int), Cond.methodLink RX5 60 yX5_topOf, Cond.instanceMethod yX5_topOf, Cond.selects RX5 yX5_topOf yX5_topOf, Cond.code yX5_topOf cX5_topOf 5 (some .int), Cond.methodLink RX5 53 yX5_laysGuesses, Cond.instanceMethod yX5_laysGuesses, Cond.selects RX5 yX5_laysGuesses yX5_laysGuesses, Cond.code yX5_laysGuesses cX5_laysGuesses 7 none, Cond.fieldLink RX5 25 "WindowLinesModel" "guesses" "[I", Cond.methodLink RX5 57 yX5_heightOf, Cond.instanceMethod yX5_heightOf, Cond.selects RX5 yX5_heightOf yX5_heightOf, Cond.code yX5_heightOf cX5_heightOf 3 (some .int), Cond.methodLink RX5 103 yX5_cuts, Cond.instanceMethod yX5_cuts, Cond.selects RX5 yX5_cuts yX5_cuts]
def wsX5_fails_r4 : List Cond := [Cond.code yX5_cuts cX5_cuts 3 (some .int), Cond.methodLink RX5 77 yX5_isLine, Cond.instanceMethod yX5_isLine, Cond.selects RX5 yX5_isLine yX5_isLine, Cond.code yX5_isLine cX5_isLine 2 (some .boolean), Cond.methodLink RX5 106 yX5_scrolled, Cond.instanceMethod yX5_scrolled, Cond.selects RX5 yX5_scrolled yX5_scrolled, Cond.code yX5_scrolled cX5_scrolled 2 (some .int), Cond.constant RX5 81 (-100002), Cond.methodLink RX5 82 yX5_scrolls, Cond.static yX5_scrolls, Cond.code yX5_scrolls cX5_scrolls 2 none, Cond.methodLink RX5 109 yX5_jumped, Cond.instanceMethod yX5_jumped, Cond.selects RX5 yX5_jumped yX5_jumped, Cond.code yX5_jumped cX5_jumped 2 (some .int), Cond.methodLink RX5 89 yX5_jumps, Cond.instanceMethod yX5_jumps, Cond.selects RX5 yX5_jumps yX5_jumps, Cond.code yX5_jumps cX5_jumps 6 none, Cond.methodLink RX5 86 yX5_lineAt, Cond.instanceMethod yX5_lineAt, Cond.selects RX5 yX5_lineAt yX5_lineAt]
def wsX5_fails_r5 : List Cond := [Cond.code yX5_lineAt cX5_lineAt 5 (some .int), Cond.constant RX5 63 (-100009), Cond.methodLink RX5 112 yX5_gone, Cond.instanceMethod yX5_gone, Cond.selects RX5 yX5_gone yX5_gone, Cond.code yX5_gone cX5_gone 2 (some .int)]
def wsX5_fails : List Cond := .code yX5_fails cX5_fails 5 (some .int) :: ((wsX5_fails_r1 ++ (wsX5_fails_r2 ++ (wsX5_fails_r3 ++ (wsX5_fails_r4 ++ wsX5_fails_r5)))) ++ wsX50)
def wsX5_run_r1 : List Cond := [Cond.fieldLink RX5 118 "WindowLinesModel" "at" "I", Cond.fieldLink RX5 115 "WindowLinesModel" "letters" "I", Cond.fieldLink RX5 13 "WindowLinesModel" "before" "[I", Cond.fieldLink RX5 7 "WindowLinesModel" "now" "[I", Cond.methodLink RX5 92 yX5_keeps, Cond.instanceMethod yX5_keeps, Cond.selects RX5 yX5_keeps yX5_keeps, Cond.initialized RX5, Cond.code yX5_keeps cX5_keeps 1 none, Cond.methodLink RX5 31 yX5_copies, Cond.static yX5_copies, Cond.code yX5_copies cX5_copies 5 none, Cond.methodLink RX5 128 yX5_begins, Cond.instanceMethod yX5_begins, Cond.selects RX5 yX5_begins yX5_begins, Cond.code yX5_begins cX5_begins 1 none, Cond.fieldLink RX5 125 "WindowLinesModel" "from" "I", Cond.methodLink RX5 121 yX5_next, Cond.instanceMethod yX5_next, Cond.selects RX5 yX5_next yX5_next, Cond.code yX5_next cX5_next 1 (some .int), Cond.fieldLink RX5 22 "WindowLinesModel" "text" "[I", Cond.methodLink RX5 147 yX5_fails, Cond.instanceMethod yX5_fails]
def wsX5_run_r2 : List Cond := [Cond.selects RX5 yX5_fails yX5_fails, Cond.code yX5_fails cX5_fails 5 (some .int), Cond.fieldLink RX5 131 "WindowLinesModel" "wrong" "Z", Cond.fieldLink RX5 28 "WindowLinesModel" "numbers" "[I", Cond.constant RX5 35 (-100003), Cond.constant RX5 36 (-100001), Cond.methodLink RX5 135 yX5_word, Cond.instanceMethod yX5_word, Cond.selects RX5 yX5_word yX5_word, Cond.code yX5_word cX5_word 2 (some .int), Cond.methodLink RX5 37 yX5_in, Cond.static yX5_in, Cond.code yX5_in cX5_in 3 (some .boolean), Cond.methodLink RX5 138 yX5_numbersOf, Cond.static yX5_numbersOf, Cond.code yX5_numbersOf cX5_numbersOf 1 (some .int), Cond.methodLink RX5 141 yX5_number, Cond.instanceMethod yX5_number, Cond.selects RX5 yX5_number yX5_number, Cond.code yX5_number cX5_number 3 (some .int), Cond.methodLink RX5 144 yX5_does, Cond.instanceMethod yX5_does, Cond.selects RX5 yX5_does yX5_does, Cond.code yX5_does cX5_does 2 (some .int)]
def wsX5_run_r3 : List Cond := [Cond.methodLink RX5 95 yX5_puts, Cond.instanceMethod yX5_puts, Cond.selects RX5 yX5_puts yX5_puts, Cond.code yX5_puts cX5_puts 5 (some .int), Cond.methodLink RX5 45 yX5_l, Cond.static yX5_l, Cond.code yX5_l cX5_l 2 (some .int), Cond.methodLink RX5 71 yX5_settles, Cond.static yX5_settles, Cond.code yX5_settles cX5_settles 3 none, Cond.methodLink RX5 49 yX5_trueOf, Cond.static yX5_trueOf, Cond.code yX5_trueOf cX5_trueOf 5 (some .int), Cond.methodLink RX5 68 yX5_goesUp, Cond.static yX5_goesUp, Cond.code yX5_goesUp cX5_goesUp 1 none, Cond.methodLink RX5 74 yX5_total, Cond.instanceMethod yX5_total, Cond.selects RX5 yX5_total yX5_total, Cond.code yX5_total cX5_total 2 (some .int), Cond.methodLink RX5 60 yX5_topOf, Cond.instanceMethod yX5_topOf, Cond.selects RX5 yX5_topOf yX5_topOf, Cond.code yX5_topOf cX5_topOf 5 (some .int)]
def wsX5_run_r4 : List Cond := [Cond.methodLink RX5 53 yX5_laysGuesses, Cond.instanceMethod yX5_laysGuesses, Cond.selects RX5 yX5_laysGuesses yX5_laysGuesses, Cond.code yX5_laysGuesses cX5_laysGuesses 7 none, Cond.fieldLink RX5 25 "WindowLinesModel" "guesses" "[I", Cond.methodLink RX5 57 yX5_heightOf, Cond.instanceMethod yX5_heightOf, Cond.selects RX5 yX5_heightOf yX5_heightOf, Cond.code yX5_heightOf cX5_heightOf 3 (some .int), Cond.methodLink RX5 103 yX5_cuts, Cond.instanceMethod yX5_cuts, Cond.selects RX5 yX5_cuts yX5_cuts, Cond.code yX5_cuts cX5_cuts 3 (some .int), Cond.methodLink RX5 77 yX5_isLine, Cond.instanceMethod yX5_isLine, Cond.selects RX5 yX5_isLine yX5_isLine, Cond.code yX5_isLine cX5_isLine 2 (some .boolean), Cond.methodLink RX5 106 yX5_scrolled, Cond.instanceMethod yX5_scrolled, Cond.selects RX5 yX5_scrolled yX5_scrolled, Cond.code yX5_scrolled cX5_scrolled 2 (some .int), Cond.constant RX5 81 (-100002), Cond.methodLink RX5 82 yX5_scrolls, Cond.static yX5_scrolls]
def wsX5_run_r5 : List Cond := [Cond.code yX5_scrolls cX5_scrolls 2 none, Cond.methodLink RX5 109 yX5_jumped, Cond.instanceMethod yX5_jumped, Cond.selects RX5 yX5_jumped yX5_jumped, Cond.code yX5_jumped cX5_jumped 2 (some .int), Cond.methodLink RX5 89 yX5_jumps, Cond.instanceMethod yX5_jumps, Cond.selects RX5 yX5_jumps yX5_jumps, Cond.code yX5_jumps cX5_jumps 6 none, Cond.methodLink RX5 86 yX5_lineAt, Cond.instanceMethod yX5_lineAt, Cond.selects RX5 yX5_lineAt yX5_lineAt, Cond.code yX5_lineAt cX5_lineAt 5 (some .int), Cond.constant RX5 63 (-100009), Cond.methodLink RX5 112 yX5_gone, Cond.instanceMethod yX5_gone, Cond.selects RX5 yX5_gone yX5_gone, Cond.code yX5_gone cX5_gone 2 (some .int), Cond.methodLink RX5 99 yX5_acted, Cond.instanceMethod yX5_acted, Cond.selects RX5 yX5_acted yX5_acted, Cond.code yX5_acted cX5_acted 3 (some .int), Cond.fieldLink RX5 41 "WindowLinesModel" "states" "I", Cond.fieldLink RX5 19 "WindowLinesModel" "past" "[I"]
def wsX5_run : List Cond := .code yX5_run cX5_run 3 (some .int) :: ((wsX5_run_r1 ++ (wsX5_run_r2 ++ (wsX5_run_r3 ++ (wsX5_run_r4 ++ wsX5_run_r5)))) ++ wsX50)
def wsX5_seenLines_r1 : List Cond := [Cond.fieldLink RX5 7 "WindowLinesModel" "now" "[I", Cond.methodLink RX5 150 yX5_isSeen, Cond.instanceMethod yX5_isSeen, Cond.selects RX5 yX5_isSeen yX5_isSeen, Cond.initialized RX5, Cond.code yX5_isSeen cX5_isSeen 4 (some .boolean), Cond.methodLink RX5 60 yX5_topOf, Cond.instanceMethod yX5_topOf, Cond.selects RX5 yX5_topOf yX5_topOf, Cond.code yX5_topOf cX5_topOf 5 (some .int), Cond.methodLink RX5 53 yX5_laysGuesses, Cond.instanceMethod yX5_laysGuesses, Cond.selects RX5 yX5_laysGuesses yX5_laysGuesses, Cond.code yX5_laysGuesses cX5_laysGuesses 7 none, Cond.fieldLink RX5 25 "WindowLinesModel" "guesses" "[I", Cond.methodLink RX5 45 yX5_l, Cond.static yX5_l, Cond.code yX5_l cX5_l 2 (some .int), Cond.methodLink RX5 49 yX5_trueOf, Cond.static yX5_trueOf, Cond.code yX5_trueOf cX5_trueOf 5 (some .int), Cond.methodLink RX5 57 yX5_heightOf, Cond.instanceMethod yX5_heightOf, Cond.selects RX5 yX5_heightOf yX5_heightOf]
def wsX5_seenLines_r2 : List Cond := [Cond.code yX5_heightOf cX5_heightOf 3 (some .int), Cond.methodLink RX5 64 yX5_windowOf, Cond.instanceMethod yX5_windowOf, Cond.selects RX5 yX5_windowOf yX5_windowOf, Cond.code yX5_windowOf cX5_windowOf 2 (some .int)]
def wsX5_seenLines : List Cond := .code yX5_seenLines cX5_seenLines 3 (some .int) :: ((wsX5_seenLines_r1 ++ wsX5_seenLines_r2) ++ wsX50)
def wsX5_count_r1 : List Cond := [Cond.fieldLink RX5 7 "WindowLinesModel" "now" "[I", Cond.constant RX5 63 (-100009), Cond.fieldLink RX5 41 "WindowLinesModel" "states" "I", Cond.fieldLink RX5 115 "WindowLinesModel" "letters" "I", Cond.fieldLink RX5 25 "WindowLinesModel" "guesses" "[I", Cond.constant RX5 36 (-100001), Cond.methodLink RX5 53 yX5_laysGuesses, Cond.instanceMethod yX5_laysGuesses, Cond.selects RX5 yX5_laysGuesses yX5_laysGuesses, Cond.initialized RX5, Cond.code yX5_laysGuesses cX5_laysGuesses 7 none, Cond.methodLink RX5 45 yX5_l, Cond.static yX5_l, Cond.code yX5_l cX5_l 2 (some .int), Cond.methodLink RX5 49 yX5_trueOf, Cond.static yX5_trueOf, Cond.code yX5_trueOf cX5_trueOf 5 (some .int), Cond.methodLink RX5 154 yX5_measured, Cond.instanceMethod yX5_measured, Cond.selects RX5 yX5_measured yX5_measured, Cond.code yX5_measured cX5_measured 4 (some .int), Cond.methodLink RX5 74 yX5_total, Cond.instanceMethod yX5_total, Cond.selects RX5 yX5_total yX5_total]
def wsX5_count_r2 : List Cond := [Cond.code yX5_total cX5_total 2 (some .int), Cond.methodLink RX5 60 yX5_topOf, Cond.instanceMethod yX5_topOf, Cond.selects RX5 yX5_topOf yX5_topOf, Cond.code yX5_topOf cX5_topOf 5 (some .int), Cond.methodLink RX5 57 yX5_heightOf, Cond.instanceMethod yX5_heightOf, Cond.selects RX5 yX5_heightOf yX5_heightOf, Cond.code yX5_heightOf cX5_heightOf 3 (some .int), Cond.methodLink RX5 64 yX5_windowOf, Cond.instanceMethod yX5_windowOf, Cond.selects RX5 yX5_windowOf yX5_windowOf, Cond.code yX5_windowOf cX5_windowOf 2 (some .int), Cond.methodLink RX5 157 yX5_seenLines, Cond.instanceMethod yX5_seenLines, Cond.selects RX5 yX5_seenLines yX5_seenLines, Cond.code yX5_seenLines cX5_seenLines 3 (some .int), Cond.methodLink RX5 150 yX5_isSeen, Cond.instanceMethod yX5_isSeen, Cond.selects RX5 yX5_isSeen yX5_isSeen, Cond.code yX5_isSeen cX5_isSeen 4 (some .boolean), Cond.methodLink RX5 37 yX5_in, Cond.static yX5_in, Cond.code yX5_in cX5_in 3 (some .boolean)]
def wsX5_count : List Cond := .code yX5_count cX5_count 3 (some .int) :: ((wsX5_count_r1 ++ wsX5_count_r2) ++ wsX50)
def wsX5_line_r1 : List Cond := [Cond.constant RX5 36 (-100001), Cond.fieldLink RX5 7 "WindowLinesModel" "now" "[I", Cond.methodLink RX5 77 yX5_isLine, Cond.instanceMethod yX5_isLine, Cond.selects RX5 yX5_isLine yX5_isLine, Cond.initialized RX5, Cond.code yX5_isLine cX5_isLine 2 (some .boolean), Cond.methodLink RX5 37 yX5_in, Cond.static yX5_in, Cond.code yX5_in cX5_in 3 (some .boolean), Cond.methodLink RX5 53 yX5_laysGuesses, Cond.instanceMethod yX5_laysGuesses, Cond.selects RX5 yX5_laysGuesses yX5_laysGuesses, Cond.code yX5_laysGuesses cX5_laysGuesses 7 none, Cond.fieldLink RX5 25 "WindowLinesModel" "guesses" "[I", Cond.methodLink RX5 45 yX5_l, Cond.static yX5_l, Cond.code yX5_l cX5_l 2 (some .int), Cond.methodLink RX5 49 yX5_trueOf, Cond.static yX5_trueOf, Cond.code yX5_trueOf cX5_trueOf 5 (some .int), Cond.methodLink RX5 57 yX5_heightOf, Cond.instanceMethod yX5_heightOf, Cond.selects RX5 yX5_heightOf yX5_heightOf]
def wsX5_line_r2 : List Cond := [Cond.code yX5_heightOf cX5_heightOf 3 (some .int), Cond.methodLink RX5 60 yX5_topOf, Cond.instanceMethod yX5_topOf, Cond.selects RX5 yX5_topOf yX5_topOf, Cond.code yX5_topOf cX5_topOf 5 (some .int), Cond.methodLink RX5 64 yX5_windowOf, Cond.instanceMethod yX5_windowOf, Cond.selects RX5 yX5_windowOf yX5_windowOf, Cond.code yX5_windowOf cX5_windowOf 2 (some .int)]
def wsX5_line : List Cond := .code yX5_line cX5_line 3 (some .int) :: ((wsX5_line_r1 ++ wsX5_line_r2) ++ wsX50)
def wsX5_seen_r1 : List Cond := [Cond.fieldLink RX5 7 "WindowLinesModel" "now" "[I", Cond.constant RX5 36 (-100001), Cond.methodLink RX5 37 yX5_in, Cond.static yX5_in, Cond.initialized RX5, Cond.code yX5_in cX5_in 3 (some .boolean), Cond.methodLink RX5 64 yX5_windowOf, Cond.instanceMethod yX5_windowOf, Cond.selects RX5 yX5_windowOf yX5_windowOf, Cond.code yX5_windowOf cX5_windowOf 2 (some .int), Cond.methodLink RX5 60 yX5_topOf, Cond.instanceMethod yX5_topOf, Cond.selects RX5 yX5_topOf yX5_topOf, Cond.code yX5_topOf cX5_topOf 5 (some .int), Cond.methodLink RX5 53 yX5_laysGuesses, Cond.instanceMethod yX5_laysGuesses, Cond.selects RX5 yX5_laysGuesses yX5_laysGuesses, Cond.code yX5_laysGuesses cX5_laysGuesses 7 none, Cond.fieldLink RX5 25 "WindowLinesModel" "guesses" "[I", Cond.methodLink RX5 45 yX5_l, Cond.static yX5_l, Cond.code yX5_l cX5_l 2 (some .int), Cond.methodLink RX5 49 yX5_trueOf, Cond.static yX5_trueOf]
def wsX5_seen_r2 : List Cond := [Cond.code yX5_trueOf cX5_trueOf 5 (some .int), Cond.methodLink RX5 57 yX5_heightOf, Cond.instanceMethod yX5_heightOf, Cond.selects RX5 yX5_heightOf yX5_heightOf, Cond.code yX5_heightOf cX5_heightOf 3 (some .int), Cond.methodLink RX5 86 yX5_lineAt, Cond.instanceMethod yX5_lineAt, Cond.selects RX5 yX5_lineAt yX5_lineAt, Cond.code yX5_lineAt cX5_lineAt 5 (some .int), Cond.constant RX5 63 (-100009)]
def wsX5_seen : List Cond := .code yX5_seen cX5_seen 2 (some .int) :: ((wsX5_seen_r1 ++ wsX5_seen_r2) ++ wsX50)
def wsX5_at : List Cond := .code yX5_at cX5_at 2 (some .int) :: ([.constant RX5 36 (-100001), .fieldLink RX5 7 "WindowLinesModel" "now" "[I", .methodLink RX5 86 yX5_lineAt, .instanceMethod yX5_lineAt, .selects RX5 yX5_lineAt yX5_lineAt, .initialized RX5, .code yX5_lineAt cX5_lineAt 5 (some .int), .constant RX5 63 (-100009), .methodLink RX5 53 yX5_laysGuesses, .instanceMethod yX5_laysGuesses, .selects RX5 yX5_laysGuesses yX5_laysGuesses, .code yX5_laysGuesses cX5_laysGuesses 7 none, .fieldLink RX5 25 "WindowLinesModel" "guesses" "[I", .methodLink RX5 45 yX5_l, .static yX5_l, .code yX5_l cX5_l 2 (some .int), .methodLink RX5 49 yX5_trueOf, .static yX5_trueOf, .code yX5_trueOf cX5_trueOf 5 (some .int), .methodLink RX5 57 yX5_heightOf, .instanceMethod yX5_heightOf, .selects RX5 yX5_heightOf yX5_heightOf, .code yX5_heightOf cX5_heightOf 3 (some .int)] ++ wsX50)
def wsX5_share_r1 : List Cond := [Cond.fieldLink RX5 7 "WindowLinesModel" "now" "[I", Cond.methodLink RX5 74 yX5_total, Cond.instanceMethod yX5_total, Cond.selects RX5 yX5_total yX5_total, Cond.initialized RX5, Cond.code yX5_total cX5_total 2 (some .int), Cond.methodLink RX5 60 yX5_topOf, Cond.instanceMethod yX5_topOf, Cond.selects RX5 yX5_topOf yX5_topOf, Cond.code yX5_topOf cX5_topOf 5 (some .int), Cond.methodLink RX5 53 yX5_laysGuesses, Cond.instanceMethod yX5_laysGuesses, Cond.selects RX5 yX5_laysGuesses yX5_laysGuesses, Cond.code yX5_laysGuesses cX5_laysGuesses 7 none, Cond.fieldLink RX5 25 "WindowLinesModel" "guesses" "[I", Cond.methodLink RX5 45 yX5_l, Cond.static yX5_l, Cond.code yX5_l cX5_l 2 (some .int), Cond.methodLink RX5 49 yX5_trueOf, Cond.static yX5_trueOf, Cond.code yX5_trueOf cX5_trueOf 5 (some .int), Cond.methodLink RX5 57 yX5_heightOf, Cond.instanceMethod yX5_heightOf, Cond.selects RX5 yX5_heightOf yX5_heightOf]
def wsX5_share_r2 : List Cond := [Cond.code yX5_heightOf cX5_heightOf 3 (some .int), Cond.methodLink RX5 64 yX5_windowOf, Cond.instanceMethod yX5_windowOf, Cond.selects RX5 yX5_windowOf yX5_windowOf, Cond.code yX5_windowOf cX5_windowOf 2 (some .int)]
def wsX5_share : List Cond := .code yX5_share cX5_share 2 (some .int) :: ((wsX5_share_r1 ++ wsX5_share_r2) ++ wsX50)
def wsX5_trueSum : List Cond := .code yX5_trueSum cX5_trueSum 5 (some .int) :: ([.constant RX5 36 (-100001), .fieldLink RX5 7 "WindowLinesModel" "now" "[I", .methodLink RX5 77 yX5_isLine, .instanceMethod yX5_isLine, .selects RX5 yX5_isLine yX5_isLine, .initialized RX5, .code yX5_isLine cX5_isLine 2 (some .boolean), .methodLink RX5 37 yX5_in, .static yX5_in, .code yX5_in cX5_in 3 (some .boolean), .methodLink RX5 49 yX5_trueOf, .static yX5_trueOf, .code yX5_trueOf cX5_trueOf 5 (some .int), .methodLink RX5 45 yX5_l, .static yX5_l, .code yX5_l cX5_l 2 (some .int)] ++ wsX50)
def wsX5_scrollsTo_r1 : List Cond := [Cond.constant RX5 36 (-100001), Cond.fieldLink RX5 7 "WindowLinesModel" "now" "[I", Cond.fieldLink RX5 16 "WindowLinesModel" "tried" "[I", Cond.constant RX5 63 (-100009), Cond.methodLink RX5 77 yX5_isLine, Cond.instanceMethod yX5_isLine, Cond.selects RX5 yX5_isLine yX5_isLine, Cond.initialized RX5, Cond.code yX5_isLine cX5_isLine 2 (some .boolean), Cond.methodLink RX5 37 yX5_in, Cond.static yX5_in, Cond.code yX5_in cX5_in 3 (some .boolean), Cond.methodLink RX5 31 yX5_copies, Cond.static yX5_copies, Cond.code yX5_copies cX5_copies 5 none, Cond.methodLink RX5 150 yX5_isSeen, Cond.instanceMethod yX5_isSeen, Cond.selects RX5 yX5_isSeen yX5_isSeen, Cond.code yX5_isSeen cX5_isSeen 4 (some .boolean), Cond.methodLink RX5 60 yX5_topOf, Cond.instanceMethod yX5_topOf, Cond.selects RX5 yX5_topOf yX5_topOf, Cond.code yX5_topOf cX5_topOf 5 (some .int), Cond.methodLink RX5 53 yX5_laysGuesses]
def wsX5_scrollsTo_r2 : List Cond := [Cond.instanceMethod yX5_laysGuesses, Cond.selects RX5 yX5_laysGuesses yX5_laysGuesses, Cond.code yX5_laysGuesses cX5_laysGuesses 7 none, Cond.fieldLink RX5 25 "WindowLinesModel" "guesses" "[I", Cond.methodLink RX5 45 yX5_l, Cond.static yX5_l, Cond.code yX5_l cX5_l 2 (some .int), Cond.methodLink RX5 49 yX5_trueOf, Cond.static yX5_trueOf, Cond.code yX5_trueOf cX5_trueOf 5 (some .int), Cond.methodLink RX5 57 yX5_heightOf, Cond.instanceMethod yX5_heightOf, Cond.selects RX5 yX5_heightOf yX5_heightOf, Cond.code yX5_heightOf cX5_heightOf 3 (some .int), Cond.methodLink RX5 64 yX5_windowOf, Cond.instanceMethod yX5_windowOf, Cond.selects RX5 yX5_windowOf yX5_windowOf, Cond.code yX5_windowOf cX5_windowOf 2 (some .int), Cond.methodLink RX5 82 yX5_scrolls, Cond.static yX5_scrolls, Cond.code yX5_scrolls cX5_scrolls 2 none, Cond.methodLink RX5 68 yX5_goesUp, Cond.static yX5_goesUp, Cond.code yX5_goesUp cX5_goesUp 1 none]
def wsX5_scrollsTo_r3 : List Cond := [Cond.methodLink RX5 71 yX5_settles, Cond.static yX5_settles, Cond.code yX5_settles cX5_settles 3 none]
def wsX5_scrollsTo : List Cond := .code yX5_scrollsTo cX5_scrollsTo 4 (some .int) :: ((wsX5_scrollsTo_r1 ++ (wsX5_scrollsTo_r2 ++ wsX5_scrollsTo_r3)) ++ wsX50)
def wsX5_measuredBy_r1 : List Cond := [Cond.constant RX5 36 (-100001), Cond.fieldLink RX5 7 "WindowLinesModel" "now" "[I", Cond.fieldLink RX5 16 "WindowLinesModel" "tried" "[I", Cond.methodLink RX5 37 yX5_in, Cond.static yX5_in, Cond.initialized RX5, Cond.code yX5_in cX5_in 3 (some .boolean), Cond.methodLink RX5 31 yX5_copies, Cond.static yX5_copies, Cond.code yX5_copies cX5_copies 5 none, Cond.methodLink RX5 89 yX5_jumps, Cond.instanceMethod yX5_jumps, Cond.selects RX5 yX5_jumps yX5_jumps, Cond.code yX5_jumps cX5_jumps 6 none, Cond.methodLink RX5 74 yX5_total, Cond.instanceMethod yX5_total, Cond.selects RX5 yX5_total yX5_total, Cond.code yX5_total cX5_total 2 (some .int), Cond.methodLink RX5 60 yX5_topOf, Cond.instanceMethod yX5_topOf, Cond.selects RX5 yX5_topOf yX5_topOf, Cond.code yX5_topOf cX5_topOf 5 (some .int), Cond.methodLink RX5 53 yX5_laysGuesses, Cond.instanceMethod yX5_laysGuesses]
def wsX5_measuredBy_r2 : List Cond := [Cond.selects RX5 yX5_laysGuesses yX5_laysGuesses, Cond.code yX5_laysGuesses cX5_laysGuesses 7 none, Cond.fieldLink RX5 25 "WindowLinesModel" "guesses" "[I", Cond.methodLink RX5 45 yX5_l, Cond.static yX5_l, Cond.code yX5_l cX5_l 2 (some .int), Cond.methodLink RX5 49 yX5_trueOf, Cond.static yX5_trueOf, Cond.code yX5_trueOf cX5_trueOf 5 (some .int), Cond.methodLink RX5 57 yX5_heightOf, Cond.instanceMethod yX5_heightOf, Cond.selects RX5 yX5_heightOf yX5_heightOf, Cond.code yX5_heightOf cX5_heightOf 3 (some .int), Cond.methodLink RX5 86 yX5_lineAt, Cond.instanceMethod yX5_lineAt, Cond.selects RX5 yX5_lineAt yX5_lineAt, Cond.code yX5_lineAt cX5_lineAt 5 (some .int), Cond.constant RX5 63 (-100009), Cond.methodLink RX5 71 yX5_settles, Cond.static yX5_settles, Cond.code yX5_settles cX5_settles 3 none, Cond.methodLink RX5 68 yX5_goesUp, Cond.static yX5_goesUp, Cond.code yX5_goesUp cX5_goesUp 1 none]
def wsX5_measuredBy_r3 : List Cond := [Cond.methodLink RX5 154 yX5_measured, Cond.instanceMethod yX5_measured, Cond.selects RX5 yX5_measured yX5_measured, Cond.code yX5_measured cX5_measured 4 (some .int)]
def wsX5_measuredBy : List Cond := .code yX5_measuredBy cX5_measuredBy 2 (some .int) :: ((wsX5_measuredBy_r1 ++ (wsX5_measuredBy_r2 ++ wsX5_measuredBy_r3)) ++ wsX50)
def wsJ9_max_7cf53 : List Cond := .code yJ9_max_7cf53 cJ9_max_7cf53 2 (some .int) :: ([])
def wsJ9_min_7cf53 : List Cond := .code yJ9_min_7cf53 cJ9_min_7cf53 2 (some .int) :: ([])
def wsL_law_r1 : List Cond := [Cond.classLink RL 7 RX4, Cond.instantiable RX4 4, Cond.initialized RX4, Cond.classLink RL 10 RX5, Cond.instantiable RX5 12, Cond.initialized RX5, Cond.methodLink RL 9 yX4_init, Cond.instanceMethod yX4_init, Cond.code yX4_init cX4_init 1 none, Cond.methodLink RX4 1 objectInit, Cond.instanceMethod objectInit, Cond.code objectInit ⟨#[0xb1]⟩ 1 none, Cond.classLink RX4 7 RX3, Cond.instantiable RX3 4, Cond.initialized RX3, Cond.fieldLink RX4 10 "WindowLines" "now" "LWindowLines$Window;", Cond.fieldLink RX4 16 "WindowLines" "draft" "LWindowLines$Window;", Cond.classLink RX4 19 RX0, Cond.instantiable RX0 3, Cond.initialized RX0, Cond.fieldLink RX4 22 "WindowLines" "history" "LWindowLines$History;", Cond.classLink RX4 26 RX2, Cond.instantiable RX2 6, Cond.initialized RX2]
def wsL_law_r2 : List Cond := [Cond.fieldLink RX4 29 "WindowLines" "program" "LWindowLines$Program;", Cond.methodLink RX4 9 yX3_init, Cond.instanceMethod yX3_init, Cond.code yX3_init cX3_init 1 none, Cond.methodLink RX3 3 objectInit, Cond.classLink RX3 9 RX1, Cond.instantiable RX1 7, Cond.initialized RX1, Cond.fieldLink RX3 12 "WindowLines$Window" "lines" "LWindowLines$Lines;", Cond.fieldLink RX3 18 "WindowLines$Window" "height" "I", Cond.methodLink RX3 11 yX1_init, Cond.instanceMethod yX1_init, Cond.code yX1_init cX1_init 1 none, Cond.methodLink RX1 3 objectInit, Cond.arrayClass .int, Cond.fieldLink RX1 9 "WindowLines$Lines" "kinds" "[I", Cond.fieldLink RX1 15 "WindowLines$Lines" "lengths" "[I", Cond.arrayClass .boolean, Cond.fieldLink RX1 18 "WindowLines$Lines" "measured" "[Z", Cond.fieldLink RX1 22 "WindowLines$Lines" "measuredSums" "[I", Cond.fieldLink RX1 25 "WindowLines$Lines" "measuredCounts" "[I", Cond.fieldLink RX1 28 "WindowLines$Lines" "width" "I", Cond.methodLink RX4 21 yX0_init, Cond.instanceMethod yX0_init]
def wsL_law_r3 : List Cond := [Cond.code yX0_init cX0_init 2 none, Cond.methodLink RX0 3 objectInit, Cond.classLink RX0 9 RX3, Cond.fieldLink RX0 11 "WindowLines$History" "states" "[LWindowLines$Window;", Cond.methodLink RX0 17 yX3_init, Cond.methodLink RX4 28 yX2_init, Cond.instanceMethod yX2_init, Cond.code yX2_init cX2_init 1 none, Cond.methodLink RX2 3 objectInit, Cond.arrayClass .char, Cond.fieldLink RX2 9 "WindowLines$Program" "text" "[C", Cond.fieldLink RX2 15 "WindowLines$Program" "numbers" "[I", Cond.methodLink RL 12 yX5_init, Cond.instanceMethod yX5_init, Cond.code yX5_init cX5_init 1 none, Cond.methodLink RX5 1 objectInit, Cond.fieldLink RX5 7 "WindowLinesModel" "now" "[I", Cond.fieldLink RX5 13 "WindowLinesModel" "before" "[I", Cond.fieldLink RX5 16 "WindowLinesModel" "tried" "[I", Cond.fieldLink RX5 19 "WindowLinesModel" "past" "[I", Cond.fieldLink RX5 22 "WindowLinesModel" "text" "[I", Cond.fieldLink RX5 25 "WindowLinesModel" "guesses" "[I", Cond.fieldLink RX5 28 "WindowLinesModel" "numbers" "[I", Cond.methodLink RL 13 yX4_put]
def wsL_law_r4 : List Cond := [Cond.instanceMethod yX4_put, Cond.selects RX4 yX4_put yX4_put, Cond.code yX4_put cX4_put 4 (some .int), Cond.methodLink RX4 33 yX3_copyFrom, Cond.instanceMethod yX3_copyFrom, Cond.selects RX3 yX3_copyFrom yX3_copyFrom, Cond.code yX3_copyFrom cX3_copyFrom 2 none, Cond.fieldLink RX3 26 "WindowLines$Window" "anchor" "I", Cond.fieldLink RX3 29 "WindowLines$Window" "shift" "I", Cond.methodLink RX3 22 yX1_copyFrom, Cond.instanceMethod yX1_copyFrom, Cond.selects RX1 yX1_copyFrom yX1_copyFrom, Cond.code yX1_copyFrom cX1_copyFrom 2 none, Cond.methodLink RX1 32 arraycopyName, Cond.native arraycopyName, Cond.static arraycopyName, Cond.initialized "java/lang/System", Cond.fieldLink RX1 38 "WindowLines$Lines" "size" "I", Cond.methodLink RX4 37 yX3_putIn, Cond.instanceMethod yX3_putIn, Cond.selects RX3 yX3_putIn yX3_putIn, Cond.code yX3_putIn cX3_putIn 4 (some .int), Cond.fieldLink RX3 32 "WindowLines$Lines" "size" "I", Cond.constant RX3 43 (-100001)]
def wsL_law_r5 : List Cond := [Cond.constant RX3 44 (-100003), Cond.static yX4_isOutside, Cond.code yX4_isOutside cX4_isOutside 3 (some .boolean), Cond.methodLink RX3 39 yX1_isKind, Cond.instanceMethod yX1_isKind, Cond.selects RX1 yX1_isKind yX1_isKind, Cond.code yX1_isKind cX1_isKind 2 (some .boolean), Cond.methodLink RX3 45 yX1_insert, Cond.instanceMethod yX1_insert, Cond.selects RX1 yX1_insert yX1_insert, Cond.code yX1_insert cX1_insert 4 none, Cond.methodLink RX3 49 yX3_settle, Cond.instanceMethod yX3_settle, Cond.selects RX3 yX3_settle yX3_settle, Cond.code yX3_settle cX3_settle 4 none, Cond.methodLink RX3 94 yX3_descend, Cond.instanceMethod yX3_descend, Cond.selects RX3 yX3_descend yX3_descend, Cond.code yX3_descend cX3_descend 1 none, Cond.methodLink RX3 100 yX1_measure, Cond.instanceMethod yX1_measure, Cond.selects RX1 yX1_measure yX1_measure, Cond.code yX1_measure cX1_measure 2 none, Cond.methodLink RX1 41 yX1_isLine]
def wsL_law_r6 : List Cond := [Cond.instanceMethod yX1_isLine, Cond.selects RX1 yX1_isLine yX1_isLine, Cond.code yX1_isLine cX1_isLine 2 (some .boolean), Cond.methodLink RX1 49 yX1_isKind, Cond.methodLink RX1 52 yX1_trueHeight, Cond.instanceMethod yX1_trueHeight, Cond.selects RX1 yX1_trueHeight yX1_trueHeight, Cond.code yX1_trueHeight cX1_trueHeight 4 (some .int), Cond.methodLink RX3 97 yX1_heightOf, Cond.instanceMethod yX1_heightOf, Cond.selects RX1 yX1_heightOf yX1_heightOf, Cond.code yX1_heightOf cX1_heightOf 2 (some .int), Cond.methodLink RX1 56 yX1_guess, Cond.instanceMethod yX1_guess, Cond.selects RX1 yX1_guess yX1_guess, Cond.code yX1_guess cX1_guess 2 (some .int), Cond.methodLink RX3 78 yX3_climb, Cond.instanceMethod yX3_climb, Cond.selects RX3 yX3_climb yX3_climb, Cond.code yX3_climb cX3_climb 1 none, Cond.methodLink RX3 81 Lib.Math.max.name, Cond.static Lib.Math.max.name, Cond.initialized "java/lang/Math", Cond.code Lib.Math.max.name Lib.Math.max.code 2 (some .int)]
def wsL_law_r7 : List Cond := [Cond.methodLink RX3 52 yX1_total, Cond.instanceMethod yX1_total, Cond.selects RX1 yX1_total yX1_total, Cond.code yX1_total cX1_total 1 (some .int), Cond.methodLink RX1 63 yX1_topOf, Cond.instanceMethod yX1_topOf, Cond.selects RX1 yX1_topOf yX1_topOf, Cond.code yX1_topOf cX1_topOf 4 (some .int), Cond.methodLink RX1 60 yX1_heightOf, Cond.methodLink RX4 41 yX4_keepDraft, Cond.instanceMethod yX4_keepDraft, Cond.selects RX4 yX4_keepDraft yX4_keepDraft, Cond.code yX4_keepDraft cX4_keepDraft 2 (some .int), Cond.methodLink RX4 168 yX0_record, Cond.instanceMethod yX0_record, Cond.selects RX0 yX0_record yX0_record, Cond.code yX0_record cX0_record 3 none, Cond.fieldLink RX0 18 "WindowLines$History" "next" "I", Cond.fieldLink RX0 30 "WindowLines$History" "size" "I", Cond.methodLink RX0 33 Lib.Math.min.name, Cond.static Lib.Math.min.name, Cond.code Lib.Math.min.name Lib.Math.min.code 2 (some .int), Cond.methodLink RX0 22 yX0_stateAt, Cond.instanceMethod yX0_stateAt]
def wsL_law_r8 : List Cond := [Cond.selects RX0 yX0_stateAt yX0_stateAt, Cond.code yX0_stateAt cX0_stateAt 2 (some (.object "WindowLines$Window")), Cond.methodLink RX0 26 yX3_copyFrom, Cond.methodLink RL 17 yX5_put, Cond.instanceMethod yX5_put, Cond.selects RX5 yX5_put yX5_put, Cond.code yX5_put cX5_put 4 (some .int), Cond.methodLink RX5 92 yX5_keeps, Cond.instanceMethod yX5_keeps, Cond.selects RX5 yX5_keeps yX5_keeps, Cond.code yX5_keeps cX5_keeps 1 none, Cond.methodLink RX5 31 yX5_copies, Cond.static yX5_copies, Cond.code yX5_copies cX5_copies 5 none, Cond.methodLink RX5 95 yX5_puts, Cond.instanceMethod yX5_puts, Cond.selects RX5 yX5_puts yX5_puts, Cond.code yX5_puts cX5_puts 5 (some .int), Cond.constant RX5 36 (-100001), Cond.constant RX5 35 (-100003), Cond.methodLink RX5 37 yX5_in, Cond.static yX5_in, Cond.code yX5_in cX5_in 3 (some .boolean), Cond.methodLink RX5 45 yX5_l]
def wsL_law_r9 : List Cond := [Cond.static yX5_l, Cond.code yX5_l cX5_l 2 (some .int), Cond.methodLink RX5 71 yX5_settles, Cond.static yX5_settles, Cond.code yX5_settles cX5_settles 3 none, Cond.methodLink RX5 49 yX5_trueOf, Cond.static yX5_trueOf, Cond.code yX5_trueOf cX5_trueOf 5 (some .int), Cond.methodLink RX5 68 yX5_goesUp, Cond.static yX5_goesUp, Cond.code yX5_goesUp cX5_goesUp 1 none, Cond.methodLink RX5 74 yX5_total, Cond.instanceMethod yX5_total, Cond.selects RX5 yX5_total yX5_total, Cond.code yX5_total cX5_total 2 (some .int), Cond.methodLink RX5 60 yX5_topOf, Cond.instanceMethod yX5_topOf, Cond.selects RX5 yX5_topOf yX5_topOf, Cond.code yX5_topOf cX5_topOf 5 (some .int), Cond.methodLink RX5 53 yX5_laysGuesses, Cond.instanceMethod yX5_laysGuesses, Cond.selects RX5 yX5_laysGuesses yX5_laysGuesses, Cond.code yX5_laysGuesses cX5_laysGuesses 7 none, Cond.methodLink RX5 57 yX5_heightOf]
def wsL_law_r10 : List Cond := [Cond.instanceMethod yX5_heightOf, Cond.selects RX5 yX5_heightOf yX5_heightOf, Cond.code yX5_heightOf cX5_heightOf 3 (some .int), Cond.methodLink RX5 99 yX5_acted, Cond.instanceMethod yX5_acted, Cond.selects RX5 yX5_acted yX5_acted, Cond.code yX5_acted cX5_acted 3 (some .int), Cond.fieldLink RX5 41 "WindowLinesModel" "states" "I", Cond.methodLink RL 18 yX4_cut, Cond.instanceMethod yX4_cut, Cond.selects RX4 yX4_cut yX4_cut, Cond.code yX4_cut cX4_cut 2 (some .int), Cond.methodLink RX4 45 yX3_takeOut, Cond.instanceMethod yX3_takeOut, Cond.selects RX3 yX3_takeOut yX3_takeOut, Cond.code yX3_takeOut cX3_takeOut 3 (some .int), Cond.methodLink RX3 56 yX1_isLine, Cond.methodLink RX3 59 yX1_remove, Cond.instanceMethod yX1_remove, Cond.selects RX1 yX1_remove yX1_remove, Cond.code yX1_remove cX1_remove 2 none, Cond.methodLink RX1 45 yX1_forget, Cond.instanceMethod yX1_forget, Cond.selects RX1 yX1_forget yX1_forget]
def wsL_law_r11 : List Cond := [Cond.code yX1_forget cX1_forget 2 none, Cond.methodLink RL 22 yX5_cut, Cond.instanceMethod yX5_cut, Cond.selects RX5 yX5_cut yX5_cut, Cond.code yX5_cut cX5_cut 2 (some .int), Cond.methodLink RX5 103 yX5_cuts, Cond.instanceMethod yX5_cuts, Cond.selects RX5 yX5_cuts yX5_cuts, Cond.code yX5_cuts cX5_cuts 3 (some .int), Cond.methodLink RX5 77 yX5_isLine, Cond.instanceMethod yX5_isLine, Cond.selects RX5 yX5_isLine yX5_isLine, Cond.code yX5_isLine cX5_isLine 2 (some .boolean), Cond.methodLink RL 23 yX4_change, Cond.instanceMethod yX4_change, Cond.selects RX4 yX4_change yX4_change, Cond.code yX4_change cX4_change 3 (some .int), Cond.methodLink RX4 48 yX3_changeLength, Cond.instanceMethod yX3_changeLength, Cond.selects RX3 yX3_changeLength yX3_changeLength, Cond.code yX3_changeLength cX3_changeLength 4 (some .int), Cond.fieldLink RX3 63 "WindowLines$Lines" "lengths" "[I", Cond.methodLink RX3 67 yX1_setLength, Cond.instanceMethod yX1_setLength]
def wsL_law_r12 : List Cond := [Cond.selects RX1 yX1_setLength yX1_setLength, Cond.code yX1_setLength cX1_setLength 3 none, Cond.methodLink RL 27 yX5_change, Cond.instanceMethod yX5_change, Cond.selects RX5 yX5_change yX5_change, Cond.code yX5_change cX5_change 4 (some .int), Cond.methodLink RL 28 yX4_setHeight, Cond.instanceMethod yX4_setHeight, Cond.selects RX4 yX4_setHeight yX4_setHeight, Cond.code yX4_setHeight cX4_setHeight 2 (some .int), Cond.methodLink RX4 52 yX3_changeHeight, Cond.instanceMethod yX3_changeHeight, Cond.selects RX3 yX3_changeHeight yX3_changeHeight, Cond.code yX3_changeHeight cX3_changeHeight 3 (some .int), Cond.methodLink RL 31 yX5_setHeight, Cond.instanceMethod yX5_setHeight, Cond.selects RX5 yX5_setHeight yX5_setHeight, Cond.code yX5_setHeight cX5_setHeight 3 (some .int), Cond.methodLink RL 32 yX4_setWidth, Cond.instanceMethod yX4_setWidth, Cond.selects RX4 yX4_setWidth yX4_setWidth, Cond.code yX4_setWidth cX4_setWidth 2 (some .int), Cond.methodLink RX4 55 yX3_changeWidth, Cond.instanceMethod yX3_changeWidth]
def wsL_law_r13 : List Cond := [Cond.selects RX3 yX3_changeWidth yX3_changeWidth, Cond.code yX3_changeWidth cX3_changeWidth 3 (some .int), Cond.fieldLink RX3 71 "WindowLines$Lines" "width" "I", Cond.methodLink RX3 74 yX1_forgetAllFor, Cond.instanceMethod yX1_forgetAllFor, Cond.selects RX1 yX1_forgetAllFor yX1_forgetAllFor, Cond.code yX1_forgetAllFor cX1_forgetAllFor 3 none, Cond.methodLink RL 35 yX5_setWidth, Cond.instanceMethod yX5_setWidth, Cond.selects RX5 yX5_setWidth yX5_setWidth, Cond.code yX5_setWidth cX5_setWidth 4 (some .int), Cond.methodLink RL 36 yX4_scroll, Cond.instanceMethod yX4_scroll, Cond.selects RX4 yX4_scroll yX4_scroll, Cond.code yX4_scroll cX4_scroll 2 (some .int), Cond.methodLink RX4 58 yX3_moveBy, Cond.instanceMethod yX3_moveBy, Cond.selects RX3 yX3_moveBy yX3_moveBy, Cond.code yX3_moveBy cX3_moveBy 2 (some .int), Cond.constant RX3 77 (-100002), Cond.methodLink RL 39 yX5_scroll, Cond.instanceMethod yX5_scroll, Cond.selects RX5 yX5_scroll yX5_scroll, Cond.code yX5_scroll cX5_scroll 2 (some .int)]
def wsL_law_r14 : List Cond := [Cond.methodLink RX5 106 yX5_scrolled, Cond.instanceMethod yX5_scrolled, Cond.selects RX5 yX5_scrolled yX5_scrolled, Cond.code yX5_scrolled cX5_scrolled 2 (some .int), Cond.constant RX5 81 (-100002), Cond.methodLink RX5 82 yX5_scrolls, Cond.static yX5_scrolls, Cond.code yX5_scrolls cX5_scrolls 2 none, Cond.methodLink RL 40 yX4_jump, Cond.instanceMethod yX4_jump, Cond.selects RX4 yX4_jump yX4_jump, Cond.code yX4_jump cX4_jump 2 (some .int), Cond.methodLink RX4 61 yX3_moveToShare, Cond.instanceMethod yX3_moveToShare, Cond.selects RX3 yX3_moveToShare yX3_moveToShare, Cond.code yX3_moveToShare cX3_moveToShare 3 (some .int), Cond.methodLink RX3 87 yX1_lineAt, Cond.instanceMethod yX1_lineAt, Cond.selects RX1 yX1_lineAt yX1_lineAt, Cond.code yX1_lineAt cX1_lineAt 4 (some .int), Cond.constant RX1 66 (-100009), Cond.methodLink RX3 91 yX1_topOf, Cond.methodLink RL 43 yX5_jump, Cond.instanceMethod yX5_jump]
def wsL_law_r15 : List Cond := [Cond.selects RX5 yX5_jump yX5_jump, Cond.code yX5_jump cX5_jump 2 (some .int), Cond.methodLink RX5 109 yX5_jumped, Cond.instanceMethod yX5_jumped, Cond.selects RX5 yX5_jumped yX5_jumped, Cond.code yX5_jumped cX5_jumped 2 (some .int), Cond.methodLink RX5 89 yX5_jumps, Cond.instanceMethod yX5_jumps, Cond.selects RX5 yX5_jumps yX5_jumps, Cond.code yX5_jumps cX5_jumps 6 none, Cond.methodLink RX5 86 yX5_lineAt, Cond.instanceMethod yX5_lineAt, Cond.selects RX5 yX5_lineAt yX5_lineAt, Cond.code yX5_lineAt cX5_lineAt 5 (some .int), Cond.constant RX5 63 (-100009), Cond.methodLink RL 44 yX4_goTo, Cond.instanceMethod yX4_goTo, Cond.selects RX4 yX4_goTo yX4_goTo, Cond.code yX4_goTo cX4_goTo 2 (some .int), Cond.methodLink RX4 64 yX3_moveToLine, Cond.instanceMethod yX3_moveToLine, Cond.selects RX3 yX3_moveToLine yX3_moveToLine, Cond.code yX3_moveToLine cX3_moveToLine 2 (some .int), Cond.methodLink RL 47 yX5_goTo]
def wsL_law_r16 : List Cond := [Cond.instanceMethod yX5_goTo, Cond.selects RX5 yX5_goTo yX5_goTo, Cond.code yX5_goTo cX5_goTo 2 (some .int), Cond.methodLink RX5 112 yX5_gone, Cond.instanceMethod yX5_gone, Cond.selects RX5 yX5_gone yX5_gone, Cond.code yX5_gone cX5_gone 2 (some .int), Cond.methodLink RL 48 yX4_undo, Cond.instanceMethod yX4_undo, Cond.selects RX4 yX4_undo yX4_undo, Cond.code yX4_undo cX4_undo 1 (some .int), Cond.fieldLink RX4 67 "WindowLines$History" "size" "I", Cond.constant RX4 71 (-100002), Cond.methodLink RX4 72 yX0_restoreTo, Cond.instanceMethod yX0_restoreTo, Cond.selects RX0 yX0_restoreTo yX0_restoreTo, Cond.code yX0_restoreTo cX0_restoreTo 2 none, Cond.methodLink RL 52 yX5_undo, Cond.instanceMethod yX5_undo, Cond.selects RX5 yX5_undo yX5_undo, Cond.code yX5_undo cX5_undo 1 (some .int), Cond.methodLink RL 53 yX4_append, Cond.instanceMethod yX4_append, Cond.selects RX4 yX4_append yX4_append]
def wsL_law_r17 : List Cond := [Cond.code yX4_append cX4_append 2 (some .int), Cond.constant RX4 79 (-100001), Cond.methodLink RX4 75 yX4_isOutside, Cond.methodLink RX4 80 yX2_add, Cond.instanceMethod yX2_add, Cond.selects RX2 yX2_add yX2_add, Cond.code yX2_add cX2_add 2 (some .int), Cond.fieldLink RX2 19 "WindowLines$Program" "length" "I", Cond.constant RX2 23 (-100003), Cond.methodLink RL 56 yX5_append, Cond.instanceMethod yX5_append, Cond.selects RX5 yX5_append yX5_append, Cond.code yX5_append cX5_append 2 (some .int), Cond.fieldLink RX5 115 "WindowLinesModel" "letters" "I", Cond.methodLink RL 57 yX4_clearText, Cond.instanceMethod yX4_clearText, Cond.selects RX4 yX4_clearText yX4_clearText, Cond.code yX4_clearText cX4_clearText 1 (some .int), Cond.methodLink RX4 84 yX2_clear, Cond.instanceMethod yX2_clear, Cond.selects RX2 yX2_clear yX2_clear, Cond.code yX2_clear cX2_clear 2 (some .int), Cond.methodLink RL 60 yX5_clearText, Cond.instanceMethod yX5_clearText]
def wsL_law_r18 : List Cond := [Cond.selects RX5 yX5_clearText yX5_clearText, Cond.code yX5_clearText cX5_clearText 2 (some .int), Cond.methodLink RL 61 yX4_run, Cond.instanceMethod yX4_run, Cond.selects RX4 yX4_run yX4_run, Cond.code yX4_run cX4_run 3 (some .int), Cond.fieldLink RX4 97 "WindowLines$Program" "place" "I", Cond.methodLink RX4 88 yX2_rewind, Cond.instanceMethod yX2_rewind, Cond.selects RX2 yX2_rewind yX2_rewind, Cond.code yX2_rewind cX2_rewind 1 none, Cond.fieldLink RX2 24 "WindowLines$Program" "start" "I", Cond.fieldLink RX2 27 "WindowLines$Program" "end" "I", Cond.fieldLink RX2 30 "WindowLines$Program" "place" "I", Cond.methodLink RX4 91 yX2_readCommand, Cond.instanceMethod yX2_readCommand, Cond.selects RX2 yX2_readCommand yX2_readCommand, Cond.code yX2_readCommand cX2_readCommand 4 (some .int), Cond.methodLink RX2 33 yX2_readToken, Cond.instanceMethod yX2_readToken, Cond.selects RX2 yX2_readToken yX2_readToken, Cond.code yX2_readToken cX2_readToken 1 none, Cond.methodLink RX2 47 Lib.Math.min.name, Cond.methodLink RX2 43 yX2_signAt]
def wsL_law_r19 : List Cond := [Cond.instanceMethod yX2_signAt, Cond.selects RX2 yX2_signAt yX2_signAt, Cond.code yX2_signAt cX2_signAt 2 (some .char), Cond.methodLink RX2 53 yX2_isLetter, Cond.static yX2_isLetter, Cond.code yX2_isLetter cX2_isLetter 1 (some .boolean), Cond.methodLink RX2 57 yX2_isDigit, Cond.static yX2_isDigit, Cond.code yX2_isDigit cX2_isDigit 1 (some .boolean), Cond.methodLink RX2 36 yX2_commandOfToken, Cond.instanceMethod yX2_commandOfToken, Cond.selects RX2 yX2_commandOfToken yX2_commandOfToken, Cond.code yX2_commandOfToken cX2_commandOfToken 2 (some .int), Cond.methodLink RX2 60 yX2_wordOf, Cond.static yX2_wordOf, Cond.code yX2_wordOf cX2_wordOf 1 (some (.object "java/lang/String")), Cond.methodLink RX2 64 yX2_tokenIs, Cond.instanceMethod yX2_tokenIs, Cond.selects RX2 yX2_tokenIs yX2_tokenIs, Cond.code yX2_tokenIs cX2_tokenIs 3 (some .boolean), Cond.methodLink RX2 68 yJ0_length_8abf5, Cond.instanceMethod yJ0_length_8abf5, Cond.selects RJ0 yJ0_length_8abf5 yJ0_length_8abf5, Cond.initialized RJ0]
def wsL_law_r20 : List Cond := [Cond.code yJ0_length_8abf5 cJ0_length_8abf5 1 (some .int), Cond.fieldLink RJ0 9 "java/lang/String" "value" "[B", Cond.methodLink RJ0 335 yJ0_coder_7d493, Cond.instanceMethod yJ0_coder_7d493, Cond.selects RJ0 yJ0_coder_7d493 yJ0_coder_7d493, Cond.code yJ0_coder_7d493 cJ0_coder_7d493 1 (some .byte), Cond.fieldLink RJ0 38 "java/lang/String" "COMPACT_STRINGS" "Z", Cond.fieldLink RJ0 15 "java/lang/String" "coder" "B", Cond.methodLink RX2 72 yJ0_charAt_5068e, Cond.instanceMethod yJ0_charAt_5068e, Cond.selects RJ0 yJ0_charAt_5068e yJ0_charAt_5068e, Cond.code yJ0_charAt_5068e cJ0_charAt_5068e 2 (some .char), Cond.methodLink RJ0 492 yJ0_isLatin1_aae02, Cond.instanceMethod yJ0_isLatin1_aae02, Cond.selects RJ0 yJ0_isLatin1_aae02 yJ0_isLatin1_aae02, Cond.code yJ0_isLatin1_aae02 cJ0_isLatin1_aae02 1 (some .boolean), Cond.methodLink RJ0 495 yJ1_charAt_3b067, Cond.static yJ1_charAt_3b067, Cond.initialized RJ1, Cond.code yJ1_charAt_3b067 cJ1_charAt_3b067 2 (some .char), Cond.methodLink RJ1 9 yJ0_checkIndex_df160, Cond.static yJ0_checkIndex_df160, Cond.code yJ0_checkIndex_df160 cJ0_checkIndex_df160 2 none, Cond.fieldLink RJ0 1053 "jdk/internal/util/Preconditions" "SIOOBE_FORMATTER" "Ljava/util/function/BiFunction;"]
def wsL_law_r21 : List Cond := [Cond.methodLink RJ0 1059 yJ3_checkIndex_8e157, Cond.static yJ3_checkIndex_8e157, Cond.initialized RJ3, Cond.code yJ3_checkIndex_8e157 cJ3_checkIndex_8e157 3 (some .int), Cond.methodLink RJ0 498 yJ2_charAt_3b067, Cond.static yJ2_charAt_3b067, Cond.initialized RJ2, Cond.code yJ2_charAt_3b067 cJ2_charAt_3b067 2 (some .char), Cond.methodLink RJ2 67 yJ2_checkIndex_2214a, Cond.static yJ2_checkIndex_2214a, Cond.code yJ2_checkIndex_2214a cJ2_checkIndex_2214a 2 none, Cond.methodLink RJ2 48 yJ2_length_9d52b, Cond.static yJ2_length_9d52b, Cond.code yJ2_length_9d52b cJ2_length_9d52b 1 (some .int), Cond.methodLink RJ2 414 yJ0_checkIndex_df160, Cond.methodLink RJ2 71 yJ2_getChar_3b067, Cond.static yJ2_getChar_3b067, Cond.code yJ2_getChar_3b067 cJ2_getChar_3b067 2 (some .char), Cond.fieldLink RJ2 44 "java/lang/StringUTF16" "$assertionsDisabled" "Z", Cond.fieldLink RJ2 59 "java/lang/StringUTF16" "HI_BYTE_SHIFT" "I", Cond.fieldLink RJ2 63 "java/lang/StringUTF16" "LO_BYTE_SHIFT" "I", Cond.methodLink RX2 40 yX2_numberOfToken, Cond.instanceMethod yX2_numberOfToken, Cond.selects RX2 yX2_numberOfToken yX2_numberOfToken]
def wsL_law_r22 : List Cond := [Cond.code yX2_numberOfToken cX2_numberOfToken 4 (some .int), Cond.methodLink RX4 94 yX4_performOnDraft, Cond.instanceMethod yX4_performOnDraft, Cond.selects RX4 yX4_performOnDraft yX4_performOnDraft, Cond.code yX4_performOnDraft cX4_performOnDraft 3 (some .int), Cond.methodLink RX4 171 yX2_number, Cond.instanceMethod yX2_number, Cond.selects RX2 yX2_number yX2_number, Cond.code yX2_number cX2_number 2 (some .int), Cond.methodLink RL 64 yX5_run, Cond.instanceMethod yX5_run, Cond.selects RX5 yX5_run yX5_run, Cond.code yX5_run cX5_run 3 (some .int), Cond.fieldLink RX5 118 "WindowLinesModel" "at" "I", Cond.methodLink RX5 128 yX5_begins, Cond.instanceMethod yX5_begins, Cond.selects RX5 yX5_begins yX5_begins, Cond.code yX5_begins cX5_begins 1 none, Cond.fieldLink RX5 125 "WindowLinesModel" "from" "I", Cond.methodLink RX5 121 yX5_next, Cond.instanceMethod yX5_next, Cond.selects RX5 yX5_next yX5_next, Cond.code yX5_next cX5_next 1 (some .int), Cond.methodLink RX5 147 yX5_fails]
def wsL_law_r23 : List Cond := [Cond.instanceMethod yX5_fails, Cond.selects RX5 yX5_fails yX5_fails, Cond.code yX5_fails cX5_fails 5 (some .int), Cond.fieldLink RX5 131 "WindowLinesModel" "wrong" "Z", Cond.methodLink RX5 135 yX5_word, Cond.instanceMethod yX5_word, Cond.selects RX5 yX5_word yX5_word, Cond.code yX5_word cX5_word 2 (some .int), Cond.methodLink RX5 138 yX5_numbersOf, Cond.static yX5_numbersOf, Cond.code yX5_numbersOf cX5_numbersOf 1 (some .int), Cond.methodLink RX5 141 yX5_number, Cond.instanceMethod yX5_number, Cond.selects RX5 yX5_number yX5_number, Cond.code yX5_number cX5_number 3 (some .int), Cond.methodLink RX5 144 yX5_does, Cond.instanceMethod yX5_does, Cond.selects RX5 yX5_does yX5_does, Cond.code yX5_does cX5_does 2 (some .int), Cond.methodLink RL 65 yX4_count, Cond.instanceMethod yX4_count, Cond.selects RX4 yX4_count yX4_count, Cond.code yX4_count cX4_count 2 (some .int), Cond.fieldLink RX4 100 "WindowLines$Window" "lines" "LWindowLines$Lines;"]
def wsL_law_r24 : List Cond := [Cond.fieldLink RX4 104 "WindowLines$Lines" "size" "I", Cond.constant RX4 110 (-100009), Cond.fieldLink RX4 111 "WindowLines$Window" "anchor" "I", Cond.fieldLink RX4 114 "WindowLines$Window" "shift" "I", Cond.fieldLink RX4 123 "WindowLines$Window" "height" "I", Cond.fieldLink RX4 126 "WindowLines$Lines" "width" "I", Cond.fieldLink RX4 135 "WindowLines$Program" "length" "I", Cond.methodLink RX4 107 yX1_measuredLines, Cond.instanceMethod yX1_measuredLines, Cond.selects RX1 yX1_measuredLines yX1_measuredLines, Cond.code yX1_measuredLines cX1_measuredLines 3 (some .int), Cond.methodLink RX4 117 yX1_total, Cond.methodLink RX4 120 yX3_top, Cond.instanceMethod yX3_top, Cond.selects RX3 yX3_top yX3_top, Cond.code yX3_top cX3_top 1 (some .int), Cond.methodLink RX4 129 yX1_guess, Cond.methodLink RX4 132 yX3_linesShown, Cond.instanceMethod yX3_linesShown, Cond.selects RX3 yX3_linesShown yX3_linesShown, Cond.code yX3_linesShown cX3_linesShown 4 (some .int), Cond.methodLink RL 68 yX5_count, Cond.instanceMethod yX5_count, Cond.selects RX5 yX5_count yX5_count]
def wsL_law_r25 : List Cond := [Cond.code yX5_count cX5_count 3 (some .int), Cond.methodLink RX5 154 yX5_measured, Cond.instanceMethod yX5_measured, Cond.selects RX5 yX5_measured yX5_measured, Cond.code yX5_measured cX5_measured 4 (some .int), Cond.methodLink RX5 64 yX5_windowOf, Cond.instanceMethod yX5_windowOf, Cond.selects RX5 yX5_windowOf yX5_windowOf, Cond.code yX5_windowOf cX5_windowOf 2 (some .int), Cond.methodLink RX5 157 yX5_seenLines, Cond.instanceMethod yX5_seenLines, Cond.selects RX5 yX5_seenLines yX5_seenLines, Cond.code yX5_seenLines cX5_seenLines 3 (some .int), Cond.methodLink RX5 150 yX5_isSeen, Cond.instanceMethod yX5_isSeen, Cond.selects RX5 yX5_isSeen yX5_isSeen, Cond.code yX5_isSeen cX5_isSeen 4 (some .boolean), Cond.methodLink RL 69 yX4_line, Cond.instanceMethod yX4_line, Cond.selects RX4 yX4_line yX4_line, Cond.code yX4_line cX4_line 3 (some .int), Cond.fieldLink RX4 142 "WindowLines$Lines" "kinds" "[I", Cond.fieldLink RX4 146 "WindowLines$Lines" "lengths" "[I", Cond.fieldLink RX4 152 "WindowLines$Lines" "measured" "[Z"]
def wsL_law_r26 : List Cond := [Cond.methodLink RX4 138 yX1_isLine, Cond.methodLink RX4 149 yX1_heightOf, Cond.methodLink RX4 156 yX1_topOf, Cond.methodLink RX4 159 yX1_trueHeightOf, Cond.instanceMethod yX1_trueHeightOf, Cond.selects RX1 yX1_trueHeightOf yX1_trueHeightOf, Cond.code yX1_trueHeightOf cX1_trueHeightOf 2 (some .int), Cond.methodLink RL 72 yX5_line, Cond.instanceMethod yX5_line, Cond.selects RX5 yX5_line yX5_line, Cond.code yX5_line cX5_line 3 (some .int), Cond.methodLink RL 73 yX4_seen, Cond.instanceMethod yX4_seen, Cond.selects RX4 yX4_seen yX4_seen, Cond.code yX4_seen cX4_seen 2 (some .int), Cond.methodLink RX4 162 yX1_lineAt, Cond.methodLink RL 76 yX5_seen, Cond.instanceMethod yX5_seen, Cond.selects RX5 yX5_seen yX5_seen, Cond.code yX5_seen cX5_seen 2 (some .int), Cond.methodLink RL 77 yX4_at, Cond.instanceMethod yX4_at, Cond.selects RX4 yX4_at yX4_at, Cond.code yX4_at cX4_at 2 (some .int)]
def wsL_law_r27 : List Cond := [Cond.methodLink RL 80 yX5_at, Cond.instanceMethod yX5_at, Cond.selects RX5 yX5_at yX5_at, Cond.code yX5_at cX5_at 2 (some .int), Cond.methodLink RL 81 yX4_share, Cond.instanceMethod yX4_share, Cond.selects RX4 yX4_share yX4_share, Cond.code yX4_share cX4_share 2 (some .int), Cond.methodLink RL 84 yX5_share, Cond.instanceMethod yX5_share, Cond.selects RX5 yX5_share yX5_share, Cond.code yX5_share cX5_share 2 (some .int), Cond.methodLink RL 85 yX4_trueSum, Cond.instanceMethod yX4_trueSum, Cond.selects RX4 yX4_trueSum yX4_trueSum, Cond.code yX4_trueSum cX4_trueSum 5 (some .int), Cond.methodLink RL 88 yX5_trueSum, Cond.instanceMethod yX5_trueSum, Cond.selects RX5 yX5_trueSum yX5_trueSum, Cond.code yX5_trueSum cX5_trueSum 5 (some .int), Cond.methodLink RL 89 yX4_scrollsTo, Cond.instanceMethod yX4_scrollsTo, Cond.selects RX4 yX4_scrollsTo yX4_scrollsTo, Cond.code yX4_scrollsTo cX4_scrollsTo 4 (some .int)]
def wsL_law_r28 : List Cond := [Cond.methodLink RX4 165 yX3_shows, Cond.instanceMethod yX3_shows, Cond.selects RX3 yX3_shows yX3_shows, Cond.code yX3_shows cX3_shows 4 (some .boolean), Cond.methodLink RL 92 yX5_scrollsTo, Cond.instanceMethod yX5_scrollsTo, Cond.selects RX5 yX5_scrollsTo yX5_scrollsTo, Cond.code yX5_scrollsTo cX5_scrollsTo 4 (some .int), Cond.methodLink RL 93 yX4_measuredBy, Cond.instanceMethod yX4_measuredBy, Cond.selects RX4 yX4_measuredBy yX4_measuredBy, Cond.code yX4_measuredBy cX4_measuredBy 2 (some .int), Cond.methodLink RL 96 yX5_measuredBy, Cond.instanceMethod yX5_measuredBy, Cond.selects RX5 yX5_measuredBy yX5_measuredBy, Cond.code yX5_measuredBy cX5_measuredBy 2 (some .int)]
def wsL_law : List Cond := (wsL_law_r1 ++ (wsL_law_r2 ++ (wsL_law_r3 ++ (wsL_law_r4 ++ (wsL_law_r5 ++ (wsL_law_r6 ++ (wsL_law_r7 ++ (wsL_law_r8 ++ (wsL_law_r9 ++ (wsL_law_r10 ++ (wsL_law_r11 ++ (wsL_law_r12 ++ (wsL_law_r13 ++ (wsL_law_r14 ++ (wsL_law_r15 ++ (wsL_law_r16 ++ (wsL_law_r17 ++ (wsL_law_r18 ++ (wsL_law_r19 ++ (wsL_law_r20 ++ (wsL_law_r21 ++ (wsL_law_r22 ++ (wsL_law_r23 ++ (wsL_law_r24 ++ (wsL_law_r25 ++ (wsL_law_r26 ++ (wsL_law_r27 ++ wsL_law_r28))))))))))))))))))))))))))) ++ wsX40 ++ wsX50 ++ wsX30 ++ wsX00 ++ wsX20 ++ wsX10 ++ ([] : List Cond)
end
section
set_option maxRecDepth 20000 in
theorem ggX0_init_X3_init : GoodIn wsX0_init wsX3_init := goodIn_r _ [10, 11, 2, 3, 12, 13, 14, 15, 16, 17, 18, 19, 20, 21, 22, 23, 24, 25, 26, 27, 28, 36, 37, 38, 39, 40, 41, 42, 32, 33, 34, 35] (by decide +kernel) (by decide +kernel)
set_option maxRecDepth 20000 in
theorem gX0_init_X3_init : GoodIn wsX0_init (wsX3_init) := ggX0_init_X3_init
theorem dX0_init_0 : decode cX0_init 0 = .ok (.aload_n 0, 1) := by decide +kernel
theorem dX0_init_1 : decode cX0_init 1 = .ok (.invokespecial 3, 3) := by decide +kernel
theorem dX0_init_4 : decode cX0_init 4 = .ok (.aload_n 0, 1) := by decide +kernel
theorem dX0_init_5 : decode cX0_init 5 = .ok (.iconst 5, 1) := by decide +kernel
theorem dX0_init_6 : decode cX0_init 6 = .ok (.anewarray 9, 3) := by decide +kernel
theorem dX0_init_9 : decode cX0_init 9 = .ok (.putfield 11, 3) := by decide +kernel
theorem dX0_init_12 : decode cX0_init 12 = .ok (.iconst 0, 1) := by decide +kernel
theorem dX0_init_13 : decode cX0_init 13 = .ok (.istore_n 1, 1) := by decide +kernel
theorem dX0_init_14 : decode cX0_init 14 = .ok (.iload_n 1, 1) := by decide +kernel
theorem dX0_init_15 : decode cX0_init 15 = .ok (.iconst 5, 1) := by decide +kernel
theorem dX0_init_16 : decode cX0_init 16 = .ok (.if_icmp .ge 22, 3) := by decide +kernel
theorem dX0_init_19 : decode cX0_init 19 = .ok (.aload_n 0, 1) := by decide +kernel
theorem dX0_init_20 : decode cX0_init 20 = .ok (.getfield 11, 3) := by decide +kernel
theorem dX0_init_23 : decode cX0_init 23 = .ok (.iload_n 1, 1) := by decide +kernel
theorem dX0_init_24 : decode cX0_init 24 = .ok (.new 9, 3) := by decide +kernel
theorem dX0_init_27 : decode cX0_init 27 = .ok (.dup, 1) := by decide +kernel
theorem dX0_init_28 : decode cX0_init 28 = .ok (.invokespecial 17, 3) := by decide +kernel
theorem dX0_init_31 : decode cX0_init 31 = .ok (.aastore, 1) := by decide +kernel
theorem dX0_init_32 : decode cX0_init 32 = .ok (.iinc 1 1, 3) := by decide +kernel
theorem dX0_init_35 : decode cX0_init 35 = .ok (.goto (-21), 3) := by decide +kernel
theorem dX0_init_38 : decode cX0_init 38 = .ok (.return_, 1) := by decide +kernel
set_option maxRecDepth 20000 in
theorem ggX0_record_X0_stateAt : GoodIn wsX0_record wsX0_stateAt := goodIn_r _ [11, 12, 38, 39, 40] (by decide +kernel) (by decide +kernel)
set_option maxRecDepth 20000 in
theorem gX0_record_X0_stateAt : GoodIn wsX0_record (wsV RX0 22 RX0 yX0_stateAt wsX0_stateAt) := goodIn_app (goodIn_of _ (by decide +kernel)) ggX0_record_X0_stateAt
set_option maxRecDepth 20000 in
theorem ggX0_record_X3_copyFrom : GoodIn wsX0_record wsX3_copyFrom := goodIn_r _ [17, 18, 19, 20, 21, 22, 23, 24, 25, 26, 27, 28, 29, 30, 31, 32, 33, 34, 35, 36, 37, 41, 42, 43, 44, 45, 46, 47, 48, 49, 50, 51] (by decide +kernel) (by decide +kernel)
set_option maxRecDepth 20000 in
theorem gX0_record_X3_copyFrom : GoodIn wsX0_record (wsV RX0 26 RX3 yX3_copyFrom wsX3_copyFrom) := goodIn_app (goodIn_of _ (by decide +kernel)) ggX0_record_X3_copyFrom
theorem dX0_record_0 : decode cX0_record 0 = .ok (.aload_n 0, 1) := by decide +kernel
theorem dX0_record_1 : decode cX0_record 1 = .ok (.aload_n 0, 1) := by decide +kernel
theorem dX0_record_2 : decode cX0_record 2 = .ok (.getfield 18, 3) := by decide +kernel
theorem dX0_record_5 : decode cX0_record 5 = .ok (.invokevirtual 22, 3) := by decide +kernel
theorem dX0_record_8 : decode cX0_record 8 = .ok (.astore_n 2, 1) := by decide +kernel
theorem dX0_record_9 : decode cX0_record 9 = .ok (.aload_n 2, 1) := by decide +kernel
theorem dX0_record_10 : decode cX0_record 10 = .ok (.ifnonnull 4, 3) := by decide +kernel
theorem dX0_record_13 : decode cX0_record 13 = .ok (.return_, 1) := by decide +kernel
theorem dX0_record_14 : decode cX0_record 14 = .ok (.aload_n 2, 1) := by decide +kernel
theorem dX0_record_15 : decode cX0_record 15 = .ok (.aload_n 1, 1) := by decide +kernel
theorem dX0_record_16 : decode cX0_record 16 = .ok (.invokevirtual 26, 3) := by decide +kernel
theorem dX0_record_19 : decode cX0_record 19 = .ok (.aload_n 0, 1) := by decide +kernel
theorem dX0_record_20 : decode cX0_record 20 = .ok (.aload_n 0, 1) := by decide +kernel
theorem dX0_record_21 : decode cX0_record 21 = .ok (.getfield 18, 3) := by decide +kernel
theorem dX0_record_24 : decode cX0_record 24 = .ok (.iconst 1, 1) := by decide +kernel
theorem dX0_record_25 : decode cX0_record 25 = .ok (.iadd, 1) := by decide +kernel
theorem dX0_record_26 : decode cX0_record 26 = .ok (.iconst 5, 1) := by decide +kernel
theorem dX0_record_27 : decode cX0_record 27 = .ok (.irem, 1) := by decide +kernel
theorem dX0_record_28 : decode cX0_record 28 = .ok (.putfield 18, 3) := by decide +kernel
theorem dX0_record_31 : decode cX0_record 31 = .ok (.aload_n 0, 1) := by decide +kernel
theorem dX0_record_32 : decode cX0_record 32 = .ok (.aload_n 0, 1) := by decide +kernel
theorem dX0_record_33 : decode cX0_record 33 = .ok (.getfield 30, 3) := by decide +kernel
theorem dX0_record_36 : decode cX0_record 36 = .ok (.iconst 1, 1) := by decide +kernel
theorem dX0_record_37 : decode cX0_record 37 = .ok (.iadd, 1) := by decide +kernel
theorem dX0_record_38 : decode cX0_record 38 = .ok (.iconst 5, 1) := by decide +kernel
theorem dX0_record_39 : decode cX0_record 39 = .ok (.invokestatic 33, 3) := by decide +kernel
theorem dX0_record_42 : decode cX0_record 42 = .ok (.putfield 30, 3) := by decide +kernel
theorem dX0_record_45 : decode cX0_record 45 = .ok (.return_, 1) := by decide +kernel
set_option maxRecDepth 20000 in
theorem ggX0_restoreTo_X0_stateAt : GoodIn wsX0_restoreTo wsX0_stateAt := goodIn_r _ [7, 8, 34, 35, 36] (by decide +kernel) (by decide +kernel)
set_option maxRecDepth 20000 in
theorem gX0_restoreTo_X0_stateAt : GoodIn wsX0_restoreTo (wsV RX0 22 RX0 yX0_stateAt wsX0_stateAt) := goodIn_app (goodIn_of _ (by decide +kernel)) ggX0_restoreTo_X0_stateAt
set_option maxRecDepth 20000 in
theorem ggX0_restoreTo_X3_copyFrom : GoodIn wsX0_restoreTo wsX3_copyFrom := goodIn_r _ [13, 14, 15, 16, 17, 18, 19, 20, 21, 22, 23, 24, 25, 26, 27, 28, 29, 30, 31, 32, 33, 37, 38, 39, 40, 41, 42, 43, 44, 45, 46, 47] (by decide +kernel) (by decide +kernel)
set_option maxRecDepth 20000 in
theorem gX0_restoreTo_X3_copyFrom : GoodIn wsX0_restoreTo (wsV RX0 26 RX3 yX3_copyFrom wsX3_copyFrom) := goodIn_app (goodIn_of _ (by decide +kernel)) ggX0_restoreTo_X3_copyFrom
theorem dX0_restoreTo_0 : decode cX0_restoreTo 0 = .ok (.aload_n 0, 1) := by decide +kernel
theorem dX0_restoreTo_1 : decode cX0_restoreTo 1 = .ok (.getfield 30, 3) := by decide +kernel
theorem dX0_restoreTo_4 : decode cX0_restoreTo 4 = .ok (.ifCond .eq 7, 3) := by decide +kernel
theorem dX0_restoreTo_7 : decode cX0_restoreTo 7 = .ok (.aload_n 1, 1) := by decide +kernel
theorem dX0_restoreTo_8 : decode cX0_restoreTo 8 = .ok (.ifnonnull 4, 3) := by decide +kernel
theorem dX0_restoreTo_11 : decode cX0_restoreTo 11 = .ok (.return_, 1) := by decide +kernel
theorem dX0_restoreTo_12 : decode cX0_restoreTo 12 = .ok (.aload_n 0, 1) := by decide +kernel
theorem dX0_restoreTo_13 : decode cX0_restoreTo 13 = .ok (.aload_n 0, 1) := by decide +kernel
theorem dX0_restoreTo_14 : decode cX0_restoreTo 14 = .ok (.getfield 18, 3) := by decide +kernel
theorem dX0_restoreTo_17 : decode cX0_restoreTo 17 = .ok (.iconst 5, 1) := by decide +kernel
theorem dX0_restoreTo_18 : decode cX0_restoreTo 18 = .ok (.iadd, 1) := by decide +kernel
theorem dX0_restoreTo_19 : decode cX0_restoreTo 19 = .ok (.iconst 1, 1) := by decide +kernel
theorem dX0_restoreTo_20 : decode cX0_restoreTo 20 = .ok (.isub, 1) := by decide +kernel
theorem dX0_restoreTo_21 : decode cX0_restoreTo 21 = .ok (.iconst 5, 1) := by decide +kernel
theorem dX0_restoreTo_22 : decode cX0_restoreTo 22 = .ok (.irem, 1) := by decide +kernel
theorem dX0_restoreTo_23 : decode cX0_restoreTo 23 = .ok (.putfield 18, 3) := by decide +kernel
theorem dX0_restoreTo_26 : decode cX0_restoreTo 26 = .ok (.aload_n 0, 1) := by decide +kernel
theorem dX0_restoreTo_27 : decode cX0_restoreTo 27 = .ok (.dup, 1) := by decide +kernel
theorem dX0_restoreTo_28 : decode cX0_restoreTo 28 = .ok (.getfield 30, 3) := by decide +kernel
theorem dX0_restoreTo_31 : decode cX0_restoreTo 31 = .ok (.iconst 1, 1) := by decide +kernel
theorem dX0_restoreTo_32 : decode cX0_restoreTo 32 = .ok (.isub, 1) := by decide +kernel
theorem dX0_restoreTo_33 : decode cX0_restoreTo 33 = .ok (.putfield 30, 3) := by decide +kernel
theorem dX0_restoreTo_36 : decode cX0_restoreTo 36 = .ok (.aload_n 1, 1) := by decide +kernel
theorem dX0_restoreTo_37 : decode cX0_restoreTo 37 = .ok (.aload_n 0, 1) := by decide +kernel
theorem dX0_restoreTo_38 : decode cX0_restoreTo 38 = .ok (.aload_n 0, 1) := by decide +kernel
theorem dX0_restoreTo_39 : decode cX0_restoreTo 39 = .ok (.getfield 18, 3) := by decide +kernel
theorem dX0_restoreTo_42 : decode cX0_restoreTo 42 = .ok (.invokevirtual 22, 3) := by decide +kernel
theorem dX0_restoreTo_45 : decode cX0_restoreTo 45 = .ok (.invokevirtual 26, 3) := by decide +kernel
theorem dX0_restoreTo_48 : decode cX0_restoreTo 48 = .ok (.return_, 1) := by decide +kernel
theorem dX0_stateAt_0 : decode cX0_stateAt 0 = .ok (.iload_n 1, 1) := by decide +kernel
theorem dX0_stateAt_1 : decode cX0_stateAt 1 = .ok (.ifCond .lt 17, 3) := by decide +kernel
theorem dX0_stateAt_4 : decode cX0_stateAt 4 = .ok (.iload_n 1, 1) := by decide +kernel
theorem dX0_stateAt_5 : decode cX0_stateAt 5 = .ok (.iconst 5, 1) := by decide +kernel
theorem dX0_stateAt_6 : decode cX0_stateAt 6 = .ok (.if_icmp .ge 12, 3) := by decide +kernel
theorem dX0_stateAt_9 : decode cX0_stateAt 9 = .ok (.aload_n 0, 1) := by decide +kernel
theorem dX0_stateAt_10 : decode cX0_stateAt 10 = .ok (.getfield 11, 3) := by decide +kernel
theorem dX0_stateAt_13 : decode cX0_stateAt 13 = .ok (.iload_n 1, 1) := by decide +kernel
theorem dX0_stateAt_14 : decode cX0_stateAt 14 = .ok (.aaload, 1) := by decide +kernel
theorem dX0_stateAt_15 : decode cX0_stateAt 15 = .ok (.goto 4, 3) := by decide +kernel
theorem dX0_stateAt_18 : decode cX0_stateAt 18 = .ok (.aconst_null, 1) := by decide +kernel
theorem dX0_stateAt_19 : decode cX0_stateAt 19 = .ok (.areturn, 1) := by decide +kernel
theorem dX1_init_0 : decode cX1_init 0 = .ok (.aload_n 0, 1) := by decide +kernel
theorem dX1_init_1 : decode cX1_init 1 = .ok (.invokespecial 3, 3) := by decide +kernel
theorem dX1_init_4 : decode cX1_init 4 = .ok (.aload_n 0, 1) := by decide +kernel
theorem dX1_init_5 : decode cX1_init 5 = .ok (.bipush 100, 2) := by decide +kernel
theorem dX1_init_7 : decode cX1_init 7 = .ok (.newarray .int, 2) := by decide +kernel
theorem dX1_init_9 : decode cX1_init 9 = .ok (.putfield 9, 3) := by decide +kernel
theorem dX1_init_12 : decode cX1_init 12 = .ok (.aload_n 0, 1) := by decide +kernel
theorem dX1_init_13 : decode cX1_init 13 = .ok (.bipush 100, 2) := by decide +kernel
theorem dX1_init_15 : decode cX1_init 15 = .ok (.newarray .int, 2) := by decide +kernel
theorem dX1_init_17 : decode cX1_init 17 = .ok (.putfield 15, 3) := by decide +kernel
theorem dX1_init_20 : decode cX1_init 20 = .ok (.aload_n 0, 1) := by decide +kernel
theorem dX1_init_21 : decode cX1_init 21 = .ok (.bipush 100, 2) := by decide +kernel
theorem dX1_init_23 : decode cX1_init 23 = .ok (.newarray .boolean, 2) := by decide +kernel
theorem dX1_init_25 : decode cX1_init 25 = .ok (.putfield 18, 3) := by decide +kernel
theorem dX1_init_28 : decode cX1_init 28 = .ok (.aload_n 0, 1) := by decide +kernel
theorem dX1_init_29 : decode cX1_init 29 = .ok (.iconst 3, 1) := by decide +kernel
theorem dX1_init_30 : decode cX1_init 30 = .ok (.newarray .int, 2) := by decide +kernel
theorem dX1_init_32 : decode cX1_init 32 = .ok (.putfield 22, 3) := by decide +kernel
theorem dX1_init_35 : decode cX1_init 35 = .ok (.aload_n 0, 1) := by decide +kernel
theorem dX1_init_36 : decode cX1_init 36 = .ok (.iconst 3, 1) := by decide +kernel
theorem dX1_init_37 : decode cX1_init 37 = .ok (.newarray .int, 2) := by decide +kernel
theorem dX1_init_39 : decode cX1_init 39 = .ok (.putfield 25, 3) := by decide +kernel
theorem dX1_init_42 : decode cX1_init 42 = .ok (.aload_n 0, 1) := by decide +kernel
theorem dX1_init_43 : decode cX1_init 43 = .ok (.bipush 40, 2) := by decide +kernel
theorem dX1_init_45 : decode cX1_init 45 = .ok (.putfield 28, 3) := by decide +kernel
theorem dX1_init_48 : decode cX1_init 48 = .ok (.return_, 1) := by decide +kernel
theorem dX1_copyFrom_0 : decode cX1_copyFrom 0 = .ok (.aload_n 1, 1) := by decide +kernel
theorem dX1_copyFrom_1 : decode cX1_copyFrom 1 = .ok (.ifnonnull 4, 3) := by decide +kernel
theorem dX1_copyFrom_4 : decode cX1_copyFrom 4 = .ok (.return_, 1) := by decide +kernel
theorem dX1_copyFrom_5 : decode cX1_copyFrom 5 = .ok (.aload_n 1, 1) := by decide +kernel
theorem dX1_copyFrom_6 : decode cX1_copyFrom 6 = .ok (.getfield 9, 3) := by decide +kernel
theorem dX1_copyFrom_9 : decode cX1_copyFrom 9 = .ok (.iconst 0, 1) := by decide +kernel
theorem dX1_copyFrom_10 : decode cX1_copyFrom 10 = .ok (.aload_n 0, 1) := by decide +kernel
theorem dX1_copyFrom_11 : decode cX1_copyFrom 11 = .ok (.getfield 9, 3) := by decide +kernel
theorem dX1_copyFrom_14 : decode cX1_copyFrom 14 = .ok (.iconst 0, 1) := by decide +kernel
theorem dX1_copyFrom_15 : decode cX1_copyFrom 15 = .ok (.bipush 100, 2) := by decide +kernel
theorem dX1_copyFrom_17 : decode cX1_copyFrom 17 = .ok (.invokestatic 32, 3) := by decide +kernel
theorem dX1_copyFrom_20 : decode cX1_copyFrom 20 = .ok (.aload_n 1, 1) := by decide +kernel
theorem dX1_copyFrom_21 : decode cX1_copyFrom 21 = .ok (.getfield 15, 3) := by decide +kernel
theorem dX1_copyFrom_24 : decode cX1_copyFrom 24 = .ok (.iconst 0, 1) := by decide +kernel
theorem dX1_copyFrom_25 : decode cX1_copyFrom 25 = .ok (.aload_n 0, 1) := by decide +kernel
theorem dX1_copyFrom_26 : decode cX1_copyFrom 26 = .ok (.getfield 15, 3) := by decide +kernel
theorem dX1_copyFrom_29 : decode cX1_copyFrom 29 = .ok (.iconst 0, 1) := by decide +kernel
theorem dX1_copyFrom_30 : decode cX1_copyFrom 30 = .ok (.bipush 100, 2) := by decide +kernel
theorem dX1_copyFrom_32 : decode cX1_copyFrom 32 = .ok (.invokestatic 32, 3) := by decide +kernel
theorem dX1_copyFrom_35 : decode cX1_copyFrom 35 = .ok (.aload_n 1, 1) := by decide +kernel
theorem dX1_copyFrom_36 : decode cX1_copyFrom 36 = .ok (.getfield 18, 3) := by decide +kernel
theorem dX1_copyFrom_39 : decode cX1_copyFrom 39 = .ok (.iconst 0, 1) := by decide +kernel
theorem dX1_copyFrom_40 : decode cX1_copyFrom 40 = .ok (.aload_n 0, 1) := by decide +kernel
theorem dX1_copyFrom_41 : decode cX1_copyFrom 41 = .ok (.getfield 18, 3) := by decide +kernel
theorem dX1_copyFrom_44 : decode cX1_copyFrom 44 = .ok (.iconst 0, 1) := by decide +kernel
theorem dX1_copyFrom_45 : decode cX1_copyFrom 45 = .ok (.bipush 100, 2) := by decide +kernel
theorem dX1_copyFrom_47 : decode cX1_copyFrom 47 = .ok (.invokestatic 32, 3) := by decide +kernel
theorem dX1_copyFrom_50 : decode cX1_copyFrom 50 = .ok (.aload_n 1, 1) := by decide +kernel
theorem dX1_copyFrom_51 : decode cX1_copyFrom 51 = .ok (.getfield 22, 3) := by decide +kernel
theorem dX1_copyFrom_54 : decode cX1_copyFrom 54 = .ok (.iconst 0, 1) := by decide +kernel
theorem dX1_copyFrom_55 : decode cX1_copyFrom 55 = .ok (.aload_n 0, 1) := by decide +kernel
theorem dX1_copyFrom_56 : decode cX1_copyFrom 56 = .ok (.getfield 22, 3) := by decide +kernel
theorem dX1_copyFrom_59 : decode cX1_copyFrom 59 = .ok (.iconst 0, 1) := by decide +kernel
theorem dX1_copyFrom_60 : decode cX1_copyFrom 60 = .ok (.iconst 3, 1) := by decide +kernel
theorem dX1_copyFrom_61 : decode cX1_copyFrom 61 = .ok (.invokestatic 32, 3) := by decide +kernel
theorem dX1_copyFrom_64 : decode cX1_copyFrom 64 = .ok (.aload_n 1, 1) := by decide +kernel
theorem dX1_copyFrom_65 : decode cX1_copyFrom 65 = .ok (.getfield 25, 3) := by decide +kernel
theorem dX1_copyFrom_68 : decode cX1_copyFrom 68 = .ok (.iconst 0, 1) := by decide +kernel
theorem dX1_copyFrom_69 : decode cX1_copyFrom 69 = .ok (.aload_n 0, 1) := by decide +kernel
theorem dX1_copyFrom_70 : decode cX1_copyFrom 70 = .ok (.getfield 25, 3) := by decide +kernel
theorem dX1_copyFrom_73 : decode cX1_copyFrom 73 = .ok (.iconst 0, 1) := by decide +kernel
theorem dX1_copyFrom_74 : decode cX1_copyFrom 74 = .ok (.iconst 3, 1) := by decide +kernel
theorem dX1_copyFrom_75 : decode cX1_copyFrom 75 = .ok (.invokestatic 32, 3) := by decide +kernel
theorem dX1_copyFrom_78 : decode cX1_copyFrom 78 = .ok (.aload_n 0, 1) := by decide +kernel
theorem dX1_copyFrom_79 : decode cX1_copyFrom 79 = .ok (.aload_n 1, 1) := by decide +kernel
theorem dX1_copyFrom_80 : decode cX1_copyFrom 80 = .ok (.getfield 38, 3) := by decide +kernel
theorem dX1_copyFrom_83 : decode cX1_copyFrom 83 = .ok (.putfield 38, 3) := by decide +kernel
theorem dX1_copyFrom_86 : decode cX1_copyFrom 86 = .ok (.aload_n 0, 1) := by decide +kernel
theorem dX1_copyFrom_87 : decode cX1_copyFrom 87 = .ok (.aload_n 1, 1) := by decide +kernel
theorem dX1_copyFrom_88 : decode cX1_copyFrom 88 = .ok (.getfield 28, 3) := by decide +kernel
theorem dX1_copyFrom_91 : decode cX1_copyFrom 91 = .ok (.putfield 28, 3) := by decide +kernel
theorem dX1_copyFrom_94 : decode cX1_copyFrom 94 = .ok (.return_, 1) := by decide +kernel
theorem dX1_isLine_0 : decode cX1_isLine 0 = .ok (.iload_n 1, 1) := by decide +kernel
theorem dX1_isLine_1 : decode cX1_isLine 1 = .ok (.ifCond .lt 21, 3) := by decide +kernel
theorem dX1_isLine_4 : decode cX1_isLine 4 = .ok (.iload_n 1, 1) := by decide +kernel
theorem dX1_isLine_5 : decode cX1_isLine 5 = .ok (.aload_n 0, 1) := by decide +kernel
theorem dX1_isLine_6 : decode cX1_isLine 6 = .ok (.getfield 38, 3) := by decide +kernel
theorem dX1_isLine_9 : decode cX1_isLine 9 = .ok (.if_icmp .ge 13, 3) := by decide +kernel
theorem dX1_isLine_12 : decode cX1_isLine 12 = .ok (.iload_n 1, 1) := by decide +kernel
theorem dX1_isLine_13 : decode cX1_isLine 13 = .ok (.bipush 100, 2) := by decide +kernel
theorem dX1_isLine_15 : decode cX1_isLine 15 = .ok (.if_icmp .ge 7, 3) := by decide +kernel
theorem dX1_isLine_18 : decode cX1_isLine 18 = .ok (.iconst 1, 1) := by decide +kernel
theorem dX1_isLine_19 : decode cX1_isLine 19 = .ok (.goto 4, 3) := by decide +kernel
theorem dX1_isLine_22 : decode cX1_isLine 22 = .ok (.iconst 0, 1) := by decide +kernel
theorem dX1_isLine_23 : decode cX1_isLine 23 = .ok (.ireturn, 1) := by decide +kernel
theorem dX1_isKind_0 : decode cX1_isKind 0 = .ok (.iload_n 1, 1) := by decide +kernel
theorem dX1_isKind_1 : decode cX1_isKind 1 = .ok (.ifCond .lt 12, 3) := by decide +kernel
theorem dX1_isKind_4 : decode cX1_isKind 4 = .ok (.iload_n 1, 1) := by decide +kernel
theorem dX1_isKind_5 : decode cX1_isKind 5 = .ok (.iconst 3, 1) := by decide +kernel
theorem dX1_isKind_6 : decode cX1_isKind 6 = .ok (.if_icmp .ge 7, 3) := by decide +kernel
theorem dX1_isKind_9 : decode cX1_isKind 9 = .ok (.iconst 1, 1) := by decide +kernel
theorem dX1_isKind_10 : decode cX1_isKind 10 = .ok (.goto 4, 3) := by decide +kernel
theorem dX1_isKind_13 : decode cX1_isKind 13 = .ok (.iconst 0, 1) := by decide +kernel
theorem dX1_isKind_14 : decode cX1_isKind 14 = .ok (.ireturn, 1) := by decide +kernel
theorem dX1_insert_0 : decode cX1_insert 0 = .ok (.iload_n 1, 1) := by decide +kernel
theorem dX1_insert_1 : decode cX1_insert 1 = .ok (.ifCond .lt 20, 3) := by decide +kernel
theorem dX1_insert_4 : decode cX1_insert 4 = .ok (.iload_n 1, 1) := by decide +kernel
theorem dX1_insert_5 : decode cX1_insert 5 = .ok (.aload_n 0, 1) := by decide +kernel
theorem dX1_insert_6 : decode cX1_insert 6 = .ok (.getfield 38, 3) := by decide +kernel
theorem dX1_insert_9 : decode cX1_insert 9 = .ok (.if_icmp .gt 12, 3) := by decide +kernel
theorem dX1_insert_12 : decode cX1_insert 12 = .ok (.aload_n 0, 1) := by decide +kernel
theorem dX1_insert_13 : decode cX1_insert 13 = .ok (.getfield 38, 3) := by decide +kernel
theorem dX1_insert_16 : decode cX1_insert 16 = .ok (.bipush 100, 2) := by decide +kernel
theorem dX1_insert_18 : decode cX1_insert 18 = .ok (.if_icmp .lt 4, 3) := by decide +kernel
theorem dX1_insert_21 : decode cX1_insert 21 = .ok (.return_, 1) := by decide +kernel
theorem dX1_insert_22 : decode cX1_insert 22 = .ok (.aload_n 0, 1) := by decide +kernel
theorem dX1_insert_23 : decode cX1_insert 23 = .ok (.getfield 9, 3) := by decide +kernel
theorem dX1_insert_26 : decode cX1_insert 26 = .ok (.iload_n 1, 1) := by decide +kernel
theorem dX1_insert_27 : decode cX1_insert 27 = .ok (.aload_n 0, 1) := by decide +kernel
theorem dX1_insert_28 : decode cX1_insert 28 = .ok (.getfield 9, 3) := by decide +kernel
theorem dX1_insert_31 : decode cX1_insert 31 = .ok (.iload_n 1, 1) := by decide +kernel
theorem dX1_insert_32 : decode cX1_insert 32 = .ok (.iconst 1, 1) := by decide +kernel
theorem dX1_insert_33 : decode cX1_insert 33 = .ok (.iadd, 1) := by decide +kernel
theorem dX1_insert_34 : decode cX1_insert 34 = .ok (.aload_n 0, 1) := by decide +kernel
theorem dX1_insert_35 : decode cX1_insert 35 = .ok (.getfield 38, 3) := by decide +kernel
theorem dX1_insert_38 : decode cX1_insert 38 = .ok (.iload_n 1, 1) := by decide +kernel
theorem dX1_insert_39 : decode cX1_insert 39 = .ok (.isub, 1) := by decide +kernel
theorem dX1_insert_40 : decode cX1_insert 40 = .ok (.invokestatic 32, 3) := by decide +kernel
theorem dX1_insert_43 : decode cX1_insert 43 = .ok (.aload_n 0, 1) := by decide +kernel
theorem dX1_insert_44 : decode cX1_insert 44 = .ok (.getfield 15, 3) := by decide +kernel
theorem dX1_insert_47 : decode cX1_insert 47 = .ok (.iload_n 1, 1) := by decide +kernel
theorem dX1_insert_48 : decode cX1_insert 48 = .ok (.aload_n 0, 1) := by decide +kernel
theorem dX1_insert_49 : decode cX1_insert 49 = .ok (.getfield 15, 3) := by decide +kernel
theorem dX1_insert_52 : decode cX1_insert 52 = .ok (.iload_n 1, 1) := by decide +kernel
theorem dX1_insert_53 : decode cX1_insert 53 = .ok (.iconst 1, 1) := by decide +kernel
theorem dX1_insert_54 : decode cX1_insert 54 = .ok (.iadd, 1) := by decide +kernel
theorem dX1_insert_55 : decode cX1_insert 55 = .ok (.aload_n 0, 1) := by decide +kernel
theorem dX1_insert_56 : decode cX1_insert 56 = .ok (.getfield 38, 3) := by decide +kernel
theorem dX1_insert_59 : decode cX1_insert 59 = .ok (.iload_n 1, 1) := by decide +kernel
theorem dX1_insert_60 : decode cX1_insert 60 = .ok (.isub, 1) := by decide +kernel
theorem dX1_insert_61 : decode cX1_insert 61 = .ok (.invokestatic 32, 3) := by decide +kernel
theorem dX1_insert_64 : decode cX1_insert 64 = .ok (.aload_n 0, 1) := by decide +kernel
theorem dX1_insert_65 : decode cX1_insert 65 = .ok (.getfield 18, 3) := by decide +kernel
theorem dX1_insert_68 : decode cX1_insert 68 = .ok (.iload_n 1, 1) := by decide +kernel
theorem dX1_insert_69 : decode cX1_insert 69 = .ok (.aload_n 0, 1) := by decide +kernel
theorem dX1_insert_70 : decode cX1_insert 70 = .ok (.getfield 18, 3) := by decide +kernel
theorem dX1_insert_73 : decode cX1_insert 73 = .ok (.iload_n 1, 1) := by decide +kernel
theorem dX1_insert_74 : decode cX1_insert 74 = .ok (.iconst 1, 1) := by decide +kernel
theorem dX1_insert_75 : decode cX1_insert 75 = .ok (.iadd, 1) := by decide +kernel
theorem dX1_insert_76 : decode cX1_insert 76 = .ok (.aload_n 0, 1) := by decide +kernel
theorem dX1_insert_77 : decode cX1_insert 77 = .ok (.getfield 38, 3) := by decide +kernel
theorem dX1_insert_80 : decode cX1_insert 80 = .ok (.iload_n 1, 1) := by decide +kernel
theorem dX1_insert_81 : decode cX1_insert 81 = .ok (.isub, 1) := by decide +kernel
theorem dX1_insert_82 : decode cX1_insert 82 = .ok (.invokestatic 32, 3) := by decide +kernel
theorem dX1_insert_85 : decode cX1_insert 85 = .ok (.aload_n 0, 1) := by decide +kernel
theorem dX1_insert_86 : decode cX1_insert 86 = .ok (.dup, 1) := by decide +kernel
theorem dX1_insert_87 : decode cX1_insert 87 = .ok (.getfield 38, 3) := by decide +kernel
theorem dX1_insert_90 : decode cX1_insert 90 = .ok (.iconst 1, 1) := by decide +kernel
theorem dX1_insert_91 : decode cX1_insert 91 = .ok (.iadd, 1) := by decide +kernel
theorem dX1_insert_92 : decode cX1_insert 92 = .ok (.putfield 38, 3) := by decide +kernel
theorem dX1_insert_95 : decode cX1_insert 95 = .ok (.aload_n 0, 1) := by decide +kernel
theorem dX1_insert_96 : decode cX1_insert 96 = .ok (.getfield 9, 3) := by decide +kernel
theorem dX1_insert_99 : decode cX1_insert 99 = .ok (.iload_n 1, 1) := by decide +kernel
theorem dX1_insert_100 : decode cX1_insert 100 = .ok (.iload_n 2, 1) := by decide +kernel
theorem dX1_insert_101 : decode cX1_insert 101 = .ok (.iastore, 1) := by decide +kernel
theorem dX1_insert_102 : decode cX1_insert 102 = .ok (.aload_n 0, 1) := by decide +kernel
theorem dX1_insert_103 : decode cX1_insert 103 = .ok (.getfield 15, 3) := by decide +kernel
theorem dX1_insert_106 : decode cX1_insert 106 = .ok (.iload_n 1, 1) := by decide +kernel
theorem dX1_insert_107 : decode cX1_insert 107 = .ok (.iload_n 3, 1) := by decide +kernel
theorem dX1_insert_108 : decode cX1_insert 108 = .ok (.iastore, 1) := by decide +kernel
theorem dX1_insert_109 : decode cX1_insert 109 = .ok (.aload_n 0, 1) := by decide +kernel
theorem dX1_insert_110 : decode cX1_insert 110 = .ok (.getfield 18, 3) := by decide +kernel
theorem dX1_insert_113 : decode cX1_insert 113 = .ok (.iload_n 1, 1) := by decide +kernel
theorem dX1_insert_114 : decode cX1_insert 114 = .ok (.iconst 0, 1) := by decide +kernel
theorem dX1_insert_115 : decode cX1_insert 115 = .ok (.bastore, 1) := by decide +kernel
theorem dX1_insert_116 : decode cX1_insert 116 = .ok (.return_, 1) := by decide +kernel
set_option maxRecDepth 20000 in
theorem ggX1_remove_X1_isLine : GoodIn wsX1_remove wsX1_isLine := goodIn_r _ [13, 1, 29, 30, 31, 32, 33, 34, 35] (by decide +kernel) (by decide +kernel)
set_option maxRecDepth 20000 in
theorem gX1_remove_X1_isLine : GoodIn wsX1_remove (wsV RX1 41 RX1 yX1_isLine wsX1_isLine) := goodIn_app (goodIn_of _ (by decide +kernel)) ggX1_remove_X1_isLine
set_option maxRecDepth 20000 in
theorem ggX1_remove_X1_forget : GoodIn wsX1_remove wsX1_forget := goodIn_r _ [17, 8, 2, 18, 7, 19, 9, 10, 11, 12, 13, 1, 20, 21, 22, 23, 24, 25, 26, 27, 28, 29, 30, 31, 32, 33, 34, 35] (by decide +kernel) (by decide +kernel)
set_option maxRecDepth 20000 in
theorem gX1_remove_X1_forget : GoodIn wsX1_remove (wsV RX1 45 RX1 yX1_forget wsX1_forget) := goodIn_app (goodIn_of _ (by decide +kernel)) ggX1_remove_X1_forget
theorem dX1_remove_0 : decode cX1_remove 0 = .ok (.aload_n 0, 1) := by decide +kernel
theorem dX1_remove_1 : decode cX1_remove 1 = .ok (.iload_n 1, 1) := by decide +kernel
theorem dX1_remove_2 : decode cX1_remove 2 = .ok (.invokevirtual 41, 3) := by decide +kernel
theorem dX1_remove_5 : decode cX1_remove 5 = .ok (.ifCond .ne 4, 3) := by decide +kernel
theorem dX1_remove_8 : decode cX1_remove 8 = .ok (.return_, 1) := by decide +kernel
theorem dX1_remove_9 : decode cX1_remove 9 = .ok (.aload_n 0, 1) := by decide +kernel
theorem dX1_remove_10 : decode cX1_remove 10 = .ok (.iload_n 1, 1) := by decide +kernel
theorem dX1_remove_11 : decode cX1_remove 11 = .ok (.invokevirtual 45, 3) := by decide +kernel
theorem dX1_remove_14 : decode cX1_remove 14 = .ok (.aload_n 0, 1) := by decide +kernel
theorem dX1_remove_15 : decode cX1_remove 15 = .ok (.dup, 1) := by decide +kernel
theorem dX1_remove_16 : decode cX1_remove 16 = .ok (.getfield 38, 3) := by decide +kernel
theorem dX1_remove_19 : decode cX1_remove 19 = .ok (.iconst 1, 1) := by decide +kernel
theorem dX1_remove_20 : decode cX1_remove 20 = .ok (.isub, 1) := by decide +kernel
theorem dX1_remove_21 : decode cX1_remove 21 = .ok (.putfield 38, 3) := by decide +kernel
theorem dX1_remove_24 : decode cX1_remove 24 = .ok (.aload_n 0, 1) := by decide +kernel
theorem dX1_remove_25 : decode cX1_remove 25 = .ok (.getfield 9, 3) := by decide +kernel
theorem dX1_remove_28 : decode cX1_remove 28 = .ok (.iload_n 1, 1) := by decide +kernel
theorem dX1_remove_29 : decode cX1_remove 29 = .ok (.iconst 1, 1) := by decide +kernel
theorem dX1_remove_30 : decode cX1_remove 30 = .ok (.iadd, 1) := by decide +kernel
theorem dX1_remove_31 : decode cX1_remove 31 = .ok (.aload_n 0, 1) := by decide +kernel
theorem dX1_remove_32 : decode cX1_remove 32 = .ok (.getfield 9, 3) := by decide +kernel
theorem dX1_remove_35 : decode cX1_remove 35 = .ok (.iload_n 1, 1) := by decide +kernel
theorem dX1_remove_36 : decode cX1_remove 36 = .ok (.aload_n 0, 1) := by decide +kernel
theorem dX1_remove_37 : decode cX1_remove 37 = .ok (.getfield 38, 3) := by decide +kernel
theorem dX1_remove_40 : decode cX1_remove 40 = .ok (.iload_n 1, 1) := by decide +kernel
theorem dX1_remove_41 : decode cX1_remove 41 = .ok (.isub, 1) := by decide +kernel
theorem dX1_remove_42 : decode cX1_remove 42 = .ok (.invokestatic 32, 3) := by decide +kernel
theorem dX1_remove_45 : decode cX1_remove 45 = .ok (.aload_n 0, 1) := by decide +kernel
theorem dX1_remove_46 : decode cX1_remove 46 = .ok (.getfield 15, 3) := by decide +kernel
theorem dX1_remove_49 : decode cX1_remove 49 = .ok (.iload_n 1, 1) := by decide +kernel
theorem dX1_remove_50 : decode cX1_remove 50 = .ok (.iconst 1, 1) := by decide +kernel
theorem dX1_remove_51 : decode cX1_remove 51 = .ok (.iadd, 1) := by decide +kernel
theorem dX1_remove_52 : decode cX1_remove 52 = .ok (.aload_n 0, 1) := by decide +kernel
theorem dX1_remove_53 : decode cX1_remove 53 = .ok (.getfield 15, 3) := by decide +kernel
theorem dX1_remove_56 : decode cX1_remove 56 = .ok (.iload_n 1, 1) := by decide +kernel
theorem dX1_remove_57 : decode cX1_remove 57 = .ok (.aload_n 0, 1) := by decide +kernel
theorem dX1_remove_58 : decode cX1_remove 58 = .ok (.getfield 38, 3) := by decide +kernel
theorem dX1_remove_61 : decode cX1_remove 61 = .ok (.iload_n 1, 1) := by decide +kernel
theorem dX1_remove_62 : decode cX1_remove 62 = .ok (.isub, 1) := by decide +kernel
theorem dX1_remove_63 : decode cX1_remove 63 = .ok (.invokestatic 32, 3) := by decide +kernel
theorem dX1_remove_66 : decode cX1_remove 66 = .ok (.aload_n 0, 1) := by decide +kernel
theorem dX1_remove_67 : decode cX1_remove 67 = .ok (.getfield 18, 3) := by decide +kernel
theorem dX1_remove_70 : decode cX1_remove 70 = .ok (.iload_n 1, 1) := by decide +kernel
theorem dX1_remove_71 : decode cX1_remove 71 = .ok (.iconst 1, 1) := by decide +kernel
theorem dX1_remove_72 : decode cX1_remove 72 = .ok (.iadd, 1) := by decide +kernel
theorem dX1_remove_73 : decode cX1_remove 73 = .ok (.aload_n 0, 1) := by decide +kernel
theorem dX1_remove_74 : decode cX1_remove 74 = .ok (.getfield 18, 3) := by decide +kernel
theorem dX1_remove_77 : decode cX1_remove 77 = .ok (.iload_n 1, 1) := by decide +kernel
theorem dX1_remove_78 : decode cX1_remove 78 = .ok (.aload_n 0, 1) := by decide +kernel
theorem dX1_remove_79 : decode cX1_remove 79 = .ok (.getfield 38, 3) := by decide +kernel
theorem dX1_remove_82 : decode cX1_remove 82 = .ok (.iload_n 1, 1) := by decide +kernel
theorem dX1_remove_83 : decode cX1_remove 83 = .ok (.isub, 1) := by decide +kernel
theorem dX1_remove_84 : decode cX1_remove 84 = .ok (.invokestatic 32, 3) := by decide +kernel
theorem dX1_remove_87 : decode cX1_remove 87 = .ok (.return_, 1) := by decide +kernel
set_option maxRecDepth 20000 in
theorem ggX1_setLength_X1_isLine : GoodIn wsX1_setLength wsX1_isLine := goodIn_r _ [6, 7, 25, 26, 27, 28, 29, 30, 31] (by decide +kernel) (by decide +kernel)
set_option maxRecDepth 20000 in
theorem gX1_setLength_X1_isLine : GoodIn wsX1_setLength (wsV RX1 41 RX1 yX1_isLine wsX1_isLine) := goodIn_app (goodIn_of _ (by decide +kernel)) ggX1_setLength_X1_isLine
set_option maxRecDepth 20000 in
theorem ggX1_setLength_X1_forget : GoodIn wsX1_setLength wsX1_forget := goodIn_r _ [11, 12, 13, 14, 1, 15, 2, 3, 4, 5, 6, 7, 16, 17, 18, 19, 20, 21, 22, 23, 24, 25, 26, 27, 28, 29, 30, 31] (by decide +kernel) (by decide +kernel)
set_option maxRecDepth 20000 in
theorem gX1_setLength_X1_forget : GoodIn wsX1_setLength (wsV RX1 45 RX1 yX1_forget wsX1_forget) := goodIn_app (goodIn_of _ (by decide +kernel)) ggX1_setLength_X1_forget
theorem dX1_setLength_0 : decode cX1_setLength 0 = .ok (.aload_n 0, 1) := by decide +kernel
theorem dX1_setLength_1 : decode cX1_setLength 1 = .ok (.iload_n 1, 1) := by decide +kernel
theorem dX1_setLength_2 : decode cX1_setLength 2 = .ok (.invokevirtual 41, 3) := by decide +kernel
theorem dX1_setLength_5 : decode cX1_setLength 5 = .ok (.ifCond .ne 4, 3) := by decide +kernel
theorem dX1_setLength_8 : decode cX1_setLength 8 = .ok (.return_, 1) := by decide +kernel
theorem dX1_setLength_9 : decode cX1_setLength 9 = .ok (.aload_n 0, 1) := by decide +kernel
theorem dX1_setLength_10 : decode cX1_setLength 10 = .ok (.iload_n 1, 1) := by decide +kernel
theorem dX1_setLength_11 : decode cX1_setLength 11 = .ok (.invokevirtual 45, 3) := by decide +kernel
theorem dX1_setLength_14 : decode cX1_setLength 14 = .ok (.aload_n 0, 1) := by decide +kernel
theorem dX1_setLength_15 : decode cX1_setLength 15 = .ok (.getfield 15, 3) := by decide +kernel
theorem dX1_setLength_18 : decode cX1_setLength 18 = .ok (.iload_n 1, 1) := by decide +kernel
theorem dX1_setLength_19 : decode cX1_setLength 19 = .ok (.iload_n 2, 1) := by decide +kernel
theorem dX1_setLength_20 : decode cX1_setLength 20 = .ok (.iastore, 1) := by decide +kernel
theorem dX1_setLength_21 : decode cX1_setLength 21 = .ok (.return_, 1) := by decide +kernel
set_option maxRecDepth 20000 in
theorem ggX1_forgetAllFor_X1_forget : GoodIn wsX1_forgetAllFor wsX1_forget := goodIn_r _ [7, 8, 9, 10, 11, 12, 13, 14, 15, 6, 16, 1, 17, 18, 19, 20, 21, 22, 23, 24, 2, 25, 26, 27, 28, 29, 30, 31] (by decide +kernel) (by decide +kernel)
set_option maxRecDepth 20000 in
theorem gX1_forgetAllFor_X1_forget : GoodIn wsX1_forgetAllFor (wsV RX1 45 RX1 yX1_forget wsX1_forget) := goodIn_app (goodIn_of _ (by decide +kernel)) ggX1_forgetAllFor_X1_forget
theorem dX1_forgetAllFor_0 : decode cX1_forgetAllFor 0 = .ok (.iconst 0, 1) := by decide +kernel
theorem dX1_forgetAllFor_1 : decode cX1_forgetAllFor 1 = .ok (.istore_n 2, 1) := by decide +kernel
theorem dX1_forgetAllFor_2 : decode cX1_forgetAllFor 2 = .ok (.iload_n 2, 1) := by decide +kernel
theorem dX1_forgetAllFor_3 : decode cX1_forgetAllFor 3 = .ok (.aload_n 0, 1) := by decide +kernel
theorem dX1_forgetAllFor_4 : decode cX1_forgetAllFor 4 = .ok (.getfield 38, 3) := by decide +kernel
theorem dX1_forgetAllFor_7 : decode cX1_forgetAllFor 7 = .ok (.if_icmp .ge 14, 3) := by decide +kernel
theorem dX1_forgetAllFor_10 : decode cX1_forgetAllFor 10 = .ok (.aload_n 0, 1) := by decide +kernel
theorem dX1_forgetAllFor_11 : decode cX1_forgetAllFor 11 = .ok (.iload_n 2, 1) := by decide +kernel
theorem dX1_forgetAllFor_12 : decode cX1_forgetAllFor 12 = .ok (.invokevirtual 45, 3) := by decide +kernel
theorem dX1_forgetAllFor_15 : decode cX1_forgetAllFor 15 = .ok (.iinc 2 1, 3) := by decide +kernel
theorem dX1_forgetAllFor_18 : decode cX1_forgetAllFor 18 = .ok (.goto (-16), 3) := by decide +kernel
theorem dX1_forgetAllFor_21 : decode cX1_forgetAllFor 21 = .ok (.aload_n 0, 1) := by decide +kernel
theorem dX1_forgetAllFor_22 : decode cX1_forgetAllFor 22 = .ok (.iload_n 1, 1) := by decide +kernel
theorem dX1_forgetAllFor_23 : decode cX1_forgetAllFor 23 = .ok (.putfield 28, 3) := by decide +kernel
theorem dX1_forgetAllFor_26 : decode cX1_forgetAllFor 26 = .ok (.return_, 1) := by decide +kernel
set_option maxRecDepth 20000 in
theorem ggX1_measure_X1_isLine : GoodIn wsX1_measure wsX1_isLine := goodIn_r _ [10, 11, 21, 22, 23, 24, 25, 26, 27] (by decide +kernel) (by decide +kernel)
set_option maxRecDepth 20000 in
theorem gX1_measure_X1_isLine : GoodIn wsX1_measure (wsV RX1 41 RX1 yX1_isLine wsX1_isLine) := goodIn_app (goodIn_of _ (by decide +kernel)) ggX1_measure_X1_isLine
set_option maxRecDepth 20000 in
theorem ggX1_measure_X1_isKind : GoodIn wsX1_measure wsX1_isKind := goodIn_r _ [15] (by decide +kernel) (by decide +kernel)
set_option maxRecDepth 20000 in
theorem gX1_measure_X1_isKind : GoodIn wsX1_measure (wsV RX1 49 RX1 yX1_isKind wsX1_isKind) := goodIn_app (goodIn_of _ (by decide +kernel)) ggX1_measure_X1_isKind
set_option maxRecDepth 20000 in
theorem ggX1_measure_X1_trueHeight : GoodIn wsX1_measure wsX1_trueHeight := goodIn_r _ [19, 20, 21, 22, 23, 24, 25, 26, 27] (by decide +kernel) (by decide +kernel)
set_option maxRecDepth 20000 in
theorem gX1_measure_X1_trueHeight : GoodIn wsX1_measure (wsV RX1 52 RX1 yX1_trueHeight wsX1_trueHeight) := goodIn_app (goodIn_of _ (by decide +kernel)) ggX1_measure_X1_trueHeight
theorem dX1_measure_0 : decode cX1_measure 0 = .ok (.aload_n 0, 1) := by decide +kernel
theorem dX1_measure_1 : decode cX1_measure 1 = .ok (.iload_n 1, 1) := by decide +kernel
theorem dX1_measure_2 : decode cX1_measure 2 = .ok (.invokevirtual 41, 3) := by decide +kernel
theorem dX1_measure_5 : decode cX1_measure 5 = .ok (.ifCond .eq 25, 3) := by decide +kernel
theorem dX1_measure_8 : decode cX1_measure 8 = .ok (.aload_n 0, 1) := by decide +kernel
theorem dX1_measure_9 : decode cX1_measure 9 = .ok (.getfield 18, 3) := by decide +kernel
theorem dX1_measure_12 : decode cX1_measure 12 = .ok (.iload_n 1, 1) := by decide +kernel
theorem dX1_measure_13 : decode cX1_measure 13 = .ok (.baload, 1) := by decide +kernel
theorem dX1_measure_14 : decode cX1_measure 14 = .ok (.ifCond .ne 16, 3) := by decide +kernel
theorem dX1_measure_17 : decode cX1_measure 17 = .ok (.aload_n 0, 1) := by decide +kernel
theorem dX1_measure_18 : decode cX1_measure 18 = .ok (.aload_n 0, 1) := by decide +kernel
theorem dX1_measure_19 : decode cX1_measure 19 = .ok (.getfield 9, 3) := by decide +kernel
theorem dX1_measure_22 : decode cX1_measure 22 = .ok (.iload_n 1, 1) := by decide +kernel
theorem dX1_measure_23 : decode cX1_measure 23 = .ok (.iaload, 1) := by decide +kernel
theorem dX1_measure_24 : decode cX1_measure 24 = .ok (.invokevirtual 49, 3) := by decide +kernel
theorem dX1_measure_27 : decode cX1_measure 27 = .ok (.ifCond .ne 4, 3) := by decide +kernel
theorem dX1_measure_30 : decode cX1_measure 30 = .ok (.return_, 1) := by decide +kernel
theorem dX1_measure_31 : decode cX1_measure 31 = .ok (.aload_n 0, 1) := by decide +kernel
theorem dX1_measure_32 : decode cX1_measure 32 = .ok (.getfield 18, 3) := by decide +kernel
theorem dX1_measure_35 : decode cX1_measure 35 = .ok (.iload_n 1, 1) := by decide +kernel
theorem dX1_measure_36 : decode cX1_measure 36 = .ok (.iconst 1, 1) := by decide +kernel
theorem dX1_measure_37 : decode cX1_measure 37 = .ok (.bastore, 1) := by decide +kernel
theorem dX1_measure_38 : decode cX1_measure 38 = .ok (.aload_n 0, 1) := by decide +kernel
theorem dX1_measure_39 : decode cX1_measure 39 = .ok (.getfield 22, 3) := by decide +kernel
theorem dX1_measure_42 : decode cX1_measure 42 = .ok (.aload_n 0, 1) := by decide +kernel
theorem dX1_measure_43 : decode cX1_measure 43 = .ok (.getfield 9, 3) := by decide +kernel
theorem dX1_measure_46 : decode cX1_measure 46 = .ok (.iload_n 1, 1) := by decide +kernel
theorem dX1_measure_47 : decode cX1_measure 47 = .ok (.iaload, 1) := by decide +kernel
theorem dX1_measure_48 : decode cX1_measure 48 = .ok (.dup2, 1) := by decide +kernel
theorem dX1_measure_49 : decode cX1_measure 49 = .ok (.iaload, 1) := by decide +kernel
theorem dX1_measure_50 : decode cX1_measure 50 = .ok (.aload_n 0, 1) := by decide +kernel
theorem dX1_measure_51 : decode cX1_measure 51 = .ok (.aload_n 0, 1) := by decide +kernel
theorem dX1_measure_52 : decode cX1_measure 52 = .ok (.getfield 9, 3) := by decide +kernel
theorem dX1_measure_55 : decode cX1_measure 55 = .ok (.iload_n 1, 1) := by decide +kernel
theorem dX1_measure_56 : decode cX1_measure 56 = .ok (.iaload, 1) := by decide +kernel
theorem dX1_measure_57 : decode cX1_measure 57 = .ok (.aload_n 0, 1) := by decide +kernel
theorem dX1_measure_58 : decode cX1_measure 58 = .ok (.getfield 15, 3) := by decide +kernel
theorem dX1_measure_61 : decode cX1_measure 61 = .ok (.iload_n 1, 1) := by decide +kernel
theorem dX1_measure_62 : decode cX1_measure 62 = .ok (.iaload, 1) := by decide +kernel
theorem dX1_measure_63 : decode cX1_measure 63 = .ok (.invokevirtual 52, 3) := by decide +kernel
theorem dX1_measure_66 : decode cX1_measure 66 = .ok (.iadd, 1) := by decide +kernel
theorem dX1_measure_67 : decode cX1_measure 67 = .ok (.iastore, 1) := by decide +kernel
theorem dX1_measure_68 : decode cX1_measure 68 = .ok (.aload_n 0, 1) := by decide +kernel
theorem dX1_measure_69 : decode cX1_measure 69 = .ok (.getfield 25, 3) := by decide +kernel
theorem dX1_measure_72 : decode cX1_measure 72 = .ok (.aload_n 0, 1) := by decide +kernel
theorem dX1_measure_73 : decode cX1_measure 73 = .ok (.getfield 9, 3) := by decide +kernel
theorem dX1_measure_76 : decode cX1_measure 76 = .ok (.iload_n 1, 1) := by decide +kernel
theorem dX1_measure_77 : decode cX1_measure 77 = .ok (.iaload, 1) := by decide +kernel
theorem dX1_measure_78 : decode cX1_measure 78 = .ok (.dup2, 1) := by decide +kernel
theorem dX1_measure_79 : decode cX1_measure 79 = .ok (.iaload, 1) := by decide +kernel
theorem dX1_measure_80 : decode cX1_measure 80 = .ok (.iconst 1, 1) := by decide +kernel
theorem dX1_measure_81 : decode cX1_measure 81 = .ok (.iadd, 1) := by decide +kernel
theorem dX1_measure_82 : decode cX1_measure 82 = .ok (.iastore, 1) := by decide +kernel
theorem dX1_measure_83 : decode cX1_measure 83 = .ok (.return_, 1) := by decide +kernel
set_option maxRecDepth 20000 in
theorem ggX1_forget_X1_isLine : GoodIn wsX1_forget wsX1_isLine := goodIn_r _ [10, 11, 21, 22, 23, 24, 25, 26, 27] (by decide +kernel) (by decide +kernel)
set_option maxRecDepth 20000 in
theorem gX1_forget_X1_isLine : GoodIn wsX1_forget (wsV RX1 41 RX1 yX1_isLine wsX1_isLine) := goodIn_app (goodIn_of _ (by decide +kernel)) ggX1_forget_X1_isLine
set_option maxRecDepth 20000 in
theorem ggX1_forget_X1_isKind : GoodIn wsX1_forget wsX1_isKind := goodIn_r _ [15] (by decide +kernel) (by decide +kernel)
set_option maxRecDepth 20000 in
theorem gX1_forget_X1_isKind : GoodIn wsX1_forget (wsV RX1 49 RX1 yX1_isKind wsX1_isKind) := goodIn_app (goodIn_of _ (by decide +kernel)) ggX1_forget_X1_isKind
set_option maxRecDepth 20000 in
theorem ggX1_forget_X1_trueHeight : GoodIn wsX1_forget wsX1_trueHeight := goodIn_r _ [19, 20, 21, 22, 23, 24, 25, 26, 27] (by decide +kernel) (by decide +kernel)
set_option maxRecDepth 20000 in
theorem gX1_forget_X1_trueHeight : GoodIn wsX1_forget (wsV RX1 52 RX1 yX1_trueHeight wsX1_trueHeight) := goodIn_app (goodIn_of _ (by decide +kernel)) ggX1_forget_X1_trueHeight
theorem dX1_forget_0 : decode cX1_forget 0 = .ok (.aload_n 0, 1) := by decide +kernel
theorem dX1_forget_1 : decode cX1_forget 1 = .ok (.iload_n 1, 1) := by decide +kernel
theorem dX1_forget_2 : decode cX1_forget 2 = .ok (.invokevirtual 41, 3) := by decide +kernel
theorem dX1_forget_5 : decode cX1_forget 5 = .ok (.ifCond .eq 25, 3) := by decide +kernel
theorem dX1_forget_8 : decode cX1_forget 8 = .ok (.aload_n 0, 1) := by decide +kernel
theorem dX1_forget_9 : decode cX1_forget 9 = .ok (.getfield 18, 3) := by decide +kernel
theorem dX1_forget_12 : decode cX1_forget 12 = .ok (.iload_n 1, 1) := by decide +kernel
theorem dX1_forget_13 : decode cX1_forget 13 = .ok (.baload, 1) := by decide +kernel
theorem dX1_forget_14 : decode cX1_forget 14 = .ok (.ifCond .eq 16, 3) := by decide +kernel
theorem dX1_forget_17 : decode cX1_forget 17 = .ok (.aload_n 0, 1) := by decide +kernel
theorem dX1_forget_18 : decode cX1_forget 18 = .ok (.aload_n 0, 1) := by decide +kernel
theorem dX1_forget_19 : decode cX1_forget 19 = .ok (.getfield 9, 3) := by decide +kernel
theorem dX1_forget_22 : decode cX1_forget 22 = .ok (.iload_n 1, 1) := by decide +kernel
theorem dX1_forget_23 : decode cX1_forget 23 = .ok (.iaload, 1) := by decide +kernel
theorem dX1_forget_24 : decode cX1_forget 24 = .ok (.invokevirtual 49, 3) := by decide +kernel
theorem dX1_forget_27 : decode cX1_forget 27 = .ok (.ifCond .ne 4, 3) := by decide +kernel
theorem dX1_forget_30 : decode cX1_forget 30 = .ok (.return_, 1) := by decide +kernel
theorem dX1_forget_31 : decode cX1_forget 31 = .ok (.aload_n 0, 1) := by decide +kernel
theorem dX1_forget_32 : decode cX1_forget 32 = .ok (.getfield 18, 3) := by decide +kernel
theorem dX1_forget_35 : decode cX1_forget 35 = .ok (.iload_n 1, 1) := by decide +kernel
theorem dX1_forget_36 : decode cX1_forget 36 = .ok (.iconst 0, 1) := by decide +kernel
theorem dX1_forget_37 : decode cX1_forget 37 = .ok (.bastore, 1) := by decide +kernel
theorem dX1_forget_38 : decode cX1_forget 38 = .ok (.aload_n 0, 1) := by decide +kernel
theorem dX1_forget_39 : decode cX1_forget 39 = .ok (.getfield 22, 3) := by decide +kernel
theorem dX1_forget_42 : decode cX1_forget 42 = .ok (.aload_n 0, 1) := by decide +kernel
theorem dX1_forget_43 : decode cX1_forget 43 = .ok (.getfield 9, 3) := by decide +kernel
theorem dX1_forget_46 : decode cX1_forget 46 = .ok (.iload_n 1, 1) := by decide +kernel
theorem dX1_forget_47 : decode cX1_forget 47 = .ok (.iaload, 1) := by decide +kernel
theorem dX1_forget_48 : decode cX1_forget 48 = .ok (.dup2, 1) := by decide +kernel
theorem dX1_forget_49 : decode cX1_forget 49 = .ok (.iaload, 1) := by decide +kernel
theorem dX1_forget_50 : decode cX1_forget 50 = .ok (.aload_n 0, 1) := by decide +kernel
theorem dX1_forget_51 : decode cX1_forget 51 = .ok (.aload_n 0, 1) := by decide +kernel
theorem dX1_forget_52 : decode cX1_forget 52 = .ok (.getfield 9, 3) := by decide +kernel
theorem dX1_forget_55 : decode cX1_forget 55 = .ok (.iload_n 1, 1) := by decide +kernel
theorem dX1_forget_56 : decode cX1_forget 56 = .ok (.iaload, 1) := by decide +kernel
theorem dX1_forget_57 : decode cX1_forget 57 = .ok (.aload_n 0, 1) := by decide +kernel
theorem dX1_forget_58 : decode cX1_forget 58 = .ok (.getfield 15, 3) := by decide +kernel
theorem dX1_forget_61 : decode cX1_forget 61 = .ok (.iload_n 1, 1) := by decide +kernel
theorem dX1_forget_62 : decode cX1_forget 62 = .ok (.iaload, 1) := by decide +kernel
theorem dX1_forget_63 : decode cX1_forget 63 = .ok (.invokevirtual 52, 3) := by decide +kernel
theorem dX1_forget_66 : decode cX1_forget 66 = .ok (.isub, 1) := by decide +kernel
theorem dX1_forget_67 : decode cX1_forget 67 = .ok (.iastore, 1) := by decide +kernel
theorem dX1_forget_68 : decode cX1_forget 68 = .ok (.aload_n 0, 1) := by decide +kernel
theorem dX1_forget_69 : decode cX1_forget 69 = .ok (.getfield 25, 3) := by decide +kernel
theorem dX1_forget_72 : decode cX1_forget 72 = .ok (.aload_n 0, 1) := by decide +kernel
theorem dX1_forget_73 : decode cX1_forget 73 = .ok (.getfield 9, 3) := by decide +kernel
theorem dX1_forget_76 : decode cX1_forget 76 = .ok (.iload_n 1, 1) := by decide +kernel
theorem dX1_forget_77 : decode cX1_forget 77 = .ok (.iaload, 1) := by decide +kernel
theorem dX1_forget_78 : decode cX1_forget 78 = .ok (.dup2, 1) := by decide +kernel
theorem dX1_forget_79 : decode cX1_forget 79 = .ok (.iaload, 1) := by decide +kernel
theorem dX1_forget_80 : decode cX1_forget 80 = .ok (.iconst 1, 1) := by decide +kernel
theorem dX1_forget_81 : decode cX1_forget 81 = .ok (.isub, 1) := by decide +kernel
theorem dX1_forget_82 : decode cX1_forget 82 = .ok (.iastore, 1) := by decide +kernel
theorem dX1_forget_83 : decode cX1_forget 83 = .ok (.return_, 1) := by decide +kernel
theorem dX1_measuredLines_0 : decode cX1_measuredLines 0 = .ok (.iconst 0, 1) := by decide +kernel
theorem dX1_measuredLines_1 : decode cX1_measuredLines 1 = .ok (.istore_n 1, 1) := by decide +kernel
theorem dX1_measuredLines_2 : decode cX1_measuredLines 2 = .ok (.iconst 0, 1) := by decide +kernel
theorem dX1_measuredLines_3 : decode cX1_measuredLines 3 = .ok (.istore_n 2, 1) := by decide +kernel
theorem dX1_measuredLines_4 : decode cX1_measuredLines 4 = .ok (.iload_n 2, 1) := by decide +kernel
theorem dX1_measuredLines_5 : decode cX1_measuredLines 5 = .ok (.iconst 3, 1) := by decide +kernel
theorem dX1_measuredLines_6 : decode cX1_measuredLines 6 = .ok (.if_icmp .ge 18, 3) := by decide +kernel
theorem dX1_measuredLines_9 : decode cX1_measuredLines 9 = .ok (.iload_n 1, 1) := by decide +kernel
theorem dX1_measuredLines_10 : decode cX1_measuredLines 10 = .ok (.aload_n 0, 1) := by decide +kernel
theorem dX1_measuredLines_11 : decode cX1_measuredLines 11 = .ok (.getfield 25, 3) := by decide +kernel
theorem dX1_measuredLines_14 : decode cX1_measuredLines 14 = .ok (.iload_n 2, 1) := by decide +kernel
theorem dX1_measuredLines_15 : decode cX1_measuredLines 15 = .ok (.iaload, 1) := by decide +kernel
theorem dX1_measuredLines_16 : decode cX1_measuredLines 16 = .ok (.iadd, 1) := by decide +kernel
theorem dX1_measuredLines_17 : decode cX1_measuredLines 17 = .ok (.istore_n 1, 1) := by decide +kernel
theorem dX1_measuredLines_18 : decode cX1_measuredLines 18 = .ok (.iinc 2 1, 3) := by decide +kernel
theorem dX1_measuredLines_21 : decode cX1_measuredLines 21 = .ok (.goto (-17), 3) := by decide +kernel
theorem dX1_measuredLines_24 : decode cX1_measuredLines 24 = .ok (.iload_n 1, 1) := by decide +kernel
theorem dX1_measuredLines_25 : decode cX1_measuredLines 25 = .ok (.ireturn, 1) := by decide +kernel
set_option maxRecDepth 20000 in
theorem ggX1_trueHeightOf_X1_isLine : GoodIn wsX1_trueHeightOf wsX1_isLine := goodIn_r _ [7, 8, 14, 15, 16, 17, 18, 19, 20] (by decide +kernel) (by decide +kernel)
set_option maxRecDepth 20000 in
theorem gX1_trueHeightOf_X1_isLine : GoodIn wsX1_trueHeightOf (wsV RX1 41 RX1 yX1_isLine wsX1_isLine) := goodIn_app (goodIn_of _ (by decide +kernel)) ggX1_trueHeightOf_X1_isLine
set_option maxRecDepth 20000 in
theorem ggX1_trueHeightOf_X1_trueHeight : GoodIn wsX1_trueHeightOf wsX1_trueHeight := goodIn_r _ [12, 13, 14, 15, 16, 17, 18, 19, 20] (by decide +kernel) (by decide +kernel)
set_option maxRecDepth 20000 in
theorem gX1_trueHeightOf_X1_trueHeight : GoodIn wsX1_trueHeightOf (wsV RX1 52 RX1 yX1_trueHeight wsX1_trueHeight) := goodIn_app (goodIn_of _ (by decide +kernel)) ggX1_trueHeightOf_X1_trueHeight
theorem dX1_trueHeightOf_0 : decode cX1_trueHeightOf 0 = .ok (.aload_n 0, 1) := by decide +kernel
theorem dX1_trueHeightOf_1 : decode cX1_trueHeightOf 1 = .ok (.iload_n 1, 1) := by decide +kernel
theorem dX1_trueHeightOf_2 : decode cX1_trueHeightOf 2 = .ok (.invokevirtual 41, 3) := by decide +kernel
theorem dX1_trueHeightOf_5 : decode cX1_trueHeightOf 5 = .ok (.ifCond .eq 22, 3) := by decide +kernel
theorem dX1_trueHeightOf_8 : decode cX1_trueHeightOf 8 = .ok (.aload_n 0, 1) := by decide +kernel
theorem dX1_trueHeightOf_9 : decode cX1_trueHeightOf 9 = .ok (.aload_n 0, 1) := by decide +kernel
theorem dX1_trueHeightOf_10 : decode cX1_trueHeightOf 10 = .ok (.getfield 9, 3) := by decide +kernel
theorem dX1_trueHeightOf_13 : decode cX1_trueHeightOf 13 = .ok (.iload_n 1, 1) := by decide +kernel
theorem dX1_trueHeightOf_14 : decode cX1_trueHeightOf 14 = .ok (.iaload, 1) := by decide +kernel
theorem dX1_trueHeightOf_15 : decode cX1_trueHeightOf 15 = .ok (.aload_n 0, 1) := by decide +kernel
theorem dX1_trueHeightOf_16 : decode cX1_trueHeightOf 16 = .ok (.getfield 15, 3) := by decide +kernel
theorem dX1_trueHeightOf_19 : decode cX1_trueHeightOf 19 = .ok (.iload_n 1, 1) := by decide +kernel
theorem dX1_trueHeightOf_20 : decode cX1_trueHeightOf 20 = .ok (.iaload, 1) := by decide +kernel
theorem dX1_trueHeightOf_21 : decode cX1_trueHeightOf 21 = .ok (.invokevirtual 52, 3) := by decide +kernel
theorem dX1_trueHeightOf_24 : decode cX1_trueHeightOf 24 = .ok (.goto 4, 3) := by decide +kernel
theorem dX1_trueHeightOf_27 : decode cX1_trueHeightOf 27 = .ok (.iconst 0, 1) := by decide +kernel
theorem dX1_trueHeightOf_28 : decode cX1_trueHeightOf 28 = .ok (.ireturn, 1) := by decide +kernel
theorem dX1_trueHeight_0 : decode cX1_trueHeight 0 = .ok (.iload_n 2, 1) := by decide +kernel
theorem dX1_trueHeight_1 : decode cX1_trueHeight 1 = .ok (.ifCond .le 26, 3) := by decide +kernel
theorem dX1_trueHeight_4 : decode cX1_trueHeight 4 = .ok (.aload_n 0, 1) := by decide +kernel
theorem dX1_trueHeight_5 : decode cX1_trueHeight 5 = .ok (.getfield 28, 3) := by decide +kernel
theorem dX1_trueHeight_8 : decode cX1_trueHeight 8 = .ok (.ifCond .le 19, 3) := by decide +kernel
theorem dX1_trueHeight_11 : decode cX1_trueHeight 11 = .ok (.iload_n 2, 1) := by decide +kernel
theorem dX1_trueHeight_12 : decode cX1_trueHeight 12 = .ok (.aload_n 0, 1) := by decide +kernel
theorem dX1_trueHeight_13 : decode cX1_trueHeight 13 = .ok (.getfield 28, 3) := by decide +kernel
theorem dX1_trueHeight_16 : decode cX1_trueHeight 16 = .ok (.iadd, 1) := by decide +kernel
theorem dX1_trueHeight_17 : decode cX1_trueHeight 17 = .ok (.iconst 1, 1) := by decide +kernel
theorem dX1_trueHeight_18 : decode cX1_trueHeight 18 = .ok (.isub, 1) := by decide +kernel
theorem dX1_trueHeight_19 : decode cX1_trueHeight 19 = .ok (.aload_n 0, 1) := by decide +kernel
theorem dX1_trueHeight_20 : decode cX1_trueHeight 20 = .ok (.getfield 28, 3) := by decide +kernel
theorem dX1_trueHeight_23 : decode cX1_trueHeight 23 = .ok (.idiv, 1) := by decide +kernel
theorem dX1_trueHeight_24 : decode cX1_trueHeight 24 = .ok (.goto 4, 3) := by decide +kernel
theorem dX1_trueHeight_27 : decode cX1_trueHeight 27 = .ok (.iconst 1, 1) := by decide +kernel
theorem dX1_trueHeight_28 : decode cX1_trueHeight 28 = .ok (.istore_n 3, 1) := by decide +kernel
theorem dX1_trueHeight_29 : decode cX1_trueHeight 29 = .ok (.iload_n 1, 1) := by decide +kernel
theorem dX1_trueHeight_30 : decode cX1_trueHeight 30 = .ok (.lookupswitch 41 #[(0, 26), (1, 33)], 26) := by decide +kernel
theorem dX1_trueHeight_56 : decode cX1_trueHeight 56 = .ok (.bipush 12, 2) := by decide +kernel
theorem dX1_trueHeight_58 : decode cX1_trueHeight 58 = .ok (.iload_n 3, 1) := by decide +kernel
theorem dX1_trueHeight_59 : decode cX1_trueHeight 59 = .ok (.imul, 1) := by decide +kernel
theorem dX1_trueHeight_60 : decode cX1_trueHeight 60 = .ok (.iconst 4, 1) := by decide +kernel
theorem dX1_trueHeight_61 : decode cX1_trueHeight 61 = .ok (.iadd, 1) := by decide +kernel
theorem dX1_trueHeight_62 : decode cX1_trueHeight 62 = .ok (.ireturn, 1) := by decide +kernel
theorem dX1_trueHeight_63 : decode cX1_trueHeight 63 = .ok (.bipush 18, 2) := by decide +kernel
theorem dX1_trueHeight_65 : decode cX1_trueHeight 65 = .ok (.iload_n 3, 1) := by decide +kernel
theorem dX1_trueHeight_66 : decode cX1_trueHeight 66 = .ok (.imul, 1) := by decide +kernel
theorem dX1_trueHeight_67 : decode cX1_trueHeight 67 = .ok (.bipush 10, 2) := by decide +kernel
theorem dX1_trueHeight_69 : decode cX1_trueHeight 69 = .ok (.iadd, 1) := by decide +kernel
theorem dX1_trueHeight_70 : decode cX1_trueHeight 70 = .ok (.ireturn, 1) := by decide +kernel
theorem dX1_trueHeight_71 : decode cX1_trueHeight 71 = .ok (.iload_n 2, 1) := by decide +kernel
theorem dX1_trueHeight_72 : decode cX1_trueHeight 72 = .ok (.bipush 6, 2) := by decide +kernel
theorem dX1_trueHeight_74 : decode cX1_trueHeight 74 = .ok (.iadd, 1) := by decide +kernel
theorem dX1_trueHeight_75 : decode cX1_trueHeight 75 = .ok (.ireturn, 1) := by decide +kernel
theorem dX1_guess_0 : decode cX1_guess 0 = .ok (.iload_n 1, 1) := by decide +kernel
theorem dX1_guess_1 : decode cX1_guess 1 = .ok (.ifCond .lt 17, 3) := by decide +kernel
theorem dX1_guess_4 : decode cX1_guess 4 = .ok (.iload_n 1, 1) := by decide +kernel
theorem dX1_guess_5 : decode cX1_guess 5 = .ok (.iconst 3, 1) := by decide +kernel
theorem dX1_guess_6 : decode cX1_guess 6 = .ok (.if_icmp .ge 12, 3) := by decide +kernel
theorem dX1_guess_9 : decode cX1_guess 9 = .ok (.aload_n 0, 1) := by decide +kernel
theorem dX1_guess_10 : decode cX1_guess 10 = .ok (.getfield 25, 3) := by decide +kernel
theorem dX1_guess_13 : decode cX1_guess 13 = .ok (.iload_n 1, 1) := by decide +kernel
theorem dX1_guess_14 : decode cX1_guess 14 = .ok (.iaload, 1) := by decide +kernel
theorem dX1_guess_15 : decode cX1_guess 15 = .ok (.ifCond .gt 6, 3) := by decide +kernel
theorem dX1_guess_18 : decode cX1_guess 18 = .ok (.bipush 20, 2) := by decide +kernel
theorem dX1_guess_20 : decode cX1_guess 20 = .ok (.ireturn, 1) := by decide +kernel
theorem dX1_guess_21 : decode cX1_guess 21 = .ok (.aload_n 0, 1) := by decide +kernel
theorem dX1_guess_22 : decode cX1_guess 22 = .ok (.getfield 22, 3) := by decide +kernel
theorem dX1_guess_25 : decode cX1_guess 25 = .ok (.iload_n 1, 1) := by decide +kernel
theorem dX1_guess_26 : decode cX1_guess 26 = .ok (.iaload, 1) := by decide +kernel
theorem dX1_guess_27 : decode cX1_guess 27 = .ok (.aload_n 0, 1) := by decide +kernel
theorem dX1_guess_28 : decode cX1_guess 28 = .ok (.getfield 25, 3) := by decide +kernel
theorem dX1_guess_31 : decode cX1_guess 31 = .ok (.iload_n 1, 1) := by decide +kernel
theorem dX1_guess_32 : decode cX1_guess 32 = .ok (.iaload, 1) := by decide +kernel
theorem dX1_guess_33 : decode cX1_guess 33 = .ok (.idiv, 1) := by decide +kernel
theorem dX1_guess_34 : decode cX1_guess 34 = .ok (.ireturn, 1) := by decide +kernel
set_option maxRecDepth 20000 in
theorem ggX1_heightOf_X1_isLine : GoodIn wsX1_heightOf wsX1_isLine := goodIn_r _ [8, 9, 21, 22, 23, 24, 25, 26, 27] (by decide +kernel) (by decide +kernel)
set_option maxRecDepth 20000 in
theorem gX1_heightOf_X1_isLine : GoodIn wsX1_heightOf (wsV RX1 41 RX1 yX1_isLine wsX1_isLine) := goodIn_app (goodIn_of _ (by decide +kernel)) ggX1_heightOf_X1_isLine
set_option maxRecDepth 20000 in
theorem ggX1_heightOf_X1_trueHeight : GoodIn wsX1_heightOf wsX1_trueHeight := goodIn_r _ [13, 14, 21, 22, 23, 24, 25, 26, 27] (by decide +kernel) (by decide +kernel)
set_option maxRecDepth 20000 in
theorem gX1_heightOf_X1_trueHeight : GoodIn wsX1_heightOf (wsV RX1 52 RX1 yX1_trueHeight wsX1_trueHeight) := goodIn_app (goodIn_of _ (by decide +kernel)) ggX1_heightOf_X1_trueHeight
set_option maxRecDepth 20000 in
theorem ggX1_heightOf_X1_guess : GoodIn wsX1_heightOf wsX1_guess := goodIn_r _ [18, 19, 20, 21, 22, 23, 24, 25, 26, 27] (by decide +kernel) (by decide +kernel)
set_option maxRecDepth 20000 in
theorem gX1_heightOf_X1_guess : GoodIn wsX1_heightOf (wsV RX1 56 RX1 yX1_guess wsX1_guess) := goodIn_app (goodIn_of _ (by decide +kernel)) ggX1_heightOf_X1_guess
theorem dX1_heightOf_0 : decode cX1_heightOf 0 = .ok (.aload_n 0, 1) := by decide +kernel
theorem dX1_heightOf_1 : decode cX1_heightOf 1 = .ok (.iload_n 1, 1) := by decide +kernel
theorem dX1_heightOf_2 : decode cX1_heightOf 2 = .ok (.invokevirtual 41, 3) := by decide +kernel
theorem dX1_heightOf_5 : decode cX1_heightOf 5 = .ok (.ifCond .ne 5, 3) := by decide +kernel
theorem dX1_heightOf_8 : decode cX1_heightOf 8 = .ok (.iconst 0, 1) := by decide +kernel
theorem dX1_heightOf_9 : decode cX1_heightOf 9 = .ok (.ireturn, 1) := by decide +kernel
theorem dX1_heightOf_10 : decode cX1_heightOf 10 = .ok (.aload_n 0, 1) := by decide +kernel
theorem dX1_heightOf_11 : decode cX1_heightOf 11 = .ok (.getfield 18, 3) := by decide +kernel
theorem dX1_heightOf_14 : decode cX1_heightOf 14 = .ok (.iload_n 1, 1) := by decide +kernel
theorem dX1_heightOf_15 : decode cX1_heightOf 15 = .ok (.baload, 1) := by decide +kernel
theorem dX1_heightOf_16 : decode cX1_heightOf 16 = .ok (.ifCond .eq 22, 3) := by decide +kernel
theorem dX1_heightOf_19 : decode cX1_heightOf 19 = .ok (.aload_n 0, 1) := by decide +kernel
theorem dX1_heightOf_20 : decode cX1_heightOf 20 = .ok (.aload_n 0, 1) := by decide +kernel
theorem dX1_heightOf_21 : decode cX1_heightOf 21 = .ok (.getfield 9, 3) := by decide +kernel
theorem dX1_heightOf_24 : decode cX1_heightOf 24 = .ok (.iload_n 1, 1) := by decide +kernel
theorem dX1_heightOf_25 : decode cX1_heightOf 25 = .ok (.iaload, 1) := by decide +kernel
theorem dX1_heightOf_26 : decode cX1_heightOf 26 = .ok (.aload_n 0, 1) := by decide +kernel
theorem dX1_heightOf_27 : decode cX1_heightOf 27 = .ok (.getfield 15, 3) := by decide +kernel
theorem dX1_heightOf_30 : decode cX1_heightOf 30 = .ok (.iload_n 1, 1) := by decide +kernel
theorem dX1_heightOf_31 : decode cX1_heightOf 31 = .ok (.iaload, 1) := by decide +kernel
theorem dX1_heightOf_32 : decode cX1_heightOf 32 = .ok (.invokevirtual 52, 3) := by decide +kernel
theorem dX1_heightOf_35 : decode cX1_heightOf 35 = .ok (.goto 13, 3) := by decide +kernel
theorem dX1_heightOf_38 : decode cX1_heightOf 38 = .ok (.aload_n 0, 1) := by decide +kernel
theorem dX1_heightOf_39 : decode cX1_heightOf 39 = .ok (.aload_n 0, 1) := by decide +kernel
theorem dX1_heightOf_40 : decode cX1_heightOf 40 = .ok (.getfield 9, 3) := by decide +kernel
theorem dX1_heightOf_43 : decode cX1_heightOf 43 = .ok (.iload_n 1, 1) := by decide +kernel
theorem dX1_heightOf_44 : decode cX1_heightOf 44 = .ok (.iaload, 1) := by decide +kernel
theorem dX1_heightOf_45 : decode cX1_heightOf 45 = .ok (.invokevirtual 56, 3) := by decide +kernel
theorem dX1_heightOf_48 : decode cX1_heightOf 48 = .ok (.ireturn, 1) := by decide +kernel
set_option maxRecDepth 20000 in
theorem ggX1_topOf_X1_heightOf : GoodIn wsX1_topOf wsX1_heightOf := goodIn_r _ [6, 7, 8, 9, 10, 11, 12, 5, 13, 1, 14, 15, 16, 17, 18, 19, 20, 21, 22, 23, 24, 25, 26, 27, 28, 29, 30, 31] (by decide +kernel) (by decide +kernel)
set_option maxRecDepth 20000 in
theorem gX1_topOf_X1_heightOf : GoodIn wsX1_topOf (wsV RX1 60 RX1 yX1_heightOf wsX1_heightOf) := goodIn_app (goodIn_of _ (by decide +kernel)) ggX1_topOf_X1_heightOf
theorem dX1_topOf_0 : decode cX1_topOf 0 = .ok (.iconst 0, 1) := by decide +kernel
theorem dX1_topOf_1 : decode cX1_topOf 1 = .ok (.istore_n 2, 1) := by decide +kernel
theorem dX1_topOf_2 : decode cX1_topOf 2 = .ok (.iconst 0, 1) := by decide +kernel
theorem dX1_topOf_3 : decode cX1_topOf 3 = .ok (.istore_n 3, 1) := by decide +kernel
theorem dX1_topOf_4 : decode cX1_topOf 4 = .ok (.iload_n 3, 1) := by decide +kernel
theorem dX1_topOf_5 : decode cX1_topOf 5 = .ok (.iload_n 1, 1) := by decide +kernel
theorem dX1_topOf_6 : decode cX1_topOf 6 = .ok (.if_icmp .ge 25, 3) := by decide +kernel
theorem dX1_topOf_9 : decode cX1_topOf 9 = .ok (.iload_n 3, 1) := by decide +kernel
theorem dX1_topOf_10 : decode cX1_topOf 10 = .ok (.aload_n 0, 1) := by decide +kernel
theorem dX1_topOf_11 : decode cX1_topOf 11 = .ok (.getfield 38, 3) := by decide +kernel
theorem dX1_topOf_14 : decode cX1_topOf 14 = .ok (.if_icmp .ge 17, 3) := by decide +kernel
theorem dX1_topOf_17 : decode cX1_topOf 17 = .ok (.iload_n 2, 1) := by decide +kernel
theorem dX1_topOf_18 : decode cX1_topOf 18 = .ok (.aload_n 0, 1) := by decide +kernel
theorem dX1_topOf_19 : decode cX1_topOf 19 = .ok (.iload_n 3, 1) := by decide +kernel
theorem dX1_topOf_20 : decode cX1_topOf 20 = .ok (.invokevirtual 60, 3) := by decide +kernel
theorem dX1_topOf_23 : decode cX1_topOf 23 = .ok (.iadd, 1) := by decide +kernel
theorem dX1_topOf_24 : decode cX1_topOf 24 = .ok (.istore_n 2, 1) := by decide +kernel
theorem dX1_topOf_25 : decode cX1_topOf 25 = .ok (.iinc 3 1, 3) := by decide +kernel
theorem dX1_topOf_28 : decode cX1_topOf 28 = .ok (.goto (-24), 3) := by decide +kernel
theorem dX1_topOf_31 : decode cX1_topOf 31 = .ok (.iload_n 2, 1) := by decide +kernel
theorem dX1_topOf_32 : decode cX1_topOf 32 = .ok (.ireturn, 1) := by decide +kernel
set_option maxRecDepth 20000 in
theorem ggX1_total_X1_topOf : GoodIn wsX1_total wsX1_topOf := goodIn_r _ [6, 1, 7, 8, 9, 5, 10, 11, 12, 13, 14, 15, 16, 17, 18, 19, 20, 21, 22, 23, 24, 25, 26, 27, 28, 29, 30, 31, 32, 33, 34, 35] (by decide +kernel) (by decide +kernel)
set_option maxRecDepth 20000 in
theorem gX1_total_X1_topOf : GoodIn wsX1_total (wsV RX1 63 RX1 yX1_topOf wsX1_topOf) := goodIn_app (goodIn_of _ (by decide +kernel)) ggX1_total_X1_topOf
theorem dX1_total_0 : decode cX1_total 0 = .ok (.aload_n 0, 1) := by decide +kernel
theorem dX1_total_1 : decode cX1_total 1 = .ok (.aload_n 0, 1) := by decide +kernel
theorem dX1_total_2 : decode cX1_total 2 = .ok (.getfield 38, 3) := by decide +kernel
theorem dX1_total_5 : decode cX1_total 5 = .ok (.invokevirtual 63, 3) := by decide +kernel
theorem dX1_total_8 : decode cX1_total 8 = .ok (.ireturn, 1) := by decide +kernel
set_option maxRecDepth 20000 in
theorem ggX1_lineAt_X1_heightOf : GoodIn wsX1_lineAt wsX1_heightOf := goodIn_r _ [7, 8, 9, 10, 11, 12, 13, 6, 14, 1, 15, 16, 17, 18, 19, 20, 21, 22, 23, 24, 25, 26, 27, 28, 29, 30, 31, 32] (by decide +kernel) (by decide +kernel)
set_option maxRecDepth 20000 in
theorem gX1_lineAt_X1_heightOf : GoodIn wsX1_lineAt (wsV RX1 60 RX1 yX1_heightOf wsX1_heightOf) := goodIn_app (goodIn_of _ (by decide +kernel)) ggX1_lineAt_X1_heightOf
theorem dX1_lineAt_0 : decode cX1_lineAt 0 = .ok (.iconst 0, 1) := by decide +kernel
theorem dX1_lineAt_1 : decode cX1_lineAt 1 = .ok (.istore_n 2, 1) := by decide +kernel
theorem dX1_lineAt_2 : decode cX1_lineAt 2 = .ok (.iconst 0, 1) := by decide +kernel
theorem dX1_lineAt_3 : decode cX1_lineAt 3 = .ok (.istore_n 3, 1) := by decide +kernel
theorem dX1_lineAt_4 : decode cX1_lineAt 4 = .ok (.iload_n 3, 1) := by decide +kernel
theorem dX1_lineAt_5 : decode cX1_lineAt 5 = .ok (.aload_n 0, 1) := by decide +kernel
theorem dX1_lineAt_6 : decode cX1_lineAt 6 = .ok (.getfield 38, 3) := by decide +kernel
theorem dX1_lineAt_9 : decode cX1_lineAt 9 = .ok (.if_icmp .ge 24, 3) := by decide +kernel
theorem dX1_lineAt_12 : decode cX1_lineAt 12 = .ok (.iload_n 2, 1) := by decide +kernel
theorem dX1_lineAt_13 : decode cX1_lineAt 13 = .ok (.aload_n 0, 1) := by decide +kernel
theorem dX1_lineAt_14 : decode cX1_lineAt 14 = .ok (.iload_n 3, 1) := by decide +kernel
theorem dX1_lineAt_15 : decode cX1_lineAt 15 = .ok (.invokevirtual 60, 3) := by decide +kernel
theorem dX1_lineAt_18 : decode cX1_lineAt 18 = .ok (.iadd, 1) := by decide +kernel
theorem dX1_lineAt_19 : decode cX1_lineAt 19 = .ok (.istore_n 2, 1) := by decide +kernel
theorem dX1_lineAt_20 : decode cX1_lineAt 20 = .ok (.iload_n 1, 1) := by decide +kernel
theorem dX1_lineAt_21 : decode cX1_lineAt 21 = .ok (.iload_n 2, 1) := by decide +kernel
theorem dX1_lineAt_22 : decode cX1_lineAt 22 = .ok (.if_icmp .ge 5, 3) := by decide +kernel
theorem dX1_lineAt_25 : decode cX1_lineAt 25 = .ok (.iload_n 3, 1) := by decide +kernel
theorem dX1_lineAt_26 : decode cX1_lineAt 26 = .ok (.ireturn, 1) := by decide +kernel
theorem dX1_lineAt_27 : decode cX1_lineAt 27 = .ok (.iinc 3 1, 3) := by decide +kernel
theorem dX1_lineAt_30 : decode cX1_lineAt 30 = .ok (.goto (-26), 3) := by decide +kernel
theorem dX1_lineAt_33 : decode cX1_lineAt 33 = .ok (.ldc 66, 2) := by decide +kernel
theorem dX1_lineAt_35 : decode cX1_lineAt 35 = .ok (.ireturn, 1) := by decide +kernel
theorem dX2_init_0 : decode cX2_init 0 = .ok (.aload_n 0, 1) := by decide +kernel
theorem dX2_init_1 : decode cX2_init 1 = .ok (.invokespecial 3, 3) := by decide +kernel
theorem dX2_init_4 : decode cX2_init 4 = .ok (.aload_n 0, 1) := by decide +kernel
theorem dX2_init_5 : decode cX2_init 5 = .ok (.bipush 100, 2) := by decide +kernel
theorem dX2_init_7 : decode cX2_init 7 = .ok (.newarray .char, 2) := by decide +kernel
theorem dX2_init_9 : decode cX2_init 9 = .ok (.putfield 9, 3) := by decide +kernel
theorem dX2_init_12 : decode cX2_init 12 = .ok (.aload_n 0, 1) := by decide +kernel
theorem dX2_init_13 : decode cX2_init 13 = .ok (.iconst 3, 1) := by decide +kernel
theorem dX2_init_14 : decode cX2_init 14 = .ok (.newarray .int, 2) := by decide +kernel
theorem dX2_init_16 : decode cX2_init 16 = .ok (.putfield 15, 3) := by decide +kernel
theorem dX2_init_19 : decode cX2_init 19 = .ok (.return_, 1) := by decide +kernel
theorem dX2_add_0 : decode cX2_add 0 = .ok (.aload_n 0, 1) := by decide +kernel
theorem dX2_add_1 : decode cX2_add 1 = .ok (.getfield 19, 3) := by decide +kernel
theorem dX2_add_4 : decode cX2_add 4 = .ok (.bipush 100, 2) := by decide +kernel
theorem dX2_add_6 : decode cX2_add 6 = .ok (.if_icmp .lt 6, 3) := by decide +kernel
theorem dX2_add_9 : decode cX2_add 9 = .ok (.ldc 23, 2) := by decide +kernel
theorem dX2_add_11 : decode cX2_add 11 = .ok (.ireturn, 1) := by decide +kernel
theorem dX2_add_12 : decode cX2_add 12 = .ok (.aload_n 0, 1) := by decide +kernel
theorem dX2_add_13 : decode cX2_add 13 = .ok (.getfield 9, 3) := by decide +kernel
theorem dX2_add_16 : decode cX2_add 16 = .ok (.aload_n 0, 1) := by decide +kernel
theorem dX2_add_17 : decode cX2_add 17 = .ok (.getfield 19, 3) := by decide +kernel
theorem dX2_add_20 : decode cX2_add 20 = .ok (.iload_n 1, 1) := by decide +kernel
theorem dX2_add_21 : decode cX2_add 21 = .ok (.castore, 1) := by decide +kernel
theorem dX2_add_22 : decode cX2_add 22 = .ok (.aload_n 0, 1) := by decide +kernel
theorem dX2_add_23 : decode cX2_add 23 = .ok (.dup, 1) := by decide +kernel
theorem dX2_add_24 : decode cX2_add 24 = .ok (.getfield 19, 3) := by decide +kernel
theorem dX2_add_27 : decode cX2_add 27 = .ok (.iconst 1, 1) := by decide +kernel
theorem dX2_add_28 : decode cX2_add 28 = .ok (.iadd, 1) := by decide +kernel
theorem dX2_add_29 : decode cX2_add 29 = .ok (.putfield 19, 3) := by decide +kernel
theorem dX2_add_32 : decode cX2_add 32 = .ok (.aload_n 0, 1) := by decide +kernel
theorem dX2_add_33 : decode cX2_add 33 = .ok (.getfield 19, 3) := by decide +kernel
theorem dX2_add_36 : decode cX2_add 36 = .ok (.ireturn, 1) := by decide +kernel
theorem dX2_clear_0 : decode cX2_clear 0 = .ok (.aload_n 0, 1) := by decide +kernel
theorem dX2_clear_1 : decode cX2_clear 1 = .ok (.getfield 19, 3) := by decide +kernel
theorem dX2_clear_4 : decode cX2_clear 4 = .ok (.istore_n 1, 1) := by decide +kernel
theorem dX2_clear_5 : decode cX2_clear 5 = .ok (.aload_n 0, 1) := by decide +kernel
theorem dX2_clear_6 : decode cX2_clear 6 = .ok (.iconst 0, 1) := by decide +kernel
theorem dX2_clear_7 : decode cX2_clear 7 = .ok (.putfield 19, 3) := by decide +kernel
theorem dX2_clear_10 : decode cX2_clear 10 = .ok (.iload_n 1, 1) := by decide +kernel
theorem dX2_clear_11 : decode cX2_clear 11 = .ok (.ireturn, 1) := by decide +kernel
theorem dX2_rewind_0 : decode cX2_rewind 0 = .ok (.aload_n 0, 1) := by decide +kernel
theorem dX2_rewind_1 : decode cX2_rewind 1 = .ok (.iconst 0, 1) := by decide +kernel
theorem dX2_rewind_2 : decode cX2_rewind 2 = .ok (.putfield 24, 3) := by decide +kernel
theorem dX2_rewind_5 : decode cX2_rewind 5 = .ok (.aload_n 0, 1) := by decide +kernel
theorem dX2_rewind_6 : decode cX2_rewind 6 = .ok (.iconst 0, 1) := by decide +kernel
theorem dX2_rewind_7 : decode cX2_rewind 7 = .ok (.putfield 27, 3) := by decide +kernel
theorem dX2_rewind_10 : decode cX2_rewind 10 = .ok (.aload_n 0, 1) := by decide +kernel
theorem dX2_rewind_11 : decode cX2_rewind 11 = .ok (.iconst 0, 1) := by decide +kernel
theorem dX2_rewind_12 : decode cX2_rewind 12 = .ok (.putfield 30, 3) := by decide +kernel
theorem dX2_rewind_15 : decode cX2_rewind 15 = .ok (.return_, 1) := by decide +kernel
theorem dX2_number_0 : decode cX2_number 0 = .ok (.iload_n 1, 1) := by decide +kernel
theorem dX2_number_1 : decode cX2_number 1 = .ok (.ifCond .lt 17, 3) := by decide +kernel
theorem dX2_number_4 : decode cX2_number 4 = .ok (.iload_n 1, 1) := by decide +kernel
theorem dX2_number_5 : decode cX2_number 5 = .ok (.iconst 3, 1) := by decide +kernel
theorem dX2_number_6 : decode cX2_number 6 = .ok (.if_icmp .ge 12, 3) := by decide +kernel
theorem dX2_number_9 : decode cX2_number 9 = .ok (.aload_n 0, 1) := by decide +kernel
theorem dX2_number_10 : decode cX2_number 10 = .ok (.getfield 15, 3) := by decide +kernel
theorem dX2_number_13 : decode cX2_number 13 = .ok (.iload_n 1, 1) := by decide +kernel
theorem dX2_number_14 : decode cX2_number 14 = .ok (.iaload, 1) := by decide +kernel
theorem dX2_number_15 : decode cX2_number 15 = .ok (.goto 4, 3) := by decide +kernel
theorem dX2_number_18 : decode cX2_number 18 = .ok (.iconst 0, 1) := by decide +kernel
theorem dX2_number_19 : decode cX2_number 19 = .ok (.ireturn, 1) := by decide +kernel
set_option maxRecDepth 20000 in
theorem ggX2_readCommand_X2_readToken : GoodIn wsX2_readCommand wsX2_readToken := goodIn_r _ [9, 10, 1, 2, 11, 12, 13, 14, 15, 16, 17, 8, 18, 19, 20, 21, 22, 23, 24, 25, 90, 91, 92, 93, 94, 95] (by decide +kernel) (by decide +kernel)
set_option maxRecDepth 20000 in
theorem gX2_readCommand_X2_readToken : GoodIn wsX2_readCommand (wsV RX2 33 RX2 yX2_readToken wsX2_readToken) := goodIn_app (goodIn_of _ (by decide +kernel)) ggX2_readCommand_X2_readToken
set_option maxRecDepth 20000 in
theorem ggX2_readCommand_X2_commandOfToken : GoodIn wsX2_readCommand wsX2_commandOfToken := goodIn_r _ [29, 30, 31, 8, 32, 33, 34, 35, 36, 10, 1, 37, 38, 39, 40, 41, 42, 43, 44, 45, 46, 47, 48, 49, 50, 51, 52, 53, 54, 55, 56, 57, 58, 59, 60, 61, 62, 63, 64, 65, 66, 67, 68, 69, 70, 71, 72, 73, 74, 75, 76, 77, 78, 79, 80, 81, 82, 83, 84, 85, 15, 16, 17, 18, 2, 19, 90, 91, 92, 93, 94, 95] (by decide +kernel) (by decide +kernel)
set_option maxRecDepth 20000 in
theorem gX2_readCommand_X2_commandOfToken : GoodIn wsX2_readCommand (wsV RX2 36 RX2 yX2_commandOfToken wsX2_commandOfToken) := goodIn_app (goodIn_of _ (by decide +kernel)) ggX2_readCommand_X2_commandOfToken
set_option maxRecDepth 20000 in
theorem ggX2_readCommand_X2_numberOfToken : GoodIn wsX2_readCommand wsX2_numberOfToken := goodIn_r _ [89, 10, 1, 15, 16, 17, 8, 18, 2, 19, 23, 24, 25, 90, 91, 92, 93, 94, 95] (by decide +kernel) (by decide +kernel)
set_option maxRecDepth 20000 in
theorem gX2_readCommand_X2_numberOfToken : GoodIn wsX2_readCommand (wsV RX2 40 RX2 yX2_numberOfToken wsX2_numberOfToken) := goodIn_app (goodIn_of _ (by decide +kernel)) ggX2_readCommand_X2_numberOfToken
set_option maxRecDepth 20000 in
theorem ggX2_readCommand_X2_signAt : GoodIn wsX2_readCommand wsX2_signAt := goodIn_r _ [18, 2, 19, 90, 91, 92, 93, 94, 95] (by decide +kernel) (by decide +kernel)
set_option maxRecDepth 20000 in
theorem gX2_readCommand_X2_signAt : GoodIn wsX2_readCommand (wsV RX2 43 RX2 yX2_signAt wsX2_signAt) := goodIn_app (goodIn_of _ (by decide +kernel)) ggX2_readCommand_X2_signAt
theorem dX2_readCommand_0 : decode cX2_readCommand 0 = .ok (.aload_n 0, 1) := by decide +kernel
theorem dX2_readCommand_1 : decode cX2_readCommand 1 = .ok (.invokevirtual 33, 3) := by decide +kernel
theorem dX2_readCommand_4 : decode cX2_readCommand 4 = .ok (.aload_n 0, 1) := by decide +kernel
theorem dX2_readCommand_5 : decode cX2_readCommand 5 = .ok (.getfield 24, 3) := by decide +kernel
theorem dX2_readCommand_8 : decode cX2_readCommand 8 = .ok (.aload_n 0, 1) := by decide +kernel
theorem dX2_readCommand_9 : decode cX2_readCommand 9 = .ok (.getfield 19, 3) := by decide +kernel
theorem dX2_readCommand_12 : decode cX2_readCommand 12 = .ok (.if_icmp .lt 5, 3) := by decide +kernel
theorem dX2_readCommand_15 : decode cX2_readCommand 15 = .ok (.iconst (-1), 1) := by decide +kernel
theorem dX2_readCommand_16 : decode cX2_readCommand 16 = .ok (.ireturn, 1) := by decide +kernel
theorem dX2_readCommand_17 : decode cX2_readCommand 17 = .ok (.aload_n 0, 1) := by decide +kernel
theorem dX2_readCommand_18 : decode cX2_readCommand 18 = .ok (.aload_n 0, 1) := by decide +kernel
theorem dX2_readCommand_19 : decode cX2_readCommand 19 = .ok (.getfield 24, 3) := by decide +kernel
theorem dX2_readCommand_22 : decode cX2_readCommand 22 = .ok (.putfield 30, 3) := by decide +kernel
theorem dX2_readCommand_25 : decode cX2_readCommand 25 = .ok (.aload_n 0, 1) := by decide +kernel
theorem dX2_readCommand_26 : decode cX2_readCommand 26 = .ok (.invokevirtual 36, 3) := by decide +kernel
theorem dX2_readCommand_29 : decode cX2_readCommand 29 = .ok (.istore_n 1, 1) := by decide +kernel
theorem dX2_readCommand_30 : decode cX2_readCommand 30 = .ok (.iload_n 1, 1) := by decide +kernel
theorem dX2_readCommand_31 : decode cX2_readCommand 31 = .ok (.ifCond .ne 7, 3) := by decide +kernel
theorem dX2_readCommand_34 : decode cX2_readCommand 34 = .ok (.iconst 3, 1) := by decide +kernel
theorem dX2_readCommand_35 : decode cX2_readCommand 35 = .ok (.goto 4, 3) := by decide +kernel
theorem dX2_readCommand_38 : decode cX2_readCommand 38 = .ok (.iconst 1, 1) := by decide +kernel
theorem dX2_readCommand_39 : decode cX2_readCommand 39 = .ok (.istore_n 2, 1) := by decide +kernel
theorem dX2_readCommand_40 : decode cX2_readCommand 40 = .ok (.iconst 0, 1) := by decide +kernel
theorem dX2_readCommand_41 : decode cX2_readCommand 41 = .ok (.istore_n 3, 1) := by decide +kernel
theorem dX2_readCommand_42 : decode cX2_readCommand 42 = .ok (.iload_n 3, 1) := by decide +kernel
theorem dX2_readCommand_43 : decode cX2_readCommand 43 = .ok (.iload_n 2, 1) := by decide +kernel
theorem dX2_readCommand_44 : decode cX2_readCommand 44 = .ok (.if_icmp .ge 47, 3) := by decide +kernel
theorem dX2_readCommand_47 : decode cX2_readCommand 47 = .ok (.iload_n 1, 1) := by decide +kernel
theorem dX2_readCommand_48 : decode cX2_readCommand 48 = .ok (.ifCond .lt 43, 3) := by decide +kernel
theorem dX2_readCommand_51 : decode cX2_readCommand 51 = .ok (.aload_n 0, 1) := by decide +kernel
theorem dX2_readCommand_52 : decode cX2_readCommand 52 = .ok (.invokevirtual 33, 3) := by decide +kernel
theorem dX2_readCommand_55 : decode cX2_readCommand 55 = .ok (.aload_n 0, 1) := by decide +kernel
theorem dX2_readCommand_56 : decode cX2_readCommand 56 = .ok (.getfield 15, 3) := by decide +kernel
theorem dX2_readCommand_59 : decode cX2_readCommand 59 = .ok (.iload_n 3, 1) := by decide +kernel
theorem dX2_readCommand_60 : decode cX2_readCommand 60 = .ok (.aload_n 0, 1) := by decide +kernel
theorem dX2_readCommand_61 : decode cX2_readCommand 61 = .ok (.invokevirtual 40, 3) := by decide +kernel
theorem dX2_readCommand_64 : decode cX2_readCommand 64 = .ok (.iastore, 1) := by decide +kernel
theorem dX2_readCommand_65 : decode cX2_readCommand 65 = .ok (.aload_n 0, 1) := by decide +kernel
theorem dX2_readCommand_66 : decode cX2_readCommand 66 = .ok (.getfield 15, 3) := by decide +kernel
theorem dX2_readCommand_69 : decode cX2_readCommand 69 = .ok (.iload_n 3, 1) := by decide +kernel
theorem dX2_readCommand_70 : decode cX2_readCommand 70 = .ok (.iaload, 1) := by decide +kernel
theorem dX2_readCommand_71 : decode cX2_readCommand 71 = .ok (.ifCond .ge 14, 3) := by decide +kernel
theorem dX2_readCommand_74 : decode cX2_readCommand 74 = .ok (.aload_n 0, 1) := by decide +kernel
theorem dX2_readCommand_75 : decode cX2_readCommand 75 = .ok (.aload_n 0, 1) := by decide +kernel
theorem dX2_readCommand_76 : decode cX2_readCommand 76 = .ok (.getfield 24, 3) := by decide +kernel
theorem dX2_readCommand_79 : decode cX2_readCommand 79 = .ok (.putfield 30, 3) := by decide +kernel
theorem dX2_readCommand_82 : decode cX2_readCommand 82 = .ok (.bipush (-2), 2) := by decide +kernel
theorem dX2_readCommand_84 : decode cX2_readCommand 84 = .ok (.istore_n 1, 1) := by decide +kernel
theorem dX2_readCommand_85 : decode cX2_readCommand 85 = .ok (.iinc 3 1, 3) := by decide +kernel
theorem dX2_readCommand_88 : decode cX2_readCommand 88 = .ok (.goto (-46), 3) := by decide +kernel
theorem dX2_readCommand_91 : decode cX2_readCommand 91 = .ok (.iload_n 1, 1) := by decide +kernel
theorem dX2_readCommand_92 : decode cX2_readCommand 92 = .ok (.ifCond .lt 31, 3) := by decide +kernel
theorem dX2_readCommand_95 : decode cX2_readCommand 95 = .ok (.aload_n 0, 1) := by decide +kernel
theorem dX2_readCommand_96 : decode cX2_readCommand 96 = .ok (.invokevirtual 33, 3) := by decide +kernel
theorem dX2_readCommand_99 : decode cX2_readCommand 99 = .ok (.aload_n 0, 1) := by decide +kernel
theorem dX2_readCommand_100 : decode cX2_readCommand 100 = .ok (.aload_n 0, 1) := by decide +kernel
theorem dX2_readCommand_101 : decode cX2_readCommand 101 = .ok (.getfield 24, 3) := by decide +kernel
theorem dX2_readCommand_104 : decode cX2_readCommand 104 = .ok (.invokevirtual 43, 3) := by decide +kernel
theorem dX2_readCommand_107 : decode cX2_readCommand 107 = .ok (.bipush 59, 2) := by decide +kernel
theorem dX2_readCommand_109 : decode cX2_readCommand 109 = .ok (.if_icmp .eq 14, 3) := by decide +kernel
theorem dX2_readCommand_112 : decode cX2_readCommand 112 = .ok (.aload_n 0, 1) := by decide +kernel
theorem dX2_readCommand_113 : decode cX2_readCommand 113 = .ok (.aload_n 0, 1) := by decide +kernel
theorem dX2_readCommand_114 : decode cX2_readCommand 114 = .ok (.getfield 24, 3) := by decide +kernel
theorem dX2_readCommand_117 : decode cX2_readCommand 117 = .ok (.putfield 30, 3) := by decide +kernel
theorem dX2_readCommand_120 : decode cX2_readCommand 120 = .ok (.bipush (-2), 2) := by decide +kernel
theorem dX2_readCommand_122 : decode cX2_readCommand 122 = .ok (.istore_n 1, 1) := by decide +kernel
theorem dX2_readCommand_123 : decode cX2_readCommand 123 = .ok (.iload_n 1, 1) := by decide +kernel
theorem dX2_readCommand_124 : decode cX2_readCommand 124 = .ok (.ireturn, 1) := by decide +kernel
set_option maxRecDepth 20000 in
theorem ggX2_readToken_X2_signAt : GoodIn wsX2_readToken wsX2_signAt := goodIn_r _ [12, 3, 13, 20, 21, 22, 23, 24, 25] (by decide +kernel) (by decide +kernel)
set_option maxRecDepth 20000 in
theorem gX2_readToken_X2_signAt : GoodIn wsX2_readToken (wsV RX2 43 RX2 yX2_signAt wsX2_signAt) := goodIn_app (goodIn_of _ (by decide +kernel)) ggX2_readToken_X2_signAt
set_option maxRecDepth 20000 in
theorem ggX2_readToken_X2_isLetter : GoodIn wsX2_readToken wsX2_isLetter := goodIn_r _ [16] (by decide +kernel) (by decide +kernel)
set_option maxRecDepth 20000 in
theorem gX2_readToken_X2_isLetter : GoodIn wsX2_readToken (va_wsS RX2 53 yX2_isLetter wsX2_isLetter) := goodIn_app (goodIn_of _ (by decide +kernel)) ggX2_readToken_X2_isLetter
set_option maxRecDepth 20000 in
theorem ggX2_readToken_X2_isDigit : GoodIn wsX2_readToken wsX2_isDigit := goodIn_r _ [19] (by decide +kernel) (by decide +kernel)
set_option maxRecDepth 20000 in
theorem gX2_readToken_X2_isDigit : GoodIn wsX2_readToken (va_wsS RX2 57 yX2_isDigit wsX2_isDigit) := goodIn_app (goodIn_of _ (by decide +kernel)) ggX2_readToken_X2_isDigit
theorem dX2_readToken_0 : decode cX2_readToken 0 = .ok (.aload_n 0, 1) := by decide +kernel
theorem dX2_readToken_1 : decode cX2_readToken 1 = .ok (.aload_n 0, 1) := by decide +kernel
theorem dX2_readToken_2 : decode cX2_readToken 2 = .ok (.getfield 27, 3) := by decide +kernel
theorem dX2_readToken_5 : decode cX2_readToken 5 = .ok (.putfield 24, 3) := by decide +kernel
theorem dX2_readToken_8 : decode cX2_readToken 8 = .ok (.aload_n 0, 1) := by decide +kernel
theorem dX2_readToken_9 : decode cX2_readToken 9 = .ok (.getfield 24, 3) := by decide +kernel
theorem dX2_readToken_12 : decode cX2_readToken 12 = .ok (.aload_n 0, 1) := by decide +kernel
theorem dX2_readToken_13 : decode cX2_readToken 13 = .ok (.getfield 19, 3) := by decide +kernel
theorem dX2_readToken_16 : decode cX2_readToken 16 = .ok (.if_icmp .ge 29, 3) := by decide +kernel
theorem dX2_readToken_19 : decode cX2_readToken 19 = .ok (.aload_n 0, 1) := by decide +kernel
theorem dX2_readToken_20 : decode cX2_readToken 20 = .ok (.aload_n 0, 1) := by decide +kernel
theorem dX2_readToken_21 : decode cX2_readToken 21 = .ok (.getfield 24, 3) := by decide +kernel
theorem dX2_readToken_24 : decode cX2_readToken 24 = .ok (.invokevirtual 43, 3) := by decide +kernel
theorem dX2_readToken_27 : decode cX2_readToken 27 = .ok (.bipush 32, 2) := by decide +kernel
theorem dX2_readToken_29 : decode cX2_readToken 29 = .ok (.if_icmp .ne 16, 3) := by decide +kernel
theorem dX2_readToken_32 : decode cX2_readToken 32 = .ok (.aload_n 0, 1) := by decide +kernel
theorem dX2_readToken_33 : decode cX2_readToken 33 = .ok (.dup, 1) := by decide +kernel
theorem dX2_readToken_34 : decode cX2_readToken 34 = .ok (.getfield 24, 3) := by decide +kernel
theorem dX2_readToken_37 : decode cX2_readToken 37 = .ok (.iconst 1, 1) := by decide +kernel
theorem dX2_readToken_38 : decode cX2_readToken 38 = .ok (.iadd, 1) := by decide +kernel
theorem dX2_readToken_39 : decode cX2_readToken 39 = .ok (.putfield 24, 3) := by decide +kernel
theorem dX2_readToken_42 : decode cX2_readToken 42 = .ok (.goto (-34), 3) := by decide +kernel
theorem dX2_readToken_45 : decode cX2_readToken 45 = .ok (.aload_n 0, 1) := by decide +kernel
theorem dX2_readToken_46 : decode cX2_readToken 46 = .ok (.aload_n 0, 1) := by decide +kernel
theorem dX2_readToken_47 : decode cX2_readToken 47 = .ok (.getfield 24, 3) := by decide +kernel
theorem dX2_readToken_50 : decode cX2_readToken 50 = .ok (.iconst 1, 1) := by decide +kernel
theorem dX2_readToken_51 : decode cX2_readToken 51 = .ok (.iadd, 1) := by decide +kernel
theorem dX2_readToken_52 : decode cX2_readToken 52 = .ok (.aload_n 0, 1) := by decide +kernel
theorem dX2_readToken_53 : decode cX2_readToken 53 = .ok (.getfield 19, 3) := by decide +kernel
theorem dX2_readToken_56 : decode cX2_readToken 56 = .ok (.invokestatic 47, 3) := by decide +kernel
theorem dX2_readToken_59 : decode cX2_readToken 59 = .ok (.putfield 27, 3) := by decide +kernel
theorem dX2_readToken_62 : decode cX2_readToken 62 = .ok (.aload_n 0, 1) := by decide +kernel
theorem dX2_readToken_63 : decode cX2_readToken 63 = .ok (.aload_n 0, 1) := by decide +kernel
theorem dX2_readToken_64 : decode cX2_readToken 64 = .ok (.getfield 24, 3) := by decide +kernel
theorem dX2_readToken_67 : decode cX2_readToken 67 = .ok (.invokevirtual 43, 3) := by decide +kernel
theorem dX2_readToken_70 : decode cX2_readToken 70 = .ok (.invokestatic 53, 3) := by decide +kernel
theorem dX2_readToken_73 : decode cX2_readToken 73 = .ok (.ifCond .eq 41, 3) := by decide +kernel
theorem dX2_readToken_76 : decode cX2_readToken 76 = .ok (.aload_n 0, 1) := by decide +kernel
theorem dX2_readToken_77 : decode cX2_readToken 77 = .ok (.getfield 27, 3) := by decide +kernel
theorem dX2_readToken_80 : decode cX2_readToken 80 = .ok (.aload_n 0, 1) := by decide +kernel
theorem dX2_readToken_81 : decode cX2_readToken 81 = .ok (.getfield 19, 3) := by decide +kernel
theorem dX2_readToken_84 : decode cX2_readToken 84 = .ok (.if_icmp .ge 82, 3) := by decide +kernel
theorem dX2_readToken_87 : decode cX2_readToken 87 = .ok (.aload_n 0, 1) := by decide +kernel
theorem dX2_readToken_88 : decode cX2_readToken 88 = .ok (.aload_n 0, 1) := by decide +kernel
theorem dX2_readToken_89 : decode cX2_readToken 89 = .ok (.getfield 27, 3) := by decide +kernel
theorem dX2_readToken_92 : decode cX2_readToken 92 = .ok (.invokevirtual 43, 3) := by decide +kernel
theorem dX2_readToken_95 : decode cX2_readToken 95 = .ok (.invokestatic 53, 3) := by decide +kernel
theorem dX2_readToken_98 : decode cX2_readToken 98 = .ok (.ifCond .eq 68, 3) := by decide +kernel
theorem dX2_readToken_101 : decode cX2_readToken 101 = .ok (.aload_n 0, 1) := by decide +kernel
theorem dX2_readToken_102 : decode cX2_readToken 102 = .ok (.dup, 1) := by decide +kernel
theorem dX2_readToken_103 : decode cX2_readToken 103 = .ok (.getfield 27, 3) := by decide +kernel
theorem dX2_readToken_106 : decode cX2_readToken 106 = .ok (.iconst 1, 1) := by decide +kernel
theorem dX2_readToken_107 : decode cX2_readToken 107 = .ok (.iadd, 1) := by decide +kernel
theorem dX2_readToken_108 : decode cX2_readToken 108 = .ok (.putfield 27, 3) := by decide +kernel
theorem dX2_readToken_111 : decode cX2_readToken 111 = .ok (.goto (-35), 3) := by decide +kernel
theorem dX2_readToken_114 : decode cX2_readToken 114 = .ok (.aload_n 0, 1) := by decide +kernel
theorem dX2_readToken_115 : decode cX2_readToken 115 = .ok (.aload_n 0, 1) := by decide +kernel
theorem dX2_readToken_116 : decode cX2_readToken 116 = .ok (.getfield 24, 3) := by decide +kernel
theorem dX2_readToken_119 : decode cX2_readToken 119 = .ok (.invokevirtual 43, 3) := by decide +kernel
theorem dX2_readToken_122 : decode cX2_readToken 122 = .ok (.invokestatic 57, 3) := by decide +kernel
theorem dX2_readToken_125 : decode cX2_readToken 125 = .ok (.ifCond .eq 41, 3) := by decide +kernel
theorem dX2_readToken_128 : decode cX2_readToken 128 = .ok (.aload_n 0, 1) := by decide +kernel
theorem dX2_readToken_129 : decode cX2_readToken 129 = .ok (.getfield 27, 3) := by decide +kernel
theorem dX2_readToken_132 : decode cX2_readToken 132 = .ok (.aload_n 0, 1) := by decide +kernel
theorem dX2_readToken_133 : decode cX2_readToken 133 = .ok (.getfield 19, 3) := by decide +kernel
theorem dX2_readToken_136 : decode cX2_readToken 136 = .ok (.if_icmp .ge 30, 3) := by decide +kernel
theorem dX2_readToken_139 : decode cX2_readToken 139 = .ok (.aload_n 0, 1) := by decide +kernel
theorem dX2_readToken_140 : decode cX2_readToken 140 = .ok (.aload_n 0, 1) := by decide +kernel
theorem dX2_readToken_141 : decode cX2_readToken 141 = .ok (.getfield 27, 3) := by decide +kernel
theorem dX2_readToken_144 : decode cX2_readToken 144 = .ok (.invokevirtual 43, 3) := by decide +kernel
theorem dX2_readToken_147 : decode cX2_readToken 147 = .ok (.invokestatic 57, 3) := by decide +kernel
theorem dX2_readToken_150 : decode cX2_readToken 150 = .ok (.ifCond .eq 16, 3) := by decide +kernel
theorem dX2_readToken_153 : decode cX2_readToken 153 = .ok (.aload_n 0, 1) := by decide +kernel
end
section
theorem dX2_readToken_154 : decode cX2_readToken 154 = .ok (.dup, 1) := by decide +kernel
theorem dX2_readToken_155 : decode cX2_readToken 155 = .ok (.getfield 27, 3) := by decide +kernel
theorem dX2_readToken_158 : decode cX2_readToken 158 = .ok (.iconst 1, 1) := by decide +kernel
theorem dX2_readToken_159 : decode cX2_readToken 159 = .ok (.iadd, 1) := by decide +kernel
theorem dX2_readToken_160 : decode cX2_readToken 160 = .ok (.putfield 27, 3) := by decide +kernel
theorem dX2_readToken_163 : decode cX2_readToken 163 = .ok (.goto (-35), 3) := by decide +kernel
theorem dX2_readToken_166 : decode cX2_readToken 166 = .ok (.return_, 1) := by decide +kernel
set_option maxRecDepth 20000 in
theorem ggX2_commandOfToken_X2_wordOf : GoodIn wsX2_commandOfToken wsX2_wordOf := goodIn_r _ [4] (by decide +kernel) (by decide +kernel)
set_option maxRecDepth 20000 in
theorem gX2_commandOfToken_X2_wordOf : GoodIn wsX2_commandOfToken (va_wsS RX2 60 yX2_wordOf wsX2_wordOf) := goodIn_app (goodIn_of _ (by decide +kernel)) ggX2_commandOfToken_X2_wordOf
set_option maxRecDepth 20000 in
theorem ggX2_commandOfToken_X2_tokenIs : GoodIn wsX2_commandOfToken wsX2_tokenIs := goodIn_r _ [8, 9, 10, 11, 12, 13, 14, 15, 16, 17, 18, 19, 20, 21, 22, 23, 24, 25, 26, 27, 28, 29, 30, 31, 32, 33, 34, 35, 36, 37, 38, 39, 40, 41, 42, 43, 44, 45, 46, 47, 48, 49, 50, 51, 52, 53, 54, 55, 56, 57, 58, 59, 60, 61, 62, 3, 63, 64, 65, 66, 67, 68, 69, 70, 71] (by decide +kernel) (by decide +kernel)
set_option maxRecDepth 20000 in
theorem gX2_commandOfToken_X2_tokenIs : GoodIn wsX2_commandOfToken (wsV RX2 64 RX2 yX2_tokenIs wsX2_tokenIs) := goodIn_app (goodIn_of _ (by decide +kernel)) ggX2_commandOfToken_X2_tokenIs
theorem dX2_commandOfToken_0 : decode cX2_commandOfToken 0 = .ok (.iconst 0, 1) := by decide +kernel
theorem dX2_commandOfToken_1 : decode cX2_commandOfToken 1 = .ok (.istore_n 1, 1) := by decide +kernel
theorem dX2_commandOfToken_2 : decode cX2_commandOfToken 2 = .ok (.iload_n 1, 1) := by decide +kernel
theorem dX2_commandOfToken_3 : decode cX2_commandOfToken 3 = .ok (.bipush 6, 2) := by decide +kernel
theorem dX2_commandOfToken_5 : decode cX2_commandOfToken 5 = .ok (.if_icmp .ge 22, 3) := by decide +kernel
theorem dX2_commandOfToken_8 : decode cX2_commandOfToken 8 = .ok (.aload_n 0, 1) := by decide +kernel
theorem dX2_commandOfToken_9 : decode cX2_commandOfToken 9 = .ok (.iload_n 1, 1) := by decide +kernel
theorem dX2_commandOfToken_10 : decode cX2_commandOfToken 10 = .ok (.invokestatic 60, 3) := by decide +kernel
theorem dX2_commandOfToken_13 : decode cX2_commandOfToken 13 = .ok (.invokevirtual 64, 3) := by decide +kernel
theorem dX2_commandOfToken_16 : decode cX2_commandOfToken 16 = .ok (.ifCond .eq 5, 3) := by decide +kernel
theorem dX2_commandOfToken_19 : decode cX2_commandOfToken 19 = .ok (.iload_n 1, 1) := by decide +kernel
theorem dX2_commandOfToken_20 : decode cX2_commandOfToken 20 = .ok (.ireturn, 1) := by decide +kernel
theorem dX2_commandOfToken_21 : decode cX2_commandOfToken 21 = .ok (.iinc 1 1, 3) := by decide +kernel
theorem dX2_commandOfToken_24 : decode cX2_commandOfToken 24 = .ok (.goto (-22), 3) := by decide +kernel
theorem dX2_commandOfToken_27 : decode cX2_commandOfToken 27 = .ok (.bipush (-2), 2) := by decide +kernel
theorem dX2_commandOfToken_29 : decode cX2_commandOfToken 29 = .ok (.ireturn, 1) := by decide +kernel
set_option maxRecDepth 20000 in
theorem ggX2_tokenIs_J0_length_8abf5 : GoodIn wsX2_tokenIs wsJ0_length_8abf5 := goodIn_r _ [7, 8, 9, 10, 11, 6, 12, 13, 14] (by decide +kernel) (by decide +kernel)
set_option maxRecDepth 20000 in
theorem gX2_tokenIs_J0_length_8abf5 : GoodIn wsX2_tokenIs (wsV RX2 68 RJ0 yJ0_length_8abf5 wsJ0_length_8abf5) := goodIn_app (goodIn_of _ (by decide +kernel)) ggX2_tokenIs_J0_length_8abf5
set_option maxRecDepth 20000 in
theorem ggX2_tokenIs_J0_charAt_5068e : GoodIn wsX2_tokenIs wsJ0_charAt_5068e := goodIn_r _ [18, 8, 19, 20, 21, 6, 22, 13, 14, 23, 24, 25, 26, 27, 28, 29, 30, 31, 32, 33, 34, 35, 36, 37, 38, 39, 40, 41, 42, 43, 44, 45, 46, 47, 48, 49, 50, 51] (by decide +kernel) (by decide +kernel)
set_option maxRecDepth 20000 in
theorem gX2_tokenIs_J0_charAt_5068e : GoodIn wsX2_tokenIs (wsV RX2 72 RJ0 yJ0_charAt_5068e wsJ0_charAt_5068e) := goodIn_app (goodIn_of _ (by decide +kernel)) ggX2_tokenIs_J0_charAt_5068e
set_option maxRecDepth 20000 in
theorem ggX2_tokenIs_X2_signAt : GoodIn wsX2_tokenIs wsX2_signAt := goodIn_r _ [56, 57, 58, 59, 60, 61, 62, 63, 64] (by decide +kernel) (by decide +kernel)
set_option maxRecDepth 20000 in
theorem gX2_tokenIs_X2_signAt : GoodIn wsX2_tokenIs (wsV RX2 43 RX2 yX2_signAt wsX2_signAt) := goodIn_app (goodIn_of _ (by decide +kernel)) ggX2_tokenIs_X2_signAt
theorem dX2_tokenIs_0 : decode cX2_tokenIs 0 = .ok (.aload_n 1, 1) := by decide +kernel
theorem dX2_tokenIs_1 : decode cX2_tokenIs 1 = .ok (.invokevirtual 68, 3) := by decide +kernel
theorem dX2_tokenIs_4 : decode cX2_tokenIs 4 = .ok (.aload_n 0, 1) := by decide +kernel
theorem dX2_tokenIs_5 : decode cX2_tokenIs 5 = .ok (.getfield 27, 3) := by decide +kernel
theorem dX2_tokenIs_8 : decode cX2_tokenIs 8 = .ok (.aload_n 0, 1) := by decide +kernel
theorem dX2_tokenIs_9 : decode cX2_tokenIs 9 = .ok (.getfield 24, 3) := by decide +kernel
theorem dX2_tokenIs_12 : decode cX2_tokenIs 12 = .ok (.isub, 1) := by decide +kernel
theorem dX2_tokenIs_13 : decode cX2_tokenIs 13 = .ok (.if_icmp .eq 5, 3) := by decide +kernel
theorem dX2_tokenIs_16 : decode cX2_tokenIs 16 = .ok (.iconst 0, 1) := by decide +kernel
theorem dX2_tokenIs_17 : decode cX2_tokenIs 17 = .ok (.ireturn, 1) := by decide +kernel
theorem dX2_tokenIs_18 : decode cX2_tokenIs 18 = .ok (.iconst 0, 1) := by decide +kernel
theorem dX2_tokenIs_19 : decode cX2_tokenIs 19 = .ok (.istore_n 2, 1) := by decide +kernel
theorem dX2_tokenIs_20 : decode cX2_tokenIs 20 = .ok (.iload_n 2, 1) := by decide +kernel
theorem dX2_tokenIs_21 : decode cX2_tokenIs 21 = .ok (.aload_n 1, 1) := by decide +kernel
theorem dX2_tokenIs_22 : decode cX2_tokenIs 22 = .ok (.invokevirtual 68, 3) := by decide +kernel
theorem dX2_tokenIs_25 : decode cX2_tokenIs 25 = .ok (.if_icmp .ge 29, 3) := by decide +kernel
theorem dX2_tokenIs_28 : decode cX2_tokenIs 28 = .ok (.aload_n 1, 1) := by decide +kernel
theorem dX2_tokenIs_29 : decode cX2_tokenIs 29 = .ok (.iload_n 2, 1) := by decide +kernel
theorem dX2_tokenIs_30 : decode cX2_tokenIs 30 = .ok (.invokevirtual 72, 3) := by decide +kernel
theorem dX2_tokenIs_33 : decode cX2_tokenIs 33 = .ok (.aload_n 0, 1) := by decide +kernel
theorem dX2_tokenIs_34 : decode cX2_tokenIs 34 = .ok (.aload_n 0, 1) := by decide +kernel
theorem dX2_tokenIs_35 : decode cX2_tokenIs 35 = .ok (.getfield 24, 3) := by decide +kernel
theorem dX2_tokenIs_38 : decode cX2_tokenIs 38 = .ok (.iload_n 2, 1) := by decide +kernel
theorem dX2_tokenIs_39 : decode cX2_tokenIs 39 = .ok (.iadd, 1) := by decide +kernel
theorem dX2_tokenIs_40 : decode cX2_tokenIs 40 = .ok (.invokevirtual 43, 3) := by decide +kernel
theorem dX2_tokenIs_43 : decode cX2_tokenIs 43 = .ok (.if_icmp .eq 5, 3) := by decide +kernel
theorem dX2_tokenIs_46 : decode cX2_tokenIs 46 = .ok (.iconst 0, 1) := by decide +kernel
theorem dX2_tokenIs_47 : decode cX2_tokenIs 47 = .ok (.ireturn, 1) := by decide +kernel
theorem dX2_tokenIs_48 : decode cX2_tokenIs 48 = .ok (.iinc 2 1, 3) := by decide +kernel
theorem dX2_tokenIs_51 : decode cX2_tokenIs 51 = .ok (.goto (-31), 3) := by decide +kernel
theorem dX2_tokenIs_54 : decode cX2_tokenIs 54 = .ok (.iconst 1, 1) := by decide +kernel
theorem dX2_tokenIs_55 : decode cX2_tokenIs 55 = .ok (.ireturn, 1) := by decide +kernel
set_option maxRecDepth 20000 in
theorem ggX2_numberOfToken_X2_signAt : GoodIn wsX2_numberOfToken wsX2_signAt := goodIn_r _ [7, 8, 9, 13, 14, 15, 16, 17, 18] (by decide +kernel) (by decide +kernel)
set_option maxRecDepth 20000 in
theorem gX2_numberOfToken_X2_signAt : GoodIn wsX2_numberOfToken (wsV RX2 43 RX2 yX2_signAt wsX2_signAt) := goodIn_app (goodIn_of _ (by decide +kernel)) ggX2_numberOfToken_X2_signAt
set_option maxRecDepth 20000 in
theorem ggX2_numberOfToken_X2_isDigit : GoodIn wsX2_numberOfToken wsX2_isDigit := goodIn_r _ [12] (by decide +kernel) (by decide +kernel)
set_option maxRecDepth 20000 in
theorem gX2_numberOfToken_X2_isDigit : GoodIn wsX2_numberOfToken (va_wsS RX2 57 yX2_isDigit wsX2_isDigit) := goodIn_app (goodIn_of _ (by decide +kernel)) ggX2_numberOfToken_X2_isDigit
theorem dX2_numberOfToken_0 : decode cX2_numberOfToken 0 = .ok (.aload_n 0, 1) := by decide +kernel
theorem dX2_numberOfToken_1 : decode cX2_numberOfToken 1 = .ok (.getfield 27, 3) := by decide +kernel
theorem dX2_numberOfToken_4 : decode cX2_numberOfToken 4 = .ok (.aload_n 0, 1) := by decide +kernel
theorem dX2_numberOfToken_5 : decode cX2_numberOfToken 5 = .ok (.getfield 24, 3) := by decide +kernel
theorem dX2_numberOfToken_8 : decode cX2_numberOfToken 8 = .ok (.isub, 1) := by decide +kernel
theorem dX2_numberOfToken_9 : decode cX2_numberOfToken 9 = .ok (.istore_n 1, 1) := by decide +kernel
theorem dX2_numberOfToken_10 : decode cX2_numberOfToken 10 = .ok (.iload_n 1, 1) := by decide +kernel
theorem dX2_numberOfToken_11 : decode cX2_numberOfToken 11 = .ok (.iconst 1, 1) := by decide +kernel
theorem dX2_numberOfToken_12 : decode cX2_numberOfToken 12 = .ok (.if_icmp .lt 26, 3) := by decide +kernel
theorem dX2_numberOfToken_15 : decode cX2_numberOfToken 15 = .ok (.iload_n 1, 1) := by decide +kernel
theorem dX2_numberOfToken_16 : decode cX2_numberOfToken 16 = .ok (.iconst 4, 1) := by decide +kernel
theorem dX2_numberOfToken_17 : decode cX2_numberOfToken 17 = .ok (.if_icmp .gt 21, 3) := by decide +kernel
theorem dX2_numberOfToken_20 : decode cX2_numberOfToken 20 = .ok (.iload_n 1, 1) := by decide +kernel
theorem dX2_numberOfToken_21 : decode cX2_numberOfToken 21 = .ok (.iconst 1, 1) := by decide +kernel
theorem dX2_numberOfToken_22 : decode cX2_numberOfToken 22 = .ok (.if_icmp .le 18, 3) := by decide +kernel
theorem dX2_numberOfToken_25 : decode cX2_numberOfToken 25 = .ok (.aload_n 0, 1) := by decide +kernel
theorem dX2_numberOfToken_26 : decode cX2_numberOfToken 26 = .ok (.aload_n 0, 1) := by decide +kernel
theorem dX2_numberOfToken_27 : decode cX2_numberOfToken 27 = .ok (.getfield 24, 3) := by decide +kernel
theorem dX2_numberOfToken_30 : decode cX2_numberOfToken 30 = .ok (.invokevirtual 43, 3) := by decide +kernel
theorem dX2_numberOfToken_33 : decode cX2_numberOfToken 33 = .ok (.bipush 48, 2) := by decide +kernel
theorem dX2_numberOfToken_35 : decode cX2_numberOfToken 35 = .ok (.if_icmp .ne 5, 3) := by decide +kernel
theorem dX2_numberOfToken_38 : decode cX2_numberOfToken 38 = .ok (.iconst (-1), 1) := by decide +kernel
theorem dX2_numberOfToken_39 : decode cX2_numberOfToken 39 = .ok (.ireturn, 1) := by decide +kernel
theorem dX2_numberOfToken_40 : decode cX2_numberOfToken 40 = .ok (.iconst 0, 1) := by decide +kernel
theorem dX2_numberOfToken_41 : decode cX2_numberOfToken 41 = .ok (.istore_n 2, 1) := by decide +kernel
theorem dX2_numberOfToken_42 : decode cX2_numberOfToken 42 = .ok (.aload_n 0, 1) := by decide +kernel
theorem dX2_numberOfToken_43 : decode cX2_numberOfToken 43 = .ok (.getfield 24, 3) := by decide +kernel
theorem dX2_numberOfToken_46 : decode cX2_numberOfToken 46 = .ok (.istore_n 3, 1) := by decide +kernel
theorem dX2_numberOfToken_47 : decode cX2_numberOfToken 47 = .ok (.iload_n 3, 1) := by decide +kernel
theorem dX2_numberOfToken_48 : decode cX2_numberOfToken 48 = .ok (.aload_n 0, 1) := by decide +kernel
theorem dX2_numberOfToken_49 : decode cX2_numberOfToken 49 = .ok (.getfield 27, 3) := by decide +kernel
theorem dX2_numberOfToken_52 : decode cX2_numberOfToken 52 = .ok (.if_icmp .ge 36, 3) := by decide +kernel
theorem dX2_numberOfToken_55 : decode cX2_numberOfToken 55 = .ok (.aload_n 0, 1) := by decide +kernel
theorem dX2_numberOfToken_56 : decode cX2_numberOfToken 56 = .ok (.iload_n 3, 1) := by decide +kernel
theorem dX2_numberOfToken_57 : decode cX2_numberOfToken 57 = .ok (.invokevirtual 43, 3) := by decide +kernel
theorem dX2_numberOfToken_60 : decode cX2_numberOfToken 60 = .ok (.invokestatic 57, 3) := by decide +kernel
theorem dX2_numberOfToken_63 : decode cX2_numberOfToken 63 = .ok (.ifCond .ne 5, 3) := by decide +kernel
theorem dX2_numberOfToken_66 : decode cX2_numberOfToken 66 = .ok (.iconst (-1), 1) := by decide +kernel
theorem dX2_numberOfToken_67 : decode cX2_numberOfToken 67 = .ok (.ireturn, 1) := by decide +kernel
theorem dX2_numberOfToken_68 : decode cX2_numberOfToken 68 = .ok (.bipush 10, 2) := by decide +kernel
theorem dX2_numberOfToken_70 : decode cX2_numberOfToken 70 = .ok (.iload_n 2, 1) := by decide +kernel
theorem dX2_numberOfToken_71 : decode cX2_numberOfToken 71 = .ok (.imul, 1) := by decide +kernel
theorem dX2_numberOfToken_72 : decode cX2_numberOfToken 72 = .ok (.aload_n 0, 1) := by decide +kernel
theorem dX2_numberOfToken_73 : decode cX2_numberOfToken 73 = .ok (.iload_n 3, 1) := by decide +kernel
theorem dX2_numberOfToken_74 : decode cX2_numberOfToken 74 = .ok (.invokevirtual 43, 3) := by decide +kernel
theorem dX2_numberOfToken_77 : decode cX2_numberOfToken 77 = .ok (.iadd, 1) := by decide +kernel
theorem dX2_numberOfToken_78 : decode cX2_numberOfToken 78 = .ok (.bipush 48, 2) := by decide +kernel
theorem dX2_numberOfToken_80 : decode cX2_numberOfToken 80 = .ok (.isub, 1) := by decide +kernel
theorem dX2_numberOfToken_81 : decode cX2_numberOfToken 81 = .ok (.istore_n 2, 1) := by decide +kernel
theorem dX2_numberOfToken_82 : decode cX2_numberOfToken 82 = .ok (.iinc 3 1, 3) := by decide +kernel
theorem dX2_numberOfToken_85 : decode cX2_numberOfToken 85 = .ok (.goto (-38), 3) := by decide +kernel
theorem dX2_numberOfToken_88 : decode cX2_numberOfToken 88 = .ok (.iload_n 2, 1) := by decide +kernel
theorem dX2_numberOfToken_89 : decode cX2_numberOfToken 89 = .ok (.ireturn, 1) := by decide +kernel
theorem dX2_signAt_0 : decode cX2_signAt 0 = .ok (.iload_n 1, 1) := by decide +kernel
theorem dX2_signAt_1 : decode cX2_signAt 1 = .ok (.ifCond .lt 26, 3) := by decide +kernel
theorem dX2_signAt_4 : decode cX2_signAt 4 = .ok (.iload_n 1, 1) := by decide +kernel
theorem dX2_signAt_5 : decode cX2_signAt 5 = .ok (.aload_n 0, 1) := by decide +kernel
theorem dX2_signAt_6 : decode cX2_signAt 6 = .ok (.getfield 19, 3) := by decide +kernel
theorem dX2_signAt_9 : decode cX2_signAt 9 = .ok (.if_icmp .ge 18, 3) := by decide +kernel
theorem dX2_signAt_12 : decode cX2_signAt 12 = .ok (.iload_n 1, 1) := by decide +kernel
theorem dX2_signAt_13 : decode cX2_signAt 13 = .ok (.bipush 100, 2) := by decide +kernel
theorem dX2_signAt_15 : decode cX2_signAt 15 = .ok (.if_icmp .ge 12, 3) := by decide +kernel
theorem dX2_signAt_18 : decode cX2_signAt 18 = .ok (.aload_n 0, 1) := by decide +kernel
theorem dX2_signAt_19 : decode cX2_signAt 19 = .ok (.getfield 9, 3) := by decide +kernel
theorem dX2_signAt_22 : decode cX2_signAt 22 = .ok (.iload_n 1, 1) := by decide +kernel
theorem dX2_signAt_23 : decode cX2_signAt 23 = .ok (.caload, 1) := by decide +kernel
theorem dX2_signAt_24 : decode cX2_signAt 24 = .ok (.goto 4, 3) := by decide +kernel
theorem dX2_signAt_27 : decode cX2_signAt 27 = .ok (.iconst 0, 1) := by decide +kernel
theorem dX2_signAt_28 : decode cX2_signAt 28 = .ok (.ireturn, 1) := by decide +kernel
theorem dX2_isLetter_0 : decode cX2_isLetter 0 = .ok (.iload_n 0, 1) := by decide +kernel
theorem dX2_isLetter_1 : decode cX2_isLetter 1 = .ok (.bipush 97, 2) := by decide +kernel
theorem dX2_isLetter_3 : decode cX2_isLetter 3 = .ok (.if_icmp .lt 13, 3) := by decide +kernel
theorem dX2_isLetter_6 : decode cX2_isLetter 6 = .ok (.iload_n 0, 1) := by decide +kernel
theorem dX2_isLetter_7 : decode cX2_isLetter 7 = .ok (.bipush 122, 2) := by decide +kernel
theorem dX2_isLetter_9 : decode cX2_isLetter 9 = .ok (.if_icmp .gt 7, 3) := by decide +kernel
theorem dX2_isLetter_12 : decode cX2_isLetter 12 = .ok (.iconst 1, 1) := by decide +kernel
theorem dX2_isLetter_13 : decode cX2_isLetter 13 = .ok (.goto 4, 3) := by decide +kernel
theorem dX2_isLetter_16 : decode cX2_isLetter 16 = .ok (.iconst 0, 1) := by decide +kernel
theorem dX2_isLetter_17 : decode cX2_isLetter 17 = .ok (.ireturn, 1) := by decide +kernel
theorem dX2_isDigit_0 : decode cX2_isDigit 0 = .ok (.iload_n 0, 1) := by decide +kernel
theorem dX2_isDigit_1 : decode cX2_isDigit 1 = .ok (.bipush 48, 2) := by decide +kernel
theorem dX2_isDigit_3 : decode cX2_isDigit 3 = .ok (.if_icmp .lt 13, 3) := by decide +kernel
theorem dX2_isDigit_6 : decode cX2_isDigit 6 = .ok (.iload_n 0, 1) := by decide +kernel
theorem dX2_isDigit_7 : decode cX2_isDigit 7 = .ok (.bipush 57, 2) := by decide +kernel
theorem dX2_isDigit_9 : decode cX2_isDigit 9 = .ok (.if_icmp .gt 7, 3) := by decide +kernel
theorem dX2_isDigit_12 : decode cX2_isDigit 12 = .ok (.iconst 1, 1) := by decide +kernel
theorem dX2_isDigit_13 : decode cX2_isDigit 13 = .ok (.goto 4, 3) := by decide +kernel
theorem dX2_isDigit_16 : decode cX2_isDigit 16 = .ok (.iconst 0, 1) := by decide +kernel
theorem dX2_isDigit_17 : decode cX2_isDigit 17 = .ok (.ireturn, 1) := by decide +kernel
theorem dX2_wordOf_0 : decode cX2_wordOf 0 = .ok (.iload_n 0, 1) := by decide +kernel
theorem dX2_wordOf_1 : decode cX2_wordOf 1 = .ok (.tableswitch 50 0 4 #[35, 38, 41, 44, 47], 35) := by decide +kernel
theorem dX2_wordOf_36 : decode cX2_wordOf 36 = .ok (.ldc 75, 2) := by decide +kernel
theorem dX2_wordOf_38 : decode cX2_wordOf 38 = .ok (.areturn, 1) := by decide +kernel
theorem dX2_wordOf_39 : decode cX2_wordOf 39 = .ok (.ldc 77, 2) := by decide +kernel
theorem dX2_wordOf_41 : decode cX2_wordOf 41 = .ok (.areturn, 1) := by decide +kernel
theorem dX2_wordOf_42 : decode cX2_wordOf 42 = .ok (.ldc 79, 2) := by decide +kernel
theorem dX2_wordOf_44 : decode cX2_wordOf 44 = .ok (.areturn, 1) := by decide +kernel
theorem dX2_wordOf_45 : decode cX2_wordOf 45 = .ok (.ldc 81, 2) := by decide +kernel
theorem dX2_wordOf_47 : decode cX2_wordOf 47 = .ok (.areturn, 1) := by decide +kernel
theorem dX2_wordOf_48 : decode cX2_wordOf 48 = .ok (.ldc 83, 2) := by decide +kernel
theorem dX2_wordOf_50 : decode cX2_wordOf 50 = .ok (.areturn, 1) := by decide +kernel
theorem dX2_wordOf_51 : decode cX2_wordOf 51 = .ok (.ldc 85, 2) := by decide +kernel
theorem dX2_wordOf_53 : decode cX2_wordOf 53 = .ok (.areturn, 1) := by decide +kernel
set_option maxRecDepth 20000 in
theorem ggX3_init_X1_init : GoodIn wsX3_init wsX1_init := goodIn_r _ [11, 12, 2, 3, 13, 14, 15, 16, 17, 18, 19, 20, 21, 22, 23, 24, 25, 26, 27] (by decide +kernel) (by decide +kernel)
set_option maxRecDepth 20000 in
theorem gX3_init_X1_init : GoodIn wsX3_init (wsX1_init) := ggX3_init_X1_init
theorem dX3_init_0 : decode cX3_init 0 = .ok (.aload_n 0, 1) := by decide +kernel
theorem dX3_init_1 : decode cX3_init 1 = .ok (.invokespecial 3, 3) := by decide +kernel
theorem dX3_init_4 : decode cX3_init 4 = .ok (.aload_n 0, 1) := by decide +kernel
theorem dX3_init_5 : decode cX3_init 5 = .ok (.new 9, 3) := by decide +kernel
theorem dX3_init_8 : decode cX3_init 8 = .ok (.dup, 1) := by decide +kernel
theorem dX3_init_9 : decode cX3_init 9 = .ok (.invokespecial 11, 3) := by decide +kernel
theorem dX3_init_12 : decode cX3_init 12 = .ok (.putfield 12, 3) := by decide +kernel
theorem dX3_init_15 : decode cX3_init 15 = .ok (.aload_n 0, 1) := by decide +kernel
theorem dX3_init_16 : decode cX3_init 16 = .ok (.bipush 100, 2) := by decide +kernel
theorem dX3_init_18 : decode cX3_init 18 = .ok (.putfield 18, 3) := by decide +kernel
theorem dX3_init_21 : decode cX3_init 21 = .ok (.return_, 1) := by decide +kernel
set_option maxRecDepth 20000 in
theorem ggX3_copyFrom_X1_copyFrom : GoodIn wsX3_copyFrom wsX1_copyFrom := goodIn_r _ [9, 10, 11, 12, 13, 14, 15, 16, 17, 18, 19, 20, 25, 26, 27, 28, 29, 30, 31] (by decide +kernel) (by decide +kernel)
set_option maxRecDepth 20000 in
theorem gX3_copyFrom_X1_copyFrom : GoodIn wsX3_copyFrom (wsV RX3 22 RX1 yX1_copyFrom wsX1_copyFrom) := goodIn_app (goodIn_of _ (by decide +kernel)) ggX3_copyFrom_X1_copyFrom
theorem dX3_copyFrom_0 : decode cX3_copyFrom 0 = .ok (.aload_n 1, 1) := by decide +kernel
theorem dX3_copyFrom_1 : decode cX3_copyFrom 1 = .ok (.ifnonnull 4, 3) := by decide +kernel
theorem dX3_copyFrom_4 : decode cX3_copyFrom 4 = .ok (.return_, 1) := by decide +kernel
theorem dX3_copyFrom_5 : decode cX3_copyFrom 5 = .ok (.aload_n 0, 1) := by decide +kernel
theorem dX3_copyFrom_6 : decode cX3_copyFrom 6 = .ok (.getfield 12, 3) := by decide +kernel
theorem dX3_copyFrom_9 : decode cX3_copyFrom 9 = .ok (.aload_n 1, 1) := by decide +kernel
theorem dX3_copyFrom_10 : decode cX3_copyFrom 10 = .ok (.getfield 12, 3) := by decide +kernel
theorem dX3_copyFrom_13 : decode cX3_copyFrom 13 = .ok (.invokevirtual 22, 3) := by decide +kernel
theorem dX3_copyFrom_16 : decode cX3_copyFrom 16 = .ok (.aload_n 0, 1) := by decide +kernel
theorem dX3_copyFrom_17 : decode cX3_copyFrom 17 = .ok (.aload_n 1, 1) := by decide +kernel
theorem dX3_copyFrom_18 : decode cX3_copyFrom 18 = .ok (.getfield 18, 3) := by decide +kernel
theorem dX3_copyFrom_21 : decode cX3_copyFrom 21 = .ok (.putfield 18, 3) := by decide +kernel
theorem dX3_copyFrom_24 : decode cX3_copyFrom 24 = .ok (.aload_n 0, 1) := by decide +kernel
theorem dX3_copyFrom_25 : decode cX3_copyFrom 25 = .ok (.aload_n 1, 1) := by decide +kernel
theorem dX3_copyFrom_26 : decode cX3_copyFrom 26 = .ok (.getfield 26, 3) := by decide +kernel
theorem dX3_copyFrom_29 : decode cX3_copyFrom 29 = .ok (.putfield 26, 3) := by decide +kernel
theorem dX3_copyFrom_32 : decode cX3_copyFrom 32 = .ok (.aload_n 0, 1) := by decide +kernel
theorem dX3_copyFrom_33 : decode cX3_copyFrom 33 = .ok (.aload_n 1, 1) := by decide +kernel
theorem dX3_copyFrom_34 : decode cX3_copyFrom 34 = .ok (.getfield 29, 3) := by decide +kernel
theorem dX3_copyFrom_37 : decode cX3_copyFrom 37 = .ok (.putfield 29, 3) := by decide +kernel
theorem dX3_copyFrom_40 : decode cX3_copyFrom 40 = .ok (.return_, 1) := by decide +kernel
set_option maxRecDepth 20000 in
theorem ggX3_putIn_X4_isOutside : GoodIn wsX3_putIn wsX4_isOutside := goodIn_r _ [8] (by decide +kernel) (by decide +kernel)
set_option maxRecDepth 20000 in
theorem gX3_putIn_X4_isOutside_n35 : GoodIn wsX3_putIn (wsX4_isOutside) := ggX3_putIn_X4_isOutside
set_option maxRecDepth 20000 in
theorem ggX3_putIn_X1_isKind : GoodIn wsX3_putIn wsX1_isKind := goodIn_r _ [13] (by decide +kernel) (by decide +kernel)
set_option maxRecDepth 20000 in
theorem gX3_putIn_X1_isKind : GoodIn wsX3_putIn (wsV RX3 39 RX1 yX1_isKind wsX1_isKind) := goodIn_app (goodIn_of _ (by decide +kernel)) ggX3_putIn_X1_isKind
set_option maxRecDepth 20000 in
theorem ggX3_putIn_X1_insert : GoodIn wsX3_putIn wsX1_insert := goodIn_r _ [17, 18, 19, 20, 21, 22, 23, 24, 25, 82, 83, 84, 85, 86, 87, 88] (by decide +kernel) (by decide +kernel)
set_option maxRecDepth 20000 in
theorem gX3_putIn_X1_insert : GoodIn wsX3_putIn (wsV RX3 45 RX1 yX1_insert wsX1_insert) := goodIn_app (goodIn_of _ (by decide +kernel)) ggX3_putIn_X1_insert
set_option maxRecDepth 20000 in
theorem ggX3_putIn_X3_settle : GoodIn wsX3_putIn wsX3_settle := goodIn_r _ [30, 1, 2, 31, 32, 5, 33, 34, 35, 29, 36, 37, 38, 39, 12, 40, 25, 19, 41, 24, 42, 43, 44, 45, 46, 18, 47, 10, 11, 13, 48, 49, 50, 51, 52, 53, 54, 55, 56, 57, 58, 59, 60, 61, 62, 63, 64, 65, 66, 67, 68, 78, 79, 80, 81, 82, 83, 84, 85, 86, 87, 88] (by decide +kernel) (by decide +kernel)
set_option maxRecDepth 20000 in
theorem gX3_putIn_X3_settle : GoodIn wsX3_putIn (wsV RX3 49 RX3 yX3_settle wsX3_settle) := goodIn_app (goodIn_of _ (by decide +kernel)) ggX3_putIn_X3_settle
set_option maxRecDepth 20000 in
theorem ggX3_putIn_X1_total : GoodIn wsX3_putIn wsX1_total := goodIn_r _ [72, 18, 73, 74, 75, 12, 76, 77, 54, 55, 56, 25, 19, 24, 43, 44, 45, 46, 48, 49, 50, 51, 52, 57, 58, 59, 60, 42, 41, 82, 83, 84, 85, 86, 87, 88] (by decide +kernel) (by decide +kernel)
set_option maxRecDepth 20000 in
theorem gX3_putIn_X1_total : GoodIn wsX3_putIn (wsV RX3 52 RX1 yX1_total wsX1_total) := goodIn_app (goodIn_of _ (by decide +kernel)) ggX3_putIn_X1_total
theorem dX3_putIn_0 : decode cX3_putIn 0 = .ok (.iload_n 1, 1) := by decide +kernel
theorem dX3_putIn_1 : decode cX3_putIn 1 = .ok (.iconst 0, 1) := by decide +kernel
theorem dX3_putIn_2 : decode cX3_putIn 2 = .ok (.aload_n 0, 1) := by decide +kernel
theorem dX3_putIn_3 : decode cX3_putIn 3 = .ok (.getfield 12, 3) := by decide +kernel
theorem dX3_putIn_6 : decode cX3_putIn 6 = .ok (.getfield 32, 3) := by decide +kernel
theorem dX3_putIn_9 : decode cX3_putIn 9 = .ok (.invokestatic 35, 3) := by decide +kernel
theorem dX3_putIn_12 : decode cX3_putIn 12 = .ok (.ifCond .ne 25, 3) := by decide +kernel
theorem dX3_putIn_15 : decode cX3_putIn 15 = .ok (.aload_n 0, 1) := by decide +kernel
theorem dX3_putIn_16 : decode cX3_putIn 16 = .ok (.getfield 12, 3) := by decide +kernel
theorem dX3_putIn_19 : decode cX3_putIn 19 = .ok (.iload_n 2, 1) := by decide +kernel
theorem dX3_putIn_20 : decode cX3_putIn 20 = .ok (.invokevirtual 39, 3) := by decide +kernel
theorem dX3_putIn_23 : decode cX3_putIn 23 = .ok (.ifCond .eq 14, 3) := by decide +kernel
theorem dX3_putIn_26 : decode cX3_putIn 26 = .ok (.iload_n 3, 1) := by decide +kernel
theorem dX3_putIn_27 : decode cX3_putIn 27 = .ok (.iconst 0, 1) := by decide +kernel
theorem dX3_putIn_28 : decode cX3_putIn 28 = .ok (.sipush 400, 3) := by decide +kernel
theorem dX3_putIn_31 : decode cX3_putIn 31 = .ok (.invokestatic 35, 3) := by decide +kernel
theorem dX3_putIn_34 : decode cX3_putIn 34 = .ok (.ifCond .eq 6, 3) := by decide +kernel
theorem dX3_putIn_37 : decode cX3_putIn 37 = .ok (.ldc 43, 2) := by decide +kernel
theorem dX3_putIn_39 : decode cX3_putIn 39 = .ok (.ireturn, 1) := by decide +kernel
theorem dX3_putIn_40 : decode cX3_putIn 40 = .ok (.aload_n 0, 1) := by decide +kernel
theorem dX3_putIn_41 : decode cX3_putIn 41 = .ok (.getfield 12, 3) := by decide +kernel
theorem dX3_putIn_44 : decode cX3_putIn 44 = .ok (.getfield 32, 3) := by decide +kernel
theorem dX3_putIn_47 : decode cX3_putIn 47 = .ok (.bipush 100, 2) := by decide +kernel
theorem dX3_putIn_49 : decode cX3_putIn 49 = .ok (.if_icmp .lt 6, 3) := by decide +kernel
theorem dX3_putIn_52 : decode cX3_putIn 52 = .ok (.ldc 44, 2) := by decide +kernel
theorem dX3_putIn_54 : decode cX3_putIn 54 = .ok (.ireturn, 1) := by decide +kernel
theorem dX3_putIn_55 : decode cX3_putIn 55 = .ok (.aload_n 0, 1) := by decide +kernel
theorem dX3_putIn_56 : decode cX3_putIn 56 = .ok (.getfield 12, 3) := by decide +kernel
theorem dX3_putIn_59 : decode cX3_putIn 59 = .ok (.getfield 32, 3) := by decide +kernel
theorem dX3_putIn_62 : decode cX3_putIn 62 = .ok (.ifCond .le 21, 3) := by decide +kernel
theorem dX3_putIn_65 : decode cX3_putIn 65 = .ok (.iload_n 1, 1) := by decide +kernel
theorem dX3_putIn_66 : decode cX3_putIn 66 = .ok (.aload_n 0, 1) := by decide +kernel
theorem dX3_putIn_67 : decode cX3_putIn 67 = .ok (.getfield 26, 3) := by decide +kernel
theorem dX3_putIn_70 : decode cX3_putIn 70 = .ok (.if_icmp .gt 13, 3) := by decide +kernel
theorem dX3_putIn_73 : decode cX3_putIn 73 = .ok (.aload_n 0, 1) := by decide +kernel
theorem dX3_putIn_74 : decode cX3_putIn 74 = .ok (.dup, 1) := by decide +kernel
theorem dX3_putIn_75 : decode cX3_putIn 75 = .ok (.getfield 26, 3) := by decide +kernel
theorem dX3_putIn_78 : decode cX3_putIn 78 = .ok (.iconst 1, 1) := by decide +kernel
theorem dX3_putIn_79 : decode cX3_putIn 79 = .ok (.iadd, 1) := by decide +kernel
theorem dX3_putIn_80 : decode cX3_putIn 80 = .ok (.putfield 26, 3) := by decide +kernel
theorem dX3_putIn_83 : decode cX3_putIn 83 = .ok (.aload_n 0, 1) := by decide +kernel
theorem dX3_putIn_84 : decode cX3_putIn 84 = .ok (.getfield 12, 3) := by decide +kernel
theorem dX3_putIn_87 : decode cX3_putIn 87 = .ok (.iload_n 1, 1) := by decide +kernel
theorem dX3_putIn_88 : decode cX3_putIn 88 = .ok (.iload_n 2, 1) := by decide +kernel
theorem dX3_putIn_89 : decode cX3_putIn 89 = .ok (.iload_n 3, 1) := by decide +kernel
theorem dX3_putIn_90 : decode cX3_putIn 90 = .ok (.invokevirtual 45, 3) := by decide +kernel
theorem dX3_putIn_93 : decode cX3_putIn 93 = .ok (.aload_n 0, 1) := by decide +kernel
theorem dX3_putIn_94 : decode cX3_putIn 94 = .ok (.invokevirtual 49, 3) := by decide +kernel
theorem dX3_putIn_97 : decode cX3_putIn 97 = .ok (.aload_n 0, 1) := by decide +kernel
theorem dX3_putIn_98 : decode cX3_putIn 98 = .ok (.getfield 12, 3) := by decide +kernel
theorem dX3_putIn_101 : decode cX3_putIn 101 = .ok (.invokevirtual 52, 3) := by decide +kernel
theorem dX3_putIn_104 : decode cX3_putIn 104 = .ok (.ireturn, 1) := by decide +kernel
set_option maxRecDepth 20000 in
theorem ggX3_takeOut_X1_isLine : GoodIn wsX3_takeOut wsX1_isLine := goodIn_r _ [10, 11, 73, 74, 75, 76, 77, 78, 79] (by decide +kernel) (by decide +kernel)
set_option maxRecDepth 20000 in
theorem gX3_takeOut_X1_isLine : GoodIn wsX3_takeOut (wsV RX3 56 RX1 yX1_isLine wsX1_isLine) := goodIn_app (goodIn_of _ (by decide +kernel)) ggX3_takeOut_X1_isLine
set_option maxRecDepth 20000 in
theorem ggX3_takeOut_X1_remove : GoodIn wsX3_takeOut wsX1_remove := goodIn_r _ [15, 11, 16, 17, 18, 19, 20, 21, 22, 23, 7, 8, 9, 10, 24, 25, 26, 27, 28, 29, 30, 31, 32, 33, 34, 35, 36, 37, 38, 73, 74, 75, 76, 77, 78, 79] (by decide +kernel) (by decide +kernel)
set_option maxRecDepth 20000 in
theorem gX3_takeOut_X1_remove : GoodIn wsX3_takeOut (wsV RX3 59 RX1 yX1_remove wsX1_remove) := goodIn_app (goodIn_of _ (by decide +kernel)) ggX3_takeOut_X1_remove
set_option maxRecDepth 20000 in
theorem ggX3_takeOut_X3_settle : GoodIn wsX3_takeOut wsX3_settle := goodIn_r _ [43, 1, 3, 5, 44, 4, 45, 46, 47, 42, 48, 49, 50, 51, 9, 52, 22, 16, 28, 21, 29, 23, 7, 8, 10, 11, 30, 31, 32, 33, 34, 35, 36, 37, 38, 53, 54, 55, 56, 57, 58, 59, 60, 61, 62, 63, 64, 65, 66, 67, 68, 69, 70, 71, 72, 73, 74, 75, 76, 77, 78, 79] (by decide +kernel) (by decide +kernel)
set_option maxRecDepth 20000 in
theorem gX3_takeOut_X3_settle : GoodIn wsX3_takeOut (wsV RX3 49 RX3 yX3_settle wsX3_settle) := goodIn_app (goodIn_of _ (by decide +kernel)) ggX3_takeOut_X3_settle
theorem dX3_takeOut_0 : decode cX3_takeOut 0 = .ok (.aload_n 0, 1) := by decide +kernel
theorem dX3_takeOut_1 : decode cX3_takeOut 1 = .ok (.getfield 12, 3) := by decide +kernel
theorem dX3_takeOut_4 : decode cX3_takeOut 4 = .ok (.iload_n 1, 1) := by decide +kernel
theorem dX3_takeOut_5 : decode cX3_takeOut 5 = .ok (.invokevirtual 56, 3) := by decide +kernel
theorem dX3_takeOut_8 : decode cX3_takeOut 8 = .ok (.ifCond .ne 6, 3) := by decide +kernel
theorem dX3_takeOut_11 : decode cX3_takeOut 11 = .ok (.ldc 43, 2) := by decide +kernel
theorem dX3_takeOut_13 : decode cX3_takeOut 13 = .ok (.ireturn, 1) := by decide +kernel
theorem dX3_takeOut_14 : decode cX3_takeOut 14 = .ok (.iload_n 1, 1) := by decide +kernel
theorem dX3_takeOut_15 : decode cX3_takeOut 15 = .ok (.aload_n 0, 1) := by decide +kernel
theorem dX3_takeOut_16 : decode cX3_takeOut 16 = .ok (.getfield 12, 3) := by decide +kernel
theorem dX3_takeOut_19 : decode cX3_takeOut 19 = .ok (.getfield 32, 3) := by decide +kernel
theorem dX3_takeOut_22 : decode cX3_takeOut 22 = .ok (.iconst 1, 1) := by decide +kernel
theorem dX3_takeOut_23 : decode cX3_takeOut 23 = .ok (.isub, 1) := by decide +kernel
theorem dX3_takeOut_24 : decode cX3_takeOut 24 = .ok (.if_icmp .ne 7, 3) := by decide +kernel
theorem dX3_takeOut_27 : decode cX3_takeOut 27 = .ok (.iconst 1, 1) := by decide +kernel
theorem dX3_takeOut_28 : decode cX3_takeOut 28 = .ok (.goto 4, 3) := by decide +kernel
theorem dX3_takeOut_31 : decode cX3_takeOut 31 = .ok (.iconst 0, 1) := by decide +kernel
theorem dX3_takeOut_32 : decode cX3_takeOut 32 = .ok (.istore_n 2, 1) := by decide +kernel
theorem dX3_takeOut_33 : decode cX3_takeOut 33 = .ok (.aload_n 0, 1) := by decide +kernel
theorem dX3_takeOut_34 : decode cX3_takeOut 34 = .ok (.getfield 12, 3) := by decide +kernel
theorem dX3_takeOut_37 : decode cX3_takeOut 37 = .ok (.iload_n 1, 1) := by decide +kernel
theorem dX3_takeOut_38 : decode cX3_takeOut 38 = .ok (.invokevirtual 59, 3) := by decide +kernel
theorem dX3_takeOut_41 : decode cX3_takeOut 41 = .ok (.iload_n 1, 1) := by decide +kernel
theorem dX3_takeOut_42 : decode cX3_takeOut 42 = .ok (.aload_n 0, 1) := by decide +kernel
theorem dX3_takeOut_43 : decode cX3_takeOut 43 = .ok (.getfield 26, 3) := by decide +kernel
theorem dX3_takeOut_46 : decode cX3_takeOut 46 = .ok (.if_icmp .ne 8, 3) := by decide +kernel
theorem dX3_takeOut_49 : decode cX3_takeOut 49 = .ok (.aload_n 0, 1) := by decide +kernel
theorem dX3_takeOut_50 : decode cX3_takeOut 50 = .ok (.iconst 0, 1) := by decide +kernel
theorem dX3_takeOut_51 : decode cX3_takeOut 51 = .ok (.putfield 29, 3) := by decide +kernel
theorem dX3_takeOut_54 : decode cX3_takeOut 54 = .ok (.iload_n 1, 1) := by decide +kernel
theorem dX3_takeOut_55 : decode cX3_takeOut 55 = .ok (.aload_n 0, 1) := by decide +kernel
theorem dX3_takeOut_56 : decode cX3_takeOut 56 = .ok (.getfield 26, 3) := by decide +kernel
theorem dX3_takeOut_59 : decode cX3_takeOut 59 = .ok (.if_icmp .lt 22, 3) := by decide +kernel
theorem dX3_takeOut_62 : decode cX3_takeOut 62 = .ok (.iload_n 1, 1) := by decide +kernel
theorem dX3_takeOut_63 : decode cX3_takeOut 63 = .ok (.aload_n 0, 1) := by decide +kernel
theorem dX3_takeOut_64 : decode cX3_takeOut 64 = .ok (.getfield 26, 3) := by decide +kernel
theorem dX3_takeOut_67 : decode cX3_takeOut 67 = .ok (.if_icmp .ne 24, 3) := by decide +kernel
theorem dX3_takeOut_70 : decode cX3_takeOut 70 = .ok (.iload_n 2, 1) := by decide +kernel
theorem dX3_takeOut_71 : decode cX3_takeOut 71 = .ok (.ifCond .eq 20, 3) := by decide +kernel
theorem dX3_takeOut_74 : decode cX3_takeOut 74 = .ok (.aload_n 0, 1) := by decide +kernel
theorem dX3_takeOut_75 : decode cX3_takeOut 75 = .ok (.getfield 26, 3) := by decide +kernel
theorem dX3_takeOut_78 : decode cX3_takeOut 78 = .ok (.ifCond .le 13, 3) := by decide +kernel
theorem dX3_takeOut_81 : decode cX3_takeOut 81 = .ok (.aload_n 0, 1) := by decide +kernel
theorem dX3_takeOut_82 : decode cX3_takeOut 82 = .ok (.dup, 1) := by decide +kernel
theorem dX3_takeOut_83 : decode cX3_takeOut 83 = .ok (.getfield 26, 3) := by decide +kernel
theorem dX3_takeOut_86 : decode cX3_takeOut 86 = .ok (.iconst 1, 1) := by decide +kernel
theorem dX3_takeOut_87 : decode cX3_takeOut 87 = .ok (.isub, 1) := by decide +kernel
theorem dX3_takeOut_88 : decode cX3_takeOut 88 = .ok (.putfield 26, 3) := by decide +kernel
theorem dX3_takeOut_91 : decode cX3_takeOut 91 = .ok (.aload_n 0, 1) := by decide +kernel
theorem dX3_takeOut_92 : decode cX3_takeOut 92 = .ok (.invokevirtual 49, 3) := by decide +kernel
theorem dX3_takeOut_95 : decode cX3_takeOut 95 = .ok (.aload_n 0, 1) := by decide +kernel
theorem dX3_takeOut_96 : decode cX3_takeOut 96 = .ok (.getfield 12, 3) := by decide +kernel
theorem dX3_takeOut_99 : decode cX3_takeOut 99 = .ok (.getfield 32, 3) := by decide +kernel
theorem dX3_takeOut_102 : decode cX3_takeOut 102 = .ok (.ireturn, 1) := by decide +kernel
set_option maxRecDepth 20000 in
theorem ggX3_changeLength_X1_isLine : GoodIn wsX3_changeLength wsX1_isLine := goodIn_r _ [8, 9, 73, 74, 75, 76, 77, 78, 79] (by decide +kernel) (by decide +kernel)
set_option maxRecDepth 20000 in
theorem gX3_changeLength_X1_isLine : GoodIn wsX3_changeLength (wsV RX3 56 RX1 yX1_isLine wsX1_isLine) := goodIn_app (goodIn_of _ (by decide +kernel)) ggX3_changeLength_X1_isLine
set_option maxRecDepth 20000 in
theorem ggX3_changeLength_X4_isOutside : GoodIn wsX3_changeLength wsX4_isOutside := goodIn_r _ [12] (by decide +kernel) (by decide +kernel)
set_option maxRecDepth 20000 in
theorem gX3_changeLength_X4_isOutside_n35 : GoodIn wsX3_changeLength (wsX4_isOutside) := ggX3_changeLength_X4_isOutside
set_option maxRecDepth 20000 in
theorem ggX3_changeLength_X1_setLength : GoodIn wsX3_changeLength wsX1_setLength := goodIn_r _ [16, 17, 18, 5, 6, 7, 8, 9, 19, 20, 21, 22, 23, 24, 25, 26, 27, 28, 29, 30, 31, 32, 33, 34, 35, 73, 74, 75, 76, 77, 78, 79] (by decide +kernel) (by decide +kernel)
set_option maxRecDepth 20000 in
theorem gX3_changeLength_X1_setLength : GoodIn wsX3_changeLength (wsV RX3 67 RX1 yX1_setLength wsX1_setLength) := goodIn_app (goodIn_of _ (by decide +kernel)) ggX3_changeLength_X1_setLength
set_option maxRecDepth 20000 in
theorem ggX3_changeLength_X3_settle : GoodIn wsX3_changeLength wsX3_settle := goodIn_r _ [40, 1, 41, 42, 43, 44, 45, 46, 47, 39, 48, 49, 50, 51, 7, 52, 23, 24, 25, 17, 26, 18, 5, 6, 8, 9, 27, 28, 29, 30, 31, 32, 33, 34, 35, 53, 54, 55, 56, 57, 58, 59, 60, 61, 62, 63, 64, 65, 66, 67, 68, 69, 70, 71, 72, 73, 74, 75, 76, 77, 78, 79] (by decide +kernel) (by decide +kernel)
set_option maxRecDepth 20000 in
theorem gX3_changeLength_X3_settle : GoodIn wsX3_changeLength (wsV RX3 49 RX3 yX3_settle wsX3_settle) := goodIn_app (goodIn_of _ (by decide +kernel)) ggX3_changeLength_X3_settle
theorem dX3_changeLength_0 : decode cX3_changeLength 0 = .ok (.aload_n 0, 1) := by decide +kernel
theorem dX3_changeLength_1 : decode cX3_changeLength 1 = .ok (.getfield 12, 3) := by decide +kernel
theorem dX3_changeLength_4 : decode cX3_changeLength 4 = .ok (.iload_n 1, 1) := by decide +kernel
theorem dX3_changeLength_5 : decode cX3_changeLength 5 = .ok (.invokevirtual 56, 3) := by decide +kernel
theorem dX3_changeLength_8 : decode cX3_changeLength 8 = .ok (.ifCond .eq 14, 3) := by decide +kernel
theorem dX3_changeLength_11 : decode cX3_changeLength 11 = .ok (.iload_n 2, 1) := by decide +kernel
theorem dX3_changeLength_12 : decode cX3_changeLength 12 = .ok (.iconst 0, 1) := by decide +kernel
theorem dX3_changeLength_13 : decode cX3_changeLength 13 = .ok (.sipush 400, 3) := by decide +kernel
theorem dX3_changeLength_16 : decode cX3_changeLength 16 = .ok (.invokestatic 35, 3) := by decide +kernel
theorem dX3_changeLength_19 : decode cX3_changeLength 19 = .ok (.ifCond .eq 6, 3) := by decide +kernel
theorem dX3_changeLength_22 : decode cX3_changeLength 22 = .ok (.ldc 43, 2) := by decide +kernel
theorem dX3_changeLength_24 : decode cX3_changeLength 24 = .ok (.ireturn, 1) := by decide +kernel
theorem dX3_changeLength_25 : decode cX3_changeLength 25 = .ok (.aload_n 0, 1) := by decide +kernel
theorem dX3_changeLength_26 : decode cX3_changeLength 26 = .ok (.getfield 12, 3) := by decide +kernel
theorem dX3_changeLength_29 : decode cX3_changeLength 29 = .ok (.getfield 63, 3) := by decide +kernel
theorem dX3_changeLength_32 : decode cX3_changeLength 32 = .ok (.iload_n 1, 1) := by decide +kernel
theorem dX3_changeLength_33 : decode cX3_changeLength 33 = .ok (.iaload, 1) := by decide +kernel
theorem dX3_changeLength_34 : decode cX3_changeLength 34 = .ok (.istore_n 3, 1) := by decide +kernel
theorem dX3_changeLength_35 : decode cX3_changeLength 35 = .ok (.aload_n 0, 1) := by decide +kernel
theorem dX3_changeLength_36 : decode cX3_changeLength 36 = .ok (.getfield 12, 3) := by decide +kernel
theorem dX3_changeLength_39 : decode cX3_changeLength 39 = .ok (.iload_n 1, 1) := by decide +kernel
theorem dX3_changeLength_40 : decode cX3_changeLength 40 = .ok (.iload_n 2, 1) := by decide +kernel
theorem dX3_changeLength_41 : decode cX3_changeLength 41 = .ok (.invokevirtual 67, 3) := by decide +kernel
theorem dX3_changeLength_44 : decode cX3_changeLength 44 = .ok (.aload_n 0, 1) := by decide +kernel
theorem dX3_changeLength_45 : decode cX3_changeLength 45 = .ok (.invokevirtual 49, 3) := by decide +kernel
theorem dX3_changeLength_48 : decode cX3_changeLength 48 = .ok (.iload_n 3, 1) := by decide +kernel
theorem dX3_changeLength_49 : decode cX3_changeLength 49 = .ok (.ireturn, 1) := by decide +kernel
set_option maxRecDepth 20000 in
theorem ggX3_changeHeight_X4_isOutside : GoodIn wsX3_changeHeight wsX4_isOutside := goodIn_r _ [5] (by decide +kernel) (by decide +kernel)
set_option maxRecDepth 20000 in
theorem gX3_changeHeight_X4_isOutside_n35 : GoodIn wsX3_changeHeight (wsX4_isOutside) := ggX3_changeHeight_X4_isOutside
set_option maxRecDepth 20000 in
theorem ggX3_changeHeight_X3_settle : GoodIn wsX3_changeHeight wsX3_settle := goodIn_r _ [10, 11, 12, 13, 2, 14, 15, 16, 17, 9, 18, 19, 20, 21, 22, 23, 24, 25, 26, 27, 28, 29, 30, 31, 32, 33, 34, 35, 36, 37, 38, 39, 40, 41, 42, 43, 44, 45, 46, 47, 48, 49, 50, 51, 52, 53, 54, 55, 56, 57, 58, 59, 60, 61, 62, 63, 64, 65, 66, 67, 68, 69] (by decide +kernel) (by decide +kernel)
set_option maxRecDepth 20000 in
theorem gX3_changeHeight_X3_settle : GoodIn wsX3_changeHeight (wsV RX3 49 RX3 yX3_settle wsX3_settle) := goodIn_app (goodIn_of _ (by decide +kernel)) ggX3_changeHeight_X3_settle
theorem dX3_changeHeight_0 : decode cX3_changeHeight 0 = .ok (.iload_n 1, 1) := by decide +kernel
theorem dX3_changeHeight_1 : decode cX3_changeHeight 1 = .ok (.bipush 20, 2) := by decide +kernel
theorem dX3_changeHeight_3 : decode cX3_changeHeight 3 = .ok (.sipush 600, 3) := by decide +kernel
theorem dX3_changeHeight_6 : decode cX3_changeHeight 6 = .ok (.invokestatic 35, 3) := by decide +kernel
theorem dX3_changeHeight_9 : decode cX3_changeHeight 9 = .ok (.ifCond .eq 6, 3) := by decide +kernel
theorem dX3_changeHeight_12 : decode cX3_changeHeight 12 = .ok (.ldc 43, 2) := by decide +kernel
theorem dX3_changeHeight_14 : decode cX3_changeHeight 14 = .ok (.ireturn, 1) := by decide +kernel
theorem dX3_changeHeight_15 : decode cX3_changeHeight 15 = .ok (.aload_n 0, 1) := by decide +kernel
theorem dX3_changeHeight_16 : decode cX3_changeHeight 16 = .ok (.getfield 18, 3) := by decide +kernel
theorem dX3_changeHeight_19 : decode cX3_changeHeight 19 = .ok (.istore_n 2, 1) := by decide +kernel
theorem dX3_changeHeight_20 : decode cX3_changeHeight 20 = .ok (.aload_n 0, 1) := by decide +kernel
theorem dX3_changeHeight_21 : decode cX3_changeHeight 21 = .ok (.iload_n 1, 1) := by decide +kernel
theorem dX3_changeHeight_22 : decode cX3_changeHeight 22 = .ok (.putfield 18, 3) := by decide +kernel
theorem dX3_changeHeight_25 : decode cX3_changeHeight 25 = .ok (.aload_n 0, 1) := by decide +kernel
theorem dX3_changeHeight_26 : decode cX3_changeHeight 26 = .ok (.invokevirtual 49, 3) := by decide +kernel
theorem dX3_changeHeight_29 : decode cX3_changeHeight 29 = .ok (.iload_n 2, 1) := by decide +kernel
theorem dX3_changeHeight_30 : decode cX3_changeHeight 30 = .ok (.ireturn, 1) := by decide +kernel
set_option maxRecDepth 20000 in
theorem ggX3_changeWidth_X4_isOutside : GoodIn wsX3_changeWidth wsX4_isOutside := goodIn_r _ [6] (by decide +kernel) (by decide +kernel)
set_option maxRecDepth 20000 in
theorem gX3_changeWidth_X4_isOutside_n35 : GoodIn wsX3_changeWidth (wsX4_isOutside) := ggX3_changeWidth_X4_isOutside
set_option maxRecDepth 20000 in
theorem ggX3_changeWidth_X1_forgetAllFor : GoodIn wsX3_changeWidth wsX1_forgetAllFor := goodIn_r _ [11, 12, 13, 14, 15, 16, 10, 17, 18, 19, 20, 21, 22, 23, 24, 25, 26, 27, 28, 29, 30, 31, 32, 33, 34, 72, 73, 74, 75, 76, 77, 78] (by decide +kernel) (by decide +kernel)
set_option maxRecDepth 20000 in
theorem gX3_changeWidth_X1_forgetAllFor : GoodIn wsX3_changeWidth (wsV RX3 74 RX1 yX1_forgetAllFor wsX1_forgetAllFor) := goodIn_app (goodIn_of _ (by decide +kernel)) ggX3_changeWidth_X1_forgetAllFor
set_option maxRecDepth 20000 in
theorem ggX3_changeWidth_X3_settle : GoodIn wsX3_changeWidth wsX3_settle := goodIn_r _ [39, 2, 40, 41, 42, 43, 44, 45, 46, 38, 47, 48, 49, 50, 10, 51, 18, 19, 20, 21, 22, 23, 24, 25, 26, 12, 27, 28, 29, 30, 31, 32, 33, 34, 13, 52, 53, 54, 55, 56, 57, 58, 59, 60, 61, 62, 63, 64, 65, 66, 67, 68, 69, 70, 71, 72, 73, 74, 75, 76, 77, 78] (by decide +kernel) (by decide +kernel)
set_option maxRecDepth 20000 in
theorem gX3_changeWidth_X3_settle : GoodIn wsX3_changeWidth (wsV RX3 49 RX3 yX3_settle wsX3_settle) := goodIn_app (goodIn_of _ (by decide +kernel)) ggX3_changeWidth_X3_settle
theorem dX3_changeWidth_0 : decode cX3_changeWidth 0 = .ok (.iload_n 1, 1) := by decide +kernel
theorem dX3_changeWidth_1 : decode cX3_changeWidth 1 = .ok (.iconst 5, 1) := by decide +kernel
theorem dX3_changeWidth_2 : decode cX3_changeWidth 2 = .ok (.bipush 80, 2) := by decide +kernel
theorem dX3_changeWidth_4 : decode cX3_changeWidth 4 = .ok (.invokestatic 35, 3) := by decide +kernel
theorem dX3_changeWidth_7 : decode cX3_changeWidth 7 = .ok (.ifCond .eq 6, 3) := by decide +kernel
theorem dX3_changeWidth_10 : decode cX3_changeWidth 10 = .ok (.ldc 43, 2) := by decide +kernel
theorem dX3_changeWidth_12 : decode cX3_changeWidth 12 = .ok (.ireturn, 1) := by decide +kernel
theorem dX3_changeWidth_13 : decode cX3_changeWidth 13 = .ok (.aload_n 0, 1) := by decide +kernel
theorem dX3_changeWidth_14 : decode cX3_changeWidth 14 = .ok (.getfield 12, 3) := by decide +kernel
theorem dX3_changeWidth_17 : decode cX3_changeWidth 17 = .ok (.getfield 71, 3) := by decide +kernel
theorem dX3_changeWidth_20 : decode cX3_changeWidth 20 = .ok (.istore_n 2, 1) := by decide +kernel
theorem dX3_changeWidth_21 : decode cX3_changeWidth 21 = .ok (.aload_n 0, 1) := by decide +kernel
theorem dX3_changeWidth_22 : decode cX3_changeWidth 22 = .ok (.getfield 12, 3) := by decide +kernel
theorem dX3_changeWidth_25 : decode cX3_changeWidth 25 = .ok (.iload_n 1, 1) := by decide +kernel
theorem dX3_changeWidth_26 : decode cX3_changeWidth 26 = .ok (.invokevirtual 74, 3) := by decide +kernel
theorem dX3_changeWidth_29 : decode cX3_changeWidth 29 = .ok (.aload_n 0, 1) := by decide +kernel
theorem dX3_changeWidth_30 : decode cX3_changeWidth 30 = .ok (.invokevirtual 49, 3) := by decide +kernel
theorem dX3_changeWidth_33 : decode cX3_changeWidth 33 = .ok (.iload_n 2, 1) := by decide +kernel
theorem dX3_changeWidth_34 : decode cX3_changeWidth 34 = .ok (.ireturn, 1) := by decide +kernel
set_option maxRecDepth 20000 in
theorem ggX3_moveBy_X4_isOutside : GoodIn wsX3_moveBy wsX4_isOutside := goodIn_r _ [9] (by decide +kernel) (by decide +kernel)
set_option maxRecDepth 20000 in
theorem gX3_moveBy_X4_isOutside_n35 : GoodIn wsX3_moveBy (wsX4_isOutside) := ggX3_moveBy_X4_isOutside
set_option maxRecDepth 20000 in
theorem ggX3_moveBy_X3_climb : GoodIn wsX3_moveBy wsX3_climb := goodIn_r _ [14, 6, 5, 2, 15, 16, 17, 18, 19, 20, 21, 22, 23, 24, 25, 26, 27, 28, 29, 30, 31, 32, 33, 34, 35, 36, 37, 38, 39, 40, 41, 42, 43, 44, 45, 46, 47, 48, 49, 50, 60, 61, 62, 63, 64, 65, 66, 67, 68, 69, 70] (by decide +kernel) (by decide +kernel)
set_option maxRecDepth 20000 in
theorem gX3_moveBy_X3_climb : GoodIn wsX3_moveBy (wsV RX3 78 RX3 yX3_climb wsX3_climb) := goodIn_app (goodIn_of _ (by decide +kernel)) ggX3_moveBy_X3_climb
set_option maxRecDepth 20000 in
theorem ggX3_moveBy_X3_settle : GoodIn wsX3_moveBy wsX3_settle := goodIn_r _ [54, 2, 3, 5, 55, 6, 56, 57, 58, 13, 59, 19, 20, 21, 22, 23, 24, 25, 26, 27, 28, 29, 30, 31, 32, 33, 34, 35, 36, 37, 38, 39, 40, 41, 42, 43, 44, 45, 46, 47, 48, 49, 50, 10, 11, 12, 14, 15, 16, 17, 18, 60, 61, 62, 63, 64, 65, 66, 67, 68, 69, 70] (by decide +kernel) (by decide +kernel)
set_option maxRecDepth 20000 in
theorem gX3_moveBy_X3_settle : GoodIn wsX3_moveBy (wsV RX3 49 RX3 yX3_settle wsX3_settle) := goodIn_app (goodIn_of _ (by decide +kernel)) ggX3_moveBy_X3_settle
theorem dX3_moveBy_0 : decode cX3_moveBy 0 = .ok (.iload_n 1, 1) := by decide +kernel
theorem dX3_moveBy_1 : decode cX3_moveBy 1 = .ok (.sipush (-9999), 3) := by decide +kernel
theorem dX3_moveBy_4 : decode cX3_moveBy 4 = .ok (.sipush 9999, 3) := by decide +kernel
theorem dX3_moveBy_7 : decode cX3_moveBy 7 = .ok (.invokestatic 35, 3) := by decide +kernel
theorem dX3_moveBy_10 : decode cX3_moveBy 10 = .ok (.ifCond .eq 6, 3) := by decide +kernel
theorem dX3_moveBy_13 : decode cX3_moveBy 13 = .ok (.ldc 43, 2) := by decide +kernel
theorem dX3_moveBy_15 : decode cX3_moveBy 15 = .ok (.ireturn, 1) := by decide +kernel
theorem dX3_moveBy_16 : decode cX3_moveBy 16 = .ok (.aload_n 0, 1) := by decide +kernel
theorem dX3_moveBy_17 : decode cX3_moveBy 17 = .ok (.getfield 12, 3) := by decide +kernel
theorem dX3_moveBy_20 : decode cX3_moveBy 20 = .ok (.getfield 32, 3) := by decide +kernel
theorem dX3_moveBy_23 : decode cX3_moveBy 23 = .ok (.ifCond .ne 6, 3) := by decide +kernel
theorem dX3_moveBy_26 : decode cX3_moveBy 26 = .ok (.ldc 77, 2) := by decide +kernel
theorem dX3_moveBy_28 : decode cX3_moveBy 28 = .ok (.ireturn, 1) := by decide +kernel
theorem dX3_moveBy_29 : decode cX3_moveBy 29 = .ok (.aload_n 0, 1) := by decide +kernel
theorem dX3_moveBy_30 : decode cX3_moveBy 30 = .ok (.dup, 1) := by decide +kernel
theorem dX3_moveBy_31 : decode cX3_moveBy 31 = .ok (.getfield 29, 3) := by decide +kernel
theorem dX3_moveBy_34 : decode cX3_moveBy 34 = .ok (.iload_n 1, 1) := by decide +kernel
theorem dX3_moveBy_35 : decode cX3_moveBy 35 = .ok (.iadd, 1) := by decide +kernel
theorem dX3_moveBy_36 : decode cX3_moveBy 36 = .ok (.putfield 29, 3) := by decide +kernel
theorem dX3_moveBy_39 : decode cX3_moveBy 39 = .ok (.aload_n 0, 1) := by decide +kernel
theorem dX3_moveBy_40 : decode cX3_moveBy 40 = .ok (.invokevirtual 78, 3) := by decide +kernel
theorem dX3_moveBy_43 : decode cX3_moveBy 43 = .ok (.aload_n 0, 1) := by decide +kernel
theorem dX3_moveBy_44 : decode cX3_moveBy 44 = .ok (.invokevirtual 49, 3) := by decide +kernel
theorem dX3_moveBy_47 : decode cX3_moveBy 47 = .ok (.aload_n 0, 1) := by decide +kernel
theorem dX3_moveBy_48 : decode cX3_moveBy 48 = .ok (.getfield 26, 3) := by decide +kernel
theorem dX3_moveBy_51 : decode cX3_moveBy 51 = .ok (.ireturn, 1) := by decide +kernel
set_option maxRecDepth 20000 in
theorem ggX3_moveToShare_X4_isOutside : GoodIn wsX3_moveToShare wsX4_isOutside := goodIn_r _ [14] (by decide +kernel) (by decide +kernel)
set_option maxRecDepth 20000 in
theorem gX3_moveToShare_X4_isOutside_n35 : GoodIn wsX3_moveToShare (wsX4_isOutside) := ggX3_moveToShare_X4_isOutside
set_option maxRecDepth 20000 in
theorem ggX3_moveToShare_X1_total : GoodIn wsX3_moveToShare wsX1_total := goodIn_r _ [19, 20, 21, 22, 23, 18, 24, 25, 26, 27, 28, 29, 30, 31, 32, 33, 34, 35, 36, 37, 38, 39, 40, 41, 42, 43, 44, 45, 46, 79, 80, 81, 82, 83, 84, 85] (by decide +kernel) (by decide +kernel)
set_option maxRecDepth 20000 in
theorem gX3_moveToShare_X1_total : GoodIn wsX3_moveToShare (wsV RX3 52 RX1 yX1_total wsX1_total) := goodIn_app (goodIn_of _ (by decide +kernel)) ggX3_moveToShare_X1_total
set_option maxRecDepth 20000 in
theorem ggX3_moveToShare_X1_lineAt : GoodIn wsX3_moveToShare wsX1_lineAt := goodIn_r _ [50, 20, 51, 25, 26, 27, 18, 28, 29, 30, 31, 32, 33, 34, 35, 36, 37, 38, 39, 40, 41, 42, 43, 44, 45, 46, 79, 80, 81, 82, 83, 84, 85] (by decide +kernel) (by decide +kernel)
set_option maxRecDepth 20000 in
theorem gX3_moveToShare_X1_lineAt : GoodIn wsX3_moveToShare (wsV RX3 87 RX1 yX1_lineAt wsX1_lineAt) := goodIn_app (goodIn_of _ (by decide +kernel)) ggX3_moveToShare_X1_lineAt
set_option maxRecDepth 20000 in
theorem ggX3_moveToShare_X1_topOf : GoodIn wsX3_moveToShare wsX1_topOf := goodIn_r _ [24, 20, 25, 26, 27, 18, 28, 29, 30, 31, 32, 33, 34, 35, 36, 37, 38, 39, 40, 41, 42, 43, 44, 45, 46, 79, 80, 81, 82, 83, 84, 85] (by decide +kernel) (by decide +kernel)
set_option maxRecDepth 20000 in
theorem gX3_moveToShare_X1_topOf : GoodIn wsX3_moveToShare (wsV RX3 91 RX1 yX1_topOf wsX1_topOf) := goodIn_app (goodIn_of _ (by decide +kernel)) ggX3_moveToShare_X1_topOf
set_option maxRecDepth 20000 in
theorem ggX3_moveToShare_X3_settle : GoodIn wsX3_moveToShare wsX3_settle := goodIn_r _ [57, 2, 3, 11, 5, 10, 58, 59, 60, 56, 61, 62, 63, 64, 18, 65, 29, 30, 46, 31, 45, 32, 33, 34, 35, 20, 66, 67, 68, 69, 36, 37, 38, 39, 40, 70, 26, 27, 28, 41, 42, 43, 44, 71, 72, 73, 74, 6, 7, 8, 9, 75, 76, 77, 78, 79, 80, 81, 82, 83, 84, 85] (by decide +kernel) (by decide +kernel)
set_option maxRecDepth 20000 in
theorem gX3_moveToShare_X3_settle : GoodIn wsX3_moveToShare (wsV RX3 49 RX3 yX3_settle wsX3_settle) := goodIn_app (goodIn_of _ (by decide +kernel)) ggX3_moveToShare_X3_settle
theorem dX3_moveToShare_0 : decode cX3_moveToShare 0 = .ok (.iload_n 1, 1) := by decide +kernel
theorem dX3_moveToShare_1 : decode cX3_moveToShare 1 = .ok (.iconst 0, 1) := by decide +kernel
theorem dX3_moveToShare_2 : decode cX3_moveToShare 2 = .ok (.sipush 1000, 3) := by decide +kernel
theorem dX3_moveToShare_5 : decode cX3_moveToShare 5 = .ok (.invokestatic 35, 3) := by decide +kernel
theorem dX3_moveToShare_8 : decode cX3_moveToShare 8 = .ok (.ifCond .eq 6, 3) := by decide +kernel
theorem dX3_moveToShare_11 : decode cX3_moveToShare 11 = .ok (.ldc 43, 2) := by decide +kernel
theorem dX3_moveToShare_13 : decode cX3_moveToShare 13 = .ok (.ireturn, 1) := by decide +kernel
theorem dX3_moveToShare_14 : decode cX3_moveToShare 14 = .ok (.aload_n 0, 1) := by decide +kernel
theorem dX3_moveToShare_15 : decode cX3_moveToShare 15 = .ok (.getfield 12, 3) := by decide +kernel
theorem dX3_moveToShare_18 : decode cX3_moveToShare 18 = .ok (.getfield 32, 3) := by decide +kernel
theorem dX3_moveToShare_21 : decode cX3_moveToShare 21 = .ok (.ifCond .ne 6, 3) := by decide +kernel
theorem dX3_moveToShare_24 : decode cX3_moveToShare 24 = .ok (.ldc 77, 2) := by decide +kernel
theorem dX3_moveToShare_26 : decode cX3_moveToShare 26 = .ok (.ireturn, 1) := by decide +kernel
theorem dX3_moveToShare_27 : decode cX3_moveToShare 27 = .ok (.iconst 0, 1) := by decide +kernel
theorem dX3_moveToShare_28 : decode cX3_moveToShare 28 = .ok (.aload_n 0, 1) := by decide +kernel
theorem dX3_moveToShare_29 : decode cX3_moveToShare 29 = .ok (.getfield 12, 3) := by decide +kernel
theorem dX3_moveToShare_32 : decode cX3_moveToShare 32 = .ok (.invokevirtual 52, 3) := by decide +kernel
theorem dX3_moveToShare_35 : decode cX3_moveToShare 35 = .ok (.aload_n 0, 1) := by decide +kernel
theorem dX3_moveToShare_36 : decode cX3_moveToShare 36 = .ok (.getfield 18, 3) := by decide +kernel
theorem dX3_moveToShare_39 : decode cX3_moveToShare 39 = .ok (.isub, 1) := by decide +kernel
theorem dX3_moveToShare_40 : decode cX3_moveToShare 40 = .ok (.invokestatic 81, 3) := by decide +kernel
theorem dX3_moveToShare_43 : decode cX3_moveToShare 43 = .ok (.iload_n 1, 1) := by decide +kernel
theorem dX3_moveToShare_44 : decode cX3_moveToShare 44 = .ok (.imul, 1) := by decide +kernel
theorem dX3_moveToShare_45 : decode cX3_moveToShare 45 = .ok (.sipush 1000, 3) := by decide +kernel
theorem dX3_moveToShare_48 : decode cX3_moveToShare 48 = .ok (.idiv, 1) := by decide +kernel
theorem dX3_moveToShare_49 : decode cX3_moveToShare 49 = .ok (.istore_n 2, 1) := by decide +kernel
theorem dX3_moveToShare_50 : decode cX3_moveToShare 50 = .ok (.aload_n 0, 1) := by decide +kernel
theorem dX3_moveToShare_51 : decode cX3_moveToShare 51 = .ok (.iconst 0, 1) := by decide +kernel
theorem dX3_moveToShare_52 : decode cX3_moveToShare 52 = .ok (.aload_n 0, 1) := by decide +kernel
theorem dX3_moveToShare_53 : decode cX3_moveToShare 53 = .ok (.getfield 12, 3) := by decide +kernel
theorem dX3_moveToShare_56 : decode cX3_moveToShare 56 = .ok (.iload_n 2, 1) := by decide +kernel
theorem dX3_moveToShare_57 : decode cX3_moveToShare 57 = .ok (.invokevirtual 87, 3) := by decide +kernel
theorem dX3_moveToShare_60 : decode cX3_moveToShare 60 = .ok (.invokestatic 81, 3) := by decide +kernel
theorem dX3_moveToShare_63 : decode cX3_moveToShare 63 = .ok (.putfield 26, 3) := by decide +kernel
theorem dX3_moveToShare_66 : decode cX3_moveToShare 66 = .ok (.aload_n 0, 1) := by decide +kernel
theorem dX3_moveToShare_67 : decode cX3_moveToShare 67 = .ok (.iload_n 2, 1) := by decide +kernel
theorem dX3_moveToShare_68 : decode cX3_moveToShare 68 = .ok (.aload_n 0, 1) := by decide +kernel
theorem dX3_moveToShare_69 : decode cX3_moveToShare 69 = .ok (.getfield 12, 3) := by decide +kernel
theorem dX3_moveToShare_72 : decode cX3_moveToShare 72 = .ok (.aload_n 0, 1) := by decide +kernel
theorem dX3_moveToShare_73 : decode cX3_moveToShare 73 = .ok (.getfield 26, 3) := by decide +kernel
theorem dX3_moveToShare_76 : decode cX3_moveToShare 76 = .ok (.invokevirtual 91, 3) := by decide +kernel
theorem dX3_moveToShare_79 : decode cX3_moveToShare 79 = .ok (.isub, 1) := by decide +kernel
theorem dX3_moveToShare_80 : decode cX3_moveToShare 80 = .ok (.putfield 29, 3) := by decide +kernel
theorem dX3_moveToShare_83 : decode cX3_moveToShare 83 = .ok (.aload_n 0, 1) := by decide +kernel
theorem dX3_moveToShare_84 : decode cX3_moveToShare 84 = .ok (.invokevirtual 49, 3) := by decide +kernel
theorem dX3_moveToShare_87 : decode cX3_moveToShare 87 = .ok (.aload_n 0, 1) := by decide +kernel
theorem dX3_moveToShare_88 : decode cX3_moveToShare 88 = .ok (.getfield 26, 3) := by decide +kernel
theorem dX3_moveToShare_91 : decode cX3_moveToShare 91 = .ok (.ireturn, 1) := by decide +kernel
set_option maxRecDepth 20000 in
theorem ggX3_moveToLine_X1_isLine : GoodIn wsX3_moveToLine wsX1_isLine := goodIn_r _ [9, 10, 61, 62, 63, 64, 65, 66, 67] (by decide +kernel) (by decide +kernel)
set_option maxRecDepth 20000 in
theorem gX3_moveToLine_X1_isLine : GoodIn wsX3_moveToLine (wsV RX3 56 RX1 yX1_isLine wsX1_isLine) := goodIn_app (goodIn_of _ (by decide +kernel)) ggX3_moveToLine_X1_isLine
set_option maxRecDepth 20000 in
theorem ggX3_moveToLine_X3_settle : GoodIn wsX3_moveToLine wsX3_settle := goodIn_r _ [15, 1, 16, 4, 17, 3, 18, 19, 20, 14, 21, 22, 23, 24, 8, 25, 26, 27, 28, 29, 30, 31, 6, 7, 9, 10, 32, 33, 34, 35, 36, 37, 38, 39, 40, 41, 42, 43, 44, 45, 46, 47, 48, 49, 50, 51, 52, 53, 54, 55, 56, 57, 58, 59, 60, 61, 62, 63, 64, 65, 66, 67] (by decide +kernel) (by decide +kernel)
set_option maxRecDepth 20000 in
theorem gX3_moveToLine_X3_settle : GoodIn wsX3_moveToLine (wsV RX3 49 RX3 yX3_settle wsX3_settle) := goodIn_app (goodIn_of _ (by decide +kernel)) ggX3_moveToLine_X3_settle
theorem dX3_moveToLine_0 : decode cX3_moveToLine 0 = .ok (.aload_n 0, 1) := by decide +kernel
theorem dX3_moveToLine_1 : decode cX3_moveToLine 1 = .ok (.getfield 12, 3) := by decide +kernel
theorem dX3_moveToLine_4 : decode cX3_moveToLine 4 = .ok (.iload_n 1, 1) := by decide +kernel
theorem dX3_moveToLine_5 : decode cX3_moveToLine 5 = .ok (.invokevirtual 56, 3) := by decide +kernel
theorem dX3_moveToLine_8 : decode cX3_moveToLine 8 = .ok (.ifCond .ne 6, 3) := by decide +kernel
theorem dX3_moveToLine_11 : decode cX3_moveToLine 11 = .ok (.ldc 43, 2) := by decide +kernel
theorem dX3_moveToLine_13 : decode cX3_moveToLine 13 = .ok (.ireturn, 1) := by decide +kernel
theorem dX3_moveToLine_14 : decode cX3_moveToLine 14 = .ok (.aload_n 0, 1) := by decide +kernel
theorem dX3_moveToLine_15 : decode cX3_moveToLine 15 = .ok (.iload_n 1, 1) := by decide +kernel
theorem dX3_moveToLine_16 : decode cX3_moveToLine 16 = .ok (.putfield 26, 3) := by decide +kernel
theorem dX3_moveToLine_19 : decode cX3_moveToLine 19 = .ok (.aload_n 0, 1) := by decide +kernel
theorem dX3_moveToLine_20 : decode cX3_moveToLine 20 = .ok (.iconst 0, 1) := by decide +kernel
theorem dX3_moveToLine_21 : decode cX3_moveToLine 21 = .ok (.putfield 29, 3) := by decide +kernel
theorem dX3_moveToLine_24 : decode cX3_moveToLine 24 = .ok (.aload_n 0, 1) := by decide +kernel
theorem dX3_moveToLine_25 : decode cX3_moveToLine 25 = .ok (.invokevirtual 49, 3) := by decide +kernel
theorem dX3_moveToLine_28 : decode cX3_moveToLine 28 = .ok (.aload_n 0, 1) := by decide +kernel
theorem dX3_moveToLine_29 : decode cX3_moveToLine 29 = .ok (.getfield 26, 3) := by decide +kernel
theorem dX3_moveToLine_32 : decode cX3_moveToLine 32 = .ok (.ireturn, 1) := by decide +kernel
set_option maxRecDepth 20000 in
theorem ggX3_settle_X3_descend : GoodIn wsX3_settle wsX3_descend := goodIn_r _ [10, 1, 5, 2, 3, 11, 12, 13, 14, 15, 16, 17, 18, 19, 20, 21, 22, 23, 24, 25, 26, 27, 28, 29, 30, 31, 32, 33, 34, 35, 36, 37, 38, 39, 40, 41, 42, 51, 52, 53, 54, 55, 56, 57, 58, 59, 60, 61] (by decide +kernel) (by decide +kernel)
set_option maxRecDepth 20000 in
theorem gX3_settle_X3_descend : GoodIn wsX3_settle (wsV RX3 94 RX3 yX3_descend wsX3_descend) := goodIn_app (goodIn_of _ (by decide +kernel)) ggX3_settle_X3_descend
set_option maxRecDepth 20000 in
theorem ggX3_settle_X1_heightOf : GoodIn wsX3_settle wsX1_heightOf := goodIn_r _ [38, 16, 17, 19, 21, 22, 23, 14, 24, 25, 30, 31, 32, 33, 34, 39, 40, 41, 42, 20, 18, 55, 56, 57, 58, 59, 60, 61] (by decide +kernel) (by decide +kernel)
set_option maxRecDepth 20000 in
theorem gX3_settle_X1_heightOf : GoodIn wsX3_settle (wsV RX3 97 RX1 yX1_heightOf wsX1_heightOf) := goodIn_app (goodIn_of _ (by decide +kernel)) ggX3_settle_X1_heightOf
set_option maxRecDepth 20000 in
theorem ggX3_settle_X1_measure : GoodIn wsX3_settle wsX1_measure := goodIn_r _ [15, 16, 17, 18, 19, 20, 21, 22, 23, 14, 24, 25, 26, 27, 28, 29, 30, 31, 32, 33, 34, 55, 56, 57, 58, 59, 60, 61] (by decide +kernel) (by decide +kernel)
set_option maxRecDepth 20000 in
theorem gX3_settle_X1_measure : GoodIn wsX3_settle (wsV RX3 100 RX1 yX1_measure wsX1_measure) := goodIn_app (goodIn_of _ (by decide +kernel)) ggX3_settle_X1_measure
set_option maxRecDepth 20000 in
theorem ggX3_settle_X3_climb : GoodIn wsX3_settle wsX3_climb := goodIn_r _ [46, 5, 3, 1, 47, 48, 49, 50, 11, 12, 13, 14, 15, 16, 17, 18, 19, 20, 21, 22, 23, 24, 25, 26, 27, 28, 29, 30, 31, 32, 33, 34, 35, 36, 37, 38, 39, 40, 41, 42, 51, 52, 53, 54, 55, 56, 57, 58, 59, 60, 61] (by decide +kernel) (by decide +kernel)
set_option maxRecDepth 20000 in
theorem gX3_settle_X3_climb : GoodIn wsX3_settle (wsV RX3 78 RX3 yX3_climb wsX3_climb) := goodIn_app (goodIn_of _ (by decide +kernel)) ggX3_settle_X3_climb
theorem dX3_settle_0 : decode cX3_settle 0 = .ok (.aload_n 0, 1) := by decide +kernel
theorem dX3_settle_1 : decode cX3_settle 1 = .ok (.getfield 12, 3) := by decide +kernel
theorem dX3_settle_4 : decode cX3_settle 4 = .ok (.getfield 32, 3) := by decide +kernel
theorem dX3_settle_7 : decode cX3_settle 7 = .ok (.ifCond .ne 4, 3) := by decide +kernel
theorem dX3_settle_10 : decode cX3_settle 10 = .ok (.return_, 1) := by decide +kernel
theorem dX3_settle_11 : decode cX3_settle 11 = .ok (.aload_n 0, 1) := by decide +kernel
theorem dX3_settle_12 : decode cX3_settle 12 = .ok (.invokevirtual 94, 3) := by decide +kernel
theorem dX3_settle_15 : decode cX3_settle 15 = .ok (.aload_n 0, 1) := by decide +kernel
theorem dX3_settle_16 : decode cX3_settle 16 = .ok (.getfield 29, 3) := by decide +kernel
theorem dX3_settle_19 : decode cX3_settle 19 = .ok (.aload_n 0, 1) := by decide +kernel
theorem dX3_settle_20 : decode cX3_settle 20 = .ok (.getfield 18, 3) := by decide +kernel
theorem dX3_settle_23 : decode cX3_settle 23 = .ok (.iadd, 1) := by decide +kernel
theorem dX3_settle_24 : decode cX3_settle 24 = .ok (.istore_n 1, 1) := by decide +kernel
theorem dX3_settle_25 : decode cX3_settle 25 = .ok (.aload_n 0, 1) := by decide +kernel
theorem dX3_settle_26 : decode cX3_settle 26 = .ok (.getfield 26, 3) := by decide +kernel
theorem dX3_settle_29 : decode cX3_settle 29 = .ok (.iconst 1, 1) := by decide +kernel
theorem dX3_settle_30 : decode cX3_settle 30 = .ok (.iadd, 1) := by decide +kernel
theorem dX3_settle_31 : decode cX3_settle 31 = .ok (.istore_n 2, 1) := by decide +kernel
theorem dX3_settle_32 : decode cX3_settle 32 = .ok (.aload_n 0, 1) := by decide +kernel
theorem dX3_settle_33 : decode cX3_settle 33 = .ok (.getfield 12, 3) := by decide +kernel
theorem dX3_settle_36 : decode cX3_settle 36 = .ok (.aload_n 0, 1) := by decide +kernel
theorem dX3_settle_37 : decode cX3_settle 37 = .ok (.getfield 26, 3) := by decide +kernel
theorem dX3_settle_40 : decode cX3_settle 40 = .ok (.invokevirtual 97, 3) := by decide +kernel
theorem dX3_settle_43 : decode cX3_settle 43 = .ok (.istore_n 3, 1) := by decide +kernel
theorem dX3_settle_44 : decode cX3_settle 44 = .ok (.iload_n 2, 1) := by decide +kernel
theorem dX3_settle_45 : decode cX3_settle 45 = .ok (.aload_n 0, 1) := by decide +kernel
theorem dX3_settle_46 : decode cX3_settle 46 = .ok (.getfield 12, 3) := by decide +kernel
theorem dX3_settle_49 : decode cX3_settle 49 = .ok (.getfield 32, 3) := by decide +kernel
theorem dX3_settle_52 : decode cX3_settle 52 = .ok (.if_icmp .ge 33, 3) := by decide +kernel
theorem dX3_settle_55 : decode cX3_settle 55 = .ok (.iload_n 3, 1) := by decide +kernel
theorem dX3_settle_56 : decode cX3_settle 56 = .ok (.iload_n 1, 1) := by decide +kernel
theorem dX3_settle_57 : decode cX3_settle 57 = .ok (.if_icmp .ge 28, 3) := by decide +kernel
theorem dX3_settle_60 : decode cX3_settle 60 = .ok (.aload_n 0, 1) := by decide +kernel
theorem dX3_settle_61 : decode cX3_settle 61 = .ok (.getfield 12, 3) := by decide +kernel
theorem dX3_settle_64 : decode cX3_settle 64 = .ok (.iload_n 2, 1) := by decide +kernel
theorem dX3_settle_65 : decode cX3_settle 65 = .ok (.invokevirtual 100, 3) := by decide +kernel
theorem dX3_settle_68 : decode cX3_settle 68 = .ok (.iload_n 3, 1) := by decide +kernel
theorem dX3_settle_69 : decode cX3_settle 69 = .ok (.aload_n 0, 1) := by decide +kernel
theorem dX3_settle_70 : decode cX3_settle 70 = .ok (.getfield 12, 3) := by decide +kernel
theorem dX3_settle_73 : decode cX3_settle 73 = .ok (.iload_n 2, 1) := by decide +kernel
theorem dX3_settle_74 : decode cX3_settle 74 = .ok (.invokevirtual 97, 3) := by decide +kernel
theorem dX3_settle_77 : decode cX3_settle 77 = .ok (.iadd, 1) := by decide +kernel
theorem dX3_settle_78 : decode cX3_settle 78 = .ok (.istore_n 3, 1) := by decide +kernel
theorem dX3_settle_79 : decode cX3_settle 79 = .ok (.iinc 2 1, 3) := by decide +kernel
theorem dX3_settle_82 : decode cX3_settle 82 = .ok (.goto (-38), 3) := by decide +kernel
theorem dX3_settle_85 : decode cX3_settle 85 = .ok (.iload_n 2, 1) := by decide +kernel
theorem dX3_settle_86 : decode cX3_settle 86 = .ok (.aload_n 0, 1) := by decide +kernel
theorem dX3_settle_87 : decode cX3_settle 87 = .ok (.getfield 12, 3) := by decide +kernel
theorem dX3_settle_90 : decode cX3_settle 90 = .ok (.getfield 32, 3) := by decide +kernel
theorem dX3_settle_93 : decode cX3_settle 93 = .ok (.if_icmp .lt 24, 3) := by decide +kernel
theorem dX3_settle_96 : decode cX3_settle 96 = .ok (.iload_n 3, 1) := by decide +kernel
theorem dX3_settle_97 : decode cX3_settle 97 = .ok (.iload_n 1, 1) := by decide +kernel
theorem dX3_settle_98 : decode cX3_settle 98 = .ok (.if_icmp .ge 19, 3) := by decide +kernel
theorem dX3_settle_101 : decode cX3_settle 101 = .ok (.aload_n 0, 1) := by decide +kernel
theorem dX3_settle_102 : decode cX3_settle 102 = .ok (.dup, 1) := by decide +kernel
theorem dX3_settle_103 : decode cX3_settle 103 = .ok (.getfield 29, 3) := by decide +kernel
theorem dX3_settle_106 : decode cX3_settle 106 = .ok (.iload_n 1, 1) := by decide +kernel
theorem dX3_settle_107 : decode cX3_settle 107 = .ok (.iload_n 3, 1) := by decide +kernel
theorem dX3_settle_108 : decode cX3_settle 108 = .ok (.isub, 1) := by decide +kernel
theorem dX3_settle_109 : decode cX3_settle 109 = .ok (.isub, 1) := by decide +kernel
theorem dX3_settle_110 : decode cX3_settle 110 = .ok (.putfield 29, 3) := by decide +kernel
theorem dX3_settle_113 : decode cX3_settle 113 = .ok (.aload_n 0, 1) := by decide +kernel
theorem dX3_settle_114 : decode cX3_settle 114 = .ok (.invokevirtual 78, 3) := by decide +kernel
theorem dX3_settle_117 : decode cX3_settle 117 = .ok (.return_, 1) := by decide +kernel
set_option maxRecDepth 20000 in
theorem ggX3_descend_X1_measure : GoodIn wsX3_descend wsX1_measure := goodIn_r _ [9, 10, 11, 12, 13, 14, 15, 16, 17, 8, 18, 19, 20, 21, 22, 23, 24, 25, 26, 27, 28, 41, 42, 43, 44, 45, 46, 47] (by decide +kernel) (by decide +kernel)
set_option maxRecDepth 20000 in
theorem gX3_descend_X1_measure : GoodIn wsX3_descend (wsV RX3 100 RX1 yX1_measure wsX1_measure) := goodIn_app (goodIn_of _ (by decide +kernel)) ggX3_descend_X1_measure
set_option maxRecDepth 20000 in
theorem ggX3_descend_X1_heightOf : GoodIn wsX3_descend wsX1_heightOf := goodIn_r _ [32, 10, 11, 13, 15, 16, 17, 8, 18, 19, 24, 25, 26, 27, 28, 33, 34, 35, 36, 14, 12, 41, 42, 43, 44, 45, 46, 47] (by decide +kernel) (by decide +kernel)
set_option maxRecDepth 20000 in
theorem gX3_descend_X1_heightOf : GoodIn wsX3_descend (wsV RX3 97 RX1 yX1_heightOf wsX1_heightOf) := goodIn_app (goodIn_of _ (by decide +kernel)) ggX3_descend_X1_heightOf
theorem dX3_descend_0 : decode cX3_descend 0 = .ok (.aload_n 0, 1) := by decide +kernel
theorem dX3_descend_1 : decode cX3_descend 1 = .ok (.getfield 12, 3) := by decide +kernel
theorem dX3_descend_4 : decode cX3_descend 4 = .ok (.aload_n 0, 1) := by decide +kernel
theorem dX3_descend_5 : decode cX3_descend 5 = .ok (.getfield 26, 3) := by decide +kernel
theorem dX3_descend_8 : decode cX3_descend 8 = .ok (.invokevirtual 100, 3) := by decide +kernel
theorem dX3_descend_11 : decode cX3_descend 11 = .ok (.aload_n 0, 1) := by decide +kernel
theorem dX3_descend_12 : decode cX3_descend 12 = .ok (.getfield 26, 3) := by decide +kernel
theorem dX3_descend_15 : decode cX3_descend 15 = .ok (.iconst 1, 1) := by decide +kernel
theorem dX3_descend_16 : decode cX3_descend 16 = .ok (.iadd, 1) := by decide +kernel
theorem dX3_descend_17 : decode cX3_descend 17 = .ok (.aload_n 0, 1) := by decide +kernel
theorem dX3_descend_18 : decode cX3_descend 18 = .ok (.getfield 12, 3) := by decide +kernel
theorem dX3_descend_21 : decode cX3_descend 21 = .ok (.getfield 32, 3) := by decide +kernel
theorem dX3_descend_24 : decode cX3_descend 24 = .ok (.if_icmp .ge 65, 3) := by decide +kernel
theorem dX3_descend_27 : decode cX3_descend 27 = .ok (.aload_n 0, 1) := by decide +kernel
theorem dX3_descend_28 : decode cX3_descend 28 = .ok (.getfield 29, 3) := by decide +kernel
theorem dX3_descend_31 : decode cX3_descend 31 = .ok (.aload_n 0, 1) := by decide +kernel
theorem dX3_descend_32 : decode cX3_descend 32 = .ok (.getfield 12, 3) := by decide +kernel
theorem dX3_descend_35 : decode cX3_descend 35 = .ok (.aload_n 0, 1) := by decide +kernel
theorem dX3_descend_36 : decode cX3_descend 36 = .ok (.getfield 26, 3) := by decide +kernel
theorem dX3_descend_39 : decode cX3_descend 39 = .ok (.invokevirtual 97, 3) := by decide +kernel
theorem dX3_descend_42 : decode cX3_descend 42 = .ok (.if_icmp .lt 47, 3) := by decide +kernel
theorem dX3_descend_45 : decode cX3_descend 45 = .ok (.aload_n 0, 1) := by decide +kernel
theorem dX3_descend_46 : decode cX3_descend 46 = .ok (.dup, 1) := by decide +kernel
theorem dX3_descend_47 : decode cX3_descend 47 = .ok (.getfield 29, 3) := by decide +kernel
theorem dX3_descend_50 : decode cX3_descend 50 = .ok (.aload_n 0, 1) := by decide +kernel
theorem dX3_descend_51 : decode cX3_descend 51 = .ok (.getfield 12, 3) := by decide +kernel
theorem dX3_descend_54 : decode cX3_descend 54 = .ok (.aload_n 0, 1) := by decide +kernel
theorem dX3_descend_55 : decode cX3_descend 55 = .ok (.getfield 26, 3) := by decide +kernel
theorem dX3_descend_58 : decode cX3_descend 58 = .ok (.invokevirtual 97, 3) := by decide +kernel
theorem dX3_descend_61 : decode cX3_descend 61 = .ok (.isub, 1) := by decide +kernel
theorem dX3_descend_62 : decode cX3_descend 62 = .ok (.putfield 29, 3) := by decide +kernel
theorem dX3_descend_65 : decode cX3_descend 65 = .ok (.aload_n 0, 1) := by decide +kernel
theorem dX3_descend_66 : decode cX3_descend 66 = .ok (.dup, 1) := by decide +kernel
theorem dX3_descend_67 : decode cX3_descend 67 = .ok (.getfield 26, 3) := by decide +kernel
theorem dX3_descend_70 : decode cX3_descend 70 = .ok (.iconst 1, 1) := by decide +kernel
theorem dX3_descend_71 : decode cX3_descend 71 = .ok (.iadd, 1) := by decide +kernel
theorem dX3_descend_72 : decode cX3_descend 72 = .ok (.putfield 26, 3) := by decide +kernel
theorem dX3_descend_75 : decode cX3_descend 75 = .ok (.aload_n 0, 1) := by decide +kernel
theorem dX3_descend_76 : decode cX3_descend 76 = .ok (.getfield 12, 3) := by decide +kernel
theorem dX3_descend_79 : decode cX3_descend 79 = .ok (.aload_n 0, 1) := by decide +kernel
theorem dX3_descend_80 : decode cX3_descend 80 = .ok (.getfield 26, 3) := by decide +kernel
theorem dX3_descend_83 : decode cX3_descend 83 = .ok (.invokevirtual 100, 3) := by decide +kernel
theorem dX3_descend_86 : decode cX3_descend 86 = .ok (.goto (-75), 3) := by decide +kernel
theorem dX3_descend_89 : decode cX3_descend 89 = .ok (.return_, 1) := by decide +kernel
set_option maxRecDepth 20000 in
theorem ggX3_climb_X1_measure : GoodIn wsX3_climb wsX1_measure := goodIn_r _ [12, 13, 14, 15, 16, 17, 18, 19, 20, 11, 21, 22, 23, 24, 25, 26, 27, 28, 29, 30, 31, 44, 45, 46, 47, 48, 49, 50] (by decide +kernel) (by decide +kernel)
set_option maxRecDepth 20000 in
theorem gX3_climb_X1_measure : GoodIn wsX3_climb (wsV RX3 100 RX1 yX1_measure wsX1_measure) := goodIn_app (goodIn_of _ (by decide +kernel)) ggX3_climb_X1_measure
set_option maxRecDepth 20000 in
theorem ggX3_climb_X1_heightOf : GoodIn wsX3_climb wsX1_heightOf := goodIn_r _ [35, 13, 14, 16, 18, 19, 20, 11, 21, 22, 27, 28, 29, 30, 31, 36, 37, 38, 39, 17, 15, 44, 45, 46, 47, 48, 49, 50] (by decide +kernel) (by decide +kernel)
set_option maxRecDepth 20000 in
theorem gX3_climb_X1_heightOf : GoodIn wsX3_climb (wsV RX3 97 RX1 yX1_heightOf wsX1_heightOf) := goodIn_app (goodIn_of _ (by decide +kernel)) ggX3_climb_X1_heightOf
theorem dX3_climb_0 : decode cX3_climb 0 = .ok (.aload_n 0, 1) := by decide +kernel
theorem dX3_climb_1 : decode cX3_climb 1 = .ok (.getfield 26, 3) := by decide +kernel
theorem dX3_climb_4 : decode cX3_climb 4 = .ok (.ifCond .le 54, 3) := by decide +kernel
theorem dX3_climb_7 : decode cX3_climb 7 = .ok (.aload_n 0, 1) := by decide +kernel
theorem dX3_climb_8 : decode cX3_climb 8 = .ok (.getfield 29, 3) := by decide +kernel
theorem dX3_climb_11 : decode cX3_climb 11 = .ok (.ifCond .ge 47, 3) := by decide +kernel
theorem dX3_climb_14 : decode cX3_climb 14 = .ok (.aload_n 0, 1) := by decide +kernel
theorem dX3_climb_15 : decode cX3_climb 15 = .ok (.dup, 1) := by decide +kernel
theorem dX3_climb_16 : decode cX3_climb 16 = .ok (.getfield 26, 3) := by decide +kernel
theorem dX3_climb_19 : decode cX3_climb 19 = .ok (.iconst 1, 1) := by decide +kernel
theorem dX3_climb_20 : decode cX3_climb 20 = .ok (.isub, 1) := by decide +kernel
theorem dX3_climb_21 : decode cX3_climb 21 = .ok (.putfield 26, 3) := by decide +kernel
theorem dX3_climb_24 : decode cX3_climb 24 = .ok (.aload_n 0, 1) := by decide +kernel
theorem dX3_climb_25 : decode cX3_climb 25 = .ok (.getfield 12, 3) := by decide +kernel
theorem dX3_climb_28 : decode cX3_climb 28 = .ok (.aload_n 0, 1) := by decide +kernel
theorem dX3_climb_29 : decode cX3_climb 29 = .ok (.getfield 26, 3) := by decide +kernel
theorem dX3_climb_32 : decode cX3_climb 32 = .ok (.invokevirtual 100, 3) := by decide +kernel
theorem dX3_climb_35 : decode cX3_climb 35 = .ok (.aload_n 0, 1) := by decide +kernel
theorem dX3_climb_36 : decode cX3_climb 36 = .ok (.dup, 1) := by decide +kernel
theorem dX3_climb_37 : decode cX3_climb 37 = .ok (.getfield 29, 3) := by decide +kernel
theorem dX3_climb_40 : decode cX3_climb 40 = .ok (.aload_n 0, 1) := by decide +kernel
theorem dX3_climb_41 : decode cX3_climb 41 = .ok (.getfield 12, 3) := by decide +kernel
theorem dX3_climb_44 : decode cX3_climb 44 = .ok (.aload_n 0, 1) := by decide +kernel
theorem dX3_climb_45 : decode cX3_climb 45 = .ok (.getfield 26, 3) := by decide +kernel
theorem dX3_climb_48 : decode cX3_climb 48 = .ok (.invokevirtual 97, 3) := by decide +kernel
theorem dX3_climb_51 : decode cX3_climb 51 = .ok (.iadd, 1) := by decide +kernel
theorem dX3_climb_52 : decode cX3_climb 52 = .ok (.putfield 29, 3) := by decide +kernel
theorem dX3_climb_55 : decode cX3_climb 55 = .ok (.goto (-55), 3) := by decide +kernel
theorem dX3_climb_58 : decode cX3_climb 58 = .ok (.aload_n 0, 1) := by decide +kernel
theorem dX3_climb_59 : decode cX3_climb 59 = .ok (.iconst 0, 1) := by decide +kernel
theorem dX3_climb_60 : decode cX3_climb 60 = .ok (.aload_n 0, 1) := by decide +kernel
theorem dX3_climb_61 : decode cX3_climb 61 = .ok (.getfield 29, 3) := by decide +kernel
theorem dX3_climb_64 : decode cX3_climb 64 = .ok (.invokestatic 81, 3) := by decide +kernel
theorem dX3_climb_67 : decode cX3_climb 67 = .ok (.putfield 29, 3) := by decide +kernel
theorem dX3_climb_70 : decode cX3_climb 70 = .ok (.return_, 1) := by decide +kernel
set_option maxRecDepth 20000 in
theorem ggX3_top_X1_topOf : GoodIn wsX3_top wsX1_topOf := goodIn_r _ [8, 9, 10, 11, 12, 7, 13, 14, 15, 16, 17, 18, 19, 20, 21, 22, 23, 24, 25, 26, 27, 28, 29, 30, 31, 36, 37, 38, 39, 40, 41, 42] (by decide +kernel) (by decide +kernel)
set_option maxRecDepth 20000 in
theorem gX3_top_X1_topOf : GoodIn wsX3_top (wsV RX3 91 RX1 yX1_topOf wsX1_topOf) := goodIn_app (goodIn_of _ (by decide +kernel)) ggX3_top_X1_topOf
theorem dX3_top_0 : decode cX3_top 0 = .ok (.aload_n 0, 1) := by decide +kernel
theorem dX3_top_1 : decode cX3_top 1 = .ok (.getfield 12, 3) := by decide +kernel
theorem dX3_top_4 : decode cX3_top 4 = .ok (.aload_n 0, 1) := by decide +kernel
theorem dX3_top_5 : decode cX3_top 5 = .ok (.getfield 26, 3) := by decide +kernel
theorem dX3_top_8 : decode cX3_top 8 = .ok (.invokevirtual 91, 3) := by decide +kernel
theorem dX3_top_11 : decode cX3_top 11 = .ok (.aload_n 0, 1) := by decide +kernel
theorem dX3_top_12 : decode cX3_top 12 = .ok (.getfield 29, 3) := by decide +kernel
theorem dX3_top_15 : decode cX3_top 15 = .ok (.iadd, 1) := by decide +kernel
theorem dX3_top_16 : decode cX3_top 16 = .ok (.ireturn, 1) := by decide +kernel
set_option maxRecDepth 20000 in
theorem ggX3_shows_X1_heightOf : GoodIn wsX3_shows wsX1_heightOf := goodIn_r _ [9, 10, 11, 12, 13, 14, 15, 8, 16, 17, 18, 19, 20, 21, 22, 23, 24, 25, 26, 27, 28, 33, 34, 35, 36, 37, 38, 39] (by decide +kernel) (by decide +kernel)
set_option maxRecDepth 20000 in
theorem gX3_shows_X1_heightOf : GoodIn wsX3_shows (wsV RX3 97 RX1 yX1_heightOf wsX1_heightOf) := goodIn_app (goodIn_of _ (by decide +kernel)) ggX3_shows_X1_heightOf
theorem dX3_shows_0 : decode cX3_shows 0 = .ok (.iload_n 1, 1) := by decide +kernel
theorem dX3_shows_1 : decode cX3_shows 1 = .ok (.aload_n 0, 1) := by decide +kernel
theorem dX3_shows_2 : decode cX3_shows 2 = .ok (.getfield 26, 3) := by decide +kernel
theorem dX3_shows_5 : decode cX3_shows 5 = .ok (.if_icmp .ge 5, 3) := by decide +kernel
theorem dX3_shows_8 : decode cX3_shows 8 = .ok (.iconst 0, 1) := by decide +kernel
theorem dX3_shows_9 : decode cX3_shows 9 = .ok (.ireturn, 1) := by decide +kernel
theorem dX3_shows_10 : decode cX3_shows 10 = .ok (.aload_n 0, 1) := by decide +kernel
theorem dX3_shows_11 : decode cX3_shows 11 = .ok (.getfield 29, 3) := by decide +kernel
theorem dX3_shows_14 : decode cX3_shows 14 = .ok (.ineg, 1) := by decide +kernel
theorem dX3_shows_15 : decode cX3_shows 15 = .ok (.istore_n 2, 1) := by decide +kernel
theorem dX3_shows_16 : decode cX3_shows 16 = .ok (.aload_n 0, 1) := by decide +kernel
theorem dX3_shows_17 : decode cX3_shows 17 = .ok (.getfield 26, 3) := by decide +kernel
theorem dX3_shows_20 : decode cX3_shows 20 = .ok (.istore_n 3, 1) := by decide +kernel
theorem dX3_shows_21 : decode cX3_shows 21 = .ok (.iload_n 3, 1) := by decide +kernel
theorem dX3_shows_22 : decode cX3_shows 22 = .ok (.iload_n 1, 1) := by decide +kernel
theorem dX3_shows_23 : decode cX3_shows 23 = .ok (.if_icmp .ge 28, 3) := by decide +kernel
theorem dX3_shows_26 : decode cX3_shows 26 = .ok (.iload_n 2, 1) := by decide +kernel
theorem dX3_shows_27 : decode cX3_shows 27 = .ok (.aload_n 0, 1) := by decide +kernel
theorem dX3_shows_28 : decode cX3_shows 28 = .ok (.getfield 18, 3) := by decide +kernel
theorem dX3_shows_31 : decode cX3_shows 31 = .ok (.if_icmp .ge 20, 3) := by decide +kernel
theorem dX3_shows_34 : decode cX3_shows 34 = .ok (.iload_n 2, 1) := by decide +kernel
theorem dX3_shows_35 : decode cX3_shows 35 = .ok (.aload_n 0, 1) := by decide +kernel
theorem dX3_shows_36 : decode cX3_shows 36 = .ok (.getfield 12, 3) := by decide +kernel
theorem dX3_shows_39 : decode cX3_shows 39 = .ok (.iload_n 3, 1) := by decide +kernel
theorem dX3_shows_40 : decode cX3_shows 40 = .ok (.invokevirtual 97, 3) := by decide +kernel
theorem dX3_shows_43 : decode cX3_shows 43 = .ok (.iadd, 1) := by decide +kernel
theorem dX3_shows_44 : decode cX3_shows 44 = .ok (.istore_n 2, 1) := by decide +kernel
theorem dX3_shows_45 : decode cX3_shows 45 = .ok (.iinc 3 1, 3) := by decide +kernel
theorem dX3_shows_48 : decode cX3_shows 48 = .ok (.goto (-27), 3) := by decide +kernel
theorem dX3_shows_51 : decode cX3_shows 51 = .ok (.iload_n 2, 1) := by decide +kernel
theorem dX3_shows_52 : decode cX3_shows 52 = .ok (.aload_n 0, 1) := by decide +kernel
theorem dX3_shows_53 : decode cX3_shows 53 = .ok (.getfield 18, 3) := by decide +kernel
theorem dX3_shows_56 : decode cX3_shows 56 = .ok (.if_icmp .ge 20, 3) := by decide +kernel
theorem dX3_shows_59 : decode cX3_shows 59 = .ok (.iload_n 2, 1) := by decide +kernel
theorem dX3_shows_60 : decode cX3_shows 60 = .ok (.aload_n 0, 1) := by decide +kernel
theorem dX3_shows_61 : decode cX3_shows 61 = .ok (.getfield 12, 3) := by decide +kernel
theorem dX3_shows_64 : decode cX3_shows 64 = .ok (.iload_n 1, 1) := by decide +kernel
theorem dX3_shows_65 : decode cX3_shows 65 = .ok (.invokevirtual 97, 3) := by decide +kernel
theorem dX3_shows_68 : decode cX3_shows 68 = .ok (.iadd, 1) := by decide +kernel
theorem dX3_shows_69 : decode cX3_shows 69 = .ok (.ifCond .le 7, 3) := by decide +kernel
theorem dX3_shows_72 : decode cX3_shows 72 = .ok (.iconst 1, 1) := by decide +kernel
theorem dX3_shows_73 : decode cX3_shows 73 = .ok (.goto 4, 3) := by decide +kernel
theorem dX3_shows_76 : decode cX3_shows 76 = .ok (.iconst 0, 1) := by decide +kernel
theorem dX3_shows_77 : decode cX3_shows 77 = .ok (.ireturn, 1) := by decide +kernel
set_option maxRecDepth 20000 in
theorem ggX3_linesShown_X1_heightOf : GoodIn wsX3_linesShown wsX1_heightOf := goodIn_r _ [10, 11, 12, 13, 14, 15, 16, 9, 17, 18, 19, 20, 21, 22, 23, 24, 25, 26, 27, 28, 29, 34, 35, 36, 37, 38, 39, 40] (by decide +kernel) (by decide +kernel)
set_option maxRecDepth 20000 in
theorem gX3_linesShown_X1_heightOf : GoodIn wsX3_linesShown (wsV RX3 97 RX1 yX1_heightOf wsX1_heightOf) := goodIn_app (goodIn_of _ (by decide +kernel)) ggX3_linesShown_X1_heightOf
theorem dX3_linesShown_0 : decode cX3_linesShown 0 = .ok (.iconst 0, 1) := by decide +kernel
theorem dX3_linesShown_1 : decode cX3_linesShown 1 = .ok (.istore_n 1, 1) := by decide +kernel
theorem dX3_linesShown_2 : decode cX3_linesShown 2 = .ok (.aload_n 0, 1) := by decide +kernel
theorem dX3_linesShown_3 : decode cX3_linesShown 3 = .ok (.getfield 29, 3) := by decide +kernel
theorem dX3_linesShown_6 : decode cX3_linesShown 6 = .ok (.ineg, 1) := by decide +kernel
theorem dX3_linesShown_7 : decode cX3_linesShown 7 = .ok (.istore_n 2, 1) := by decide +kernel
theorem dX3_linesShown_8 : decode cX3_linesShown 8 = .ok (.aload_n 0, 1) := by decide +kernel
theorem dX3_linesShown_9 : decode cX3_linesShown 9 = .ok (.getfield 26, 3) := by decide +kernel
theorem dX3_linesShown_12 : decode cX3_linesShown 12 = .ok (.istore_n 3, 1) := by decide +kernel
theorem dX3_linesShown_13 : decode cX3_linesShown 13 = .ok (.iload_n 3, 1) := by decide +kernel
theorem dX3_linesShown_14 : decode cX3_linesShown 14 = .ok (.aload_n 0, 1) := by decide +kernel
theorem dX3_linesShown_15 : decode cX3_linesShown 15 = .ok (.getfield 12, 3) := by decide +kernel
theorem dX3_linesShown_18 : decode cX3_linesShown 18 = .ok (.getfield 32, 3) := by decide +kernel
theorem dX3_linesShown_21 : decode cX3_linesShown 21 = .ok (.if_icmp .ge 35, 3) := by decide +kernel
theorem dX3_linesShown_24 : decode cX3_linesShown 24 = .ok (.iload_n 2, 1) := by decide +kernel
theorem dX3_linesShown_25 : decode cX3_linesShown 25 = .ok (.aload_n 0, 1) := by decide +kernel
theorem dX3_linesShown_26 : decode cX3_linesShown 26 = .ok (.getfield 18, 3) := by decide +kernel
theorem dX3_linesShown_29 : decode cX3_linesShown 29 = .ok (.if_icmp .ge 27, 3) := by decide +kernel
theorem dX3_linesShown_32 : decode cX3_linesShown 32 = .ok (.iload_n 2, 1) := by decide +kernel
theorem dX3_linesShown_33 : decode cX3_linesShown 33 = .ok (.aload_n 0, 1) := by decide +kernel
theorem dX3_linesShown_34 : decode cX3_linesShown 34 = .ok (.getfield 12, 3) := by decide +kernel
theorem dX3_linesShown_37 : decode cX3_linesShown 37 = .ok (.iload_n 3, 1) := by decide +kernel
theorem dX3_linesShown_38 : decode cX3_linesShown 38 = .ok (.invokevirtual 97, 3) := by decide +kernel
theorem dX3_linesShown_41 : decode cX3_linesShown 41 = .ok (.iadd, 1) := by decide +kernel
theorem dX3_linesShown_42 : decode cX3_linesShown 42 = .ok (.istore_n 2, 1) := by decide +kernel
theorem dX3_linesShown_43 : decode cX3_linesShown 43 = .ok (.iload_n 2, 1) := by decide +kernel
theorem dX3_linesShown_44 : decode cX3_linesShown 44 = .ok (.ifCond .le 6, 3) := by decide +kernel
theorem dX3_linesShown_47 : decode cX3_linesShown 47 = .ok (.iinc 1 1, 3) := by decide +kernel
theorem dX3_linesShown_50 : decode cX3_linesShown 50 = .ok (.iinc 3 1, 3) := by decide +kernel
theorem dX3_linesShown_53 : decode cX3_linesShown 53 = .ok (.goto (-40), 3) := by decide +kernel
theorem dX3_linesShown_56 : decode cX3_linesShown 56 = .ok (.iload_n 1, 1) := by decide +kernel
theorem dX3_linesShown_57 : decode cX3_linesShown 57 = .ok (.ireturn, 1) := by decide +kernel
set_option maxRecDepth 20000 in
theorem ggX4_init_X3_init : GoodIn wsX4_init wsX3_init := goodIn_r _ [19, 20, 2, 3, 21, 22, 23, 24, 25, 26, 27, 28, 29, 30, 31, 32, 33, 34, 35, 36, 37, 69, 70, 71, 72, 73, 74, 75, 52, 53, 54, 55] (by decide +kernel) (by decide +kernel)
set_option maxRecDepth 20000 in
theorem gX4_init_X3_init : GoodIn wsX4_init (wsX3_init) := ggX4_init_X3_init
set_option maxRecDepth 20000 in
theorem ggX4_init_X0_init : GoodIn wsX4_init wsX0_init := goodIn_r _ [40, 41, 2, 3, 42, 43, 5, 6, 44, 18, 19, 20, 21, 22, 23, 24, 25, 26, 27, 28, 29, 30, 31, 32, 33, 34, 35, 36, 37, 60, 61, 62, 52, 53, 54, 55, 69, 70, 71, 72, 73, 74, 75] (by decide +kernel) (by decide +kernel)
set_option maxRecDepth 20000 in
theorem gX4_init_X0_init : GoodIn wsX4_init (wsX0_init) := ggX4_init_X0_init
set_option maxRecDepth 20000 in
theorem ggX4_init_X2_init : GoodIn wsX4_init wsX2_init := goodIn_r _ [47, 48, 2, 3, 49, 50, 30, 51, 63, 64, 65, 66, 67, 68] (by decide +kernel) (by decide +kernel)
set_option maxRecDepth 20000 in
theorem gX4_init_X2_init : GoodIn wsX4_init (wsX2_init) := ggX4_init_X2_init
theorem dX4_init_0 : decode cX4_init 0 = .ok (.aload_n 0, 1) := by decide +kernel
theorem dX4_init_1 : decode cX4_init 1 = .ok (.invokespecial 1, 3) := by decide +kernel
theorem dX4_init_4 : decode cX4_init 4 = .ok (.aload_n 0, 1) := by decide +kernel
theorem dX4_init_5 : decode cX4_init 5 = .ok (.new 7, 3) := by decide +kernel
theorem dX4_init_8 : decode cX4_init 8 = .ok (.dup, 1) := by decide +kernel
theorem dX4_init_9 : decode cX4_init 9 = .ok (.invokespecial 9, 3) := by decide +kernel
theorem dX4_init_12 : decode cX4_init 12 = .ok (.putfield 10, 3) := by decide +kernel
theorem dX4_init_15 : decode cX4_init 15 = .ok (.aload_n 0, 1) := by decide +kernel
theorem dX4_init_16 : decode cX4_init 16 = .ok (.new 7, 3) := by decide +kernel
theorem dX4_init_19 : decode cX4_init 19 = .ok (.dup, 1) := by decide +kernel
theorem dX4_init_20 : decode cX4_init 20 = .ok (.invokespecial 9, 3) := by decide +kernel
theorem dX4_init_23 : decode cX4_init 23 = .ok (.putfield 16, 3) := by decide +kernel
theorem dX4_init_26 : decode cX4_init 26 = .ok (.aload_n 0, 1) := by decide +kernel
theorem dX4_init_27 : decode cX4_init 27 = .ok (.new 19, 3) := by decide +kernel
theorem dX4_init_30 : decode cX4_init 30 = .ok (.dup, 1) := by decide +kernel
theorem dX4_init_31 : decode cX4_init 31 = .ok (.invokespecial 21, 3) := by decide +kernel
theorem dX4_init_34 : decode cX4_init 34 = .ok (.putfield 22, 3) := by decide +kernel
theorem dX4_init_37 : decode cX4_init 37 = .ok (.aload_n 0, 1) := by decide +kernel
theorem dX4_init_38 : decode cX4_init 38 = .ok (.new 26, 3) := by decide +kernel
theorem dX4_init_41 : decode cX4_init 41 = .ok (.dup, 1) := by decide +kernel
theorem dX4_init_42 : decode cX4_init 42 = .ok (.invokespecial 28, 3) := by decide +kernel
theorem dX4_init_45 : decode cX4_init 45 = .ok (.putfield 29, 3) := by decide +kernel
theorem dX4_init_48 : decode cX4_init 48 = .ok (.return_, 1) := by decide +kernel
set_option maxRecDepth 20000 in
theorem ggX4_put_X3_copyFrom : GoodIn wsX4_put wsX3_copyFrom := goodIn_r _ [7, 8, 9, 10, 11, 12, 13, 14, 15, 16, 17, 18, 19, 20, 21, 22, 23, 24, 25, 26, 27, 117, 118, 119, 120, 121, 122, 123, 124, 125, 126, 127] (by decide +kernel) (by decide +kernel)
set_option maxRecDepth 20000 in
theorem gX4_put_X3_copyFrom : GoodIn wsX4_put (wsV RX4 33 RX3 yX3_copyFrom wsX3_copyFrom) := goodIn_app (goodIn_of _ (by decide +kernel)) ggX4_put_X3_copyFrom
set_option maxRecDepth 20000 in
theorem ggX4_put_X3_putIn : GoodIn wsX4_put wsX3_putIn := goodIn_r _ [31, 8, 32, 33, 34, 10, 35, 36, 37, 38, 39, 40, 15, 41, 42, 43, 44, 45, 26, 17, 18, 19, 20, 21, 22, 23, 46, 47, 48, 6, 49, 11, 9, 50, 51, 52, 53, 54, 55, 56, 57, 24, 25, 58, 59, 60, 61, 62, 63, 64, 65, 66, 27, 67, 68, 69, 70, 71, 72, 73, 74, 75, 76, 77, 78, 79, 80, 81, 82, 83, 84, 85, 86, 87, 88, 89, 90, 91, 117, 118, 119, 120, 121, 122, 123, 124, 125, 126, 127] (by decide +kernel) (by decide +kernel)
set_option maxRecDepth 20000 in
theorem gX4_put_X3_putIn : GoodIn wsX4_put (wsV RX4 37 RX3 yX3_putIn wsX3_putIn) := goodIn_app (goodIn_of _ (by decide +kernel)) ggX4_put_X3_putIn
set_option maxRecDepth 20000 in
theorem ggX4_put_X4_keepDraft : GoodIn wsX4_put wsX4_keepDraft := goodIn_r _ [95, 96, 2, 1, 97, 98, 99, 100, 101, 102, 103, 104, 105, 81, 106, 107, 108, 109, 110, 111, 112, 4, 5, 6, 7, 8, 9, 10, 11, 12, 13, 14, 15, 16, 17, 18, 19, 20, 21, 22, 23, 24, 25, 26, 27, 3, 113, 114, 115, 116, 128, 129, 130, 117, 118, 119, 120, 121, 122, 123, 124, 125, 126, 127] (by decide +kernel) (by decide +kernel)
set_option maxRecDepth 20000 in
theorem gX4_put_X4_keepDraft : GoodIn wsX4_put (wsV RX4 41 RX4 yX4_keepDraft wsX4_keepDraft) := goodIn_app (goodIn_of _ (by decide +kernel)) ggX4_put_X4_keepDraft
theorem dX4_put_0 : decode cX4_put 0 = .ok (.aload_n 0, 1) := by decide +kernel
theorem dX4_put_1 : decode cX4_put 1 = .ok (.getfield 16, 3) := by decide +kernel
theorem dX4_put_4 : decode cX4_put 4 = .ok (.aload_n 0, 1) := by decide +kernel
theorem dX4_put_5 : decode cX4_put 5 = .ok (.getfield 10, 3) := by decide +kernel
theorem dX4_put_8 : decode cX4_put 8 = .ok (.invokevirtual 33, 3) := by decide +kernel
theorem dX4_put_11 : decode cX4_put 11 = .ok (.aload_n 0, 1) := by decide +kernel
theorem dX4_put_12 : decode cX4_put 12 = .ok (.aload_n 0, 1) := by decide +kernel
theorem dX4_put_13 : decode cX4_put 13 = .ok (.getfield 16, 3) := by decide +kernel
theorem dX4_put_16 : decode cX4_put 16 = .ok (.iload_n 1, 1) := by decide +kernel
theorem dX4_put_17 : decode cX4_put 17 = .ok (.iload_n 2, 1) := by decide +kernel
theorem dX4_put_18 : decode cX4_put 18 = .ok (.iload_n 3, 1) := by decide +kernel
theorem dX4_put_19 : decode cX4_put 19 = .ok (.invokevirtual 37, 3) := by decide +kernel
theorem dX4_put_22 : decode cX4_put 22 = .ok (.invokevirtual 41, 3) := by decide +kernel
theorem dX4_put_25 : decode cX4_put 25 = .ok (.ireturn, 1) := by decide +kernel
set_option maxRecDepth 20000 in
theorem ggX4_cut_X3_copyFrom : GoodIn wsX4_cut wsX3_copyFrom := goodIn_r _ [7, 8, 9, 10, 11, 12, 13, 14, 15, 16, 17, 18, 19, 20, 21, 22, 23, 24, 25, 26, 27, 109, 110, 111, 112, 113, 114, 115, 116, 117, 118, 119] (by decide +kernel) (by decide +kernel)
set_option maxRecDepth 20000 in
theorem gX4_cut_X3_copyFrom : GoodIn wsX4_cut (wsV RX4 33 RX3 yX3_copyFrom wsX3_copyFrom) := goodIn_app (goodIn_of _ (by decide +kernel)) ggX4_cut_X3_copyFrom
set_option maxRecDepth 20000 in
theorem ggX4_cut_X3_takeOut : GoodIn wsX4_cut wsX3_takeOut := goodIn_r _ [31, 8, 32, 33, 10, 11, 34, 35, 36, 15, 37, 26, 38, 39, 40, 41, 17, 18, 19, 20, 21, 22, 23, 42, 43, 44, 45, 46, 24, 25, 47, 48, 49, 50, 51, 52, 53, 54, 27, 55, 56, 57, 6, 58, 9, 59, 60, 61, 62, 63, 64, 65, 66, 67, 68, 69, 70, 71, 72, 73, 74, 75, 76, 77, 78, 79, 80, 81, 82, 109, 110, 111, 112, 113, 114, 115, 116, 117, 118, 119] (by decide +kernel) (by decide +kernel)
set_option maxRecDepth 20000 in
theorem gX4_cut_X3_takeOut : GoodIn wsX4_cut (wsV RX4 45 RX3 yX3_takeOut wsX3_takeOut) := goodIn_app (goodIn_of _ (by decide +kernel)) ggX4_cut_X3_takeOut
set_option maxRecDepth 20000 in
theorem ggX4_cut_X4_keepDraft : GoodIn wsX4_cut wsX4_keepDraft := goodIn_r _ [87, 88, 2, 1, 89, 90, 91, 92, 93, 94, 95, 96, 97, 81, 98, 99, 100, 101, 102, 103, 104, 4, 5, 6, 7, 8, 9, 10, 11, 12, 13, 14, 15, 16, 17, 18, 19, 20, 21, 22, 23, 24, 25, 26, 27, 3, 105, 106, 107, 108, 120, 121, 122, 109, 110, 111, 112, 113, 114, 115, 116, 117, 118, 119] (by decide +kernel) (by decide +kernel)
set_option maxRecDepth 20000 in
theorem gX4_cut_X4_keepDraft : GoodIn wsX4_cut (wsV RX4 41 RX4 yX4_keepDraft wsX4_keepDraft) := goodIn_app (goodIn_of _ (by decide +kernel)) ggX4_cut_X4_keepDraft
theorem dX4_cut_0 : decode cX4_cut 0 = .ok (.aload_n 0, 1) := by decide +kernel
theorem dX4_cut_1 : decode cX4_cut 1 = .ok (.getfield 16, 3) := by decide +kernel
theorem dX4_cut_4 : decode cX4_cut 4 = .ok (.aload_n 0, 1) := by decide +kernel
theorem dX4_cut_5 : decode cX4_cut 5 = .ok (.getfield 10, 3) := by decide +kernel
theorem dX4_cut_8 : decode cX4_cut 8 = .ok (.invokevirtual 33, 3) := by decide +kernel
theorem dX4_cut_11 : decode cX4_cut 11 = .ok (.aload_n 0, 1) := by decide +kernel
theorem dX4_cut_12 : decode cX4_cut 12 = .ok (.aload_n 0, 1) := by decide +kernel
theorem dX4_cut_13 : decode cX4_cut 13 = .ok (.getfield 16, 3) := by decide +kernel
theorem dX4_cut_16 : decode cX4_cut 16 = .ok (.iload_n 1, 1) := by decide +kernel
theorem dX4_cut_17 : decode cX4_cut 17 = .ok (.invokevirtual 45, 3) := by decide +kernel
end
section
theorem dX4_cut_20 : decode cX4_cut 20 = .ok (.invokevirtual 41, 3) := by decide +kernel
theorem dX4_cut_23 : decode cX4_cut 23 = .ok (.ireturn, 1) := by decide +kernel
set_option maxRecDepth 20000 in
theorem ggX4_change_X3_copyFrom : GoodIn wsX4_change wsX3_copyFrom := goodIn_r _ [7, 8, 9, 10, 11, 12, 13, 14, 15, 16, 17, 18, 19, 20, 21, 22, 23, 24, 25, 26, 27, 112, 113, 114, 115, 116, 117, 118, 119, 120, 121, 122] (by decide +kernel) (by decide +kernel)
set_option maxRecDepth 20000 in
theorem gX4_change_X3_copyFrom : GoodIn wsX4_change (wsV RX4 33 RX3 yX3_copyFrom wsX3_copyFrom) := goodIn_app (goodIn_of _ (by decide +kernel)) ggX4_change_X3_copyFrom
set_option maxRecDepth 20000 in
theorem ggX4_change_X3_changeLength : GoodIn wsX4_change wsX3_changeLength := goodIn_r _ [31, 8, 32, 33, 34, 35, 36, 15, 37, 26, 38, 39, 40, 41, 42, 43, 44, 22, 45, 46, 47, 48, 49, 23, 17, 24, 25, 50, 51, 52, 53, 54, 55, 56, 57, 27, 58, 59, 60, 6, 61, 62, 11, 9, 10, 63, 64, 65, 66, 67, 68, 69, 70, 71, 72, 73, 74, 75, 76, 77, 78, 79, 80, 81, 82, 83, 84, 85, 86, 112, 113, 114, 115, 116, 117, 118, 119, 120, 121, 122] (by decide +kernel) (by decide +kernel)
set_option maxRecDepth 20000 in
theorem gX4_change_X3_changeLength : GoodIn wsX4_change (wsV RX4 48 RX3 yX3_changeLength wsX3_changeLength) := goodIn_app (goodIn_of _ (by decide +kernel)) ggX4_change_X3_changeLength
set_option maxRecDepth 20000 in
theorem ggX4_change_X4_keepDraft : GoodIn wsX4_change wsX4_keepDraft := goodIn_r _ [90, 91, 2, 1, 92, 93, 94, 95, 96, 97, 98, 99, 100, 85, 101, 102, 103, 104, 105, 106, 107, 4, 5, 6, 7, 8, 9, 10, 11, 12, 13, 14, 15, 16, 17, 18, 19, 20, 21, 22, 23, 24, 25, 26, 27, 3, 108, 109, 110, 111, 123, 124, 125, 112, 113, 114, 115, 116, 117, 118, 119, 120, 121, 122] (by decide +kernel) (by decide +kernel)
set_option maxRecDepth 20000 in
theorem gX4_change_X4_keepDraft : GoodIn wsX4_change (wsV RX4 41 RX4 yX4_keepDraft wsX4_keepDraft) := goodIn_app (goodIn_of _ (by decide +kernel)) ggX4_change_X4_keepDraft
theorem dX4_change_0 : decode cX4_change 0 = .ok (.aload_n 0, 1) := by decide +kernel
theorem dX4_change_1 : decode cX4_change 1 = .ok (.getfield 16, 3) := by decide +kernel
theorem dX4_change_4 : decode cX4_change 4 = .ok (.aload_n 0, 1) := by decide +kernel
theorem dX4_change_5 : decode cX4_change 5 = .ok (.getfield 10, 3) := by decide +kernel
theorem dX4_change_8 : decode cX4_change 8 = .ok (.invokevirtual 33, 3) := by decide +kernel
theorem dX4_change_11 : decode cX4_change 11 = .ok (.aload_n 0, 1) := by decide +kernel
theorem dX4_change_12 : decode cX4_change 12 = .ok (.aload_n 0, 1) := by decide +kernel
theorem dX4_change_13 : decode cX4_change 13 = .ok (.getfield 16, 3) := by decide +kernel
theorem dX4_change_16 : decode cX4_change 16 = .ok (.iload_n 1, 1) := by decide +kernel
theorem dX4_change_17 : decode cX4_change 17 = .ok (.iload_n 2, 1) := by decide +kernel
theorem dX4_change_18 : decode cX4_change 18 = .ok (.invokevirtual 48, 3) := by decide +kernel
theorem dX4_change_21 : decode cX4_change 21 = .ok (.invokevirtual 41, 3) := by decide +kernel
theorem dX4_change_24 : decode cX4_change 24 = .ok (.ireturn, 1) := by decide +kernel
set_option maxRecDepth 20000 in
theorem ggX4_setHeight_X3_copyFrom : GoodIn wsX4_setHeight wsX3_copyFrom := goodIn_r _ [7, 8, 9, 10, 11, 12, 13, 14, 15, 16, 17, 18, 19, 20, 21, 22, 23, 24, 25, 26, 27, 102, 103, 104, 105, 106, 107, 108, 109, 110, 111, 112] (by decide +kernel) (by decide +kernel)
set_option maxRecDepth 20000 in
theorem gX4_setHeight_X3_copyFrom : GoodIn wsX4_setHeight (wsV RX4 33 RX3 yX3_copyFrom wsX3_copyFrom) := goodIn_app (goodIn_of _ (by decide +kernel)) ggX4_setHeight_X3_copyFrom
set_option maxRecDepth 20000 in
theorem ggX4_setHeight_X3_changeHeight : GoodIn wsX4_setHeight wsX3_changeHeight := goodIn_r _ [31, 32, 9, 33, 34, 35, 36, 37, 38, 6, 39, 8, 40, 11, 10, 41, 42, 43, 44, 45, 46, 47, 15, 48, 23, 17, 24, 22, 25, 49, 50, 51, 52, 26, 53, 54, 55, 56, 57, 58, 59, 60, 27, 61, 62, 63, 64, 65, 66, 67, 68, 69, 70, 71, 72, 73, 74, 75, 76, 102, 103, 104, 105, 106, 107, 108, 109, 110, 111, 112] (by decide +kernel) (by decide +kernel)
set_option maxRecDepth 20000 in
theorem gX4_setHeight_X3_changeHeight : GoodIn wsX4_setHeight (wsV RX4 52 RX3 yX3_changeHeight wsX3_changeHeight) := goodIn_app (goodIn_of _ (by decide +kernel)) ggX4_setHeight_X3_changeHeight
set_option maxRecDepth 20000 in
theorem ggX4_setHeight_X4_keepDraft : GoodIn wsX4_setHeight wsX4_keepDraft := goodIn_r _ [80, 81, 2, 1, 82, 83, 84, 85, 86, 87, 88, 89, 90, 75, 91, 92, 93, 94, 95, 96, 97, 4, 5, 6, 7, 8, 9, 10, 11, 12, 13, 14, 15, 16, 17, 18, 19, 20, 21, 22, 23, 24, 25, 26, 27, 3, 98, 99, 100, 101, 113, 114, 115, 102, 103, 104, 105, 106, 107, 108, 109, 110, 111, 112] (by decide +kernel) (by decide +kernel)
set_option maxRecDepth 20000 in
theorem gX4_setHeight_X4_keepDraft : GoodIn wsX4_setHeight (wsV RX4 41 RX4 yX4_keepDraft wsX4_keepDraft) := goodIn_app (goodIn_of _ (by decide +kernel)) ggX4_setHeight_X4_keepDraft
theorem dX4_setHeight_0 : decode cX4_setHeight 0 = .ok (.aload_n 0, 1) := by decide +kernel
theorem dX4_setHeight_1 : decode cX4_setHeight 1 = .ok (.getfield 16, 3) := by decide +kernel
theorem dX4_setHeight_4 : decode cX4_setHeight 4 = .ok (.aload_n 0, 1) := by decide +kernel
theorem dX4_setHeight_5 : decode cX4_setHeight 5 = .ok (.getfield 10, 3) := by decide +kernel
theorem dX4_setHeight_8 : decode cX4_setHeight 8 = .ok (.invokevirtual 33, 3) := by decide +kernel
theorem dX4_setHeight_11 : decode cX4_setHeight 11 = .ok (.aload_n 0, 1) := by decide +kernel
theorem dX4_setHeight_12 : decode cX4_setHeight 12 = .ok (.aload_n 0, 1) := by decide +kernel
theorem dX4_setHeight_13 : decode cX4_setHeight 13 = .ok (.getfield 16, 3) := by decide +kernel
theorem dX4_setHeight_16 : decode cX4_setHeight 16 = .ok (.iload_n 1, 1) := by decide +kernel
theorem dX4_setHeight_17 : decode cX4_setHeight 17 = .ok (.invokevirtual 52, 3) := by decide +kernel
theorem dX4_setHeight_20 : decode cX4_setHeight 20 = .ok (.invokevirtual 41, 3) := by decide +kernel
theorem dX4_setHeight_23 : decode cX4_setHeight 23 = .ok (.ireturn, 1) := by decide +kernel
set_option maxRecDepth 20000 in
theorem ggX4_setWidth_X3_copyFrom : GoodIn wsX4_setWidth wsX3_copyFrom := goodIn_r _ [7, 8, 9, 10, 11, 12, 13, 14, 15, 16, 17, 18, 19, 20, 21, 22, 23, 24, 25, 26, 27, 111, 112, 113, 114, 115, 116, 117, 118, 119, 120, 121] (by decide +kernel) (by decide +kernel)
set_option maxRecDepth 20000 in
theorem gX4_setWidth_X3_copyFrom : GoodIn wsX4_setWidth (wsV RX4 33 RX3 yX3_copyFrom wsX3_copyFrom) := goodIn_app (goodIn_of _ (by decide +kernel)) ggX4_setWidth_X3_copyFrom
set_option maxRecDepth 20000 in
theorem ggX4_setWidth_X3_changeWidth : GoodIn wsX4_setWidth wsX3_changeWidth := goodIn_r _ [31, 32, 8, 33, 34, 35, 36, 37, 38, 39, 15, 40, 26, 27, 41, 42, 43, 44, 23, 17, 24, 22, 25, 45, 46, 47, 48, 49, 50, 51, 52, 53, 54, 55, 56, 57, 58, 59, 6, 60, 61, 11, 9, 10, 62, 63, 64, 65, 66, 67, 68, 69, 70, 71, 72, 73, 74, 75, 76, 77, 78, 79, 80, 81, 82, 83, 84, 85, 111, 112, 113, 114, 115, 116, 117, 118, 119, 120, 121] (by decide +kernel) (by decide +kernel)
set_option maxRecDepth 20000 in
theorem gX4_setWidth_X3_changeWidth : GoodIn wsX4_setWidth (wsV RX4 55 RX3 yX3_changeWidth wsX3_changeWidth) := goodIn_app (goodIn_of _ (by decide +kernel)) ggX4_setWidth_X3_changeWidth
set_option maxRecDepth 20000 in
theorem ggX4_setWidth_X4_keepDraft : GoodIn wsX4_setWidth wsX4_keepDraft := goodIn_r _ [89, 90, 2, 1, 91, 92, 93, 94, 95, 96, 97, 98, 99, 84, 100, 101, 102, 103, 104, 105, 106, 4, 5, 6, 7, 8, 9, 10, 11, 12, 13, 14, 15, 16, 17, 18, 19, 20, 21, 22, 23, 24, 25, 26, 27, 3, 107, 108, 109, 110, 122, 123, 124, 111, 112, 113, 114, 115, 116, 117, 118, 119, 120, 121] (by decide +kernel) (by decide +kernel)
set_option maxRecDepth 20000 in
theorem gX4_setWidth_X4_keepDraft : GoodIn wsX4_setWidth (wsV RX4 41 RX4 yX4_keepDraft wsX4_keepDraft) := goodIn_app (goodIn_of _ (by decide +kernel)) ggX4_setWidth_X4_keepDraft
theorem dX4_setWidth_0 : decode cX4_setWidth 0 = .ok (.aload_n 0, 1) := by decide +kernel
theorem dX4_setWidth_1 : decode cX4_setWidth 1 = .ok (.getfield 16, 3) := by decide +kernel
theorem dX4_setWidth_4 : decode cX4_setWidth 4 = .ok (.aload_n 0, 1) := by decide +kernel
theorem dX4_setWidth_5 : decode cX4_setWidth 5 = .ok (.getfield 10, 3) := by decide +kernel
theorem dX4_setWidth_8 : decode cX4_setWidth 8 = .ok (.invokevirtual 33, 3) := by decide +kernel
theorem dX4_setWidth_11 : decode cX4_setWidth 11 = .ok (.aload_n 0, 1) := by decide +kernel
theorem dX4_setWidth_12 : decode cX4_setWidth 12 = .ok (.aload_n 0, 1) := by decide +kernel
theorem dX4_setWidth_13 : decode cX4_setWidth 13 = .ok (.getfield 16, 3) := by decide +kernel
theorem dX4_setWidth_16 : decode cX4_setWidth 16 = .ok (.iload_n 1, 1) := by decide +kernel
theorem dX4_setWidth_17 : decode cX4_setWidth 17 = .ok (.invokevirtual 55, 3) := by decide +kernel
theorem dX4_setWidth_20 : decode cX4_setWidth 20 = .ok (.invokevirtual 41, 3) := by decide +kernel
theorem dX4_setWidth_23 : decode cX4_setWidth 23 = .ok (.ireturn, 1) := by decide +kernel
set_option maxRecDepth 20000 in
theorem ggX4_scroll_X3_copyFrom : GoodIn wsX4_scroll wsX3_copyFrom := goodIn_r _ [7, 8, 9, 10, 11, 12, 13, 14, 15, 16, 17, 18, 19, 20, 21, 22, 23, 24, 25, 26, 27, 103, 104, 105, 106, 107, 108, 109, 110, 111, 112, 113] (by decide +kernel) (by decide +kernel)
set_option maxRecDepth 20000 in
theorem gX4_scroll_X3_copyFrom : GoodIn wsX4_scroll (wsV RX4 33 RX3 yX3_copyFrom wsX3_copyFrom) := goodIn_app (goodIn_of _ (by decide +kernel)) ggX4_scroll_X3_copyFrom
set_option maxRecDepth 20000 in
theorem ggX4_scroll_X3_moveBy : GoodIn wsX4_scroll wsX3_moveBy := goodIn_r _ [31, 32, 8, 33, 34, 11, 10, 35, 36, 37, 38, 39, 40, 6, 41, 42, 43, 44, 45, 46, 47, 48, 15, 49, 23, 17, 24, 22, 25, 50, 51, 52, 53, 26, 54, 55, 56, 57, 58, 59, 60, 61, 27, 62, 63, 64, 65, 66, 67, 68, 69, 70, 71, 72, 73, 9, 74, 75, 76, 77, 103, 104, 105, 106, 107, 108, 109, 110, 111, 112, 113] (by decide +kernel) (by decide +kernel)
set_option maxRecDepth 20000 in
theorem gX4_scroll_X3_moveBy : GoodIn wsX4_scroll (wsV RX4 58 RX3 yX3_moveBy wsX3_moveBy) := goodIn_app (goodIn_of _ (by decide +kernel)) ggX4_scroll_X3_moveBy
set_option maxRecDepth 20000 in
theorem ggX4_scroll_X4_keepDraft : GoodIn wsX4_scroll wsX4_keepDraft := goodIn_r _ [81, 82, 2, 1, 83, 84, 85, 86, 87, 88, 89, 90, 91, 44, 92, 93, 94, 95, 96, 97, 98, 4, 5, 6, 7, 8, 9, 10, 11, 12, 13, 14, 15, 16, 17, 18, 19, 20, 21, 22, 23, 24, 25, 26, 27, 3, 99, 100, 101, 102, 114, 115, 116, 103, 104, 105, 106, 107, 108, 109, 110, 111, 112, 113] (by decide +kernel) (by decide +kernel)
set_option maxRecDepth 20000 in
theorem gX4_scroll_X4_keepDraft : GoodIn wsX4_scroll (wsV RX4 41 RX4 yX4_keepDraft wsX4_keepDraft) := goodIn_app (goodIn_of _ (by decide +kernel)) ggX4_scroll_X4_keepDraft
theorem dX4_scroll_0 : decode cX4_scroll 0 = .ok (.aload_n 0, 1) := by decide +kernel
theorem dX4_scroll_1 : decode cX4_scroll 1 = .ok (.getfield 16, 3) := by decide +kernel
theorem dX4_scroll_4 : decode cX4_scroll 4 = .ok (.aload_n 0, 1) := by decide +kernel
theorem dX4_scroll_5 : decode cX4_scroll 5 = .ok (.getfield 10, 3) := by decide +kernel
theorem dX4_scroll_8 : decode cX4_scroll 8 = .ok (.invokevirtual 33, 3) := by decide +kernel
theorem dX4_scroll_11 : decode cX4_scroll 11 = .ok (.aload_n 0, 1) := by decide +kernel
theorem dX4_scroll_12 : decode cX4_scroll 12 = .ok (.aload_n 0, 1) := by decide +kernel
theorem dX4_scroll_13 : decode cX4_scroll 13 = .ok (.getfield 16, 3) := by decide +kernel
theorem dX4_scroll_16 : decode cX4_scroll 16 = .ok (.iload_n 1, 1) := by decide +kernel
theorem dX4_scroll_17 : decode cX4_scroll 17 = .ok (.invokevirtual 58, 3) := by decide +kernel
theorem dX4_scroll_20 : decode cX4_scroll 20 = .ok (.invokevirtual 41, 3) := by decide +kernel
theorem dX4_scroll_23 : decode cX4_scroll 23 = .ok (.ireturn, 1) := by decide +kernel
set_option maxRecDepth 20000 in
theorem ggX4_jump_X3_copyFrom : GoodIn wsX4_jump wsX3_copyFrom := goodIn_r _ [7, 8, 9, 10, 11, 12, 13, 14, 15, 16, 17, 18, 19, 20, 21, 22, 23, 24, 25, 26, 27, 118, 119, 120, 121, 122, 123, 124, 125, 126, 127, 128] (by decide +kernel) (by decide +kernel)
set_option maxRecDepth 20000 in
theorem gX4_jump_X3_copyFrom : GoodIn wsX4_jump (wsV RX4 33 RX3 yX3_copyFrom wsX3_copyFrom) := goodIn_app (goodIn_of _ (by decide +kernel)) ggX4_jump_X3_copyFrom
set_option maxRecDepth 20000 in
theorem ggX4_jump_X3_moveToShare : GoodIn wsX4_jump wsX3_moveToShare := goodIn_r _ [31, 32, 8, 33, 34, 9, 35, 36, 37, 38, 10, 11, 39, 40, 41, 42, 43, 44, 15, 45, 26, 46, 47, 48, 49, 50, 51, 52, 53, 23, 17, 22, 54, 55, 56, 57, 58, 59, 60, 61, 27, 62, 63, 64, 65, 25, 24, 66, 67, 68, 69, 70, 71, 72, 73, 74, 6, 75, 76, 77, 78, 79, 80, 81, 82, 83, 84, 85, 86, 87, 88, 89, 90, 91, 92, 118, 119, 120, 121, 122, 123, 124, 125, 126, 127, 128] (by decide +kernel) (by decide +kernel)
set_option maxRecDepth 20000 in
theorem gX4_jump_X3_moveToShare : GoodIn wsX4_jump (wsV RX4 61 RX3 yX3_moveToShare wsX3_moveToShare) := goodIn_app (goodIn_of _ (by decide +kernel)) ggX4_jump_X3_moveToShare
set_option maxRecDepth 20000 in
theorem ggX4_jump_X4_keepDraft : GoodIn wsX4_jump wsX4_keepDraft := goodIn_r _ [96, 97, 2, 1, 98, 99, 100, 101, 102, 103, 104, 105, 106, 37, 107, 108, 109, 110, 111, 112, 113, 4, 5, 6, 7, 8, 9, 10, 11, 12, 13, 14, 15, 16, 17, 18, 19, 20, 21, 22, 23, 24, 25, 26, 27, 3, 114, 115, 116, 117, 129, 130, 131, 118, 119, 120, 121, 122, 123, 124, 125, 126, 127, 128] (by decide +kernel) (by decide +kernel)
set_option maxRecDepth 20000 in
theorem gX4_jump_X4_keepDraft : GoodIn wsX4_jump (wsV RX4 41 RX4 yX4_keepDraft wsX4_keepDraft) := goodIn_app (goodIn_of _ (by decide +kernel)) ggX4_jump_X4_keepDraft
theorem dX4_jump_0 : decode cX4_jump 0 = .ok (.aload_n 0, 1) := by decide +kernel
theorem dX4_jump_1 : decode cX4_jump 1 = .ok (.getfield 16, 3) := by decide +kernel
theorem dX4_jump_4 : decode cX4_jump 4 = .ok (.aload_n 0, 1) := by decide +kernel
theorem dX4_jump_5 : decode cX4_jump 5 = .ok (.getfield 10, 3) := by decide +kernel
theorem dX4_jump_8 : decode cX4_jump 8 = .ok (.invokevirtual 33, 3) := by decide +kernel
theorem dX4_jump_11 : decode cX4_jump 11 = .ok (.aload_n 0, 1) := by decide +kernel
theorem dX4_jump_12 : decode cX4_jump 12 = .ok (.aload_n 0, 1) := by decide +kernel
theorem dX4_jump_13 : decode cX4_jump 13 = .ok (.getfield 16, 3) := by decide +kernel
theorem dX4_jump_16 : decode cX4_jump 16 = .ok (.iload_n 1, 1) := by decide +kernel
theorem dX4_jump_17 : decode cX4_jump 17 = .ok (.invokevirtual 61, 3) := by decide +kernel
theorem dX4_jump_20 : decode cX4_jump 20 = .ok (.invokevirtual 41, 3) := by decide +kernel
theorem dX4_jump_23 : decode cX4_jump 23 = .ok (.ireturn, 1) := by decide +kernel
set_option maxRecDepth 20000 in
theorem ggX4_goTo_X3_copyFrom : GoodIn wsX4_goTo wsX3_copyFrom := goodIn_r _ [7, 8, 9, 10, 11, 12, 13, 14, 15, 16, 17, 18, 19, 20, 21, 22, 23, 24, 25, 26, 27, 101, 102, 103, 104, 105, 106, 107, 108, 109, 110, 111] (by decide +kernel) (by decide +kernel)
set_option maxRecDepth 20000 in
theorem gX4_goTo_X3_copyFrom : GoodIn wsX4_goTo (wsV RX4 33 RX3 yX3_copyFrom wsX3_copyFrom) := goodIn_app (goodIn_of _ (by decide +kernel)) ggX4_goTo_X3_copyFrom
set_option maxRecDepth 20000 in
theorem ggX4_goTo_X3_moveToLine : GoodIn wsX4_goTo wsX3_moveToLine := goodIn_r _ [31, 8, 32, 10, 11, 33, 34, 35, 15, 36, 26, 37, 38, 39, 6, 40, 41, 9, 42, 43, 44, 45, 46, 47, 48, 49, 23, 17, 24, 22, 25, 50, 51, 52, 53, 54, 55, 56, 57, 58, 27, 59, 60, 61, 62, 63, 64, 65, 66, 67, 68, 69, 70, 71, 72, 73, 74, 101, 102, 103, 104, 105, 106, 107, 108, 109, 110, 111] (by decide +kernel) (by decide +kernel)
set_option maxRecDepth 20000 in
theorem gX4_goTo_X3_moveToLine : GoodIn wsX4_goTo (wsV RX4 64 RX3 yX3_moveToLine wsX3_moveToLine) := goodIn_app (goodIn_of _ (by decide +kernel)) ggX4_goTo_X3_moveToLine
set_option maxRecDepth 20000 in
theorem ggX4_goTo_X4_keepDraft : GoodIn wsX4_goTo wsX4_keepDraft := goodIn_r _ [79, 80, 2, 1, 81, 82, 83, 84, 85, 86, 87, 88, 89, 73, 90, 91, 92, 93, 94, 95, 96, 4, 5, 6, 7, 8, 9, 10, 11, 12, 13, 14, 15, 16, 17, 18, 19, 20, 21, 22, 23, 24, 25, 26, 27, 3, 97, 98, 99, 100, 112, 113, 114, 101, 102, 103, 104, 105, 106, 107, 108, 109, 110, 111] (by decide +kernel) (by decide +kernel)
set_option maxRecDepth 20000 in
theorem gX4_goTo_X4_keepDraft : GoodIn wsX4_goTo (wsV RX4 41 RX4 yX4_keepDraft wsX4_keepDraft) := goodIn_app (goodIn_of _ (by decide +kernel)) ggX4_goTo_X4_keepDraft
theorem dX4_goTo_0 : decode cX4_goTo 0 = .ok (.aload_n 0, 1) := by decide +kernel
theorem dX4_goTo_1 : decode cX4_goTo 1 = .ok (.getfield 16, 3) := by decide +kernel
theorem dX4_goTo_4 : decode cX4_goTo 4 = .ok (.aload_n 0, 1) := by decide +kernel
theorem dX4_goTo_5 : decode cX4_goTo 5 = .ok (.getfield 10, 3) := by decide +kernel
theorem dX4_goTo_8 : decode cX4_goTo 8 = .ok (.invokevirtual 33, 3) := by decide +kernel
theorem dX4_goTo_11 : decode cX4_goTo 11 = .ok (.aload_n 0, 1) := by decide +kernel
theorem dX4_goTo_12 : decode cX4_goTo 12 = .ok (.aload_n 0, 1) := by decide +kernel
theorem dX4_goTo_13 : decode cX4_goTo 13 = .ok (.getfield 16, 3) := by decide +kernel
theorem dX4_goTo_16 : decode cX4_goTo 16 = .ok (.iload_n 1, 1) := by decide +kernel
theorem dX4_goTo_17 : decode cX4_goTo 17 = .ok (.invokevirtual 64, 3) := by decide +kernel
theorem dX4_goTo_20 : decode cX4_goTo 20 = .ok (.invokevirtual 41, 3) := by decide +kernel
theorem dX4_goTo_23 : decode cX4_goTo 23 = .ok (.ireturn, 1) := by decide +kernel
set_option maxRecDepth 20000 in
theorem ggX4_undo_X0_restoreTo : GoodIn wsX4_undo wsX0_restoreTo := goodIn_r _ [9, 10, 11, 12, 13, 14, 8, 15, 16, 17, 18, 19, 20, 21, 22, 23, 24, 25, 26, 27, 28, 29, 30, 31, 32, 33, 34, 35, 36, 37, 38, 39, 40, 41, 46, 47, 48, 49, 50, 51, 52, 53, 54, 55, 56, 57, 58, 59] (by decide +kernel) (by decide +kernel)
set_option maxRecDepth 20000 in
theorem gX4_undo_X0_restoreTo : GoodIn wsX4_undo (wsV RX4 72 RX0 yX0_restoreTo wsX0_restoreTo) := goodIn_app (goodIn_of _ (by decide +kernel)) ggX4_undo_X0_restoreTo
theorem dX4_undo_0 : decode cX4_undo 0 = .ok (.aload_n 0, 1) := by decide +kernel
theorem dX4_undo_1 : decode cX4_undo 1 = .ok (.getfield 22, 3) := by decide +kernel
theorem dX4_undo_4 : decode cX4_undo 4 = .ok (.getfield 67, 3) := by decide +kernel
theorem dX4_undo_7 : decode cX4_undo 7 = .ok (.ifCond .ne 6, 3) := by decide +kernel
theorem dX4_undo_10 : decode cX4_undo 10 = .ok (.ldc 71, 2) := by decide +kernel
theorem dX4_undo_12 : decode cX4_undo 12 = .ok (.ireturn, 1) := by decide +kernel
theorem dX4_undo_13 : decode cX4_undo 13 = .ok (.aload_n 0, 1) := by decide +kernel
theorem dX4_undo_14 : decode cX4_undo 14 = .ok (.getfield 22, 3) := by decide +kernel
theorem dX4_undo_17 : decode cX4_undo 17 = .ok (.aload_n 0, 1) := by decide +kernel
theorem dX4_undo_18 : decode cX4_undo 18 = .ok (.getfield 10, 3) := by decide +kernel
theorem dX4_undo_21 : decode cX4_undo 21 = .ok (.invokevirtual 72, 3) := by decide +kernel
theorem dX4_undo_24 : decode cX4_undo 24 = .ok (.aload_n 0, 1) := by decide +kernel
theorem dX4_undo_25 : decode cX4_undo 25 = .ok (.getfield 22, 3) := by decide +kernel
theorem dX4_undo_28 : decode cX4_undo 28 = .ok (.getfield 67, 3) := by decide +kernel
theorem dX4_undo_31 : decode cX4_undo 31 = .ok (.ireturn, 1) := by decide +kernel
set_option maxRecDepth 20000 in
theorem ggX4_append_X4_isOutside : GoodIn wsX4_append wsX4_isOutside := goodIn_r _ [6] (by decide +kernel) (by decide +kernel)
set_option maxRecDepth 20000 in
theorem gX4_append_X4_isOutside : GoodIn wsX4_append (va_wsS RX4 75 yX4_isOutside wsX4_isOutside) := goodIn_app (goodIn_of _ (by decide +kernel)) ggX4_append_X4_isOutside
set_option maxRecDepth 20000 in
theorem ggX4_append_X2_add : GoodIn wsX4_append wsX2_add := goodIn_r _ [11, 12, 13, 14, 19, 20, 21, 22, 23, 24] (by decide +kernel) (by decide +kernel)
set_option maxRecDepth 20000 in
theorem gX4_append_X2_add : GoodIn wsX4_append (wsV RX4 80 RX2 yX2_add wsX2_add) := goodIn_app (goodIn_of _ (by decide +kernel)) ggX4_append_X2_add
theorem dX4_append_0 : decode cX4_append 0 = .ok (.iload_n 1, 1) := by decide +kernel
theorem dX4_append_1 : decode cX4_append 1 = .ok (.iconst 1, 1) := by decide +kernel
theorem dX4_append_2 : decode cX4_append 2 = .ok (.sipush 255, 3) := by decide +kernel
theorem dX4_append_5 : decode cX4_append 5 = .ok (.invokestatic 75, 3) := by decide +kernel
theorem dX4_append_8 : decode cX4_append 8 = .ok (.ifCond .eq 6, 3) := by decide +kernel
theorem dX4_append_11 : decode cX4_append 11 = .ok (.ldc 79, 2) := by decide +kernel
theorem dX4_append_13 : decode cX4_append 13 = .ok (.ireturn, 1) := by decide +kernel
theorem dX4_append_14 : decode cX4_append 14 = .ok (.aload_n 0, 1) := by decide +kernel
theorem dX4_append_15 : decode cX4_append 15 = .ok (.getfield 29, 3) := by decide +kernel
theorem dX4_append_18 : decode cX4_append 18 = .ok (.iload_n 1, 1) := by decide +kernel
theorem dX4_append_19 : decode cX4_append 19 = .ok (.i2c, 1) := by decide +kernel
theorem dX4_append_20 : decode cX4_append 20 = .ok (.invokevirtual 80, 3) := by decide +kernel
theorem dX4_append_23 : decode cX4_append 23 = .ok (.ireturn, 1) := by decide +kernel
set_option maxRecDepth 20000 in
theorem ggX4_clearText_X2_clear : GoodIn wsX4_clearText wsX2_clear := goodIn_r _ [6, 7, 12, 13, 14, 15, 16, 17] (by decide +kernel) (by decide +kernel)
set_option maxRecDepth 20000 in
theorem gX4_clearText_X2_clear : GoodIn wsX4_clearText (wsV RX4 84 RX2 yX2_clear wsX2_clear) := goodIn_app (goodIn_of _ (by decide +kernel)) ggX4_clearText_X2_clear
theorem dX4_clearText_0 : decode cX4_clearText 0 = .ok (.aload_n 0, 1) := by decide +kernel
theorem dX4_clearText_1 : decode cX4_clearText 1 = .ok (.getfield 29, 3) := by decide +kernel
theorem dX4_clearText_4 : decode cX4_clearText 4 = .ok (.invokevirtual 84, 3) := by decide +kernel
theorem dX4_clearText_7 : decode cX4_clearText 7 = .ok (.ireturn, 1) := by decide +kernel
set_option maxRecDepth 20000 in
theorem ggX4_run_X3_copyFrom : GoodIn wsX4_run wsX3_copyFrom := goodIn_r _ [9, 10, 11, 12, 13, 14, 15, 16, 17, 18, 19, 20, 21, 22, 23, 24, 25, 26, 27, 28, 29, 264, 265, 266, 267, 268, 269, 270, 271, 272, 273, 274] (by decide +kernel) (by decide +kernel)
set_option maxRecDepth 20000 in
theorem gX4_run_X3_copyFrom : GoodIn wsX4_run (wsV RX4 33 RX3 yX3_copyFrom wsX3_copyFrom) := goodIn_app (goodIn_of _ (by decide +kernel)) ggX4_run_X3_copyFrom
set_option maxRecDepth 20000 in
theorem ggX4_run_X2_rewind : GoodIn wsX4_run wsX2_rewind := goodIn_r _ [34, 35, 36, 37, 258, 259, 260, 261, 262, 263] (by decide +kernel) (by decide +kernel)
set_option maxRecDepth 20000 in
theorem gX4_run_X2_rewind : GoodIn wsX4_run (wsV RX4 88 RX2 yX2_rewind wsX2_rewind) := goodIn_app (goodIn_of _ (by decide +kernel)) ggX4_run_X2_rewind
set_option maxRecDepth 20000 in
theorem ggX4_run_X2_readCommand : GoodIn wsX4_run wsX2_readCommand := goodIn_r _ [41, 35, 42, 37, 43, 44, 45, 46, 33, 47, 36, 48, 49, 50, 51, 52, 53, 54, 55, 56, 57, 58, 59, 60, 61, 62, 63, 64, 65, 66, 67, 68, 69, 70, 71, 72, 73, 74, 75, 76, 77, 78, 79, 80, 81, 82, 83, 84, 85, 86, 87, 88, 89, 90, 91, 92, 93, 94, 95, 96, 97, 98, 99, 100, 101, 102, 103, 104, 105, 106, 107, 108, 109, 110, 111, 112, 113, 114, 115, 116, 117, 118, 119, 120, 121, 122, 123, 124, 125, 126, 258, 259, 260, 261, 262, 263] (by decide +kernel) (by decide +kernel)
set_option maxRecDepth 20000 in
theorem gX4_run_X2_readCommand : GoodIn wsX4_run (wsV RX4 91 RX2 yX2_readCommand wsX2_readCommand) := goodIn_app (goodIn_of _ (by decide +kernel)) ggX4_run_X2_readCommand
set_option maxRecDepth 20000 in
theorem ggX4_run_X4_performOnDraft : GoodIn wsX4_run wsX4_performOnDraft := goodIn_r _ [131, 3, 1, 132, 133, 134, 135, 33, 136, 43, 137, 138, 139, 8, 140, 10, 141, 142, 143, 12, 144, 130, 145, 146, 147, 148, 17, 149, 150, 151, 152, 153, 28, 19, 20, 21, 22, 23, 24, 25, 154, 155, 156, 157, 13, 11, 158, 159, 160, 161, 162, 163, 164, 165, 26, 27, 166, 167, 168, 169, 170, 171, 172, 173, 174, 29, 175, 176, 177, 178, 179, 180, 181, 182, 183, 184, 185, 186, 187, 188, 50, 189, 190, 191, 192, 193, 194, 195, 196, 197, 198, 199, 200, 201, 202, 203, 204, 205, 206, 207, 208, 209, 210, 211, 212, 213, 214, 215, 216, 217, 218, 219, 220, 221, 222, 223, 224, 225, 226, 227, 228, 229, 230, 254, 255, 256, 257, 258, 259, 260, 261, 262, 263, 264, 265, 266, 267, 268, 269, 270, 271, 272, 273, 274] (by decide +kernel) (by decide +kernel)
set_option maxRecDepth 20000 in
theorem gX4_run_X4_performOnDraft : GoodIn wsX4_run (wsV RX4 94 RX4 yX4_performOnDraft wsX4_performOnDraft) := goodIn_app (goodIn_of _ (by decide +kernel)) ggX4_run_X4_performOnDraft
set_option maxRecDepth 20000 in
theorem ggX4_run_X2_clear : GoodIn wsX4_run wsX2_clear := goodIn_r _ [234, 42, 258, 259, 260, 261, 262, 263] (by decide +kernel) (by decide +kernel)
set_option maxRecDepth 20000 in
theorem gX4_run_X2_clear : GoodIn wsX4_run (wsV RX4 84 RX2 yX2_clear wsX2_clear) := goodIn_app (goodIn_of _ (by decide +kernel)) ggX4_run_X2_clear
set_option maxRecDepth 20000 in
theorem ggX4_run_X4_keepDraft : GoodIn wsX4_run wsX4_keepDraft := goodIn_r _ [238, 239, 2, 1, 240, 241, 242, 243, 244, 245, 246, 247, 49, 50, 51, 248, 249, 250, 251, 252, 253, 6, 7, 8, 9, 10, 11, 12, 13, 14, 15, 16, 17, 18, 19, 20, 21, 22, 23, 24, 25, 26, 27, 28, 29, 5, 254, 255, 256, 257, 275, 276, 277, 264, 265, 266, 267, 268, 269, 270, 271, 272, 273, 274] (by decide +kernel) (by decide +kernel)
set_option maxRecDepth 20000 in
theorem gX4_run_X4_keepDraft : GoodIn wsX4_run (wsV RX4 41 RX4 yX4_keepDraft wsX4_keepDraft) := goodIn_app (goodIn_of _ (by decide +kernel)) ggX4_run_X4_keepDraft
theorem dX4_run_0 : decode cX4_run 0 = .ok (.aload_n 0, 1) := by decide +kernel
theorem dX4_run_1 : decode cX4_run 1 = .ok (.getfield 16, 3) := by decide +kernel
theorem dX4_run_4 : decode cX4_run 4 = .ok (.aload_n 0, 1) := by decide +kernel
theorem dX4_run_5 : decode cX4_run 5 = .ok (.getfield 10, 3) := by decide +kernel
theorem dX4_run_8 : decode cX4_run 8 = .ok (.invokevirtual 33, 3) := by decide +kernel
theorem dX4_run_11 : decode cX4_run 11 = .ok (.aload_n 0, 1) := by decide +kernel
theorem dX4_run_12 : decode cX4_run 12 = .ok (.getfield 29, 3) := by decide +kernel
theorem dX4_run_15 : decode cX4_run 15 = .ok (.invokevirtual 88, 3) := by decide +kernel
theorem dX4_run_18 : decode cX4_run 18 = .ok (.iconst 0, 1) := by decide +kernel
theorem dX4_run_19 : decode cX4_run 19 = .ok (.istore_n 1, 1) := by decide +kernel
theorem dX4_run_20 : decode cX4_run 20 = .ok (.aload_n 0, 1) := by decide +kernel
theorem dX4_run_21 : decode cX4_run 21 = .ok (.getfield 29, 3) := by decide +kernel
theorem dX4_run_24 : decode cX4_run 24 = .ok (.invokevirtual 91, 3) := by decide +kernel
theorem dX4_run_27 : decode cX4_run 27 = .ok (.istore_n 2, 1) := by decide +kernel
theorem dX4_run_28 : decode cX4_run 28 = .ok (.iload_n 2, 1) := by decide +kernel
theorem dX4_run_29 : decode cX4_run 29 = .ok (.ifCond .lt 43, 3) := by decide +kernel
theorem dX4_run_32 : decode cX4_run 32 = .ok (.iload_n 1, 1) := by decide +kernel
theorem dX4_run_33 : decode cX4_run 33 = .ok (.bipush 100, 2) := by decide +kernel
theorem dX4_run_35 : decode cX4_run 35 = .ok (.if_icmp .ge 37, 3) := by decide +kernel
theorem dX4_run_38 : decode cX4_run 38 = .ok (.aload_n 0, 1) := by decide +kernel
theorem dX4_run_39 : decode cX4_run 39 = .ok (.iload_n 2, 1) := by decide +kernel
theorem dX4_run_40 : decode cX4_run 40 = .ok (.invokevirtual 94, 3) := by decide +kernel
theorem dX4_run_43 : decode cX4_run 43 = .ok (.ifCond .ge 15, 3) := by decide +kernel
theorem dX4_run_46 : decode cX4_run 46 = .ok (.sipush (-1000), 3) := by decide +kernel
theorem dX4_run_49 : decode cX4_run 49 = .ok (.aload_n 0, 1) := by decide +kernel
theorem dX4_run_50 : decode cX4_run 50 = .ok (.getfield 29, 3) := by decide +kernel
theorem dX4_run_53 : decode cX4_run 53 = .ok (.getfield 97, 3) := by decide +kernel
theorem dX4_run_56 : decode cX4_run 56 = .ok (.isub, 1) := by decide +kernel
theorem dX4_run_57 : decode cX4_run 57 = .ok (.ireturn, 1) := by decide +kernel
theorem dX4_run_58 : decode cX4_run 58 = .ok (.iinc 1 1, 3) := by decide +kernel
theorem dX4_run_61 : decode cX4_run 61 = .ok (.aload_n 0, 1) := by decide +kernel
theorem dX4_run_62 : decode cX4_run 62 = .ok (.getfield 29, 3) := by decide +kernel
theorem dX4_run_65 : decode cX4_run 65 = .ok (.invokevirtual 91, 3) := by decide +kernel
theorem dX4_run_68 : decode cX4_run 68 = .ok (.istore_n 2, 1) := by decide +kernel
theorem dX4_run_69 : decode cX4_run 69 = .ok (.goto (-41), 3) := by decide +kernel
theorem dX4_run_72 : decode cX4_run 72 = .ok (.iload_n 2, 1) := by decide +kernel
theorem dX4_run_73 : decode cX4_run 73 = .ok (.bipush (-2), 2) := by decide +kernel
theorem dX4_run_75 : decode cX4_run 75 = .ok (.if_icmp .ne 15, 3) := by decide +kernel
theorem dX4_run_78 : decode cX4_run 78 = .ok (.sipush (-1000), 3) := by decide +kernel
theorem dX4_run_81 : decode cX4_run 81 = .ok (.aload_n 0, 1) := by decide +kernel
theorem dX4_run_82 : decode cX4_run 82 = .ok (.getfield 29, 3) := by decide +kernel
theorem dX4_run_85 : decode cX4_run 85 = .ok (.getfield 97, 3) := by decide +kernel
theorem dX4_run_88 : decode cX4_run 88 = .ok (.isub, 1) := by decide +kernel
theorem dX4_run_89 : decode cX4_run 89 = .ok (.ireturn, 1) := by decide +kernel
theorem dX4_run_90 : decode cX4_run 90 = .ok (.aload_n 0, 1) := by decide +kernel
theorem dX4_run_91 : decode cX4_run 91 = .ok (.getfield 29, 3) := by decide +kernel
theorem dX4_run_94 : decode cX4_run 94 = .ok (.invokevirtual 84, 3) := by decide +kernel
theorem dX4_run_97 : decode cX4_run 97 = .ok (.pop, 1) := by decide +kernel
theorem dX4_run_98 : decode cX4_run 98 = .ok (.aload_n 0, 1) := by decide +kernel
theorem dX4_run_99 : decode cX4_run 99 = .ok (.iload_n 1, 1) := by decide +kernel
theorem dX4_run_100 : decode cX4_run 100 = .ok (.invokevirtual 41, 3) := by decide +kernel
theorem dX4_run_103 : decode cX4_run 103 = .ok (.ireturn, 1) := by decide +kernel
set_option maxRecDepth 20000 in
theorem ggX4_count_X1_measuredLines : GoodIn wsX4_count wsX1_measuredLines := goodIn_r _ [18, 19, 75, 76, 77, 78, 79, 80, 81] (by decide +kernel) (by decide +kernel)
set_option maxRecDepth 20000 in
theorem gX4_count_X1_measuredLines : GoodIn wsX4_count (wsV RX4 107 RX1 yX1_measuredLines wsX1_measuredLines) := goodIn_app (goodIn_of _ (by decide +kernel)) ggX4_count_X1_measuredLines
set_option maxRecDepth 20000 in
theorem ggX4_count_X1_total : GoodIn wsX4_count wsX1_total := goodIn_r _ [23, 24, 25, 26, 27, 17, 28, 29, 30, 31, 32, 33, 34, 35, 36, 37, 38, 39, 40, 41, 42, 43, 44, 45, 46, 47, 48, 19, 49, 75, 76, 77, 78, 79, 80, 81] (by decide +kernel) (by decide +kernel)
set_option maxRecDepth 20000 in
theorem gX4_count_X1_total : GoodIn wsX4_count (wsV RX4 117 RX1 yX1_total wsX1_total) := goodIn_app (goodIn_of _ (by decide +kernel)) ggX4_count_X1_total
set_option maxRecDepth 20000 in
theorem ggX4_count_X3_top : GoodIn wsX4_count wsX3_top := goodIn_r _ [54, 55, 56, 57, 58, 26, 27, 17, 28, 24, 29, 30, 31, 32, 33, 34, 35, 36, 37, 38, 39, 40, 41, 42, 43, 44, 45, 46, 47, 48, 19, 49, 71, 72, 73, 74, 75, 76, 77, 78, 79, 80, 81] (by decide +kernel) (by decide +kernel)
set_option maxRecDepth 20000 in
theorem gX4_count_X3_top : GoodIn wsX4_count (wsV RX4 120 RX3 yX3_top wsX3_top) := goodIn_app (goodIn_of _ (by decide +kernel)) ggX4_count_X3_top
set_option maxRecDepth 20000 in
theorem ggX4_count_X1_guess : GoodIn wsX4_count wsX1_guess := goodIn_r _ [48, 19, 49, 75, 76, 77, 78, 79, 80, 81] (by decide +kernel) (by decide +kernel)
set_option maxRecDepth 20000 in
theorem gX4_count_X1_guess : GoodIn wsX4_count (wsV RX4 129 RX1 yX1_guess wsX1_guess) := goodIn_app (goodIn_of _ (by decide +kernel)) ggX4_count_X1_guess
set_option maxRecDepth 20000 in
theorem ggX4_count_X3_linesShown : GoodIn wsX4_count wsX3_linesShown := goodIn_r _ [63, 57, 56, 55, 64, 65, 66, 30, 31, 17, 32, 33, 34, 35, 36, 37, 38, 39, 24, 40, 41, 42, 43, 44, 45, 46, 47, 48, 19, 49, 71, 72, 73, 74, 75, 76, 77, 78, 79, 80, 81] (by decide +kernel) (by decide +kernel)
set_option maxRecDepth 20000 in
theorem gX4_count_X3_linesShown : GoodIn wsX4_count (wsV RX4 132 RX3 yX3_linesShown wsX3_linesShown) := goodIn_app (goodIn_of _ (by decide +kernel)) ggX4_count_X3_linesShown
theorem dX4_count_0 : decode cX4_count 0 = .ok (.iload_n 1, 1) := by decide +kernel
theorem dX4_count_1 : decode cX4_count 1 = .ok (.tableswitch 243 0 13 #[71, 82, 93, 119, 145, 156, 164, 172, 183, 195, 207, 219, 227, 235], 71) := by decide +kernel
theorem dX4_count_72 : decode cX4_count 72 = .ok (.aload_n 0, 1) := by decide +kernel
theorem dX4_count_73 : decode cX4_count 73 = .ok (.getfield 10, 3) := by decide +kernel
theorem dX4_count_76 : decode cX4_count 76 = .ok (.getfield 100, 3) := by decide +kernel
theorem dX4_count_79 : decode cX4_count 79 = .ok (.getfield 104, 3) := by decide +kernel
theorem dX4_count_82 : decode cX4_count 82 = .ok (.ireturn, 1) := by decide +kernel
theorem dX4_count_83 : decode cX4_count 83 = .ok (.aload_n 0, 1) := by decide +kernel
theorem dX4_count_84 : decode cX4_count 84 = .ok (.getfield 10, 3) := by decide +kernel
theorem dX4_count_87 : decode cX4_count 87 = .ok (.getfield 100, 3) := by decide +kernel
theorem dX4_count_90 : decode cX4_count 90 = .ok (.invokevirtual 107, 3) := by decide +kernel
theorem dX4_count_93 : decode cX4_count 93 = .ok (.ireturn, 1) := by decide +kernel
theorem dX4_count_94 : decode cX4_count 94 = .ok (.aload_n 0, 1) := by decide +kernel
theorem dX4_count_95 : decode cX4_count 95 = .ok (.getfield 10, 3) := by decide +kernel
theorem dX4_count_98 : decode cX4_count 98 = .ok (.getfield 100, 3) := by decide +kernel
theorem dX4_count_101 : decode cX4_count 101 = .ok (.getfield 104, 3) := by decide +kernel
theorem dX4_count_104 : decode cX4_count 104 = .ok (.ifCond .ne 8, 3) := by decide +kernel
theorem dX4_count_107 : decode cX4_count 107 = .ok (.ldc 110, 2) := by decide +kernel
theorem dX4_count_109 : decode cX4_count 109 = .ok (.goto 10, 3) := by decide +kernel
theorem dX4_count_112 : decode cX4_count 112 = .ok (.aload_n 0, 1) := by decide +kernel
theorem dX4_count_113 : decode cX4_count 113 = .ok (.getfield 10, 3) := by decide +kernel
theorem dX4_count_116 : decode cX4_count 116 = .ok (.getfield 111, 3) := by decide +kernel
theorem dX4_count_119 : decode cX4_count 119 = .ok (.ireturn, 1) := by decide +kernel
theorem dX4_count_120 : decode cX4_count 120 = .ok (.aload_n 0, 1) := by decide +kernel
theorem dX4_count_121 : decode cX4_count 121 = .ok (.getfield 10, 3) := by decide +kernel
theorem dX4_count_124 : decode cX4_count 124 = .ok (.getfield 100, 3) := by decide +kernel
theorem dX4_count_127 : decode cX4_count 127 = .ok (.getfield 104, 3) := by decide +kernel
theorem dX4_count_130 : decode cX4_count 130 = .ok (.ifCond .ne 8, 3) := by decide +kernel
theorem dX4_count_133 : decode cX4_count 133 = .ok (.ldc 110, 2) := by decide +kernel
theorem dX4_count_135 : decode cX4_count 135 = .ok (.goto 10, 3) := by decide +kernel
theorem dX4_count_138 : decode cX4_count 138 = .ok (.aload_n 0, 1) := by decide +kernel
theorem dX4_count_139 : decode cX4_count 139 = .ok (.getfield 10, 3) := by decide +kernel
theorem dX4_count_142 : decode cX4_count 142 = .ok (.getfield 114, 3) := by decide +kernel
theorem dX4_count_145 : decode cX4_count 145 = .ok (.ireturn, 1) := by decide +kernel
theorem dX4_count_146 : decode cX4_count 146 = .ok (.aload_n 0, 1) := by decide +kernel
theorem dX4_count_147 : decode cX4_count 147 = .ok (.getfield 10, 3) := by decide +kernel
theorem dX4_count_150 : decode cX4_count 150 = .ok (.getfield 100, 3) := by decide +kernel
theorem dX4_count_153 : decode cX4_count 153 = .ok (.invokevirtual 117, 3) := by decide +kernel
theorem dX4_count_156 : decode cX4_count 156 = .ok (.ireturn, 1) := by decide +kernel
theorem dX4_count_157 : decode cX4_count 157 = .ok (.aload_n 0, 1) := by decide +kernel
theorem dX4_count_158 : decode cX4_count 158 = .ok (.getfield 10, 3) := by decide +kernel
theorem dX4_count_161 : decode cX4_count 161 = .ok (.invokevirtual 120, 3) := by decide +kernel
theorem dX4_count_164 : decode cX4_count 164 = .ok (.ireturn, 1) := by decide +kernel
theorem dX4_count_165 : decode cX4_count 165 = .ok (.aload_n 0, 1) := by decide +kernel
theorem dX4_count_166 : decode cX4_count 166 = .ok (.getfield 10, 3) := by decide +kernel
theorem dX4_count_169 : decode cX4_count 169 = .ok (.getfield 123, 3) := by decide +kernel
theorem dX4_count_172 : decode cX4_count 172 = .ok (.ireturn, 1) := by decide +kernel
theorem dX4_count_173 : decode cX4_count 173 = .ok (.aload_n 0, 1) := by decide +kernel
theorem dX4_count_174 : decode cX4_count 174 = .ok (.getfield 10, 3) := by decide +kernel
theorem dX4_count_177 : decode cX4_count 177 = .ok (.getfield 100, 3) := by decide +kernel
theorem dX4_count_180 : decode cX4_count 180 = .ok (.getfield 126, 3) := by decide +kernel
theorem dX4_count_183 : decode cX4_count 183 = .ok (.ireturn, 1) := by decide +kernel
theorem dX4_count_184 : decode cX4_count 184 = .ok (.aload_n 0, 1) := by decide +kernel
theorem dX4_count_185 : decode cX4_count 185 = .ok (.getfield 10, 3) := by decide +kernel
theorem dX4_count_188 : decode cX4_count 188 = .ok (.getfield 100, 3) := by decide +kernel
theorem dX4_count_191 : decode cX4_count 191 = .ok (.iconst 0, 1) := by decide +kernel
theorem dX4_count_192 : decode cX4_count 192 = .ok (.invokevirtual 129, 3) := by decide +kernel
theorem dX4_count_195 : decode cX4_count 195 = .ok (.ireturn, 1) := by decide +kernel
theorem dX4_count_196 : decode cX4_count 196 = .ok (.aload_n 0, 1) := by decide +kernel
theorem dX4_count_197 : decode cX4_count 197 = .ok (.getfield 10, 3) := by decide +kernel
theorem dX4_count_200 : decode cX4_count 200 = .ok (.getfield 100, 3) := by decide +kernel
theorem dX4_count_203 : decode cX4_count 203 = .ok (.iconst 1, 1) := by decide +kernel
theorem dX4_count_204 : decode cX4_count 204 = .ok (.invokevirtual 129, 3) := by decide +kernel
theorem dX4_count_207 : decode cX4_count 207 = .ok (.ireturn, 1) := by decide +kernel
theorem dX4_count_208 : decode cX4_count 208 = .ok (.aload_n 0, 1) := by decide +kernel
theorem dX4_count_209 : decode cX4_count 209 = .ok (.getfield 10, 3) := by decide +kernel
theorem dX4_count_212 : decode cX4_count 212 = .ok (.getfield 100, 3) := by decide +kernel
theorem dX4_count_215 : decode cX4_count 215 = .ok (.iconst 2, 1) := by decide +kernel
theorem dX4_count_216 : decode cX4_count 216 = .ok (.invokevirtual 129, 3) := by decide +kernel
theorem dX4_count_219 : decode cX4_count 219 = .ok (.ireturn, 1) := by decide +kernel
theorem dX4_count_220 : decode cX4_count 220 = .ok (.aload_n 0, 1) := by decide +kernel
theorem dX4_count_221 : decode cX4_count 221 = .ok (.getfield 10, 3) := by decide +kernel
theorem dX4_count_224 : decode cX4_count 224 = .ok (.invokevirtual 132, 3) := by decide +kernel
theorem dX4_count_227 : decode cX4_count 227 = .ok (.ireturn, 1) := by decide +kernel
theorem dX4_count_228 : decode cX4_count 228 = .ok (.aload_n 0, 1) := by decide +kernel
theorem dX4_count_229 : decode cX4_count 229 = .ok (.getfield 22, 3) := by decide +kernel
theorem dX4_count_232 : decode cX4_count 232 = .ok (.getfield 67, 3) := by decide +kernel
theorem dX4_count_235 : decode cX4_count 235 = .ok (.ireturn, 1) := by decide +kernel
theorem dX4_count_236 : decode cX4_count 236 = .ok (.aload_n 0, 1) := by decide +kernel
theorem dX4_count_237 : decode cX4_count 237 = .ok (.getfield 29, 3) := by decide +kernel
theorem dX4_count_240 : decode cX4_count 240 = .ok (.getfield 135, 3) := by decide +kernel
theorem dX4_count_243 : decode cX4_count 243 = .ok (.ireturn, 1) := by decide +kernel
theorem dX4_count_244 : decode cX4_count 244 = .ok (.ldc 79, 2) := by decide +kernel
theorem dX4_count_246 : decode cX4_count 246 = .ok (.ireturn, 1) := by decide +kernel
set_option maxRecDepth 20000 in
theorem ggX4_line_X1_isLine : GoodIn wsX4_line wsX1_isLine := goodIn_r _ [11, 12, 58, 59, 60, 61, 62, 63, 64] (by decide +kernel) (by decide +kernel)
set_option maxRecDepth 20000 in
theorem gX4_line_X1_isLine : GoodIn wsX4_line (wsV RX4 138 RX1 yX1_isLine wsX1_isLine) := goodIn_app (goodIn_of _ (by decide +kernel)) ggX4_line_X1_isLine
set_option maxRecDepth 20000 in
theorem ggX4_line_X1_heightOf : GoodIn wsX4_line wsX1_heightOf := goodIn_r _ [16, 17, 18, 19, 20, 8, 9, 10, 11, 12, 21, 22, 23, 24, 25, 26, 27, 28, 29, 30, 31, 58, 59, 60, 61, 62, 63, 64] (by decide +kernel) (by decide +kernel)
set_option maxRecDepth 20000 in
theorem gX4_line_X1_heightOf : GoodIn wsX4_line (wsV RX4 149 RX1 yX1_heightOf wsX1_heightOf) := goodIn_app (goodIn_of _ (by decide +kernel)) ggX4_line_X1_heightOf
set_option maxRecDepth 20000 in
theorem ggX4_line_X1_topOf : GoodIn wsX4_line wsX1_topOf := goodIn_r _ [35, 12, 36, 14, 15, 10, 16, 17, 18, 19, 20, 8, 9, 11, 21, 22, 23, 24, 25, 26, 27, 28, 29, 30, 31, 58, 59, 60, 61, 62, 63, 64] (by decide +kernel) (by decide +kernel)
set_option maxRecDepth 20000 in
theorem gX4_line_X1_topOf : GoodIn wsX4_line (wsV RX4 156 RX1 yX1_topOf wsX1_topOf) := goodIn_app (goodIn_of _ (by decide +kernel)) ggX4_line_X1_topOf
set_option maxRecDepth 20000 in
theorem ggX4_line_X1_trueHeightOf : GoodIn wsX4_line wsX1_trueHeightOf := goodIn_r _ [40, 18, 19, 20, 8, 9, 10, 11, 12, 21, 22, 23, 24, 25, 58, 59, 60, 61, 62, 63, 64] (by decide +kernel) (by decide +kernel)
set_option maxRecDepth 20000 in
theorem gX4_line_X1_trueHeightOf : GoodIn wsX4_line (wsV RX4 159 RX1 yX1_trueHeightOf wsX1_trueHeightOf) := goodIn_app (goodIn_of _ (by decide +kernel)) ggX4_line_X1_trueHeightOf
set_option maxRecDepth 20000 in
theorem ggX4_line_X3_top : GoodIn wsX4_line wsX3_top := goodIn_r _ [45, 46, 47, 48, 49, 33, 34, 10, 35, 12, 36, 14, 15, 16, 17, 18, 19, 20, 8, 9, 11, 21, 22, 23, 24, 25, 26, 27, 28, 29, 30, 31, 54, 55, 56, 57, 58, 59, 60, 61, 62, 63, 64] (by decide +kernel) (by decide +kernel)
set_option maxRecDepth 20000 in
theorem gX4_line_X3_top : GoodIn wsX4_line (wsV RX4 120 RX3 yX3_top wsX3_top) := goodIn_app (goodIn_of _ (by decide +kernel)) ggX4_line_X3_top
theorem dX4_line_0 : decode cX4_line 0 = .ok (.aload_n 0, 1) := by decide +kernel
theorem dX4_line_1 : decode cX4_line 1 = .ok (.getfield 10, 3) := by decide +kernel
theorem dX4_line_4 : decode cX4_line 4 = .ok (.getfield 100, 3) := by decide +kernel
theorem dX4_line_7 : decode cX4_line 7 = .ok (.iload_n 1, 1) := by decide +kernel
theorem dX4_line_8 : decode cX4_line 8 = .ok (.invokevirtual 138, 3) := by decide +kernel
theorem dX4_line_11 : decode cX4_line 11 = .ok (.ifCond .ne 6, 3) := by decide +kernel
theorem dX4_line_14 : decode cX4_line 14 = .ok (.ldc 79, 2) := by decide +kernel
theorem dX4_line_16 : decode cX4_line 16 = .ok (.ireturn, 1) := by decide +kernel
theorem dX4_line_17 : decode cX4_line 17 = .ok (.iload_n 2, 1) := by decide +kernel
theorem dX4_line_18 : decode cX4_line 18 = .ok (.tableswitch 145 0 6 #[42, 55, 68, 80, 101, 113, 125], 42) := by decide +kernel
theorem dX4_line_60 : decode cX4_line 60 = .ok (.aload_n 0, 1) := by decide +kernel
theorem dX4_line_61 : decode cX4_line 61 = .ok (.getfield 10, 3) := by decide +kernel
theorem dX4_line_64 : decode cX4_line 64 = .ok (.getfield 100, 3) := by decide +kernel
theorem dX4_line_67 : decode cX4_line 67 = .ok (.getfield 142, 3) := by decide +kernel
theorem dX4_line_70 : decode cX4_line 70 = .ok (.iload_n 1, 1) := by decide +kernel
theorem dX4_line_71 : decode cX4_line 71 = .ok (.iaload, 1) := by decide +kernel
theorem dX4_line_72 : decode cX4_line 72 = .ok (.ireturn, 1) := by decide +kernel
theorem dX4_line_73 : decode cX4_line 73 = .ok (.aload_n 0, 1) := by decide +kernel
theorem dX4_line_74 : decode cX4_line 74 = .ok (.getfield 10, 3) := by decide +kernel
theorem dX4_line_77 : decode cX4_line 77 = .ok (.getfield 100, 3) := by decide +kernel
theorem dX4_line_80 : decode cX4_line 80 = .ok (.getfield 146, 3) := by decide +kernel
theorem dX4_line_83 : decode cX4_line 83 = .ok (.iload_n 1, 1) := by decide +kernel
theorem dX4_line_84 : decode cX4_line 84 = .ok (.iaload, 1) := by decide +kernel
theorem dX4_line_85 : decode cX4_line 85 = .ok (.ireturn, 1) := by decide +kernel
theorem dX4_line_86 : decode cX4_line 86 = .ok (.aload_n 0, 1) := by decide +kernel
theorem dX4_line_87 : decode cX4_line 87 = .ok (.getfield 10, 3) := by decide +kernel
theorem dX4_line_90 : decode cX4_line 90 = .ok (.getfield 100, 3) := by decide +kernel
theorem dX4_line_93 : decode cX4_line 93 = .ok (.iload_n 1, 1) := by decide +kernel
theorem dX4_line_94 : decode cX4_line 94 = .ok (.invokevirtual 149, 3) := by decide +kernel
theorem dX4_line_97 : decode cX4_line 97 = .ok (.ireturn, 1) := by decide +kernel
theorem dX4_line_98 : decode cX4_line 98 = .ok (.aload_n 0, 1) := by decide +kernel
theorem dX4_line_99 : decode cX4_line 99 = .ok (.getfield 10, 3) := by decide +kernel
theorem dX4_line_102 : decode cX4_line 102 = .ok (.getfield 100, 3) := by decide +kernel
theorem dX4_line_105 : decode cX4_line 105 = .ok (.getfield 152, 3) := by decide +kernel
theorem dX4_line_108 : decode cX4_line 108 = .ok (.iload_n 1, 1) := by decide +kernel
theorem dX4_line_109 : decode cX4_line 109 = .ok (.baload, 1) := by decide +kernel
theorem dX4_line_110 : decode cX4_line 110 = .ok (.ifCond .eq 7, 3) := by decide +kernel
theorem dX4_line_113 : decode cX4_line 113 = .ok (.iconst 1, 1) := by decide +kernel
theorem dX4_line_114 : decode cX4_line 114 = .ok (.goto 4, 3) := by decide +kernel
theorem dX4_line_117 : decode cX4_line 117 = .ok (.iconst 0, 1) := by decide +kernel
theorem dX4_line_118 : decode cX4_line 118 = .ok (.ireturn, 1) := by decide +kernel
theorem dX4_line_119 : decode cX4_line 119 = .ok (.aload_n 0, 1) := by decide +kernel
theorem dX4_line_120 : decode cX4_line 120 = .ok (.getfield 10, 3) := by decide +kernel
theorem dX4_line_123 : decode cX4_line 123 = .ok (.getfield 100, 3) := by decide +kernel
theorem dX4_line_126 : decode cX4_line 126 = .ok (.iload_n 1, 1) := by decide +kernel
theorem dX4_line_127 : decode cX4_line 127 = .ok (.invokevirtual 156, 3) := by decide +kernel
theorem dX4_line_130 : decode cX4_line 130 = .ok (.ireturn, 1) := by decide +kernel
theorem dX4_line_131 : decode cX4_line 131 = .ok (.aload_n 0, 1) := by decide +kernel
theorem dX4_line_132 : decode cX4_line 132 = .ok (.getfield 10, 3) := by decide +kernel
theorem dX4_line_135 : decode cX4_line 135 = .ok (.getfield 100, 3) := by decide +kernel
theorem dX4_line_138 : decode cX4_line 138 = .ok (.iload_n 1, 1) := by decide +kernel
theorem dX4_line_139 : decode cX4_line 139 = .ok (.invokevirtual 159, 3) := by decide +kernel
theorem dX4_line_142 : decode cX4_line 142 = .ok (.ireturn, 1) := by decide +kernel
theorem dX4_line_143 : decode cX4_line 143 = .ok (.aload_n 0, 1) := by decide +kernel
theorem dX4_line_144 : decode cX4_line 144 = .ok (.getfield 10, 3) := by decide +kernel
theorem dX4_line_147 : decode cX4_line 147 = .ok (.getfield 100, 3) := by decide +kernel
theorem dX4_line_150 : decode cX4_line 150 = .ok (.iload_n 1, 1) := by decide +kernel
theorem dX4_line_151 : decode cX4_line 151 = .ok (.invokevirtual 156, 3) := by decide +kernel
theorem dX4_line_154 : decode cX4_line 154 = .ok (.aload_n 0, 1) := by decide +kernel
theorem dX4_line_155 : decode cX4_line 155 = .ok (.getfield 10, 3) := by decide +kernel
theorem dX4_line_158 : decode cX4_line 158 = .ok (.invokevirtual 120, 3) := by decide +kernel
theorem dX4_line_161 : decode cX4_line 161 = .ok (.isub, 1) := by decide +kernel
theorem dX4_line_162 : decode cX4_line 162 = .ok (.ireturn, 1) := by decide +kernel
theorem dX4_line_163 : decode cX4_line 163 = .ok (.ldc 79, 2) := by decide +kernel
theorem dX4_line_165 : decode cX4_line 165 = .ok (.ireturn, 1) := by decide +kernel
set_option maxRecDepth 20000 in
theorem ggX4_seen_X4_isOutside : GoodIn wsX4_seen wsX4_isOutside := goodIn_r _ [8] (by decide +kernel) (by decide +kernel)
set_option maxRecDepth 20000 in
theorem gX4_seen_X4_isOutside : GoodIn wsX4_seen (va_wsS RX4 75 yX4_isOutside wsX4_isOutside) := goodIn_app (goodIn_of _ (by decide +kernel)) ggX4_seen_X4_isOutside
set_option maxRecDepth 20000 in
theorem ggX4_seen_X3_top : GoodIn wsX4_seen wsX3_top := goodIn_r _ [13, 14, 15, 16, 17, 18, 19, 20, 21, 22, 23, 24, 25, 26, 27, 28, 29, 30, 31, 32, 33, 34, 35, 36, 37, 38, 39, 40, 41, 42, 43, 44, 54, 55, 56, 57, 58, 59, 60, 61, 62, 63, 64] (by decide +kernel) (by decide +kernel)
set_option maxRecDepth 20000 in
theorem gX4_seen_X3_top : GoodIn wsX4_seen (wsV RX4 120 RX3 yX3_top wsX3_top) := goodIn_app (goodIn_of _ (by decide +kernel)) ggX4_seen_X3_top
set_option maxRecDepth 20000 in
theorem ggX4_seen_X1_lineAt : GoodIn wsX4_seen wsX1_lineAt := goodIn_r _ [48, 22, 49, 23, 24, 25, 20, 26, 27, 28, 29, 30, 31, 32, 33, 34, 35, 36, 37, 38, 39, 40, 41, 42, 43, 44, 58, 59, 60, 61, 62, 63, 64] (by decide +kernel) (by decide +kernel)
set_option maxRecDepth 20000 in
theorem gX4_seen_X1_lineAt : GoodIn wsX4_seen (wsV RX4 162 RX1 yX1_lineAt wsX1_lineAt) := goodIn_app (goodIn_of _ (by decide +kernel)) ggX4_seen_X1_lineAt
theorem dX4_seen_0 : decode cX4_seen 0 = .ok (.iload_n 1, 1) := by decide +kernel
theorem dX4_seen_1 : decode cX4_seen 1 = .ok (.iconst 0, 1) := by decide +kernel
theorem dX4_seen_2 : decode cX4_seen 2 = .ok (.aload_n 0, 1) := by decide +kernel
theorem dX4_seen_3 : decode cX4_seen 3 = .ok (.getfield 10, 3) := by decide +kernel
theorem dX4_seen_6 : decode cX4_seen 6 = .ok (.getfield 123, 3) := by decide +kernel
theorem dX4_seen_9 : decode cX4_seen 9 = .ok (.iconst 1, 1) := by decide +kernel
theorem dX4_seen_10 : decode cX4_seen 10 = .ok (.isub, 1) := by decide +kernel
theorem dX4_seen_11 : decode cX4_seen 11 = .ok (.invokestatic 75, 3) := by decide +kernel
theorem dX4_seen_14 : decode cX4_seen 14 = .ok (.ifCond .eq 6, 3) := by decide +kernel
theorem dX4_seen_17 : decode cX4_seen 17 = .ok (.ldc 79, 2) := by decide +kernel
theorem dX4_seen_19 : decode cX4_seen 19 = .ok (.ireturn, 1) := by decide +kernel
theorem dX4_seen_20 : decode cX4_seen 20 = .ok (.aload_n 0, 1) := by decide +kernel
theorem dX4_seen_21 : decode cX4_seen 21 = .ok (.getfield 10, 3) := by decide +kernel
theorem dX4_seen_24 : decode cX4_seen 24 = .ok (.getfield 100, 3) := by decide +kernel
theorem dX4_seen_27 : decode cX4_seen 27 = .ok (.aload_n 0, 1) := by decide +kernel
theorem dX4_seen_28 : decode cX4_seen 28 = .ok (.getfield 10, 3) := by decide +kernel
theorem dX4_seen_31 : decode cX4_seen 31 = .ok (.invokevirtual 120, 3) := by decide +kernel
theorem dX4_seen_34 : decode cX4_seen 34 = .ok (.iload_n 1, 1) := by decide +kernel
theorem dX4_seen_35 : decode cX4_seen 35 = .ok (.iadd, 1) := by decide +kernel
theorem dX4_seen_36 : decode cX4_seen 36 = .ok (.invokevirtual 162, 3) := by decide +kernel
theorem dX4_seen_39 : decode cX4_seen 39 = .ok (.ireturn, 1) := by decide +kernel
set_option maxRecDepth 20000 in
theorem ggX4_at_X1_lineAt : GoodIn wsX4_at wsX1_lineAt := goodIn_r _ [8, 9, 10, 11, 12, 13, 7, 14, 15, 16, 17, 18, 19, 20, 21, 22, 23, 24, 25, 26, 27, 28, 29, 30, 31, 32, 41, 42, 43, 44, 45, 46, 47] (by decide +kernel) (by decide +kernel)
set_option maxRecDepth 20000 in
theorem gX4_at_X1_lineAt : GoodIn wsX4_at (wsV RX4 162 RX1 yX1_lineAt wsX1_lineAt) := goodIn_app (goodIn_of _ (by decide +kernel)) ggX4_at_X1_lineAt
theorem dX4_at_0 : decode cX4_at 0 = .ok (.iload_n 1, 1) := by decide +kernel
theorem dX4_at_1 : decode cX4_at 1 = .ok (.ifCond .ge 6, 3) := by decide +kernel
theorem dX4_at_4 : decode cX4_at 4 = .ok (.ldc 79, 2) := by decide +kernel
theorem dX4_at_6 : decode cX4_at 6 = .ok (.ireturn, 1) := by decide +kernel
theorem dX4_at_7 : decode cX4_at 7 = .ok (.aload_n 0, 1) := by decide +kernel
theorem dX4_at_8 : decode cX4_at 8 = .ok (.getfield 10, 3) := by decide +kernel
theorem dX4_at_11 : decode cX4_at 11 = .ok (.getfield 100, 3) := by decide +kernel
theorem dX4_at_14 : decode cX4_at 14 = .ok (.iload_n 1, 1) := by decide +kernel
theorem dX4_at_15 : decode cX4_at 15 = .ok (.invokevirtual 162, 3) := by decide +kernel
theorem dX4_at_18 : decode cX4_at 18 = .ok (.ireturn, 1) := by decide +kernel
set_option maxRecDepth 20000 in
theorem ggX4_share_X1_total : GoodIn wsX4_share wsX1_total := goodIn_r _ [8, 9, 10, 11, 12, 7, 13, 14, 15, 16, 17, 18, 19, 20, 21, 22, 23, 24, 25, 26, 27, 28, 29, 30, 31, 32, 33, 34, 35, 53, 54, 55, 56, 57, 58, 59] (by decide +kernel) (by decide +kernel)
set_option maxRecDepth 20000 in
theorem gX4_share_X1_total : GoodIn wsX4_share (wsV RX4 117 RX1 yX1_total wsX1_total) := goodIn_app (goodIn_of _ (by decide +kernel)) ggX4_share_X1_total
set_option maxRecDepth 20000 in
theorem ggX4_share_X3_top : GoodIn wsX4_share wsX3_top := goodIn_r _ [40, 41, 42, 43, 44, 11, 12, 7, 13, 9, 14, 15, 16, 17, 18, 19, 20, 21, 22, 23, 24, 25, 26, 27, 28, 29, 30, 31, 32, 33, 34, 35, 49, 50, 51, 52, 53, 54, 55, 56, 57, 58, 59] (by decide +kernel) (by decide +kernel)
set_option maxRecDepth 20000 in
theorem gX4_share_X3_top : GoodIn wsX4_share (wsV RX4 120 RX3 yX3_top wsX3_top) := goodIn_app (goodIn_of _ (by decide +kernel)) ggX4_share_X3_top
theorem dX4_share_0 : decode cX4_share 0 = .ok (.aload_n 0, 1) := by decide +kernel
theorem dX4_share_1 : decode cX4_share 1 = .ok (.getfield 10, 3) := by decide +kernel
theorem dX4_share_4 : decode cX4_share 4 = .ok (.getfield 100, 3) := by decide +kernel
theorem dX4_share_7 : decode cX4_share 7 = .ok (.invokevirtual 117, 3) := by decide +kernel
theorem dX4_share_10 : decode cX4_share 10 = .ok (.aload_n 0, 1) := by decide +kernel
theorem dX4_share_11 : decode cX4_share 11 = .ok (.getfield 10, 3) := by decide +kernel
theorem dX4_share_14 : decode cX4_share 14 = .ok (.getfield 123, 3) := by decide +kernel
theorem dX4_share_17 : decode cX4_share 17 = .ok (.isub, 1) := by decide +kernel
theorem dX4_share_18 : decode cX4_share 18 = .ok (.istore_n 1, 1) := by decide +kernel
theorem dX4_share_19 : decode cX4_share 19 = .ok (.iload_n 1, 1) := by decide +kernel
theorem dX4_share_20 : decode cX4_share 20 = .ok (.ifCond .le 19, 3) := by decide +kernel
theorem dX4_share_23 : decode cX4_share 23 = .ok (.aload_n 0, 1) := by decide +kernel
theorem dX4_share_24 : decode cX4_share 24 = .ok (.getfield 10, 3) := by decide +kernel
theorem dX4_share_27 : decode cX4_share 27 = .ok (.invokevirtual 120, 3) := by decide +kernel
theorem dX4_share_30 : decode cX4_share 30 = .ok (.sipush 1000, 3) := by decide +kernel
theorem dX4_share_33 : decode cX4_share 33 = .ok (.imul, 1) := by decide +kernel
theorem dX4_share_34 : decode cX4_share 34 = .ok (.iload_n 1, 1) := by decide +kernel
theorem dX4_share_35 : decode cX4_share 35 = .ok (.idiv, 1) := by decide +kernel
theorem dX4_share_36 : decode cX4_share 36 = .ok (.goto 4, 3) := by decide +kernel
theorem dX4_share_39 : decode cX4_share 39 = .ok (.iconst 0, 1) := by decide +kernel
theorem dX4_share_40 : decode cX4_share 40 = .ok (.ireturn, 1) := by decide +kernel
set_option maxRecDepth 20000 in
theorem ggX4_trueSum_X1_isLine : GoodIn wsX4_trueSum wsX1_isLine := goodIn_r _ [8, 9, 30, 31, 32, 33, 34, 35, 36] (by decide +kernel) (by decide +kernel)
set_option maxRecDepth 20000 in
theorem gX4_trueSum_X1_isLine : GoodIn wsX4_trueSum (wsV RX4 138 RX1 yX1_isLine wsX1_isLine) := goodIn_app (goodIn_of _ (by decide +kernel)) ggX4_trueSum_X1_isLine
set_option maxRecDepth 20000 in
theorem ggX4_trueSum_X1_trueHeightOf : GoodIn wsX4_trueSum wsX1_trueHeightOf := goodIn_r _ [13, 14, 15, 16, 5, 6, 7, 8, 9, 17, 18, 19, 20, 21, 30, 31, 32, 33, 34, 35, 36] (by decide +kernel) (by decide +kernel)
set_option maxRecDepth 20000 in
theorem gX4_trueSum_X1_trueHeightOf : GoodIn wsX4_trueSum (wsV RX4 159 RX1 yX1_trueHeightOf wsX1_trueHeightOf) := goodIn_app (goodIn_of _ (by decide +kernel)) ggX4_trueSum_X1_trueHeightOf
theorem dX4_trueSum_0 : decode cX4_trueSum 0 = .ok (.aload_n 0, 1) := by decide +kernel
theorem dX4_trueSum_1 : decode cX4_trueSum 1 = .ok (.getfield 10, 3) := by decide +kernel
theorem dX4_trueSum_4 : decode cX4_trueSum 4 = .ok (.getfield 100, 3) := by decide +kernel
theorem dX4_trueSum_7 : decode cX4_trueSum 7 = .ok (.iload_n 1, 1) := by decide +kernel
theorem dX4_trueSum_8 : decode cX4_trueSum 8 = .ok (.invokevirtual 138, 3) := by decide +kernel
theorem dX4_trueSum_11 : decode cX4_trueSum 11 = .ok (.ifCond .eq 22, 3) := by decide +kernel
theorem dX4_trueSum_14 : decode cX4_trueSum 14 = .ok (.aload_n 0, 1) := by decide +kernel
theorem dX4_trueSum_15 : decode cX4_trueSum 15 = .ok (.getfield 10, 3) := by decide +kernel
theorem dX4_trueSum_18 : decode cX4_trueSum 18 = .ok (.getfield 100, 3) := by decide +kernel
theorem dX4_trueSum_21 : decode cX4_trueSum 21 = .ok (.iload_n 2, 1) := by decide +kernel
theorem dX4_trueSum_22 : decode cX4_trueSum 22 = .ok (.invokevirtual 138, 3) := by decide +kernel
theorem dX4_trueSum_25 : decode cX4_trueSum 25 = .ok (.ifCond .eq 8, 3) := by decide +kernel
theorem dX4_trueSum_28 : decode cX4_trueSum 28 = .ok (.iload_n 2, 1) := by decide +kernel
theorem dX4_trueSum_29 : decode cX4_trueSum 29 = .ok (.iload_n 1, 1) := by decide +kernel
theorem dX4_trueSum_30 : decode cX4_trueSum 30 = .ok (.if_icmp .ge 6, 3) := by decide +kernel
theorem dX4_trueSum_33 : decode cX4_trueSum 33 = .ok (.ldc 79, 2) := by decide +kernel
theorem dX4_trueSum_35 : decode cX4_trueSum 35 = .ok (.ireturn, 1) := by decide +kernel
theorem dX4_trueSum_36 : decode cX4_trueSum 36 = .ok (.iconst 0, 1) := by decide +kernel
theorem dX4_trueSum_37 : decode cX4_trueSum 37 = .ok (.istore_n 3, 1) := by decide +kernel
theorem dX4_trueSum_38 : decode cX4_trueSum 38 = .ok (.iload_n 1, 1) := by decide +kernel
theorem dX4_trueSum_39 : decode cX4_trueSum 39 = .ok (.istore 4, 2) := by decide +kernel
theorem dX4_trueSum_41 : decode cX4_trueSum 41 = .ok (.iload 4, 2) := by decide +kernel
theorem dX4_trueSum_43 : decode cX4_trueSum 43 = .ok (.iload_n 2, 1) := by decide +kernel
theorem dX4_trueSum_44 : decode cX4_trueSum 44 = .ok (.if_icmp .gt 24, 3) := by decide +kernel
theorem dX4_trueSum_47 : decode cX4_trueSum 47 = .ok (.iload_n 3, 1) := by decide +kernel
theorem dX4_trueSum_48 : decode cX4_trueSum 48 = .ok (.aload_n 0, 1) := by decide +kernel
theorem dX4_trueSum_49 : decode cX4_trueSum 49 = .ok (.getfield 10, 3) := by decide +kernel
theorem dX4_trueSum_52 : decode cX4_trueSum 52 = .ok (.getfield 100, 3) := by decide +kernel
theorem dX4_trueSum_55 : decode cX4_trueSum 55 = .ok (.iload 4, 2) := by decide +kernel
theorem dX4_trueSum_57 : decode cX4_trueSum 57 = .ok (.invokevirtual 159, 3) := by decide +kernel
theorem dX4_trueSum_60 : decode cX4_trueSum 60 = .ok (.iadd, 1) := by decide +kernel
theorem dX4_trueSum_61 : decode cX4_trueSum 61 = .ok (.istore_n 3, 1) := by decide +kernel
theorem dX4_trueSum_62 : decode cX4_trueSum 62 = .ok (.iinc 4 1, 3) := by decide +kernel
theorem dX4_trueSum_65 : decode cX4_trueSum 65 = .ok (.goto (-24), 3) := by decide +kernel
theorem dX4_trueSum_68 : decode cX4_trueSum 68 = .ok (.iload_n 3, 1) := by decide +kernel
theorem dX4_trueSum_69 : decode cX4_trueSum 69 = .ok (.ireturn, 1) := by decide +kernel
set_option maxRecDepth 20000 in
theorem ggX4_scrollsTo_X1_isLine : GoodIn wsX4_scrollsTo wsX1_isLine := goodIn_r _ [10, 11, 95, 96, 97, 98, 99, 100, 101] (by decide +kernel) (by decide +kernel)
set_option maxRecDepth 20000 in
theorem gX4_scrollsTo_X1_isLine : GoodIn wsX4_scrollsTo (wsV RX4 138 RX1 yX1_isLine wsX1_isLine) := goodIn_app (goodIn_of _ (by decide +kernel)) ggX4_scrollsTo_X1_isLine
set_option maxRecDepth 20000 in
theorem ggX4_scrollsTo_X4_isOutside : GoodIn wsX4_scrollsTo wsX4_isOutside := goodIn_r _ [15] (by decide +kernel) (by decide +kernel)
set_option maxRecDepth 20000 in
theorem gX4_scrollsTo_X4_isOutside : GoodIn wsX4_scrollsTo (va_wsS RX4 75 yX4_isOutside wsX4_isOutside) := goodIn_app (goodIn_of _ (by decide +kernel)) ggX4_scrollsTo_X4_isOutside
set_option maxRecDepth 20000 in
theorem ggX4_scrollsTo_X3_copyFrom : GoodIn wsX4_scrollsTo wsX3_copyFrom := goodIn_r _ [20, 21, 22, 23, 24, 25, 26, 27, 9, 28, 29, 30, 31, 32, 33, 34, 35, 36, 37, 11, 38, 91, 92, 93, 94, 95, 96, 97, 98, 99, 100, 101] (by decide +kernel) (by decide +kernel)
set_option maxRecDepth 20000 in
theorem gX4_scrollsTo_X3_copyFrom : GoodIn wsX4_scrollsTo (wsV RX4 33 RX3 yX3_copyFrom wsX3_copyFrom) := goodIn_app (goodIn_of _ (by decide +kernel)) ggX4_scrollsTo_X3_copyFrom
set_option maxRecDepth 20000 in
theorem ggX4_scrollsTo_X3_shows : GoodIn wsX4_scrollsTo wsX3_shows := goodIn_r _ [42, 23, 24, 22, 21, 43, 44, 45, 9, 46, 35, 29, 34, 47, 7, 8, 10, 11, 48, 49, 50, 51, 38, 52, 53, 54, 55, 37, 36, 91, 92, 93, 94, 95, 96, 97, 98, 99, 100, 101] (by decide +kernel) (by decide +kernel)
set_option maxRecDepth 20000 in
theorem gX4_scrollsTo_X3_shows : GoodIn wsX4_scrollsTo (wsV RX4 165 RX3 yX3_shows wsX3_shows) := goodIn_app (goodIn_of _ (by decide +kernel)) ggX4_scrollsTo_X3_shows
set_option maxRecDepth 20000 in
theorem ggX4_scrollsTo_X3_moveBy : GoodIn wsX4_scrollsTo wsX3_moveBy := goodIn_r _ [59, 60, 21, 61, 62, 24, 23, 13, 14, 15, 63, 64, 65, 19, 66, 67, 68, 69, 70, 71, 72, 73, 9, 74, 35, 29, 36, 34, 37, 47, 7, 8, 10, 11, 75, 76, 77, 78, 48, 49, 50, 51, 38, 43, 44, 45, 46, 52, 53, 54, 55, 79, 80, 81, 82, 22, 83, 84, 85, 86, 91, 92, 93, 94, 95, 96, 97, 98, 99, 100, 101] (by decide +kernel) (by decide +kernel)
set_option maxRecDepth 20000 in
theorem gX4_scrollsTo_X3_moveBy : GoodIn wsX4_scrollsTo (wsV RX4 58 RX3 yX3_moveBy wsX3_moveBy) := goodIn_app (goodIn_of _ (by decide +kernel)) ggX4_scrollsTo_X3_moveBy
theorem dX4_scrollsTo_0 : decode cX4_scrollsTo 0 = .ok (.aload_n 0, 1) := by decide +kernel
theorem dX4_scrollsTo_1 : decode cX4_scrollsTo 1 = .ok (.getfield 10, 3) := by decide +kernel
theorem dX4_scrollsTo_4 : decode cX4_scrollsTo 4 = .ok (.getfield 100, 3) := by decide +kernel
theorem dX4_scrollsTo_7 : decode cX4_scrollsTo 7 = .ok (.iload_n 1, 1) := by decide +kernel
theorem dX4_scrollsTo_8 : decode cX4_scrollsTo 8 = .ok (.invokevirtual 138, 3) := by decide +kernel
theorem dX4_scrollsTo_11 : decode cX4_scrollsTo 11 = .ok (.ifCond .eq 20, 3) := by decide +kernel
theorem dX4_scrollsTo_14 : decode cX4_scrollsTo 14 = .ok (.iload_n 2, 1) := by decide +kernel
theorem dX4_scrollsTo_15 : decode cX4_scrollsTo 15 = .ok (.ifCond .eq 16, 3) := by decide +kernel
theorem dX4_scrollsTo_18 : decode cX4_scrollsTo 18 = .ok (.iload_n 2, 1) := by decide +kernel
theorem dX4_scrollsTo_19 : decode cX4_scrollsTo 19 = .ok (.sipush (-9999), 3) := by decide +kernel
theorem dX4_scrollsTo_22 : decode cX4_scrollsTo 22 = .ok (.sipush 9999, 3) := by decide +kernel
theorem dX4_scrollsTo_25 : decode cX4_scrollsTo 25 = .ok (.invokestatic 75, 3) := by decide +kernel
theorem dX4_scrollsTo_28 : decode cX4_scrollsTo 28 = .ok (.ifCond .eq 6, 3) := by decide +kernel
theorem dX4_scrollsTo_31 : decode cX4_scrollsTo 31 = .ok (.ldc 79, 2) := by decide +kernel
theorem dX4_scrollsTo_33 : decode cX4_scrollsTo 33 = .ok (.ireturn, 1) := by decide +kernel
theorem dX4_scrollsTo_34 : decode cX4_scrollsTo 34 = .ok (.aload_n 0, 1) := by decide +kernel
theorem dX4_scrollsTo_35 : decode cX4_scrollsTo 35 = .ok (.getfield 16, 3) := by decide +kernel
theorem dX4_scrollsTo_38 : decode cX4_scrollsTo 38 = .ok (.aload_n 0, 1) := by decide +kernel
theorem dX4_scrollsTo_39 : decode cX4_scrollsTo 39 = .ok (.getfield 10, 3) := by decide +kernel
theorem dX4_scrollsTo_42 : decode cX4_scrollsTo 42 = .ok (.invokevirtual 33, 3) := by decide +kernel
theorem dX4_scrollsTo_45 : decode cX4_scrollsTo 45 = .ok (.iconst 0, 1) := by decide +kernel
theorem dX4_scrollsTo_46 : decode cX4_scrollsTo 46 = .ok (.istore_n 3, 1) := by decide +kernel
theorem dX4_scrollsTo_47 : decode cX4_scrollsTo 47 = .ok (.iload_n 3, 1) := by decide +kernel
theorem dX4_scrollsTo_48 : decode cX4_scrollsTo 48 = .ok (.bipush 100, 2) := by decide +kernel
theorem dX4_scrollsTo_50 : decode cX4_scrollsTo 50 = .ok (.if_icmp .gt 31, 3) := by decide +kernel
theorem dX4_scrollsTo_53 : decode cX4_scrollsTo 53 = .ok (.aload_n 0, 1) := by decide +kernel
theorem dX4_scrollsTo_54 : decode cX4_scrollsTo 54 = .ok (.getfield 16, 3) := by decide +kernel
theorem dX4_scrollsTo_57 : decode cX4_scrollsTo 57 = .ok (.iload_n 1, 1) := by decide +kernel
theorem dX4_scrollsTo_58 : decode cX4_scrollsTo 58 = .ok (.invokevirtual 165, 3) := by decide +kernel
theorem dX4_scrollsTo_61 : decode cX4_scrollsTo 61 = .ok (.ifCond .eq 5, 3) := by decide +kernel
theorem dX4_scrollsTo_64 : decode cX4_scrollsTo 64 = .ok (.iload_n 3, 1) := by decide +kernel
theorem dX4_scrollsTo_65 : decode cX4_scrollsTo 65 = .ok (.ireturn, 1) := by decide +kernel
theorem dX4_scrollsTo_66 : decode cX4_scrollsTo 66 = .ok (.aload_n 0, 1) := by decide +kernel
theorem dX4_scrollsTo_67 : decode cX4_scrollsTo 67 = .ok (.getfield 16, 3) := by decide +kernel
theorem dX4_scrollsTo_70 : decode cX4_scrollsTo 70 = .ok (.iload_n 2, 1) := by decide +kernel
theorem dX4_scrollsTo_71 : decode cX4_scrollsTo 71 = .ok (.invokevirtual 58, 3) := by decide +kernel
theorem dX4_scrollsTo_74 : decode cX4_scrollsTo 74 = .ok (.pop, 1) := by decide +kernel
theorem dX4_scrollsTo_75 : decode cX4_scrollsTo 75 = .ok (.iinc 3 1, 3) := by decide +kernel
theorem dX4_scrollsTo_78 : decode cX4_scrollsTo 78 = .ok (.goto (-31), 3) := by decide +kernel
theorem dX4_scrollsTo_81 : decode cX4_scrollsTo 81 = .ok (.ldc 110, 2) := by decide +kernel
theorem dX4_scrollsTo_83 : decode cX4_scrollsTo 83 = .ok (.ireturn, 1) := by decide +kernel
set_option maxRecDepth 20000 in
theorem ggX4_measuredBy_X4_isOutside : GoodIn wsX4_measuredBy wsX4_isOutside := goodIn_r _ [8] (by decide +kernel) (by decide +kernel)
set_option maxRecDepth 20000 in
theorem gX4_measuredBy_X4_isOutside : GoodIn wsX4_measuredBy (va_wsS RX4 75 yX4_isOutside wsX4_isOutside) := goodIn_app (goodIn_of _ (by decide +kernel)) ggX4_measuredBy_X4_isOutside
set_option maxRecDepth 20000 in
theorem ggX4_measuredBy_X3_copyFrom : GoodIn wsX4_measuredBy wsX3_copyFrom := goodIn_r _ [13, 14, 15, 16, 17, 18, 19, 20, 21, 22, 23, 24, 25, 26, 27, 28, 29, 30, 31, 32, 33, 104, 105, 106, 107, 108, 109, 110, 111, 112, 113, 114] (by decide +kernel) (by decide +kernel)
set_option maxRecDepth 20000 in
theorem gX4_measuredBy_X3_copyFrom : GoodIn wsX4_measuredBy (wsV RX4 33 RX3 yX3_copyFrom wsX3_copyFrom) := goodIn_app (goodIn_of _ (by decide +kernel)) ggX4_measuredBy_X3_copyFrom
set_option maxRecDepth 20000 in
theorem ggX4_measuredBy_X3_moveToShare : GoodIn wsX4_measuredBy wsX3_moveToShare := goodIn_r _ [37, 38, 14, 39, 40, 15, 41, 42, 43, 44, 16, 17, 6, 7, 8, 45, 46, 47, 21, 48, 32, 49, 50, 51, 52, 53, 54, 55, 56, 29, 23, 28, 57, 58, 59, 60, 61, 62, 63, 64, 33, 65, 66, 67, 68, 31, 30, 69, 70, 71, 72, 73, 74, 75, 76, 77, 12, 78, 79, 80, 81, 82, 83, 84, 85, 86, 87, 88, 89, 90, 91, 92, 93, 94, 95, 104, 105, 106, 107, 108, 109, 110, 111, 112, 113, 114] (by decide +kernel) (by decide +kernel)
set_option maxRecDepth 20000 in
theorem gX4_measuredBy_X3_moveToShare : GoodIn wsX4_measuredBy (wsV RX4 61 RX3 yX3_moveToShare wsX3_moveToShare) := goodIn_app (goodIn_of _ (by decide +kernel)) ggX4_measuredBy_X3_moveToShare
set_option maxRecDepth 20000 in
theorem ggX4_measuredBy_X1_measuredLines : GoodIn wsX4_measuredBy wsX1_measuredLines := goodIn_r _ [99, 31, 108, 109, 110, 111, 112, 113, 114] (by decide +kernel) (by decide +kernel)
set_option maxRecDepth 20000 in
theorem gX4_measuredBy_X1_measuredLines : GoodIn wsX4_measuredBy (wsV RX4 107 RX1 yX1_measuredLines wsX1_measuredLines) := goodIn_app (goodIn_of _ (by decide +kernel)) ggX4_measuredBy_X1_measuredLines
theorem dX4_measuredBy_0 : decode cX4_measuredBy 0 = .ok (.iload_n 1, 1) := by decide +kernel
theorem dX4_measuredBy_1 : decode cX4_measuredBy 1 = .ok (.iconst 0, 1) := by decide +kernel
theorem dX4_measuredBy_2 : decode cX4_measuredBy 2 = .ok (.sipush 1000, 3) := by decide +kernel
theorem dX4_measuredBy_5 : decode cX4_measuredBy 5 = .ok (.invokestatic 75, 3) := by decide +kernel
theorem dX4_measuredBy_8 : decode cX4_measuredBy 8 = .ok (.ifCond .eq 6, 3) := by decide +kernel
theorem dX4_measuredBy_11 : decode cX4_measuredBy 11 = .ok (.ldc 79, 2) := by decide +kernel
theorem dX4_measuredBy_13 : decode cX4_measuredBy 13 = .ok (.ireturn, 1) := by decide +kernel
theorem dX4_measuredBy_14 : decode cX4_measuredBy 14 = .ok (.aload_n 0, 1) := by decide +kernel
theorem dX4_measuredBy_15 : decode cX4_measuredBy 15 = .ok (.getfield 16, 3) := by decide +kernel
theorem dX4_measuredBy_18 : decode cX4_measuredBy 18 = .ok (.aload_n 0, 1) := by decide +kernel
theorem dX4_measuredBy_19 : decode cX4_measuredBy 19 = .ok (.getfield 10, 3) := by decide +kernel
theorem dX4_measuredBy_22 : decode cX4_measuredBy 22 = .ok (.invokevirtual 33, 3) := by decide +kernel
theorem dX4_measuredBy_25 : decode cX4_measuredBy 25 = .ok (.aload_n 0, 1) := by decide +kernel
theorem dX4_measuredBy_26 : decode cX4_measuredBy 26 = .ok (.getfield 16, 3) := by decide +kernel
theorem dX4_measuredBy_29 : decode cX4_measuredBy 29 = .ok (.iload_n 1, 1) := by decide +kernel
theorem dX4_measuredBy_30 : decode cX4_measuredBy 30 = .ok (.invokevirtual 61, 3) := by decide +kernel
theorem dX4_measuredBy_33 : decode cX4_measuredBy 33 = .ok (.pop, 1) := by decide +kernel
theorem dX4_measuredBy_34 : decode cX4_measuredBy 34 = .ok (.aload_n 0, 1) := by decide +kernel
theorem dX4_measuredBy_35 : decode cX4_measuredBy 35 = .ok (.getfield 16, 3) := by decide +kernel
theorem dX4_measuredBy_38 : decode cX4_measuredBy 38 = .ok (.getfield 100, 3) := by decide +kernel
theorem dX4_measuredBy_41 : decode cX4_measuredBy 41 = .ok (.invokevirtual 107, 3) := by decide +kernel
theorem dX4_measuredBy_44 : decode cX4_measuredBy 44 = .ok (.aload_n 0, 1) := by decide +kernel
theorem dX4_measuredBy_45 : decode cX4_measuredBy 45 = .ok (.getfield 10, 3) := by decide +kernel
theorem dX4_measuredBy_48 : decode cX4_measuredBy 48 = .ok (.getfield 100, 3) := by decide +kernel
theorem dX4_measuredBy_51 : decode cX4_measuredBy 51 = .ok (.invokevirtual 107, 3) := by decide +kernel
theorem dX4_measuredBy_54 : decode cX4_measuredBy 54 = .ok (.isub, 1) := by decide +kernel
theorem dX4_measuredBy_55 : decode cX4_measuredBy 55 = .ok (.ireturn, 1) := by decide +kernel
theorem dX4_isOutside_0 : decode cX4_isOutside 0 = .ok (.iload_n 0, 1) := by decide +kernel
theorem dX4_isOutside_1 : decode cX4_isOutside 1 = .ok (.iload_n 1, 1) := by decide +kernel
theorem dX4_isOutside_2 : decode cX4_isOutside 2 = .ok (.if_icmp .lt 8, 3) := by decide +kernel
theorem dX4_isOutside_5 : decode cX4_isOutside 5 = .ok (.iload_n 0, 1) := by decide +kernel
theorem dX4_isOutside_6 : decode cX4_isOutside 6 = .ok (.iload_n 2, 1) := by decide +kernel
theorem dX4_isOutside_7 : decode cX4_isOutside 7 = .ok (.if_icmp .le 7, 3) := by decide +kernel
theorem dX4_isOutside_10 : decode cX4_isOutside 10 = .ok (.iconst 1, 1) := by decide +kernel
theorem dX4_isOutside_11 : decode cX4_isOutside 11 = .ok (.goto 4, 3) := by decide +kernel
theorem dX4_isOutside_14 : decode cX4_isOutside 14 = .ok (.iconst 0, 1) := by decide +kernel
theorem dX4_isOutside_15 : decode cX4_isOutside 15 = .ok (.ireturn, 1) := by decide +kernel
set_option maxRecDepth 20000 in
theorem ggX4_keepDraft_X0_record : GoodIn wsX4_keepDraft wsX0_record := goodIn_r _ [8, 9, 10, 11, 12, 13, 14, 15, 16, 17, 7, 18, 19, 20, 21, 22, 23, 24, 25, 26, 27, 28, 29, 30, 31, 32, 33, 34, 35, 36, 37, 38, 39, 40, 41, 42, 43, 44, 50, 51, 52, 53, 54, 55, 56, 57, 58, 59, 60, 61, 62, 63] (by decide +kernel) (by decide +kernel)
set_option maxRecDepth 20000 in
theorem gX4_keepDraft_X0_record : GoodIn wsX4_keepDraft (wsV RX4 168 RX0 yX0_record wsX0_record) := goodIn_app (goodIn_of _ (by decide +kernel)) ggX4_keepDraft_X0_record
set_option maxRecDepth 20000 in
theorem ggX4_keepDraft_X3_copyFrom : GoodIn wsX4_keepDraft wsX3_copyFrom := goodIn_r _ [24, 25, 26, 27, 28, 29, 30, 31, 32, 33, 34, 35, 36, 37, 38, 39, 40, 41, 42, 43, 44, 53, 54, 55, 56, 57, 58, 59, 60, 61, 62, 63] (by decide +kernel) (by decide +kernel)
set_option maxRecDepth 20000 in
theorem gX4_keepDraft_X3_copyFrom : GoodIn wsX4_keepDraft (wsV RX4 33 RX3 yX3_copyFrom wsX3_copyFrom) := goodIn_app (goodIn_of _ (by decide +kernel)) ggX4_keepDraft_X3_copyFrom
theorem dX4_keepDraft_0 : decode cX4_keepDraft 0 = .ok (.iload_n 1, 1) := by decide +kernel
theorem dX4_keepDraft_1 : decode cX4_keepDraft 1 = .ok (.ifCond .lt 25, 3) := by decide +kernel
theorem dX4_keepDraft_4 : decode cX4_keepDraft 4 = .ok (.aload_n 0, 1) := by decide +kernel
theorem dX4_keepDraft_5 : decode cX4_keepDraft 5 = .ok (.getfield 22, 3) := by decide +kernel
theorem dX4_keepDraft_8 : decode cX4_keepDraft 8 = .ok (.aload_n 0, 1) := by decide +kernel
theorem dX4_keepDraft_9 : decode cX4_keepDraft 9 = .ok (.getfield 10, 3) := by decide +kernel
theorem dX4_keepDraft_12 : decode cX4_keepDraft 12 = .ok (.invokevirtual 168, 3) := by decide +kernel
theorem dX4_keepDraft_15 : decode cX4_keepDraft 15 = .ok (.aload_n 0, 1) := by decide +kernel
theorem dX4_keepDraft_16 : decode cX4_keepDraft 16 = .ok (.getfield 10, 3) := by decide +kernel
theorem dX4_keepDraft_19 : decode cX4_keepDraft 19 = .ok (.aload_n 0, 1) := by decide +kernel
theorem dX4_keepDraft_20 : decode cX4_keepDraft 20 = .ok (.getfield 16, 3) := by decide +kernel
theorem dX4_keepDraft_23 : decode cX4_keepDraft 23 = .ok (.invokevirtual 33, 3) := by decide +kernel
theorem dX4_keepDraft_26 : decode cX4_keepDraft 26 = .ok (.iload_n 1, 1) := by decide +kernel
theorem dX4_keepDraft_27 : decode cX4_keepDraft 27 = .ok (.ireturn, 1) := by decide +kernel
set_option maxRecDepth 20000 in
theorem ggX4_performOnDraft_X2_number : GoodIn wsX4_performOnDraft wsX2_number := goodIn_r _ [8, 9, 127, 128, 129, 130, 131, 132] (by decide +kernel) (by decide +kernel)
set_option maxRecDepth 20000 in
theorem gX4_performOnDraft_X2_number : GoodIn wsX4_performOnDraft (wsV RX4 171 RX2 yX2_number wsX2_number) := goodIn_app (goodIn_of _ (by decide +kernel)) ggX4_performOnDraft_X2_number
set_option maxRecDepth 20000 in
theorem ggX4_performOnDraft_X3_putIn : GoodIn wsX4_performOnDraft wsX3_putIn := goodIn_r _ [14, 15, 16, 17, 18, 19, 20, 21, 22, 23, 24, 25, 26, 27, 28, 29, 30, 31, 32, 33, 34, 35, 36, 37, 38, 39, 40, 41, 42, 13, 43, 44, 45, 46, 47, 48, 49, 50, 51, 52, 53, 54, 55, 56, 57, 58, 59, 60, 61, 62, 63, 64, 65, 66, 67, 68, 69, 70, 71, 72, 73, 74, 75, 76, 77, 78, 79, 80, 81, 82, 83, 84, 85, 86, 87, 88, 89, 90, 133, 134, 135, 136, 137, 138, 139, 140, 141, 142, 143] (by decide +kernel) (by decide +kernel)
set_option maxRecDepth 20000 in
theorem gX4_performOnDraft_X3_putIn : GoodIn wsX4_performOnDraft (wsV RX4 37 RX3 yX3_putIn wsX3_putIn) := goodIn_app (goodIn_of _ (by decide +kernel)) ggX4_performOnDraft_X3_putIn
set_option maxRecDepth 20000 in
theorem ggX4_performOnDraft_X3_takeOut : GoodIn wsX4_performOnDraft wsX3_takeOut := goodIn_r _ [94, 15, 17, 16, 19, 44, 95, 57, 58, 26, 59, 32, 96, 97, 98, 99, 33, 34, 35, 36, 37, 38, 39, 56, 100, 101, 102, 103, 54, 55, 60, 24, 25, 27, 61, 62, 63, 64, 65, 40, 41, 42, 13, 43, 45, 46, 47, 48, 49, 50, 51, 52, 53, 66, 67, 68, 69, 70, 71, 72, 73, 74, 75, 76, 77, 78, 79, 80, 81, 133, 134, 135, 136, 137, 138, 139, 140, 141, 142, 143] (by decide +kernel) (by decide +kernel)
set_option maxRecDepth 20000 in
theorem gX4_performOnDraft_X3_takeOut : GoodIn wsX4_performOnDraft (wsV RX4 45 RX3 yX3_takeOut wsX3_takeOut) := goodIn_app (goodIn_of _ (by decide +kernel)) ggX4_performOnDraft_X3_takeOut
set_option maxRecDepth 20000 in
theorem ggX4_performOnDraft_X3_moveBy : GoodIn wsX4_performOnDraft wsX3_moveBy := goodIn_r _ [107, 17, 15, 16, 108, 44, 19, 20, 21, 22, 74, 75, 76, 13, 77, 78, 79, 80, 81, 50, 51, 52, 26, 53, 39, 33, 54, 38, 55, 56, 57, 58, 59, 32, 60, 24, 25, 27, 61, 62, 63, 64, 65, 66, 67, 68, 69, 70, 71, 72, 73, 40, 41, 42, 43, 45, 46, 47, 48, 49, 133, 134, 135, 136, 137, 138, 139, 140, 141, 142, 143] (by decide +kernel) (by decide +kernel)
set_option maxRecDepth 20000 in
theorem gX4_performOnDraft_X3_moveBy : GoodIn wsX4_performOnDraft (wsV RX4 58 RX3 yX3_moveBy wsX3_moveBy) := goodIn_app (goodIn_of _ (by decide +kernel)) ggX4_performOnDraft_X3_moveBy
set_option maxRecDepth 20000 in
theorem ggX4_performOnDraft_X3_moveToShare : GoodIn wsX4_performOnDraft wsX3_moveToShare := goodIn_r _ [112, 17, 15, 16, 108, 45, 78, 79, 80, 81, 19, 44, 20, 21, 22, 82, 83, 84, 26, 85, 32, 86, 87, 88, 89, 90, 67, 68, 69, 39, 33, 38, 56, 57, 58, 59, 61, 62, 63, 64, 65, 70, 71, 72, 73, 55, 54, 113, 114, 115, 116, 117, 118, 40, 41, 42, 13, 43, 46, 47, 48, 49, 50, 51, 52, 53, 60, 24, 25, 27, 66, 74, 75, 76, 77, 133, 134, 135, 136, 137, 138, 139, 140, 141, 142, 143] (by decide +kernel) (by decide +kernel)
set_option maxRecDepth 20000 in
theorem gX4_performOnDraft_X3_moveToShare : GoodIn wsX4_performOnDraft (wsV RX4 61 RX3 yX3_moveToShare wsX3_moveToShare) := goodIn_app (goodIn_of _ (by decide +kernel)) ggX4_performOnDraft_X3_moveToShare
set_option maxRecDepth 20000 in
theorem ggX4_performOnDraft_X3_moveToLine : GoodIn wsX4_performOnDraft wsX3_moveToLine := goodIn_r _ [122, 15, 17, 19, 44, 95, 57, 58, 26, 59, 32, 40, 41, 42, 13, 43, 16, 45, 46, 47, 48, 49, 50, 51, 52, 53, 39, 33, 54, 38, 55, 56, 60, 24, 25, 27, 61, 62, 63, 64, 65, 66, 67, 68, 69, 70, 71, 72, 73, 74, 75, 76, 77, 78, 79, 80, 81, 133, 134, 135, 136, 137, 138, 139, 140, 141, 142, 143] (by decide +kernel) (by decide +kernel)
set_option maxRecDepth 20000 in
theorem gX4_performOnDraft_X3_moveToLine : GoodIn wsX4_performOnDraft (wsV RX4 64 RX3 yX3_moveToLine wsX3_moveToLine) := goodIn_app (goodIn_of _ (by decide +kernel)) ggX4_performOnDraft_X3_moveToLine
theorem dX4_performOnDraft_0 : decode cX4_performOnDraft 0 = .ok (.aload_n 0, 1) := by decide +kernel
theorem dX4_performOnDraft_1 : decode cX4_performOnDraft 1 = .ok (.getfield 29, 3) := by decide +kernel
theorem dX4_performOnDraft_4 : decode cX4_performOnDraft 4 = .ok (.iconst 0, 1) := by decide +kernel
theorem dX4_performOnDraft_5 : decode cX4_performOnDraft 5 = .ok (.invokevirtual 171, 3) := by decide +kernel
theorem dX4_performOnDraft_8 : decode cX4_performOnDraft 8 = .ok (.istore_n 2, 1) := by decide +kernel
theorem dX4_performOnDraft_9 : decode cX4_performOnDraft 9 = .ok (.iload_n 1, 1) := by decide +kernel
theorem dX4_performOnDraft_10 : decode cX4_performOnDraft 10 = .ok (.tableswitch 109 0 5 #[38, 63, 72, 81, 91, 100], 38) := by decide +kernel
theorem dX4_performOnDraft_48 : decode cX4_performOnDraft 48 = .ok (.aload_n 0, 1) := by decide +kernel
theorem dX4_performOnDraft_49 : decode cX4_performOnDraft 49 = .ok (.getfield 16, 3) := by decide +kernel
theorem dX4_performOnDraft_52 : decode cX4_performOnDraft 52 = .ok (.iload_n 2, 1) := by decide +kernel
theorem dX4_performOnDraft_53 : decode cX4_performOnDraft 53 = .ok (.aload_n 0, 1) := by decide +kernel
theorem dX4_performOnDraft_54 : decode cX4_performOnDraft 54 = .ok (.getfield 29, 3) := by decide +kernel
theorem dX4_performOnDraft_57 : decode cX4_performOnDraft 57 = .ok (.iconst 1, 1) := by decide +kernel
theorem dX4_performOnDraft_58 : decode cX4_performOnDraft 58 = .ok (.invokevirtual 171, 3) := by decide +kernel
theorem dX4_performOnDraft_61 : decode cX4_performOnDraft 61 = .ok (.aload_n 0, 1) := by decide +kernel
theorem dX4_performOnDraft_62 : decode cX4_performOnDraft 62 = .ok (.getfield 29, 3) := by decide +kernel
theorem dX4_performOnDraft_65 : decode cX4_performOnDraft 65 = .ok (.iconst 2, 1) := by decide +kernel
theorem dX4_performOnDraft_66 : decode cX4_performOnDraft 66 = .ok (.invokevirtual 171, 3) := by decide +kernel
theorem dX4_performOnDraft_69 : decode cX4_performOnDraft 69 = .ok (.invokevirtual 37, 3) := by decide +kernel
theorem dX4_performOnDraft_72 : decode cX4_performOnDraft 72 = .ok (.ireturn, 1) := by decide +kernel
theorem dX4_performOnDraft_73 : decode cX4_performOnDraft 73 = .ok (.aload_n 0, 1) := by decide +kernel
theorem dX4_performOnDraft_74 : decode cX4_performOnDraft 74 = .ok (.getfield 16, 3) := by decide +kernel
theorem dX4_performOnDraft_77 : decode cX4_performOnDraft 77 = .ok (.iload_n 2, 1) := by decide +kernel
theorem dX4_performOnDraft_78 : decode cX4_performOnDraft 78 = .ok (.invokevirtual 45, 3) := by decide +kernel
theorem dX4_performOnDraft_81 : decode cX4_performOnDraft 81 = .ok (.ireturn, 1) := by decide +kernel
theorem dX4_performOnDraft_82 : decode cX4_performOnDraft 82 = .ok (.aload_n 0, 1) := by decide +kernel
theorem dX4_performOnDraft_83 : decode cX4_performOnDraft 83 = .ok (.getfield 16, 3) := by decide +kernel
theorem dX4_performOnDraft_86 : decode cX4_performOnDraft 86 = .ok (.iload_n 2, 1) := by decide +kernel
theorem dX4_performOnDraft_87 : decode cX4_performOnDraft 87 = .ok (.invokevirtual 58, 3) := by decide +kernel
theorem dX4_performOnDraft_90 : decode cX4_performOnDraft 90 = .ok (.ireturn, 1) := by decide +kernel
theorem dX4_performOnDraft_91 : decode cX4_performOnDraft 91 = .ok (.aload_n 0, 1) := by decide +kernel
theorem dX4_performOnDraft_92 : decode cX4_performOnDraft 92 = .ok (.getfield 16, 3) := by decide +kernel
theorem dX4_performOnDraft_95 : decode cX4_performOnDraft 95 = .ok (.iload_n 2, 1) := by decide +kernel
theorem dX4_performOnDraft_96 : decode cX4_performOnDraft 96 = .ok (.ineg, 1) := by decide +kernel
theorem dX4_performOnDraft_97 : decode cX4_performOnDraft 97 = .ok (.invokevirtual 58, 3) := by decide +kernel
theorem dX4_performOnDraft_100 : decode cX4_performOnDraft 100 = .ok (.ireturn, 1) := by decide +kernel
theorem dX4_performOnDraft_101 : decode cX4_performOnDraft 101 = .ok (.aload_n 0, 1) := by decide +kernel
theorem dX4_performOnDraft_102 : decode cX4_performOnDraft 102 = .ok (.getfield 16, 3) := by decide +kernel
theorem dX4_performOnDraft_105 : decode cX4_performOnDraft 105 = .ok (.iload_n 2, 1) := by decide +kernel
theorem dX4_performOnDraft_106 : decode cX4_performOnDraft 106 = .ok (.invokevirtual 61, 3) := by decide +kernel
theorem dX4_performOnDraft_109 : decode cX4_performOnDraft 109 = .ok (.ireturn, 1) := by decide +kernel
theorem dX4_performOnDraft_110 : decode cX4_performOnDraft 110 = .ok (.aload_n 0, 1) := by decide +kernel
theorem dX4_performOnDraft_111 : decode cX4_performOnDraft 111 = .ok (.getfield 16, 3) := by decide +kernel
theorem dX4_performOnDraft_114 : decode cX4_performOnDraft 114 = .ok (.iload_n 2, 1) := by decide +kernel
theorem dX4_performOnDraft_115 : decode cX4_performOnDraft 115 = .ok (.invokevirtual 64, 3) := by decide +kernel
theorem dX4_performOnDraft_118 : decode cX4_performOnDraft 118 = .ok (.ireturn, 1) := by decide +kernel
theorem dX4_performOnDraft_119 : decode cX4_performOnDraft 119 = .ok (.ldc 79, 2) := by decide +kernel
theorem dX4_performOnDraft_121 : decode cX4_performOnDraft 121 = .ok (.ireturn, 1) := by decide +kernel
theorem dX5_init_0 : decode cX5_init 0 = .ok (.aload_n 0, 1) := by decide +kernel
theorem dX5_init_1 : decode cX5_init 1 = .ok (.invokespecial 1, 3) := by decide +kernel
theorem dX5_init_4 : decode cX5_init 4 = .ok (.aload_n 0, 1) := by decide +kernel
theorem dX5_init_5 : decode cX5_init 5 = .ok (.sipush 305, 3) := by decide +kernel
theorem dX5_init_8 : decode cX5_init 8 = .ok (.newarray .int, 2) := by decide +kernel
theorem dX5_init_10 : decode cX5_init 10 = .ok (.putfield 7, 3) := by decide +kernel
theorem dX5_init_13 : decode cX5_init 13 = .ok (.aload_n 0, 1) := by decide +kernel
theorem dX5_init_14 : decode cX5_init 14 = .ok (.sipush 305, 3) := by decide +kernel
theorem dX5_init_17 : decode cX5_init 17 = .ok (.newarray .int, 2) := by decide +kernel
theorem dX5_init_19 : decode cX5_init 19 = .ok (.putfield 13, 3) := by decide +kernel
theorem dX5_init_22 : decode cX5_init 22 = .ok (.aload_n 0, 1) := by decide +kernel
theorem dX5_init_23 : decode cX5_init 23 = .ok (.sipush 305, 3) := by decide +kernel
theorem dX5_init_26 : decode cX5_init 26 = .ok (.newarray .int, 2) := by decide +kernel
theorem dX5_init_28 : decode cX5_init 28 = .ok (.putfield 16, 3) := by decide +kernel
theorem dX5_init_31 : decode cX5_init 31 = .ok (.aload_n 0, 1) := by decide +kernel
theorem dX5_init_32 : decode cX5_init 32 = .ok (.sipush 1525, 3) := by decide +kernel
theorem dX5_init_35 : decode cX5_init 35 = .ok (.newarray .int, 2) := by decide +kernel
theorem dX5_init_37 : decode cX5_init 37 = .ok (.putfield 19, 3) := by decide +kernel
theorem dX5_init_40 : decode cX5_init 40 = .ok (.aload_n 0, 1) := by decide +kernel
theorem dX5_init_41 : decode cX5_init 41 = .ok (.bipush 100, 2) := by decide +kernel
theorem dX5_init_43 : decode cX5_init 43 = .ok (.newarray .int, 2) := by decide +kernel
theorem dX5_init_45 : decode cX5_init 45 = .ok (.putfield 22, 3) := by decide +kernel
theorem dX5_init_48 : decode cX5_init 48 = .ok (.aload_n 0, 1) := by decide +kernel
theorem dX5_init_49 : decode cX5_init 49 = .ok (.iconst 3, 1) := by decide +kernel
theorem dX5_init_50 : decode cX5_init 50 = .ok (.newarray .int, 2) := by decide +kernel
theorem dX5_init_52 : decode cX5_init 52 = .ok (.putfield 25, 3) := by decide +kernel
theorem dX5_init_55 : decode cX5_init 55 = .ok (.aload_n 0, 1) := by decide +kernel
theorem dX5_init_56 : decode cX5_init 56 = .ok (.iconst 3, 1) := by decide +kernel
theorem dX5_init_57 : decode cX5_init 57 = .ok (.newarray .int, 2) := by decide +kernel
theorem dX5_init_59 : decode cX5_init 59 = .ok (.putfield 28, 3) := by decide +kernel
theorem dX5_init_62 : decode cX5_init 62 = .ok (.aload_n 0, 1) := by decide +kernel
theorem dX5_init_63 : decode cX5_init 63 = .ok (.getfield 7, 3) := by decide +kernel
theorem dX5_init_66 : decode cX5_init 66 = .ok (.iconst 3, 1) := by decide +kernel
theorem dX5_init_67 : decode cX5_init 67 = .ok (.bipush 100, 2) := by decide +kernel
theorem dX5_init_69 : decode cX5_init 69 = .ok (.iastore, 1) := by decide +kernel
theorem dX5_init_70 : decode cX5_init 70 = .ok (.aload_n 0, 1) := by decide +kernel
theorem dX5_init_71 : decode cX5_init 71 = .ok (.getfield 7, 3) := by decide +kernel
theorem dX5_init_74 : decode cX5_init 74 = .ok (.iconst 4, 1) := by decide +kernel
theorem dX5_init_75 : decode cX5_init 75 = .ok (.bipush 40, 2) := by decide +kernel
theorem dX5_init_77 : decode cX5_init 77 = .ok (.iastore, 1) := by decide +kernel
theorem dX5_init_78 : decode cX5_init 78 = .ok (.return_, 1) := by decide +kernel
theorem dX5_in_0 : decode cX5_in 0 = .ok (.iload_n 0, 1) := by decide +kernel
theorem dX5_in_1 : decode cX5_in 1 = .ok (.iload_n 1, 1) := by decide +kernel
theorem dX5_in_2 : decode cX5_in 2 = .ok (.if_icmp .lt 12, 3) := by decide +kernel
theorem dX5_in_5 : decode cX5_in 5 = .ok (.iload_n 0, 1) := by decide +kernel
theorem dX5_in_6 : decode cX5_in 6 = .ok (.iload_n 2, 1) := by decide +kernel
theorem dX5_in_7 : decode cX5_in 7 = .ok (.if_icmp .gt 7, 3) := by decide +kernel
theorem dX5_in_10 : decode cX5_in 10 = .ok (.iconst 1, 1) := by decide +kernel
theorem dX5_in_11 : decode cX5_in 11 = .ok (.goto 4, 3) := by decide +kernel
theorem dX5_in_14 : decode cX5_in 14 = .ok (.iconst 0, 1) := by decide +kernel
theorem dX5_in_15 : decode cX5_in 15 = .ok (.ireturn, 1) := by decide +kernel
theorem dX5_l_0 : decode cX5_l 0 = .ok (.iconst 5, 1) := by decide +kernel
theorem dX5_l_1 : decode cX5_l 1 = .ok (.iconst 3, 1) := by decide +kernel
theorem dX5_l_2 : decode cX5_l 2 = .ok (.iload_n 0, 1) := by decide +kernel
theorem dX5_l_3 : decode cX5_l 3 = .ok (.imul, 1) := by decide +kernel
theorem dX5_l_4 : decode cX5_l 4 = .ok (.iadd, 1) := by decide +kernel
theorem dX5_l_5 : decode cX5_l 5 = .ok (.iload_n 1, 1) := by decide +kernel
theorem dX5_l_6 : decode cX5_l 6 = .ok (.iadd, 1) := by decide +kernel
theorem dX5_l_7 : decode cX5_l 7 = .ok (.ireturn, 1) := by decide +kernel
theorem dX5_copies_0 : decode cX5_copies 0 = .ok (.iconst 0, 1) := by decide +kernel
theorem dX5_copies_1 : decode cX5_copies 1 = .ok (.istore 4, 2) := by decide +kernel
theorem dX5_copies_3 : decode cX5_copies 3 = .ok (.iload 4, 2) := by decide +kernel
theorem dX5_copies_5 : decode cX5_copies 5 = .ok (.sipush 305, 3) := by decide +kernel
theorem dX5_copies_8 : decode cX5_copies 8 = .ok (.if_icmp .ge 21, 3) := by decide +kernel
theorem dX5_copies_11 : decode cX5_copies 11 = .ok (.aload_n 2, 1) := by decide +kernel
theorem dX5_copies_12 : decode cX5_copies 12 = .ok (.iload_n 3, 1) := by decide +kernel
theorem dX5_copies_13 : decode cX5_copies 13 = .ok (.iload 4, 2) := by decide +kernel
theorem dX5_copies_15 : decode cX5_copies 15 = .ok (.iadd, 1) := by decide +kernel
theorem dX5_copies_16 : decode cX5_copies 16 = .ok (.aload_n 0, 1) := by decide +kernel
theorem dX5_copies_17 : decode cX5_copies 17 = .ok (.iload_n 1, 1) := by decide +kernel
theorem dX5_copies_18 : decode cX5_copies 18 = .ok (.iload 4, 2) := by decide +kernel
theorem dX5_copies_20 : decode cX5_copies 20 = .ok (.iadd, 1) := by decide +kernel
theorem dX5_copies_21 : decode cX5_copies 21 = .ok (.iaload, 1) := by decide +kernel
theorem dX5_copies_22 : decode cX5_copies 22 = .ok (.iastore, 1) := by decide +kernel
theorem dX5_copies_23 : decode cX5_copies 23 = .ok (.iinc 4 1, 3) := by decide +kernel
theorem dX5_copies_26 : decode cX5_copies 26 = .ok (.goto (-23), 3) := by decide +kernel
theorem dX5_copies_29 : decode cX5_copies 29 = .ok (.return_, 1) := by decide +kernel
set_option maxRecDepth 20000 in
theorem ggX5_keeps_X5_copies : GoodIn wsX5_keeps wsX5_copies := goodIn_r _ [6] (by decide +kernel) (by decide +kernel)
set_option maxRecDepth 20000 in
theorem gX5_keeps_X5_copies : GoodIn wsX5_keeps (va_wsS RX5 31 yX5_copies wsX5_copies) := goodIn_app (goodIn_of _ (by decide +kernel)) ggX5_keeps_X5_copies
theorem dX5_keeps_0 : decode cX5_keeps 0 = .ok (.aload_n 0, 1) := by decide +kernel
theorem dX5_keeps_1 : decode cX5_keeps 1 = .ok (.getfield 7, 3) := by decide +kernel
theorem dX5_keeps_4 : decode cX5_keeps 4 = .ok (.iconst 0, 1) := by decide +kernel
theorem dX5_keeps_5 : decode cX5_keeps 5 = .ok (.aload_n 0, 1) := by decide +kernel
theorem dX5_keeps_6 : decode cX5_keeps 6 = .ok (.getfield 13, 3) := by decide +kernel
theorem dX5_keeps_9 : decode cX5_keeps 9 = .ok (.iconst 0, 1) := by decide +kernel
theorem dX5_keeps_10 : decode cX5_keeps 10 = .ok (.invokestatic 31, 3) := by decide +kernel
theorem dX5_keeps_13 : decode cX5_keeps 13 = .ok (.return_, 1) := by decide +kernel
set_option maxRecDepth 20000 in
theorem ggX5_acted_X5_in : GoodIn wsX5_acted wsX5_in := goodIn_r _ [9] (by decide +kernel) (by decide +kernel)
set_option maxRecDepth 20000 in
theorem gX5_acted_X5_in : GoodIn wsX5_acted (va_wsS RX5 37 yX5_in wsX5_in) := goodIn_app (goodIn_of _ (by decide +kernel)) ggX5_acted_X5_in
set_option maxRecDepth 20000 in
theorem ggX5_acted_X5_copies : GoodIn wsX5_acted wsX5_copies := goodIn_r _ [12] (by decide +kernel) (by decide +kernel)
set_option maxRecDepth 20000 in
theorem gX5_acted_X5_copies : GoodIn wsX5_acted (va_wsS RX5 31 yX5_copies wsX5_copies) := goodIn_app (goodIn_of _ (by decide +kernel)) ggX5_acted_X5_copies
theorem dX5_acted_0 : decode cX5_acted 0 = .ok (.iload_n 1, 1) := by decide +kernel
theorem dX5_acted_1 : decode cX5_acted 1 = .ok (.ldc 35, 2) := by decide +kernel
theorem dX5_acted_3 : decode cX5_acted 3 = .ok (.ldc 36, 2) := by decide +kernel
theorem dX5_acted_5 : decode cX5_acted 5 = .ok (.invokestatic 37, 3) := by decide +kernel
theorem dX5_acted_8 : decode cX5_acted 8 = .ok (.ifCond .eq 5, 3) := by decide +kernel
theorem dX5_acted_11 : decode cX5_acted 11 = .ok (.iload_n 1, 1) := by decide +kernel
theorem dX5_acted_12 : decode cX5_acted 12 = .ok (.ireturn, 1) := by decide +kernel
theorem dX5_acted_13 : decode cX5_acted 13 = .ok (.aload_n 0, 1) := by decide +kernel
theorem dX5_acted_14 : decode cX5_acted 14 = .ok (.getfield 41, 3) := by decide +kernel
theorem dX5_acted_17 : decode cX5_acted 17 = .ok (.iconst 5, 1) := by decide +kernel
theorem dX5_acted_18 : decode cX5_acted 18 = .ok (.if_icmp .ne 44, 3) := by decide +kernel
theorem dX5_acted_21 : decode cX5_acted 21 = .ok (.iconst 0, 1) := by decide +kernel
theorem dX5_acted_22 : decode cX5_acted 22 = .ok (.istore_n 2, 1) := by decide +kernel
theorem dX5_acted_23 : decode cX5_acted 23 = .ok (.iload_n 2, 1) := by decide +kernel
theorem dX5_acted_24 : decode cX5_acted 24 = .ok (.sipush 1220, 3) := by decide +kernel
theorem dX5_acted_27 : decode cX5_acted 27 = .ok (.if_icmp .ge 25, 3) := by decide +kernel
theorem dX5_acted_30 : decode cX5_acted 30 = .ok (.aload_n 0, 1) := by decide +kernel
theorem dX5_acted_31 : decode cX5_acted 31 = .ok (.getfield 19, 3) := by decide +kernel
theorem dX5_acted_34 : decode cX5_acted 34 = .ok (.iload_n 2, 1) := by decide +kernel
theorem dX5_acted_35 : decode cX5_acted 35 = .ok (.aload_n 0, 1) := by decide +kernel
theorem dX5_acted_36 : decode cX5_acted 36 = .ok (.getfield 19, 3) := by decide +kernel
theorem dX5_acted_39 : decode cX5_acted 39 = .ok (.iload_n 2, 1) := by decide +kernel
theorem dX5_acted_40 : decode cX5_acted 40 = .ok (.sipush 305, 3) := by decide +kernel
theorem dX5_acted_43 : decode cX5_acted 43 = .ok (.iadd, 1) := by decide +kernel
theorem dX5_acted_44 : decode cX5_acted 44 = .ok (.iaload, 1) := by decide +kernel
theorem dX5_acted_45 : decode cX5_acted 45 = .ok (.iastore, 1) := by decide +kernel
theorem dX5_acted_46 : decode cX5_acted 46 = .ok (.iinc 2 1, 3) := by decide +kernel
theorem dX5_acted_49 : decode cX5_acted 49 = .ok (.goto (-26), 3) := by decide +kernel
theorem dX5_acted_52 : decode cX5_acted 52 = .ok (.aload_n 0, 1) := by decide +kernel
theorem dX5_acted_53 : decode cX5_acted 53 = .ok (.dup, 1) := by decide +kernel
theorem dX5_acted_54 : decode cX5_acted 54 = .ok (.getfield 41, 3) := by decide +kernel
theorem dX5_acted_57 : decode cX5_acted 57 = .ok (.iconst 1, 1) := by decide +kernel
theorem dX5_acted_58 : decode cX5_acted 58 = .ok (.isub, 1) := by decide +kernel
theorem dX5_acted_59 : decode cX5_acted 59 = .ok (.putfield 41, 3) := by decide +kernel
theorem dX5_acted_62 : decode cX5_acted 62 = .ok (.aload_n 0, 1) := by decide +kernel
theorem dX5_acted_63 : decode cX5_acted 63 = .ok (.getfield 13, 3) := by decide +kernel
theorem dX5_acted_66 : decode cX5_acted 66 = .ok (.iconst 0, 1) := by decide +kernel
theorem dX5_acted_67 : decode cX5_acted 67 = .ok (.aload_n 0, 1) := by decide +kernel
theorem dX5_acted_68 : decode cX5_acted 68 = .ok (.getfield 19, 3) := by decide +kernel
theorem dX5_acted_71 : decode cX5_acted 71 = .ok (.sipush 305, 3) := by decide +kernel
theorem dX5_acted_74 : decode cX5_acted 74 = .ok (.aload_n 0, 1) := by decide +kernel
theorem dX5_acted_75 : decode cX5_acted 75 = .ok (.getfield 41, 3) := by decide +kernel
theorem dX5_acted_78 : decode cX5_acted 78 = .ok (.imul, 1) := by decide +kernel
theorem dX5_acted_79 : decode cX5_acted 79 = .ok (.invokestatic 31, 3) := by decide +kernel
theorem dX5_acted_82 : decode cX5_acted 82 = .ok (.aload_n 0, 1) := by decide +kernel
theorem dX5_acted_83 : decode cX5_acted 83 = .ok (.dup, 1) := by decide +kernel
theorem dX5_acted_84 : decode cX5_acted 84 = .ok (.getfield 41, 3) := by decide +kernel
theorem dX5_acted_87 : decode cX5_acted 87 = .ok (.iconst 1, 1) := by decide +kernel
theorem dX5_acted_88 : decode cX5_acted 88 = .ok (.iadd, 1) := by decide +kernel
theorem dX5_acted_89 : decode cX5_acted 89 = .ok (.putfield 41, 3) := by decide +kernel
theorem dX5_acted_92 : decode cX5_acted 92 = .ok (.iload_n 1, 1) := by decide +kernel
theorem dX5_acted_93 : decode cX5_acted 93 = .ok (.ireturn, 1) := by decide +kernel
set_option maxRecDepth 20000 in
theorem ggX5_isLine_X5_in : GoodIn wsX5_isLine wsX5_in := goodIn_r _ [5] (by decide +kernel) (by decide +kernel)
set_option maxRecDepth 20000 in
theorem gX5_isLine_X5_in : GoodIn wsX5_isLine (va_wsS RX5 37 yX5_in wsX5_in) := goodIn_app (goodIn_of _ (by decide +kernel)) ggX5_isLine_X5_in
theorem dX5_isLine_0 : decode cX5_isLine 0 = .ok (.iload_n 1, 1) := by decide +kernel
theorem dX5_isLine_1 : decode cX5_isLine 1 = .ok (.iconst 0, 1) := by decide +kernel
theorem dX5_isLine_2 : decode cX5_isLine 2 = .ok (.aload_n 0, 1) := by decide +kernel
theorem dX5_isLine_3 : decode cX5_isLine 3 = .ok (.getfield 7, 3) := by decide +kernel
theorem dX5_isLine_6 : decode cX5_isLine 6 = .ok (.iconst 0, 1) := by decide +kernel
theorem dX5_isLine_7 : decode cX5_isLine 7 = .ok (.iaload, 1) := by decide +kernel
theorem dX5_isLine_8 : decode cX5_isLine 8 = .ok (.iconst 1, 1) := by decide +kernel
theorem dX5_isLine_9 : decode cX5_isLine 9 = .ok (.isub, 1) := by decide +kernel
theorem dX5_isLine_10 : decode cX5_isLine 10 = .ok (.invokestatic 37, 3) := by decide +kernel
end
section
theorem dX5_isLine_13 : decode cX5_isLine 13 = .ok (.ireturn, 1) := by decide +kernel
set_option maxRecDepth 20000 in
theorem ggX5_trueOf_X5_l : GoodIn wsX5_trueOf wsX5_l := goodIn_r _ [4] (by decide +kernel) (by decide +kernel)
set_option maxRecDepth 20000 in
theorem gX5_trueOf_X5_l : GoodIn wsX5_trueOf (va_wsS RX5 45 yX5_l wsX5_l) := goodIn_app (goodIn_of _ (by decide +kernel)) ggX5_trueOf_X5_l
theorem dX5_trueOf_0 : decode cX5_trueOf 0 = .ok (.aload_n 0, 1) := by decide +kernel
theorem dX5_trueOf_1 : decode cX5_trueOf 1 = .ok (.iload_n 1, 1) := by decide +kernel
theorem dX5_trueOf_2 : decode cX5_trueOf 2 = .ok (.iconst 1, 1) := by decide +kernel
theorem dX5_trueOf_3 : decode cX5_trueOf 3 = .ok (.invokestatic 45, 3) := by decide +kernel
theorem dX5_trueOf_6 : decode cX5_trueOf 6 = .ok (.iaload, 1) := by decide +kernel
theorem dX5_trueOf_7 : decode cX5_trueOf 7 = .ok (.istore_n 2, 1) := by decide +kernel
theorem dX5_trueOf_8 : decode cX5_trueOf 8 = .ok (.iload_n 2, 1) := by decide +kernel
theorem dX5_trueOf_9 : decode cX5_trueOf 9 = .ok (.aload_n 0, 1) := by decide +kernel
theorem dX5_trueOf_10 : decode cX5_trueOf 10 = .ok (.iconst 4, 1) := by decide +kernel
theorem dX5_trueOf_11 : decode cX5_trueOf 11 = .ok (.iaload, 1) := by decide +kernel
theorem dX5_trueOf_12 : decode cX5_trueOf 12 = .ok (.iadd, 1) := by decide +kernel
theorem dX5_trueOf_13 : decode cX5_trueOf 13 = .ok (.iconst 1, 1) := by decide +kernel
theorem dX5_trueOf_14 : decode cX5_trueOf 14 = .ok (.isub, 1) := by decide +kernel
theorem dX5_trueOf_15 : decode cX5_trueOf 15 = .ok (.aload_n 0, 1) := by decide +kernel
theorem dX5_trueOf_16 : decode cX5_trueOf 16 = .ok (.iconst 4, 1) := by decide +kernel
theorem dX5_trueOf_17 : decode cX5_trueOf 17 = .ok (.iaload, 1) := by decide +kernel
theorem dX5_trueOf_18 : decode cX5_trueOf 18 = .ok (.idiv, 1) := by decide +kernel
theorem dX5_trueOf_19 : decode cX5_trueOf 19 = .ok (.istore_n 3, 1) := by decide +kernel
theorem dX5_trueOf_20 : decode cX5_trueOf 20 = .ok (.iload_n 3, 1) := by decide +kernel
theorem dX5_trueOf_21 : decode cX5_trueOf 21 = .ok (.iconst 1, 1) := by decide +kernel
theorem dX5_trueOf_22 : decode cX5_trueOf 22 = .ok (.if_icmp .ge 7, 3) := by decide +kernel
theorem dX5_trueOf_25 : decode cX5_trueOf 25 = .ok (.iconst 1, 1) := by decide +kernel
theorem dX5_trueOf_26 : decode cX5_trueOf 26 = .ok (.goto 4, 3) := by decide +kernel
theorem dX5_trueOf_29 : decode cX5_trueOf 29 = .ok (.iload_n 3, 1) := by decide +kernel
theorem dX5_trueOf_30 : decode cX5_trueOf 30 = .ok (.istore_n 3, 1) := by decide +kernel
theorem dX5_trueOf_31 : decode cX5_trueOf 31 = .ok (.aload_n 0, 1) := by decide +kernel
theorem dX5_trueOf_32 : decode cX5_trueOf 32 = .ok (.iload_n 1, 1) := by decide +kernel
theorem dX5_trueOf_33 : decode cX5_trueOf 33 = .ok (.iconst 0, 1) := by decide +kernel
theorem dX5_trueOf_34 : decode cX5_trueOf 34 = .ok (.invokestatic 45, 3) := by decide +kernel
theorem dX5_trueOf_37 : decode cX5_trueOf 37 = .ok (.iaload, 1) := by decide +kernel
theorem dX5_trueOf_38 : decode cX5_trueOf 38 = .ok (.istore 4, 2) := by decide +kernel
theorem dX5_trueOf_40 : decode cX5_trueOf 40 = .ok (.iload 4, 2) := by decide +kernel
theorem dX5_trueOf_42 : decode cX5_trueOf 42 = .ok (.ifCond .ne 12, 3) := by decide +kernel
theorem dX5_trueOf_45 : decode cX5_trueOf 45 = .ok (.bipush 12, 2) := by decide +kernel
theorem dX5_trueOf_47 : decode cX5_trueOf 47 = .ok (.iload_n 3, 1) := by decide +kernel
theorem dX5_trueOf_48 : decode cX5_trueOf 48 = .ok (.imul, 1) := by decide +kernel
theorem dX5_trueOf_49 : decode cX5_trueOf 49 = .ok (.iconst 4, 1) := by decide +kernel
theorem dX5_trueOf_50 : decode cX5_trueOf 50 = .ok (.iadd, 1) := by decide +kernel
theorem dX5_trueOf_51 : decode cX5_trueOf 51 = .ok (.goto 23, 3) := by decide +kernel
theorem dX5_trueOf_54 : decode cX5_trueOf 54 = .ok (.iload 4, 2) := by decide +kernel
theorem dX5_trueOf_56 : decode cX5_trueOf 56 = .ok (.iconst 1, 1) := by decide +kernel
theorem dX5_trueOf_57 : decode cX5_trueOf 57 = .ok (.if_icmp .ne 13, 3) := by decide +kernel
theorem dX5_trueOf_60 : decode cX5_trueOf 60 = .ok (.bipush 18, 2) := by decide +kernel
theorem dX5_trueOf_62 : decode cX5_trueOf 62 = .ok (.iload_n 3, 1) := by decide +kernel
theorem dX5_trueOf_63 : decode cX5_trueOf 63 = .ok (.imul, 1) := by decide +kernel
theorem dX5_trueOf_64 : decode cX5_trueOf 64 = .ok (.bipush 10, 2) := by decide +kernel
theorem dX5_trueOf_66 : decode cX5_trueOf 66 = .ok (.iadd, 1) := by decide +kernel
theorem dX5_trueOf_67 : decode cX5_trueOf 67 = .ok (.goto 7, 3) := by decide +kernel
theorem dX5_trueOf_70 : decode cX5_trueOf 70 = .ok (.iload_n 2, 1) := by decide +kernel
theorem dX5_trueOf_71 : decode cX5_trueOf 71 = .ok (.bipush 6, 2) := by decide +kernel
theorem dX5_trueOf_73 : decode cX5_trueOf 73 = .ok (.iadd, 1) := by decide +kernel
theorem dX5_trueOf_74 : decode cX5_trueOf 74 = .ok (.ireturn, 1) := by decide +kernel
set_option maxRecDepth 20000 in
theorem ggX5_laysGuesses_X5_l : GoodIn wsX5_laysGuesses wsX5_l := goodIn_r _ [5] (by decide +kernel) (by decide +kernel)
set_option maxRecDepth 20000 in
theorem gX5_laysGuesses_X5_l : GoodIn wsX5_laysGuesses (va_wsS RX5 45 yX5_l wsX5_l) := goodIn_app (goodIn_of _ (by decide +kernel)) ggX5_laysGuesses_X5_l
set_option maxRecDepth 20000 in
theorem ggX5_laysGuesses_X5_trueOf : GoodIn wsX5_laysGuesses wsX5_trueOf := goodIn_r _ [8, 2, 3, 4, 5] (by decide +kernel) (by decide +kernel)
set_option maxRecDepth 20000 in
theorem gX5_laysGuesses_X5_trueOf : GoodIn wsX5_laysGuesses (va_wsS RX5 49 yX5_trueOf wsX5_trueOf) := goodIn_app (goodIn_of _ (by decide +kernel)) ggX5_laysGuesses_X5_trueOf
theorem dX5_laysGuesses_0 : decode cX5_laysGuesses 0 = .ok (.iconst 0, 1) := by decide +kernel
theorem dX5_laysGuesses_1 : decode cX5_laysGuesses 1 = .ok (.istore_n 2, 1) := by decide +kernel
theorem dX5_laysGuesses_2 : decode cX5_laysGuesses 2 = .ok (.iload_n 2, 1) := by decide +kernel
theorem dX5_laysGuesses_3 : decode cX5_laysGuesses 3 = .ok (.iconst 3, 1) := by decide +kernel
theorem dX5_laysGuesses_4 : decode cX5_laysGuesses 4 = .ok (.if_icmp .ge 115, 3) := by decide +kernel
theorem dX5_laysGuesses_7 : decode cX5_laysGuesses 7 = .ok (.iconst 0, 1) := by decide +kernel
theorem dX5_laysGuesses_8 : decode cX5_laysGuesses 8 = .ok (.istore_n 3, 1) := by decide +kernel
theorem dX5_laysGuesses_9 : decode cX5_laysGuesses 9 = .ok (.iconst 0, 1) := by decide +kernel
theorem dX5_laysGuesses_10 : decode cX5_laysGuesses 10 = .ok (.istore 4, 2) := by decide +kernel
theorem dX5_laysGuesses_12 : decode cX5_laysGuesses 12 = .ok (.iconst 0, 1) := by decide +kernel
theorem dX5_laysGuesses_13 : decode cX5_laysGuesses 13 = .ok (.istore 5, 2) := by decide +kernel
theorem dX5_laysGuesses_15 : decode cX5_laysGuesses 15 = .ok (.iload 5, 2) := by decide +kernel
theorem dX5_laysGuesses_17 : decode cX5_laysGuesses 17 = .ok (.aload_n 1, 1) := by decide +kernel
theorem dX5_laysGuesses_18 : decode cX5_laysGuesses 18 = .ok (.iconst 0, 1) := by decide +kernel
theorem dX5_laysGuesses_19 : decode cX5_laysGuesses 19 = .ok (.iaload, 1) := by decide +kernel
theorem dX5_laysGuesses_20 : decode cX5_laysGuesses 20 = .ok (.if_icmp .ge 73, 3) := by decide +kernel
theorem dX5_laysGuesses_23 : decode cX5_laysGuesses 23 = .ok (.aload_n 1, 1) := by decide +kernel
theorem dX5_laysGuesses_24 : decode cX5_laysGuesses 24 = .ok (.iload 5, 2) := by decide +kernel
theorem dX5_laysGuesses_26 : decode cX5_laysGuesses 26 = .ok (.iconst 0, 1) := by decide +kernel
theorem dX5_laysGuesses_27 : decode cX5_laysGuesses 27 = .ok (.invokestatic 45, 3) := by decide +kernel
theorem dX5_laysGuesses_30 : decode cX5_laysGuesses 30 = .ok (.iaload, 1) := by decide +kernel
theorem dX5_laysGuesses_31 : decode cX5_laysGuesses 31 = .ok (.iload_n 2, 1) := by decide +kernel
theorem dX5_laysGuesses_32 : decode cX5_laysGuesses 32 = .ok (.if_icmp .ne 19, 3) := by decide +kernel
theorem dX5_laysGuesses_35 : decode cX5_laysGuesses 35 = .ok (.aload_n 1, 1) := by decide +kernel
theorem dX5_laysGuesses_36 : decode cX5_laysGuesses 36 = .ok (.iload 5, 2) := by decide +kernel
theorem dX5_laysGuesses_38 : decode cX5_laysGuesses 38 = .ok (.iconst 2, 1) := by decide +kernel
theorem dX5_laysGuesses_39 : decode cX5_laysGuesses 39 = .ok (.invokestatic 45, 3) := by decide +kernel
theorem dX5_laysGuesses_42 : decode cX5_laysGuesses 42 = .ok (.iaload, 1) := by decide +kernel
theorem dX5_laysGuesses_43 : decode cX5_laysGuesses 43 = .ok (.iconst 1, 1) := by decide +kernel
theorem dX5_laysGuesses_44 : decode cX5_laysGuesses 44 = .ok (.if_icmp .ne 7, 3) := by decide +kernel
theorem dX5_laysGuesses_47 : decode cX5_laysGuesses 47 = .ok (.iconst 1, 1) := by decide +kernel
theorem dX5_laysGuesses_48 : decode cX5_laysGuesses 48 = .ok (.goto 4, 3) := by decide +kernel
theorem dX5_laysGuesses_51 : decode cX5_laysGuesses 51 = .ok (.iconst 0, 1) := by decide +kernel
theorem dX5_laysGuesses_52 : decode cX5_laysGuesses 52 = .ok (.istore 6, 2) := by decide +kernel
theorem dX5_laysGuesses_54 : decode cX5_laysGuesses 54 = .ok (.iload_n 3, 1) := by decide +kernel
theorem dX5_laysGuesses_55 : decode cX5_laysGuesses 55 = .ok (.iload 6, 2) := by decide +kernel
theorem dX5_laysGuesses_57 : decode cX5_laysGuesses 57 = .ok (.ifCond .eq 12, 3) := by decide +kernel
theorem dX5_laysGuesses_60 : decode cX5_laysGuesses 60 = .ok (.aload_n 1, 1) := by decide +kernel
theorem dX5_laysGuesses_61 : decode cX5_laysGuesses 61 = .ok (.iload 5, 2) := by decide +kernel
theorem dX5_laysGuesses_63 : decode cX5_laysGuesses 63 = .ok (.invokestatic 49, 3) := by decide +kernel
theorem dX5_laysGuesses_66 : decode cX5_laysGuesses 66 = .ok (.goto 4, 3) := by decide +kernel
theorem dX5_laysGuesses_69 : decode cX5_laysGuesses 69 = .ok (.iconst 0, 1) := by decide +kernel
theorem dX5_laysGuesses_70 : decode cX5_laysGuesses 70 = .ok (.iadd, 1) := by decide +kernel
theorem dX5_laysGuesses_71 : decode cX5_laysGuesses 71 = .ok (.istore_n 3, 1) := by decide +kernel
theorem dX5_laysGuesses_72 : decode cX5_laysGuesses 72 = .ok (.iload 4, 2) := by decide +kernel
theorem dX5_laysGuesses_74 : decode cX5_laysGuesses 74 = .ok (.iload 6, 2) := by decide +kernel
theorem dX5_laysGuesses_76 : decode cX5_laysGuesses 76 = .ok (.ifCond .eq 7, 3) := by decide +kernel
theorem dX5_laysGuesses_79 : decode cX5_laysGuesses 79 = .ok (.iconst 1, 1) := by decide +kernel
theorem dX5_laysGuesses_80 : decode cX5_laysGuesses 80 = .ok (.goto 4, 3) := by decide +kernel
theorem dX5_laysGuesses_83 : decode cX5_laysGuesses 83 = .ok (.iconst 0, 1) := by decide +kernel
theorem dX5_laysGuesses_84 : decode cX5_laysGuesses 84 = .ok (.iadd, 1) := by decide +kernel
theorem dX5_laysGuesses_85 : decode cX5_laysGuesses 85 = .ok (.istore 4, 2) := by decide +kernel
theorem dX5_laysGuesses_87 : decode cX5_laysGuesses 87 = .ok (.iinc 5 1, 3) := by decide +kernel
theorem dX5_laysGuesses_90 : decode cX5_laysGuesses 90 = .ok (.goto (-75), 3) := by decide +kernel
theorem dX5_laysGuesses_93 : decode cX5_laysGuesses 93 = .ok (.aload_n 0, 1) := by decide +kernel
theorem dX5_laysGuesses_94 : decode cX5_laysGuesses 94 = .ok (.getfield 25, 3) := by decide +kernel
theorem dX5_laysGuesses_97 : decode cX5_laysGuesses 97 = .ok (.iload_n 2, 1) := by decide +kernel
theorem dX5_laysGuesses_98 : decode cX5_laysGuesses 98 = .ok (.iload 4, 2) := by decide +kernel
theorem dX5_laysGuesses_100 : decode cX5_laysGuesses 100 = .ok (.ifCond .ne 8, 3) := by decide +kernel
theorem dX5_laysGuesses_103 : decode cX5_laysGuesses 103 = .ok (.bipush 20, 2) := by decide +kernel
theorem dX5_laysGuesses_105 : decode cX5_laysGuesses 105 = .ok (.goto 7, 3) := by decide +kernel
theorem dX5_laysGuesses_108 : decode cX5_laysGuesses 108 = .ok (.iload_n 3, 1) := by decide +kernel
theorem dX5_laysGuesses_109 : decode cX5_laysGuesses 109 = .ok (.iload 4, 2) := by decide +kernel
theorem dX5_laysGuesses_111 : decode cX5_laysGuesses 111 = .ok (.idiv, 1) := by decide +kernel
theorem dX5_laysGuesses_112 : decode cX5_laysGuesses 112 = .ok (.iastore, 1) := by decide +kernel
theorem dX5_laysGuesses_113 : decode cX5_laysGuesses 113 = .ok (.iinc 2 1, 3) := by decide +kernel
theorem dX5_laysGuesses_116 : decode cX5_laysGuesses 116 = .ok (.goto (-114), 3) := by decide +kernel
theorem dX5_laysGuesses_119 : decode cX5_laysGuesses 119 = .ok (.return_, 1) := by decide +kernel
set_option maxRecDepth 20000 in
theorem ggX5_heightOf_X5_l : GoodIn wsX5_heightOf wsX5_l := goodIn_r _ [5] (by decide +kernel) (by decide +kernel)
set_option maxRecDepth 20000 in
theorem gX5_heightOf_X5_l : GoodIn wsX5_heightOf (va_wsS RX5 45 yX5_l wsX5_l) := goodIn_app (goodIn_of _ (by decide +kernel)) ggX5_heightOf_X5_l
set_option maxRecDepth 20000 in
theorem ggX5_heightOf_X5_trueOf : GoodIn wsX5_heightOf wsX5_trueOf := goodIn_r _ [8, 2, 3, 4, 5] (by decide +kernel) (by decide +kernel)
set_option maxRecDepth 20000 in
theorem gX5_heightOf_X5_trueOf : GoodIn wsX5_heightOf (va_wsS RX5 49 yX5_trueOf wsX5_trueOf) := goodIn_app (goodIn_of _ (by decide +kernel)) ggX5_heightOf_X5_trueOf
theorem dX5_heightOf_0 : decode cX5_heightOf 0 = .ok (.aload_n 1, 1) := by decide +kernel
theorem dX5_heightOf_1 : decode cX5_heightOf 1 = .ok (.iload_n 2, 1) := by decide +kernel
theorem dX5_heightOf_2 : decode cX5_heightOf 2 = .ok (.iconst 2, 1) := by decide +kernel
theorem dX5_heightOf_3 : decode cX5_heightOf 3 = .ok (.invokestatic 45, 3) := by decide +kernel
theorem dX5_heightOf_6 : decode cX5_heightOf 6 = .ok (.iaload, 1) := by decide +kernel
theorem dX5_heightOf_7 : decode cX5_heightOf 7 = .ok (.iconst 1, 1) := by decide +kernel
theorem dX5_heightOf_8 : decode cX5_heightOf 8 = .ok (.if_icmp .ne 11, 3) := by decide +kernel
theorem dX5_heightOf_11 : decode cX5_heightOf 11 = .ok (.aload_n 1, 1) := by decide +kernel
theorem dX5_heightOf_12 : decode cX5_heightOf 12 = .ok (.iload_n 2, 1) := by decide +kernel
theorem dX5_heightOf_13 : decode cX5_heightOf 13 = .ok (.invokestatic 49, 3) := by decide +kernel
theorem dX5_heightOf_16 : decode cX5_heightOf 16 = .ok (.goto 15, 3) := by decide +kernel
theorem dX5_heightOf_19 : decode cX5_heightOf 19 = .ok (.aload_n 0, 1) := by decide +kernel
theorem dX5_heightOf_20 : decode cX5_heightOf 20 = .ok (.getfield 25, 3) := by decide +kernel
theorem dX5_heightOf_23 : decode cX5_heightOf 23 = .ok (.aload_n 1, 1) := by decide +kernel
theorem dX5_heightOf_24 : decode cX5_heightOf 24 = .ok (.iload_n 2, 1) := by decide +kernel
theorem dX5_heightOf_25 : decode cX5_heightOf 25 = .ok (.iconst 0, 1) := by decide +kernel
theorem dX5_heightOf_26 : decode cX5_heightOf 26 = .ok (.invokestatic 45, 3) := by decide +kernel
theorem dX5_heightOf_29 : decode cX5_heightOf 29 = .ok (.iaload, 1) := by decide +kernel
theorem dX5_heightOf_30 : decode cX5_heightOf 30 = .ok (.iaload, 1) := by decide +kernel
theorem dX5_heightOf_31 : decode cX5_heightOf 31 = .ok (.ireturn, 1) := by decide +kernel
set_option maxRecDepth 20000 in
theorem ggX5_topOf_X5_laysGuesses : GoodIn wsX5_topOf wsX5_laysGuesses := goodIn_r _ [5, 6, 7, 8, 4, 9, 10, 11, 12, 17, 18, 19, 20, 21, 22, 23, 24, 25, 26, 27, 28] (by decide +kernel) (by decide +kernel)
set_option maxRecDepth 20000 in
theorem gX5_topOf_X5_laysGuesses : GoodIn wsX5_topOf (wsV RX5 53 RX5 yX5_laysGuesses wsX5_laysGuesses) := goodIn_app (goodIn_of _ (by decide +kernel)) ggX5_topOf_X5_laysGuesses
set_option maxRecDepth 20000 in
theorem ggX5_topOf_X5_heightOf : GoodIn wsX5_topOf wsX5_heightOf := goodIn_r _ [16, 6, 7, 8, 4, 9, 10, 11, 12, 17, 18, 19, 20, 21, 22, 23, 24, 25, 26, 27, 28] (by decide +kernel) (by decide +kernel)
set_option maxRecDepth 20000 in
theorem gX5_topOf_X5_heightOf : GoodIn wsX5_topOf (wsV RX5 57 RX5 yX5_heightOf wsX5_heightOf) := goodIn_app (goodIn_of _ (by decide +kernel)) ggX5_topOf_X5_heightOf
theorem dX5_topOf_0 : decode cX5_topOf 0 = .ok (.aload_n 0, 1) := by decide +kernel
theorem dX5_topOf_1 : decode cX5_topOf 1 = .ok (.aload_n 1, 1) := by decide +kernel
theorem dX5_topOf_2 : decode cX5_topOf 2 = .ok (.invokevirtual 53, 3) := by decide +kernel
theorem dX5_topOf_5 : decode cX5_topOf 5 = .ok (.iconst 0, 1) := by decide +kernel
theorem dX5_topOf_6 : decode cX5_topOf 6 = .ok (.istore_n 3, 1) := by decide +kernel
theorem dX5_topOf_7 : decode cX5_topOf 7 = .ok (.iconst 0, 1) := by decide +kernel
theorem dX5_topOf_8 : decode cX5_topOf 8 = .ok (.istore 4, 2) := by decide +kernel
theorem dX5_topOf_10 : decode cX5_topOf 10 = .ok (.iload 4, 2) := by decide +kernel
theorem dX5_topOf_12 : decode cX5_topOf 12 = .ok (.iload_n 2, 1) := by decide +kernel
theorem dX5_topOf_13 : decode cX5_topOf 13 = .ok (.if_icmp .ge 19, 3) := by decide +kernel
theorem dX5_topOf_16 : decode cX5_topOf 16 = .ok (.iload_n 3, 1) := by decide +kernel
theorem dX5_topOf_17 : decode cX5_topOf 17 = .ok (.aload_n 0, 1) := by decide +kernel
theorem dX5_topOf_18 : decode cX5_topOf 18 = .ok (.aload_n 1, 1) := by decide +kernel
theorem dX5_topOf_19 : decode cX5_topOf 19 = .ok (.iload 4, 2) := by decide +kernel
theorem dX5_topOf_21 : decode cX5_topOf 21 = .ok (.invokevirtual 57, 3) := by decide +kernel
theorem dX5_topOf_24 : decode cX5_topOf 24 = .ok (.iadd, 1) := by decide +kernel
theorem dX5_topOf_25 : decode cX5_topOf 25 = .ok (.istore_n 3, 1) := by decide +kernel
theorem dX5_topOf_26 : decode cX5_topOf 26 = .ok (.iinc 4 1, 3) := by decide +kernel
theorem dX5_topOf_29 : decode cX5_topOf 29 = .ok (.goto (-19), 3) := by decide +kernel
theorem dX5_topOf_32 : decode cX5_topOf 32 = .ok (.iload_n 3, 1) := by decide +kernel
theorem dX5_topOf_33 : decode cX5_topOf 33 = .ok (.ireturn, 1) := by decide +kernel
set_option maxRecDepth 20000 in
theorem ggX5_total_X5_topOf : GoodIn wsX5_total wsX5_topOf := goodIn_r _ [5, 6, 7, 8, 4, 9, 10, 11, 12, 13, 14, 15, 16, 17, 18, 19, 20, 21, 22, 23, 24, 25, 26, 27, 28, 29, 30, 31, 32] (by decide +kernel) (by decide +kernel)
set_option maxRecDepth 20000 in
theorem gX5_total_X5_topOf : GoodIn wsX5_total (wsV RX5 60 RX5 yX5_topOf wsX5_topOf) := goodIn_app (goodIn_of _ (by decide +kernel)) ggX5_total_X5_topOf
theorem dX5_total_0 : decode cX5_total 0 = .ok (.aload_n 0, 1) := by decide +kernel
theorem dX5_total_1 : decode cX5_total 1 = .ok (.aload_n 1, 1) := by decide +kernel
theorem dX5_total_2 : decode cX5_total 2 = .ok (.aload_n 1, 1) := by decide +kernel
theorem dX5_total_3 : decode cX5_total 3 = .ok (.iconst 0, 1) := by decide +kernel
theorem dX5_total_4 : decode cX5_total 4 = .ok (.iaload, 1) := by decide +kernel
theorem dX5_total_5 : decode cX5_total 5 = .ok (.invokevirtual 60, 3) := by decide +kernel
theorem dX5_total_8 : decode cX5_total 8 = .ok (.ireturn, 1) := by decide +kernel
set_option maxRecDepth 20000 in
theorem ggX5_windowOf_X5_topOf : GoodIn wsX5_windowOf wsX5_topOf := goodIn_r _ [5, 6, 7, 8, 4, 9, 10, 11, 12, 13, 14, 15, 16, 17, 18, 19, 20, 21, 22, 23, 24, 25, 26, 27, 28, 29, 30, 31, 32] (by decide +kernel) (by decide +kernel)
set_option maxRecDepth 20000 in
theorem gX5_windowOf_X5_topOf : GoodIn wsX5_windowOf (wsV RX5 60 RX5 yX5_topOf wsX5_topOf) := goodIn_app (goodIn_of _ (by decide +kernel)) ggX5_windowOf_X5_topOf
theorem dX5_windowOf_0 : decode cX5_windowOf 0 = .ok (.aload_n 1, 1) := by decide +kernel
theorem dX5_windowOf_1 : decode cX5_windowOf 1 = .ok (.iconst 0, 1) := by decide +kernel
theorem dX5_windowOf_2 : decode cX5_windowOf 2 = .ok (.iaload, 1) := by decide +kernel
theorem dX5_windowOf_3 : decode cX5_windowOf 3 = .ok (.ifCond .ne 7, 3) := by decide +kernel
theorem dX5_windowOf_6 : decode cX5_windowOf 6 = .ok (.iconst 0, 1) := by decide +kernel
theorem dX5_windowOf_7 : decode cX5_windowOf 7 = .ok (.goto 15, 3) := by decide +kernel
theorem dX5_windowOf_10 : decode cX5_windowOf 10 = .ok (.aload_n 0, 1) := by decide +kernel
theorem dX5_windowOf_11 : decode cX5_windowOf 11 = .ok (.aload_n 1, 1) := by decide +kernel
theorem dX5_windowOf_12 : decode cX5_windowOf 12 = .ok (.aload_n 1, 1) := by decide +kernel
theorem dX5_windowOf_13 : decode cX5_windowOf 13 = .ok (.iconst 1, 1) := by decide +kernel
theorem dX5_windowOf_14 : decode cX5_windowOf 14 = .ok (.iaload, 1) := by decide +kernel
theorem dX5_windowOf_15 : decode cX5_windowOf 15 = .ok (.invokevirtual 60, 3) := by decide +kernel
theorem dX5_windowOf_18 : decode cX5_windowOf 18 = .ok (.aload_n 1, 1) := by decide +kernel
theorem dX5_windowOf_19 : decode cX5_windowOf 19 = .ok (.iconst 2, 1) := by decide +kernel
theorem dX5_windowOf_20 : decode cX5_windowOf 20 = .ok (.iaload, 1) := by decide +kernel
theorem dX5_windowOf_21 : decode cX5_windowOf 21 = .ok (.iadd, 1) := by decide +kernel
theorem dX5_windowOf_22 : decode cX5_windowOf 22 = .ok (.ireturn, 1) := by decide +kernel
set_option maxRecDepth 20000 in
theorem ggX5_measured_X5_l : GoodIn wsX5_measured wsX5_l := goodIn_r _ [4] (by decide +kernel) (by decide +kernel)
set_option maxRecDepth 20000 in
theorem gX5_measured_X5_l : GoodIn wsX5_measured (va_wsS RX5 45 yX5_l wsX5_l) := goodIn_app (goodIn_of _ (by decide +kernel)) ggX5_measured_X5_l
theorem dX5_measured_0 : decode cX5_measured 0 = .ok (.iconst 0, 1) := by decide +kernel
theorem dX5_measured_1 : decode cX5_measured 1 = .ok (.istore_n 2, 1) := by decide +kernel
theorem dX5_measured_2 : decode cX5_measured 2 = .ok (.iconst 0, 1) := by decide +kernel
theorem dX5_measured_3 : decode cX5_measured 3 = .ok (.istore_n 3, 1) := by decide +kernel
theorem dX5_measured_4 : decode cX5_measured 4 = .ok (.iload_n 3, 1) := by decide +kernel
theorem dX5_measured_5 : decode cX5_measured 5 = .ok (.aload_n 1, 1) := by decide +kernel
theorem dX5_measured_6 : decode cX5_measured 6 = .ok (.iconst 0, 1) := by decide +kernel
theorem dX5_measured_7 : decode cX5_measured 7 = .ok (.iaload, 1) := by decide +kernel
theorem dX5_measured_8 : decode cX5_measured 8 = .ok (.if_icmp .ge 19, 3) := by decide +kernel
theorem dX5_measured_11 : decode cX5_measured 11 = .ok (.iload_n 2, 1) := by decide +kernel
theorem dX5_measured_12 : decode cX5_measured 12 = .ok (.aload_n 1, 1) := by decide +kernel
theorem dX5_measured_13 : decode cX5_measured 13 = .ok (.iload_n 3, 1) := by decide +kernel
theorem dX5_measured_14 : decode cX5_measured 14 = .ok (.iconst 2, 1) := by decide +kernel
theorem dX5_measured_15 : decode cX5_measured 15 = .ok (.invokestatic 45, 3) := by decide +kernel
theorem dX5_measured_18 : decode cX5_measured 18 = .ok (.iaload, 1) := by decide +kernel
theorem dX5_measured_19 : decode cX5_measured 19 = .ok (.iadd, 1) := by decide +kernel
theorem dX5_measured_20 : decode cX5_measured 20 = .ok (.istore_n 2, 1) := by decide +kernel
theorem dX5_measured_21 : decode cX5_measured 21 = .ok (.iinc 3 1, 3) := by decide +kernel
theorem dX5_measured_24 : decode cX5_measured 24 = .ok (.goto (-20), 3) := by decide +kernel
theorem dX5_measured_27 : decode cX5_measured 27 = .ok (.iload_n 2, 1) := by decide +kernel
theorem dX5_measured_28 : decode cX5_measured 28 = .ok (.ireturn, 1) := by decide +kernel
set_option maxRecDepth 20000 in
theorem ggX5_lineAt_X5_laysGuesses : GoodIn wsX5_lineAt wsX5_laysGuesses := goodIn_r _ [6, 7, 8, 9, 5, 10, 11, 12, 13, 18, 19, 20, 21, 22, 23, 24, 25, 26, 27, 28, 29] (by decide +kernel) (by decide +kernel)
set_option maxRecDepth 20000 in
theorem gX5_lineAt_X5_laysGuesses : GoodIn wsX5_lineAt (wsV RX5 53 RX5 yX5_laysGuesses wsX5_laysGuesses) := goodIn_app (goodIn_of _ (by decide +kernel)) ggX5_lineAt_X5_laysGuesses
set_option maxRecDepth 20000 in
theorem ggX5_lineAt_X5_heightOf : GoodIn wsX5_lineAt wsX5_heightOf := goodIn_r _ [17, 7, 8, 9, 5, 10, 11, 12, 13, 18, 19, 20, 21, 22, 23, 24, 25, 26, 27, 28, 29] (by decide +kernel) (by decide +kernel)
set_option maxRecDepth 20000 in
theorem gX5_lineAt_X5_heightOf : GoodIn wsX5_lineAt (wsV RX5 57 RX5 yX5_heightOf wsX5_heightOf) := goodIn_app (goodIn_of _ (by decide +kernel)) ggX5_lineAt_X5_heightOf
theorem dX5_lineAt_0 : decode cX5_lineAt 0 = .ok (.aload_n 0, 1) := by decide +kernel
theorem dX5_lineAt_1 : decode cX5_lineAt 1 = .ok (.aload_n 1, 1) := by decide +kernel
theorem dX5_lineAt_2 : decode cX5_lineAt 2 = .ok (.invokevirtual 53, 3) := by decide +kernel
theorem dX5_lineAt_5 : decode cX5_lineAt 5 = .ok (.iconst 0, 1) := by decide +kernel
theorem dX5_lineAt_6 : decode cX5_lineAt 6 = .ok (.istore_n 3, 1) := by decide +kernel
theorem dX5_lineAt_7 : decode cX5_lineAt 7 = .ok (.iconst 0, 1) := by decide +kernel
theorem dX5_lineAt_8 : decode cX5_lineAt 8 = .ok (.istore 4, 2) := by decide +kernel
theorem dX5_lineAt_10 : decode cX5_lineAt 10 = .ok (.iload 4, 2) := by decide +kernel
theorem dX5_lineAt_12 : decode cX5_lineAt 12 = .ok (.aload_n 1, 1) := by decide +kernel
theorem dX5_lineAt_13 : decode cX5_lineAt 13 = .ok (.iconst 0, 1) := by decide +kernel
theorem dX5_lineAt_14 : decode cX5_lineAt 14 = .ok (.iaload, 1) := by decide +kernel
theorem dX5_lineAt_15 : decode cX5_lineAt 15 = .ok (.if_icmp .ge 27, 3) := by decide +kernel
theorem dX5_lineAt_18 : decode cX5_lineAt 18 = .ok (.iload_n 3, 1) := by decide +kernel
theorem dX5_lineAt_19 : decode cX5_lineAt 19 = .ok (.aload_n 0, 1) := by decide +kernel
theorem dX5_lineAt_20 : decode cX5_lineAt 20 = .ok (.aload_n 1, 1) := by decide +kernel
theorem dX5_lineAt_21 : decode cX5_lineAt 21 = .ok (.iload 4, 2) := by decide +kernel
theorem dX5_lineAt_23 : decode cX5_lineAt 23 = .ok (.invokevirtual 57, 3) := by decide +kernel
theorem dX5_lineAt_26 : decode cX5_lineAt 26 = .ok (.iadd, 1) := by decide +kernel
theorem dX5_lineAt_27 : decode cX5_lineAt 27 = .ok (.istore_n 3, 1) := by decide +kernel
theorem dX5_lineAt_28 : decode cX5_lineAt 28 = .ok (.iload_n 2, 1) := by decide +kernel
theorem dX5_lineAt_29 : decode cX5_lineAt 29 = .ok (.iload_n 3, 1) := by decide +kernel
theorem dX5_lineAt_30 : decode cX5_lineAt 30 = .ok (.if_icmp .ge 6, 3) := by decide +kernel
theorem dX5_lineAt_33 : decode cX5_lineAt 33 = .ok (.iload 4, 2) := by decide +kernel
theorem dX5_lineAt_35 : decode cX5_lineAt 35 = .ok (.ireturn, 1) := by decide +kernel
theorem dX5_lineAt_36 : decode cX5_lineAt 36 = .ok (.iinc 4 1, 3) := by decide +kernel
theorem dX5_lineAt_39 : decode cX5_lineAt 39 = .ok (.goto (-29), 3) := by decide +kernel
theorem dX5_lineAt_42 : decode cX5_lineAt 42 = .ok (.ldc 63, 2) := by decide +kernel
theorem dX5_lineAt_44 : decode cX5_lineAt 44 = .ok (.ireturn, 1) := by decide +kernel
set_option maxRecDepth 20000 in
theorem ggX5_isSeen_X5_topOf : GoodIn wsX5_isSeen wsX5_topOf := goodIn_r _ [5, 6, 7, 8, 4, 9, 10, 11, 12, 13, 14, 15, 16, 17, 18, 19, 20, 25, 26, 27, 28, 29, 30, 31, 32, 33, 34, 35, 36] (by decide +kernel) (by decide +kernel)
set_option maxRecDepth 20000 in
theorem gX5_isSeen_X5_topOf : GoodIn wsX5_isSeen (wsV RX5 60 RX5 yX5_topOf wsX5_topOf) := goodIn_app (goodIn_of _ (by decide +kernel)) ggX5_isSeen_X5_topOf
set_option maxRecDepth 20000 in
theorem ggX5_isSeen_X5_windowOf : GoodIn wsX5_isSeen wsX5_windowOf := goodIn_r _ [24, 1, 2, 3, 4, 5, 6, 7, 8, 9, 10, 11, 12, 13, 14, 15, 16, 17, 18, 19, 20, 25, 26, 27, 28, 29, 30, 31, 32, 33, 34, 35, 36] (by decide +kernel) (by decide +kernel)
set_option maxRecDepth 20000 in
theorem gX5_isSeen_X5_windowOf : GoodIn wsX5_isSeen (wsV RX5 64 RX5 yX5_windowOf wsX5_windowOf) := goodIn_app (goodIn_of _ (by decide +kernel)) ggX5_isSeen_X5_windowOf
set_option maxRecDepth 20000 in
theorem ggX5_isSeen_X5_heightOf : GoodIn wsX5_isSeen wsX5_heightOf := goodIn_r _ [20, 10, 11, 12, 4, 13, 14, 15, 16, 25, 26, 27, 28, 29, 30, 31, 32, 33, 34, 35, 36] (by decide +kernel) (by decide +kernel)
set_option maxRecDepth 20000 in
theorem gX5_isSeen_X5_heightOf : GoodIn wsX5_isSeen (wsV RX5 57 RX5 yX5_heightOf wsX5_heightOf) := goodIn_app (goodIn_of _ (by decide +kernel)) ggX5_isSeen_X5_heightOf
theorem dX5_isSeen_0 : decode cX5_isSeen 0 = .ok (.aload_n 0, 1) := by decide +kernel
theorem dX5_isSeen_1 : decode cX5_isSeen 1 = .ok (.aload_n 1, 1) := by decide +kernel
theorem dX5_isSeen_2 : decode cX5_isSeen 2 = .ok (.iload_n 2, 1) := by decide +kernel
theorem dX5_isSeen_3 : decode cX5_isSeen 3 = .ok (.invokevirtual 60, 3) := by decide +kernel
theorem dX5_isSeen_6 : decode cX5_isSeen 6 = .ok (.aload_n 0, 1) := by decide +kernel
theorem dX5_isSeen_7 : decode cX5_isSeen 7 = .ok (.aload_n 1, 1) := by decide +kernel
theorem dX5_isSeen_8 : decode cX5_isSeen 8 = .ok (.invokevirtual 64, 3) := by decide +kernel
theorem dX5_isSeen_11 : decode cX5_isSeen 11 = .ok (.isub, 1) := by decide +kernel
theorem dX5_isSeen_12 : decode cX5_isSeen 12 = .ok (.istore_n 3, 1) := by decide +kernel
theorem dX5_isSeen_13 : decode cX5_isSeen 13 = .ok (.iload_n 3, 1) := by decide +kernel
theorem dX5_isSeen_14 : decode cX5_isSeen 14 = .ok (.aload_n 1, 1) := by decide +kernel
theorem dX5_isSeen_15 : decode cX5_isSeen 15 = .ok (.iconst 3, 1) := by decide +kernel
theorem dX5_isSeen_16 : decode cX5_isSeen 16 = .ok (.iaload, 1) := by decide +kernel
theorem dX5_isSeen_17 : decode cX5_isSeen 17 = .ok (.if_icmp .ge 18, 3) := by decide +kernel
theorem dX5_isSeen_20 : decode cX5_isSeen 20 = .ok (.iload_n 3, 1) := by decide +kernel
theorem dX5_isSeen_21 : decode cX5_isSeen 21 = .ok (.aload_n 0, 1) := by decide +kernel
theorem dX5_isSeen_22 : decode cX5_isSeen 22 = .ok (.aload_n 1, 1) := by decide +kernel
theorem dX5_isSeen_23 : decode cX5_isSeen 23 = .ok (.iload_n 2, 1) := by decide +kernel
theorem dX5_isSeen_24 : decode cX5_isSeen 24 = .ok (.invokevirtual 57, 3) := by decide +kernel
theorem dX5_isSeen_27 : decode cX5_isSeen 27 = .ok (.iadd, 1) := by decide +kernel
theorem dX5_isSeen_28 : decode cX5_isSeen 28 = .ok (.ifCond .le 7, 3) := by decide +kernel
theorem dX5_isSeen_31 : decode cX5_isSeen 31 = .ok (.iconst 1, 1) := by decide +kernel
theorem dX5_isSeen_32 : decode cX5_isSeen 32 = .ok (.goto 4, 3) := by decide +kernel
theorem dX5_isSeen_35 : decode cX5_isSeen 35 = .ok (.iconst 0, 1) := by decide +kernel
theorem dX5_isSeen_36 : decode cX5_isSeen 36 = .ok (.ireturn, 1) := by decide +kernel
set_option maxRecDepth 20000 in
theorem ggX5_goesUp_X5_l : GoodIn wsX5_goesUp wsX5_l := goodIn_r _ [4] (by decide +kernel) (by decide +kernel)
set_option maxRecDepth 20000 in
theorem gX5_goesUp_X5_l : GoodIn wsX5_goesUp (va_wsS RX5 45 yX5_l wsX5_l) := goodIn_app (goodIn_of _ (by decide +kernel)) ggX5_goesUp_X5_l
set_option maxRecDepth 20000 in
theorem ggX5_goesUp_X5_trueOf : GoodIn wsX5_goesUp wsX5_trueOf := goodIn_r _ [7, 1, 2, 3, 4] (by decide +kernel) (by decide +kernel)
set_option maxRecDepth 20000 in
theorem gX5_goesUp_X5_trueOf : GoodIn wsX5_goesUp (va_wsS RX5 49 yX5_trueOf wsX5_trueOf) := goodIn_app (goodIn_of _ (by decide +kernel)) ggX5_goesUp_X5_trueOf
theorem dX5_goesUp_0 : decode cX5_goesUp 0 = .ok (.aload_n 0, 1) := by decide +kernel
theorem dX5_goesUp_1 : decode cX5_goesUp 1 = .ok (.iconst 2, 1) := by decide +kernel
theorem dX5_goesUp_2 : decode cX5_goesUp 2 = .ok (.iaload, 1) := by decide +kernel
theorem dX5_goesUp_3 : decode cX5_goesUp 3 = .ok (.ifCond .ge 42, 3) := by decide +kernel
theorem dX5_goesUp_6 : decode cX5_goesUp 6 = .ok (.aload_n 0, 1) := by decide +kernel
theorem dX5_goesUp_7 : decode cX5_goesUp 7 = .ok (.iconst 1, 1) := by decide +kernel
theorem dX5_goesUp_8 : decode cX5_goesUp 8 = .ok (.iaload, 1) := by decide +kernel
theorem dX5_goesUp_9 : decode cX5_goesUp 9 = .ok (.ifCond .le 36, 3) := by decide +kernel
theorem dX5_goesUp_12 : decode cX5_goesUp 12 = .ok (.aload_n 0, 1) := by decide +kernel
theorem dX5_goesUp_13 : decode cX5_goesUp 13 = .ok (.iconst 1, 1) := by decide +kernel
theorem dX5_goesUp_14 : decode cX5_goesUp 14 = .ok (.dup2, 1) := by decide +kernel
theorem dX5_goesUp_15 : decode cX5_goesUp 15 = .ok (.iaload, 1) := by decide +kernel
theorem dX5_goesUp_16 : decode cX5_goesUp 16 = .ok (.iconst 1, 1) := by decide +kernel
theorem dX5_goesUp_17 : decode cX5_goesUp 17 = .ok (.isub, 1) := by decide +kernel
theorem dX5_goesUp_18 : decode cX5_goesUp 18 = .ok (.iastore, 1) := by decide +kernel
theorem dX5_goesUp_19 : decode cX5_goesUp 19 = .ok (.aload_n 0, 1) := by decide +kernel
theorem dX5_goesUp_20 : decode cX5_goesUp 20 = .ok (.aload_n 0, 1) := by decide +kernel
theorem dX5_goesUp_21 : decode cX5_goesUp 21 = .ok (.iconst 1, 1) := by decide +kernel
theorem dX5_goesUp_22 : decode cX5_goesUp 22 = .ok (.iaload, 1) := by decide +kernel
theorem dX5_goesUp_23 : decode cX5_goesUp 23 = .ok (.iconst 2, 1) := by decide +kernel
theorem dX5_goesUp_24 : decode cX5_goesUp 24 = .ok (.invokestatic 45, 3) := by decide +kernel
theorem dX5_goesUp_27 : decode cX5_goesUp 27 = .ok (.iconst 1, 1) := by decide +kernel
theorem dX5_goesUp_28 : decode cX5_goesUp 28 = .ok (.iastore, 1) := by decide +kernel
theorem dX5_goesUp_29 : decode cX5_goesUp 29 = .ok (.aload_n 0, 1) := by decide +kernel
theorem dX5_goesUp_30 : decode cX5_goesUp 30 = .ok (.iconst 2, 1) := by decide +kernel
theorem dX5_goesUp_31 : decode cX5_goesUp 31 = .ok (.dup2, 1) := by decide +kernel
theorem dX5_goesUp_32 : decode cX5_goesUp 32 = .ok (.iaload, 1) := by decide +kernel
theorem dX5_goesUp_33 : decode cX5_goesUp 33 = .ok (.aload_n 0, 1) := by decide +kernel
theorem dX5_goesUp_34 : decode cX5_goesUp 34 = .ok (.aload_n 0, 1) := by decide +kernel
theorem dX5_goesUp_35 : decode cX5_goesUp 35 = .ok (.iconst 1, 1) := by decide +kernel
theorem dX5_goesUp_36 : decode cX5_goesUp 36 = .ok (.iaload, 1) := by decide +kernel
theorem dX5_goesUp_37 : decode cX5_goesUp 37 = .ok (.invokestatic 49, 3) := by decide +kernel
theorem dX5_goesUp_40 : decode cX5_goesUp 40 = .ok (.iadd, 1) := by decide +kernel
theorem dX5_goesUp_41 : decode cX5_goesUp 41 = .ok (.iastore, 1) := by decide +kernel
theorem dX5_goesUp_42 : decode cX5_goesUp 42 = .ok (.goto (-42), 3) := by decide +kernel
theorem dX5_goesUp_45 : decode cX5_goesUp 45 = .ok (.aload_n 0, 1) := by decide +kernel
theorem dX5_goesUp_46 : decode cX5_goesUp 46 = .ok (.iconst 2, 1) := by decide +kernel
theorem dX5_goesUp_47 : decode cX5_goesUp 47 = .ok (.aload_n 0, 1) := by decide +kernel
theorem dX5_goesUp_48 : decode cX5_goesUp 48 = .ok (.iconst 2, 1) := by decide +kernel
theorem dX5_goesUp_49 : decode cX5_goesUp 49 = .ok (.iaload, 1) := by decide +kernel
theorem dX5_goesUp_50 : decode cX5_goesUp 50 = .ok (.ifCond .ge 7, 3) := by decide +kernel
theorem dX5_goesUp_53 : decode cX5_goesUp 53 = .ok (.iconst 0, 1) := by decide +kernel
theorem dX5_goesUp_54 : decode cX5_goesUp 54 = .ok (.goto 6, 3) := by decide +kernel
theorem dX5_goesUp_57 : decode cX5_goesUp 57 = .ok (.aload_n 0, 1) := by decide +kernel
theorem dX5_goesUp_58 : decode cX5_goesUp 58 = .ok (.iconst 2, 1) := by decide +kernel
theorem dX5_goesUp_59 : decode cX5_goesUp 59 = .ok (.iaload, 1) := by decide +kernel
theorem dX5_goesUp_60 : decode cX5_goesUp 60 = .ok (.iastore, 1) := by decide +kernel
theorem dX5_goesUp_61 : decode cX5_goesUp 61 = .ok (.return_, 1) := by decide +kernel
set_option maxRecDepth 20000 in
theorem ggX5_settles_X5_l : GoodIn wsX5_settles wsX5_l := goodIn_r _ [4] (by decide +kernel) (by decide +kernel)
set_option maxRecDepth 20000 in
theorem gX5_settles_X5_l : GoodIn wsX5_settles (va_wsS RX5 45 yX5_l wsX5_l) := goodIn_app (goodIn_of _ (by decide +kernel)) ggX5_settles_X5_l
set_option maxRecDepth 20000 in
theorem ggX5_settles_X5_trueOf : GoodIn wsX5_settles wsX5_trueOf := goodIn_r _ [7, 1, 2, 3, 4] (by decide +kernel) (by decide +kernel)
set_option maxRecDepth 20000 in
theorem gX5_settles_X5_trueOf : GoodIn wsX5_settles (va_wsS RX5 49 yX5_trueOf wsX5_trueOf) := goodIn_app (goodIn_of _ (by decide +kernel)) ggX5_settles_X5_trueOf
set_option maxRecDepth 20000 in
theorem ggX5_settles_X5_goesUp : GoodIn wsX5_settles wsX5_goesUp := goodIn_r _ [10, 1, 2, 3, 4, 5, 6, 7] (by decide +kernel) (by decide +kernel)
set_option maxRecDepth 20000 in
theorem gX5_settles_X5_goesUp : GoodIn wsX5_settles (va_wsS RX5 68 yX5_goesUp wsX5_goesUp) := goodIn_app (goodIn_of _ (by decide +kernel)) ggX5_settles_X5_goesUp
theorem dX5_settles_0 : decode cX5_settles 0 = .ok (.aload_n 0, 1) := by decide +kernel
theorem dX5_settles_1 : decode cX5_settles 1 = .ok (.iconst 0, 1) := by decide +kernel
theorem dX5_settles_2 : decode cX5_settles 2 = .ok (.iaload, 1) := by decide +kernel
theorem dX5_settles_3 : decode cX5_settles 3 = .ok (.ifCond .ne 4, 3) := by decide +kernel
theorem dX5_settles_6 : decode cX5_settles 6 = .ok (.return_, 1) := by decide +kernel
theorem dX5_settles_7 : decode cX5_settles 7 = .ok (.aload_n 0, 1) := by decide +kernel
theorem dX5_settles_8 : decode cX5_settles 8 = .ok (.aload_n 0, 1) := by decide +kernel
theorem dX5_settles_9 : decode cX5_settles 9 = .ok (.iconst 1, 1) := by decide +kernel
theorem dX5_settles_10 : decode cX5_settles 10 = .ok (.iaload, 1) := by decide +kernel
theorem dX5_settles_11 : decode cX5_settles 11 = .ok (.iconst 2, 1) := by decide +kernel
theorem dX5_settles_12 : decode cX5_settles 12 = .ok (.invokestatic 45, 3) := by decide +kernel
theorem dX5_settles_15 : decode cX5_settles 15 = .ok (.iconst 1, 1) := by decide +kernel
theorem dX5_settles_16 : decode cX5_settles 16 = .ok (.iastore, 1) := by decide +kernel
theorem dX5_settles_17 : decode cX5_settles 17 = .ok (.aload_n 0, 1) := by decide +kernel
theorem dX5_settles_18 : decode cX5_settles 18 = .ok (.iconst 1, 1) := by decide +kernel
theorem dX5_settles_19 : decode cX5_settles 19 = .ok (.iaload, 1) := by decide +kernel
theorem dX5_settles_20 : decode cX5_settles 20 = .ok (.iconst 1, 1) := by decide +kernel
theorem dX5_settles_21 : decode cX5_settles 21 = .ok (.iadd, 1) := by decide +kernel
theorem dX5_settles_22 : decode cX5_settles 22 = .ok (.aload_n 0, 1) := by decide +kernel
theorem dX5_settles_23 : decode cX5_settles 23 = .ok (.iconst 0, 1) := by decide +kernel
theorem dX5_settles_24 : decode cX5_settles 24 = .ok (.iaload, 1) := by decide +kernel
theorem dX5_settles_25 : decode cX5_settles 25 = .ok (.if_icmp .ge 49, 3) := by decide +kernel
theorem dX5_settles_28 : decode cX5_settles 28 = .ok (.aload_n 0, 1) := by decide +kernel
theorem dX5_settles_29 : decode cX5_settles 29 = .ok (.iconst 2, 1) := by decide +kernel
theorem dX5_settles_30 : decode cX5_settles 30 = .ok (.iaload, 1) := by decide +kernel
theorem dX5_settles_31 : decode cX5_settles 31 = .ok (.aload_n 0, 1) := by decide +kernel
theorem dX5_settles_32 : decode cX5_settles 32 = .ok (.aload_n 0, 1) := by decide +kernel
theorem dX5_settles_33 : decode cX5_settles 33 = .ok (.iconst 1, 1) := by decide +kernel
theorem dX5_settles_34 : decode cX5_settles 34 = .ok (.iaload, 1) := by decide +kernel
theorem dX5_settles_35 : decode cX5_settles 35 = .ok (.invokestatic 49, 3) := by decide +kernel
theorem dX5_settles_38 : decode cX5_settles 38 = .ok (.if_icmp .lt 36, 3) := by decide +kernel
theorem dX5_settles_41 : decode cX5_settles 41 = .ok (.aload_n 0, 1) := by decide +kernel
theorem dX5_settles_42 : decode cX5_settles 42 = .ok (.iconst 2, 1) := by decide +kernel
theorem dX5_settles_43 : decode cX5_settles 43 = .ok (.dup2, 1) := by decide +kernel
theorem dX5_settles_44 : decode cX5_settles 44 = .ok (.iaload, 1) := by decide +kernel
theorem dX5_settles_45 : decode cX5_settles 45 = .ok (.aload_n 0, 1) := by decide +kernel
theorem dX5_settles_46 : decode cX5_settles 46 = .ok (.aload_n 0, 1) := by decide +kernel
theorem dX5_settles_47 : decode cX5_settles 47 = .ok (.iconst 1, 1) := by decide +kernel
theorem dX5_settles_48 : decode cX5_settles 48 = .ok (.iaload, 1) := by decide +kernel
theorem dX5_settles_49 : decode cX5_settles 49 = .ok (.invokestatic 49, 3) := by decide +kernel
theorem dX5_settles_52 : decode cX5_settles 52 = .ok (.isub, 1) := by decide +kernel
theorem dX5_settles_53 : decode cX5_settles 53 = .ok (.iastore, 1) := by decide +kernel
theorem dX5_settles_54 : decode cX5_settles 54 = .ok (.aload_n 0, 1) := by decide +kernel
theorem dX5_settles_55 : decode cX5_settles 55 = .ok (.iconst 1, 1) := by decide +kernel
theorem dX5_settles_56 : decode cX5_settles 56 = .ok (.dup2, 1) := by decide +kernel
theorem dX5_settles_57 : decode cX5_settles 57 = .ok (.iaload, 1) := by decide +kernel
theorem dX5_settles_58 : decode cX5_settles 58 = .ok (.iconst 1, 1) := by decide +kernel
theorem dX5_settles_59 : decode cX5_settles 59 = .ok (.iadd, 1) := by decide +kernel
theorem dX5_settles_60 : decode cX5_settles 60 = .ok (.iastore, 1) := by decide +kernel
theorem dX5_settles_61 : decode cX5_settles 61 = .ok (.aload_n 0, 1) := by decide +kernel
theorem dX5_settles_62 : decode cX5_settles 62 = .ok (.aload_n 0, 1) := by decide +kernel
theorem dX5_settles_63 : decode cX5_settles 63 = .ok (.iconst 1, 1) := by decide +kernel
theorem dX5_settles_64 : decode cX5_settles 64 = .ok (.iaload, 1) := by decide +kernel
theorem dX5_settles_65 : decode cX5_settles 65 = .ok (.iconst 2, 1) := by decide +kernel
theorem dX5_settles_66 : decode cX5_settles 66 = .ok (.invokestatic 45, 3) := by decide +kernel
theorem dX5_settles_69 : decode cX5_settles 69 = .ok (.iconst 1, 1) := by decide +kernel
theorem dX5_settles_70 : decode cX5_settles 70 = .ok (.iastore, 1) := by decide +kernel
theorem dX5_settles_71 : decode cX5_settles 71 = .ok (.goto (-54), 3) := by decide +kernel
theorem dX5_settles_74 : decode cX5_settles 74 = .ok (.aload_n 0, 1) := by decide +kernel
theorem dX5_settles_75 : decode cX5_settles 75 = .ok (.iconst 1, 1) := by decide +kernel
theorem dX5_settles_76 : decode cX5_settles 76 = .ok (.iaload, 1) := by decide +kernel
theorem dX5_settles_77 : decode cX5_settles 77 = .ok (.istore_n 1, 1) := by decide +kernel
theorem dX5_settles_78 : decode cX5_settles 78 = .ok (.aload_n 0, 1) := by decide +kernel
theorem dX5_settles_79 : decode cX5_settles 79 = .ok (.iload_n 1, 1) := by decide +kernel
theorem dX5_settles_80 : decode cX5_settles 80 = .ok (.invokestatic 49, 3) := by decide +kernel
theorem dX5_settles_83 : decode cX5_settles 83 = .ok (.aload_n 0, 1) := by decide +kernel
theorem dX5_settles_84 : decode cX5_settles 84 = .ok (.iconst 2, 1) := by decide +kernel
theorem dX5_settles_85 : decode cX5_settles 85 = .ok (.iaload, 1) := by decide +kernel
theorem dX5_settles_86 : decode cX5_settles 86 = .ok (.isub, 1) := by decide +kernel
theorem dX5_settles_87 : decode cX5_settles 87 = .ok (.istore_n 2, 1) := by decide +kernel
theorem dX5_settles_88 : decode cX5_settles 88 = .ok (.iload_n 1, 1) := by decide +kernel
theorem dX5_settles_89 : decode cX5_settles 89 = .ok (.iconst 1, 1) := by decide +kernel
theorem dX5_settles_90 : decode cX5_settles 90 = .ok (.iadd, 1) := by decide +kernel
theorem dX5_settles_91 : decode cX5_settles 91 = .ok (.aload_n 0, 1) := by decide +kernel
theorem dX5_settles_92 : decode cX5_settles 92 = .ok (.iconst 0, 1) := by decide +kernel
theorem dX5_settles_93 : decode cX5_settles 93 = .ok (.iaload, 1) := by decide +kernel
theorem dX5_settles_94 : decode cX5_settles 94 = .ok (.if_icmp .ge 32, 3) := by decide +kernel
theorem dX5_settles_97 : decode cX5_settles 97 = .ok (.iload_n 2, 1) := by decide +kernel
theorem dX5_settles_98 : decode cX5_settles 98 = .ok (.aload_n 0, 1) := by decide +kernel
theorem dX5_settles_99 : decode cX5_settles 99 = .ok (.iconst 3, 1) := by decide +kernel
theorem dX5_settles_100 : decode cX5_settles 100 = .ok (.iaload, 1) := by decide +kernel
theorem dX5_settles_101 : decode cX5_settles 101 = .ok (.if_icmp .ge 25, 3) := by decide +kernel
theorem dX5_settles_104 : decode cX5_settles 104 = .ok (.iinc 1 1, 3) := by decide +kernel
theorem dX5_settles_107 : decode cX5_settles 107 = .ok (.aload_n 0, 1) := by decide +kernel
theorem dX5_settles_108 : decode cX5_settles 108 = .ok (.iload_n 1, 1) := by decide +kernel
theorem dX5_settles_109 : decode cX5_settles 109 = .ok (.iconst 2, 1) := by decide +kernel
theorem dX5_settles_110 : decode cX5_settles 110 = .ok (.invokestatic 45, 3) := by decide +kernel
theorem dX5_settles_113 : decode cX5_settles 113 = .ok (.iconst 1, 1) := by decide +kernel
theorem dX5_settles_114 : decode cX5_settles 114 = .ok (.iastore, 1) := by decide +kernel
theorem dX5_settles_115 : decode cX5_settles 115 = .ok (.iload_n 2, 1) := by decide +kernel
theorem dX5_settles_116 : decode cX5_settles 116 = .ok (.aload_n 0, 1) := by decide +kernel
theorem dX5_settles_117 : decode cX5_settles 117 = .ok (.iload_n 1, 1) := by decide +kernel
theorem dX5_settles_118 : decode cX5_settles 118 = .ok (.invokestatic 49, 3) := by decide +kernel
theorem dX5_settles_121 : decode cX5_settles 121 = .ok (.iadd, 1) := by decide +kernel
theorem dX5_settles_122 : decode cX5_settles 122 = .ok (.istore_n 2, 1) := by decide +kernel
theorem dX5_settles_123 : decode cX5_settles 123 = .ok (.goto (-35), 3) := by decide +kernel
theorem dX5_settles_126 : decode cX5_settles 126 = .ok (.iload_n 1, 1) := by decide +kernel
theorem dX5_settles_127 : decode cX5_settles 127 = .ok (.iconst 1, 1) := by decide +kernel
theorem dX5_settles_128 : decode cX5_settles 128 = .ok (.iadd, 1) := by decide +kernel
theorem dX5_settles_129 : decode cX5_settles 129 = .ok (.aload_n 0, 1) := by decide +kernel
theorem dX5_settles_130 : decode cX5_settles 130 = .ok (.iconst 0, 1) := by decide +kernel
theorem dX5_settles_131 : decode cX5_settles 131 = .ok (.iaload, 1) := by decide +kernel
theorem dX5_settles_132 : decode cX5_settles 132 = .ok (.if_icmp .ne 25, 3) := by decide +kernel
theorem dX5_settles_135 : decode cX5_settles 135 = .ok (.iload_n 2, 1) := by decide +kernel
theorem dX5_settles_136 : decode cX5_settles 136 = .ok (.aload_n 0, 1) := by decide +kernel
theorem dX5_settles_137 : decode cX5_settles 137 = .ok (.iconst 3, 1) := by decide +kernel
theorem dX5_settles_138 : decode cX5_settles 138 = .ok (.iaload, 1) := by decide +kernel
theorem dX5_settles_139 : decode cX5_settles 139 = .ok (.if_icmp .ge 18, 3) := by decide +kernel
theorem dX5_settles_142 : decode cX5_settles 142 = .ok (.aload_n 0, 1) := by decide +kernel
theorem dX5_settles_143 : decode cX5_settles 143 = .ok (.iconst 2, 1) := by decide +kernel
theorem dX5_settles_144 : decode cX5_settles 144 = .ok (.dup2, 1) := by decide +kernel
theorem dX5_settles_145 : decode cX5_settles 145 = .ok (.iaload, 1) := by decide +kernel
theorem dX5_settles_146 : decode cX5_settles 146 = .ok (.aload_n 0, 1) := by decide +kernel
theorem dX5_settles_147 : decode cX5_settles 147 = .ok (.iconst 3, 1) := by decide +kernel
theorem dX5_settles_148 : decode cX5_settles 148 = .ok (.iaload, 1) := by decide +kernel
theorem dX5_settles_149 : decode cX5_settles 149 = .ok (.iload_n 2, 1) := by decide +kernel
theorem dX5_settles_150 : decode cX5_settles 150 = .ok (.isub, 1) := by decide +kernel
theorem dX5_settles_151 : decode cX5_settles 151 = .ok (.isub, 1) := by decide +kernel
theorem dX5_settles_152 : decode cX5_settles 152 = .ok (.iastore, 1) := by decide +kernel
theorem dX5_settles_153 : decode cX5_settles 153 = .ok (.aload_n 0, 1) := by decide +kernel
theorem dX5_settles_154 : decode cX5_settles 154 = .ok (.invokestatic 68, 3) := by decide +kernel
theorem dX5_settles_157 : decode cX5_settles 157 = .ok (.return_, 1) := by decide +kernel
set_option maxRecDepth 20000 in
theorem ggX5_puts_X5_in : GoodIn wsX5_puts wsX5_in := goodIn_r _ [7] (by decide +kernel) (by decide +kernel)
set_option maxRecDepth 20000 in
theorem gX5_puts_X5_in : GoodIn wsX5_puts (va_wsS RX5 37 yX5_in wsX5_in) := goodIn_app (goodIn_of _ (by decide +kernel)) ggX5_puts_X5_in
set_option maxRecDepth 20000 in
theorem ggX5_puts_X5_l : GoodIn wsX5_puts wsX5_l := goodIn_r _ [10] (by decide +kernel) (by decide +kernel)
set_option maxRecDepth 20000 in
theorem gX5_puts_X5_l : GoodIn wsX5_puts (va_wsS RX5 45 yX5_l wsX5_l) := goodIn_app (goodIn_of _ (by decide +kernel)) ggX5_puts_X5_l
set_option maxRecDepth 20000 in
theorem ggX5_puts_X5_settles : GoodIn wsX5_puts wsX5_settles := goodIn_r _ [13, 8, 9, 6, 10, 14, 15, 16, 17, 18, 19] (by decide +kernel) (by decide +kernel)
set_option maxRecDepth 20000 in
theorem gX5_puts_X5_settles : GoodIn wsX5_puts (va_wsS RX5 71 yX5_settles wsX5_settles) := goodIn_app (goodIn_of _ (by decide +kernel)) ggX5_puts_X5_settles
set_option maxRecDepth 20000 in
theorem ggX5_puts_X5_total : GoodIn wsX5_puts wsX5_total := goodIn_r _ [23, 24, 25, 26, 6, 27, 28, 29, 30, 31, 32, 8, 9, 10, 14, 15, 16, 33, 34, 35, 36, 37, 38, 39, 40, 41, 42, 43, 44, 45, 46, 47, 48] (by decide +kernel) (by decide +kernel)
set_option maxRecDepth 20000 in
theorem gX5_puts_X5_total : GoodIn wsX5_puts (wsV RX5 74 RX5 yX5_total wsX5_total) := goodIn_app (goodIn_of _ (by decide +kernel)) ggX5_puts_X5_total
theorem dX5_puts_0 : decode cX5_puts 0 = .ok (.iload_n 1, 1) := by decide +kernel
theorem dX5_puts_1 : decode cX5_puts 1 = .ok (.iconst 0, 1) := by decide +kernel
theorem dX5_puts_2 : decode cX5_puts 2 = .ok (.aload_n 0, 1) := by decide +kernel
theorem dX5_puts_3 : decode cX5_puts 3 = .ok (.getfield 7, 3) := by decide +kernel
theorem dX5_puts_6 : decode cX5_puts 6 = .ok (.iconst 0, 1) := by decide +kernel
theorem dX5_puts_7 : decode cX5_puts 7 = .ok (.iaload, 1) := by decide +kernel
theorem dX5_puts_8 : decode cX5_puts 8 = .ok (.invokestatic 37, 3) := by decide +kernel
theorem dX5_puts_11 : decode cX5_puts 11 = .ok (.ifCond .eq 23, 3) := by decide +kernel
theorem dX5_puts_14 : decode cX5_puts 14 = .ok (.iload_n 2, 1) := by decide +kernel
theorem dX5_puts_15 : decode cX5_puts 15 = .ok (.iconst 0, 1) := by decide +kernel
theorem dX5_puts_16 : decode cX5_puts 16 = .ok (.iconst 2, 1) := by decide +kernel
theorem dX5_puts_17 : decode cX5_puts 17 = .ok (.invokestatic 37, 3) := by decide +kernel
theorem dX5_puts_20 : decode cX5_puts 20 = .ok (.ifCond .eq 14, 3) := by decide +kernel
theorem dX5_puts_23 : decode cX5_puts 23 = .ok (.iload_n 3, 1) := by decide +kernel
theorem dX5_puts_24 : decode cX5_puts 24 = .ok (.iconst 0, 1) := by decide +kernel
theorem dX5_puts_25 : decode cX5_puts 25 = .ok (.sipush 400, 3) := by decide +kernel
theorem dX5_puts_28 : decode cX5_puts 28 = .ok (.invokestatic 37, 3) := by decide +kernel
theorem dX5_puts_31 : decode cX5_puts 31 = .ok (.ifCond .ne 6, 3) := by decide +kernel
theorem dX5_puts_34 : decode cX5_puts 34 = .ok (.ldc 36, 2) := by decide +kernel
theorem dX5_puts_36 : decode cX5_puts 36 = .ok (.ireturn, 1) := by decide +kernel
theorem dX5_puts_37 : decode cX5_puts 37 = .ok (.aload_n 0, 1) := by decide +kernel
theorem dX5_puts_38 : decode cX5_puts 38 = .ok (.getfield 7, 3) := by decide +kernel
theorem dX5_puts_41 : decode cX5_puts 41 = .ok (.iconst 0, 1) := by decide +kernel
theorem dX5_puts_42 : decode cX5_puts 42 = .ok (.iaload, 1) := by decide +kernel
theorem dX5_puts_43 : decode cX5_puts 43 = .ok (.bipush 100, 2) := by decide +kernel
theorem dX5_puts_45 : decode cX5_puts 45 = .ok (.if_icmp .ne 6, 3) := by decide +kernel
theorem dX5_puts_48 : decode cX5_puts 48 = .ok (.ldc 35, 2) := by decide +kernel
theorem dX5_puts_50 : decode cX5_puts 50 = .ok (.ireturn, 1) := by decide +kernel
theorem dX5_puts_51 : decode cX5_puts 51 = .ok (.aload_n 0, 1) := by decide +kernel
theorem dX5_puts_52 : decode cX5_puts 52 = .ok (.getfield 7, 3) := by decide +kernel
theorem dX5_puts_55 : decode cX5_puts 55 = .ok (.iconst 0, 1) := by decide +kernel
theorem dX5_puts_56 : decode cX5_puts 56 = .ok (.iaload, 1) := by decide +kernel
theorem dX5_puts_57 : decode cX5_puts 57 = .ok (.iconst 0, 1) := by decide +kernel
theorem dX5_puts_58 : decode cX5_puts 58 = .ok (.invokestatic 45, 3) := by decide +kernel
theorem dX5_puts_61 : decode cX5_puts 61 = .ok (.iconst 1, 1) := by decide +kernel
theorem dX5_puts_62 : decode cX5_puts 62 = .ok (.isub, 1) := by decide +kernel
theorem dX5_puts_63 : decode cX5_puts 63 = .ok (.istore 4, 2) := by decide +kernel
theorem dX5_puts_65 : decode cX5_puts 65 = .ok (.iload 4, 2) := by decide +kernel
theorem dX5_puts_67 : decode cX5_puts 67 = .ok (.iload_n 1, 1) := by decide +kernel
theorem dX5_puts_68 : decode cX5_puts 68 = .ok (.iconst 0, 1) := by decide +kernel
theorem dX5_puts_69 : decode cX5_puts 69 = .ok (.invokestatic 45, 3) := by decide +kernel
theorem dX5_puts_72 : decode cX5_puts 72 = .ok (.if_icmp .lt 25, 3) := by decide +kernel
theorem dX5_puts_75 : decode cX5_puts 75 = .ok (.aload_n 0, 1) := by decide +kernel
theorem dX5_puts_76 : decode cX5_puts 76 = .ok (.getfield 7, 3) := by decide +kernel
theorem dX5_puts_79 : decode cX5_puts 79 = .ok (.iload 4, 2) := by decide +kernel
theorem dX5_puts_81 : decode cX5_puts 81 = .ok (.iconst 3, 1) := by decide +kernel
theorem dX5_puts_82 : decode cX5_puts 82 = .ok (.iadd, 1) := by decide +kernel
theorem dX5_puts_83 : decode cX5_puts 83 = .ok (.aload_n 0, 1) := by decide +kernel
theorem dX5_puts_84 : decode cX5_puts 84 = .ok (.getfield 7, 3) := by decide +kernel
theorem dX5_puts_87 : decode cX5_puts 87 = .ok (.iload 4, 2) := by decide +kernel
theorem dX5_puts_89 : decode cX5_puts 89 = .ok (.iaload, 1) := by decide +kernel
theorem dX5_puts_90 : decode cX5_puts 90 = .ok (.iastore, 1) := by decide +kernel
theorem dX5_puts_91 : decode cX5_puts 91 = .ok (.iinc 4 (-1), 3) := by decide +kernel
theorem dX5_puts_94 : decode cX5_puts 94 = .ok (.goto (-29), 3) := by decide +kernel
theorem dX5_puts_97 : decode cX5_puts 97 = .ok (.aload_n 0, 1) := by decide +kernel
theorem dX5_puts_98 : decode cX5_puts 98 = .ok (.getfield 7, 3) := by decide +kernel
theorem dX5_puts_101 : decode cX5_puts 101 = .ok (.iload_n 1, 1) := by decide +kernel
theorem dX5_puts_102 : decode cX5_puts 102 = .ok (.iconst 0, 1) := by decide +kernel
theorem dX5_puts_103 : decode cX5_puts 103 = .ok (.invokestatic 45, 3) := by decide +kernel
theorem dX5_puts_106 : decode cX5_puts 106 = .ok (.iload_n 2, 1) := by decide +kernel
theorem dX5_puts_107 : decode cX5_puts 107 = .ok (.iastore, 1) := by decide +kernel
theorem dX5_puts_108 : decode cX5_puts 108 = .ok (.aload_n 0, 1) := by decide +kernel
theorem dX5_puts_109 : decode cX5_puts 109 = .ok (.getfield 7, 3) := by decide +kernel
theorem dX5_puts_112 : decode cX5_puts 112 = .ok (.iload_n 1, 1) := by decide +kernel
theorem dX5_puts_113 : decode cX5_puts 113 = .ok (.iconst 1, 1) := by decide +kernel
theorem dX5_puts_114 : decode cX5_puts 114 = .ok (.invokestatic 45, 3) := by decide +kernel
theorem dX5_puts_117 : decode cX5_puts 117 = .ok (.iload_n 3, 1) := by decide +kernel
theorem dX5_puts_118 : decode cX5_puts 118 = .ok (.iastore, 1) := by decide +kernel
theorem dX5_puts_119 : decode cX5_puts 119 = .ok (.aload_n 0, 1) := by decide +kernel
theorem dX5_puts_120 : decode cX5_puts 120 = .ok (.getfield 7, 3) := by decide +kernel
theorem dX5_puts_123 : decode cX5_puts 123 = .ok (.iload_n 1, 1) := by decide +kernel
theorem dX5_puts_124 : decode cX5_puts 124 = .ok (.iconst 2, 1) := by decide +kernel
theorem dX5_puts_125 : decode cX5_puts 125 = .ok (.invokestatic 45, 3) := by decide +kernel
theorem dX5_puts_128 : decode cX5_puts 128 = .ok (.iconst 0, 1) := by decide +kernel
theorem dX5_puts_129 : decode cX5_puts 129 = .ok (.iastore, 1) := by decide +kernel
theorem dX5_puts_130 : decode cX5_puts 130 = .ok (.aload_n 0, 1) := by decide +kernel
theorem dX5_puts_131 : decode cX5_puts 131 = .ok (.getfield 7, 3) := by decide +kernel
theorem dX5_puts_134 : decode cX5_puts 134 = .ok (.iconst 0, 1) := by decide +kernel
theorem dX5_puts_135 : decode cX5_puts 135 = .ok (.iaload, 1) := by decide +kernel
theorem dX5_puts_136 : decode cX5_puts 136 = .ok (.ifCond .ne 20, 3) := by decide +kernel
theorem dX5_puts_139 : decode cX5_puts 139 = .ok (.aload_n 0, 1) := by decide +kernel
theorem dX5_puts_140 : decode cX5_puts 140 = .ok (.getfield 7, 3) := by decide +kernel
theorem dX5_puts_143 : decode cX5_puts 143 = .ok (.iconst 1, 1) := by decide +kernel
theorem dX5_puts_144 : decode cX5_puts 144 = .ok (.iconst 0, 1) := by decide +kernel
theorem dX5_puts_145 : decode cX5_puts 145 = .ok (.iastore, 1) := by decide +kernel
theorem dX5_puts_146 : decode cX5_puts 146 = .ok (.aload_n 0, 1) := by decide +kernel
theorem dX5_puts_147 : decode cX5_puts 147 = .ok (.getfield 7, 3) := by decide +kernel
theorem dX5_puts_150 : decode cX5_puts 150 = .ok (.iconst 2, 1) := by decide +kernel
theorem dX5_puts_151 : decode cX5_puts 151 = .ok (.iconst 0, 1) := by decide +kernel
theorem dX5_puts_152 : decode cX5_puts 152 = .ok (.iastore, 1) := by decide +kernel
theorem dX5_puts_153 : decode cX5_puts 153 = .ok (.goto 23, 3) := by decide +kernel
theorem dX5_puts_156 : decode cX5_puts 156 = .ok (.iload_n 1, 1) := by decide +kernel
theorem dX5_puts_157 : decode cX5_puts 157 = .ok (.aload_n 0, 1) := by decide +kernel
theorem dX5_puts_158 : decode cX5_puts 158 = .ok (.getfield 7, 3) := by decide +kernel
theorem dX5_puts_161 : decode cX5_puts 161 = .ok (.iconst 1, 1) := by decide +kernel
theorem dX5_puts_162 : decode cX5_puts 162 = .ok (.iaload, 1) := by decide +kernel
theorem dX5_puts_163 : decode cX5_puts 163 = .ok (.if_icmp .gt 13, 3) := by decide +kernel
theorem dX5_puts_166 : decode cX5_puts 166 = .ok (.aload_n 0, 1) := by decide +kernel
theorem dX5_puts_167 : decode cX5_puts 167 = .ok (.getfield 7, 3) := by decide +kernel
theorem dX5_puts_170 : decode cX5_puts 170 = .ok (.iconst 1, 1) := by decide +kernel
theorem dX5_puts_171 : decode cX5_puts 171 = .ok (.dup2, 1) := by decide +kernel
theorem dX5_puts_172 : decode cX5_puts 172 = .ok (.iaload, 1) := by decide +kernel
theorem dX5_puts_173 : decode cX5_puts 173 = .ok (.iconst 1, 1) := by decide +kernel
theorem dX5_puts_174 : decode cX5_puts 174 = .ok (.iadd, 1) := by decide +kernel
theorem dX5_puts_175 : decode cX5_puts 175 = .ok (.iastore, 1) := by decide +kernel
theorem dX5_puts_176 : decode cX5_puts 176 = .ok (.aload_n 0, 1) := by decide +kernel
theorem dX5_puts_177 : decode cX5_puts 177 = .ok (.getfield 7, 3) := by decide +kernel
theorem dX5_puts_180 : decode cX5_puts 180 = .ok (.iconst 0, 1) := by decide +kernel
theorem dX5_puts_181 : decode cX5_puts 181 = .ok (.dup2, 1) := by decide +kernel
theorem dX5_puts_182 : decode cX5_puts 182 = .ok (.iaload, 1) := by decide +kernel
theorem dX5_puts_183 : decode cX5_puts 183 = .ok (.iconst 1, 1) := by decide +kernel
theorem dX5_puts_184 : decode cX5_puts 184 = .ok (.iadd, 1) := by decide +kernel
theorem dX5_puts_185 : decode cX5_puts 185 = .ok (.iastore, 1) := by decide +kernel
theorem dX5_puts_186 : decode cX5_puts 186 = .ok (.aload_n 0, 1) := by decide +kernel
theorem dX5_puts_187 : decode cX5_puts 187 = .ok (.getfield 7, 3) := by decide +kernel
theorem dX5_puts_190 : decode cX5_puts 190 = .ok (.invokestatic 71, 3) := by decide +kernel
theorem dX5_puts_193 : decode cX5_puts 193 = .ok (.aload_n 0, 1) := by decide +kernel
theorem dX5_puts_194 : decode cX5_puts 194 = .ok (.aload_n 0, 1) := by decide +kernel
theorem dX5_puts_195 : decode cX5_puts 195 = .ok (.getfield 7, 3) := by decide +kernel
theorem dX5_puts_198 : decode cX5_puts 198 = .ok (.invokevirtual 74, 3) := by decide +kernel
theorem dX5_puts_201 : decode cX5_puts 201 = .ok (.ireturn, 1) := by decide +kernel
set_option maxRecDepth 20000 in
theorem ggX5_cuts_X5_isLine : GoodIn wsX5_cuts wsX5_isLine := goodIn_r _ [7, 2, 8, 9, 6, 10, 23, 24, 25, 26, 27, 28, 29, 30, 31, 32, 33, 34] (by decide +kernel) (by decide +kernel)
set_option maxRecDepth 20000 in
theorem gX5_cuts_X5_isLine : GoodIn wsX5_cuts (wsV RX5 77 RX5 yX5_isLine wsX5_isLine) := goodIn_app (goodIn_of _ (by decide +kernel)) ggX5_cuts_X5_isLine
set_option maxRecDepth 20000 in
theorem ggX5_cuts_X5_l : GoodIn wsX5_cuts wsX5_l := goodIn_r _ [13] (by decide +kernel) (by decide +kernel)
set_option maxRecDepth 20000 in
theorem gX5_cuts_X5_l : GoodIn wsX5_cuts (va_wsS RX5 45 yX5_l wsX5_l) := goodIn_app (goodIn_of _ (by decide +kernel)) ggX5_cuts_X5_l
set_option maxRecDepth 20000 in
theorem ggX5_cuts_X5_settles : GoodIn wsX5_cuts wsX5_settles := goodIn_r _ [16, 11, 12, 6, 13, 17, 18, 19, 20, 21, 22] (by decide +kernel) (by decide +kernel)
set_option maxRecDepth 20000 in
theorem gX5_cuts_X5_settles : GoodIn wsX5_cuts (va_wsS RX5 71 yX5_settles wsX5_settles) := goodIn_app (goodIn_of _ (by decide +kernel)) ggX5_cuts_X5_settles
theorem dX5_cuts_0 : decode cX5_cuts 0 = .ok (.aload_n 0, 1) := by decide +kernel
theorem dX5_cuts_1 : decode cX5_cuts 1 = .ok (.iload_n 1, 1) := by decide +kernel
theorem dX5_cuts_2 : decode cX5_cuts 2 = .ok (.invokevirtual 77, 3) := by decide +kernel
theorem dX5_cuts_5 : decode cX5_cuts 5 = .ok (.ifCond .ne 6, 3) := by decide +kernel
theorem dX5_cuts_8 : decode cX5_cuts 8 = .ok (.ldc 36, 2) := by decide +kernel
theorem dX5_cuts_10 : decode cX5_cuts 10 = .ok (.ireturn, 1) := by decide +kernel
theorem dX5_cuts_11 : decode cX5_cuts 11 = .ok (.aload_n 0, 1) := by decide +kernel
theorem dX5_cuts_12 : decode cX5_cuts 12 = .ok (.getfield 7, 3) := by decide +kernel
theorem dX5_cuts_15 : decode cX5_cuts 15 = .ok (.iconst 0, 1) := by decide +kernel
theorem dX5_cuts_16 : decode cX5_cuts 16 = .ok (.dup2, 1) := by decide +kernel
theorem dX5_cuts_17 : decode cX5_cuts 17 = .ok (.iaload, 1) := by decide +kernel
theorem dX5_cuts_18 : decode cX5_cuts 18 = .ok (.iconst 1, 1) := by decide +kernel
theorem dX5_cuts_19 : decode cX5_cuts 19 = .ok (.isub, 1) := by decide +kernel
theorem dX5_cuts_20 : decode cX5_cuts 20 = .ok (.iastore, 1) := by decide +kernel
theorem dX5_cuts_21 : decode cX5_cuts 21 = .ok (.iload_n 1, 1) := by decide +kernel
theorem dX5_cuts_22 : decode cX5_cuts 22 = .ok (.iconst 0, 1) := by decide +kernel
theorem dX5_cuts_23 : decode cX5_cuts 23 = .ok (.invokestatic 45, 3) := by decide +kernel
theorem dX5_cuts_26 : decode cX5_cuts 26 = .ok (.istore_n 2, 1) := by decide +kernel
theorem dX5_cuts_27 : decode cX5_cuts 27 = .ok (.iload_n 2, 1) := by decide +kernel
theorem dX5_cuts_28 : decode cX5_cuts 28 = .ok (.aload_n 0, 1) := by decide +kernel
theorem dX5_cuts_29 : decode cX5_cuts 29 = .ok (.getfield 7, 3) := by decide +kernel
theorem dX5_cuts_32 : decode cX5_cuts 32 = .ok (.iconst 0, 1) := by decide +kernel
theorem dX5_cuts_33 : decode cX5_cuts 33 = .ok (.iaload, 1) := by decide +kernel
theorem dX5_cuts_34 : decode cX5_cuts 34 = .ok (.iconst 0, 1) := by decide +kernel
theorem dX5_cuts_35 : decode cX5_cuts 35 = .ok (.invokestatic 45, 3) := by decide +kernel
theorem dX5_cuts_38 : decode cX5_cuts 38 = .ok (.if_icmp .ge 23, 3) := by decide +kernel
theorem dX5_cuts_41 : decode cX5_cuts 41 = .ok (.aload_n 0, 1) := by decide +kernel
theorem dX5_cuts_42 : decode cX5_cuts 42 = .ok (.getfield 7, 3) := by decide +kernel
theorem dX5_cuts_45 : decode cX5_cuts 45 = .ok (.iload_n 2, 1) := by decide +kernel
theorem dX5_cuts_46 : decode cX5_cuts 46 = .ok (.aload_n 0, 1) := by decide +kernel
theorem dX5_cuts_47 : decode cX5_cuts 47 = .ok (.getfield 7, 3) := by decide +kernel
theorem dX5_cuts_50 : decode cX5_cuts 50 = .ok (.iload_n 2, 1) := by decide +kernel
theorem dX5_cuts_51 : decode cX5_cuts 51 = .ok (.iconst 3, 1) := by decide +kernel
theorem dX5_cuts_52 : decode cX5_cuts 52 = .ok (.iadd, 1) := by decide +kernel
theorem dX5_cuts_53 : decode cX5_cuts 53 = .ok (.iaload, 1) := by decide +kernel
theorem dX5_cuts_54 : decode cX5_cuts 54 = .ok (.iastore, 1) := by decide +kernel
theorem dX5_cuts_55 : decode cX5_cuts 55 = .ok (.iinc 2 1, 3) := by decide +kernel
theorem dX5_cuts_58 : decode cX5_cuts 58 = .ok (.goto (-31), 3) := by decide +kernel
theorem dX5_cuts_61 : decode cX5_cuts 61 = .ok (.iload_n 1, 1) := by decide +kernel
theorem dX5_cuts_62 : decode cX5_cuts 62 = .ok (.aload_n 0, 1) := by decide +kernel
theorem dX5_cuts_63 : decode cX5_cuts 63 = .ok (.getfield 7, 3) := by decide +kernel
theorem dX5_cuts_66 : decode cX5_cuts 66 = .ok (.iconst 1, 1) := by decide +kernel
theorem dX5_cuts_67 : decode cX5_cuts 67 = .ok (.iaload, 1) := by decide +kernel
theorem dX5_cuts_68 : decode cX5_cuts 68 = .ok (.if_icmp .ne 41, 3) := by decide +kernel
theorem dX5_cuts_71 : decode cX5_cuts 71 = .ok (.aload_n 0, 1) := by decide +kernel
theorem dX5_cuts_72 : decode cX5_cuts 72 = .ok (.getfield 7, 3) := by decide +kernel
theorem dX5_cuts_75 : decode cX5_cuts 75 = .ok (.iconst 2, 1) := by decide +kernel
theorem dX5_cuts_76 : decode cX5_cuts 76 = .ok (.iconst 0, 1) := by decide +kernel
theorem dX5_cuts_77 : decode cX5_cuts 77 = .ok (.iastore, 1) := by decide +kernel
theorem dX5_cuts_78 : decode cX5_cuts 78 = .ok (.aload_n 0, 1) := by decide +kernel
theorem dX5_cuts_79 : decode cX5_cuts 79 = .ok (.getfield 7, 3) := by decide +kernel
theorem dX5_cuts_82 : decode cX5_cuts 82 = .ok (.iconst 1, 1) := by decide +kernel
theorem dX5_cuts_83 : decode cX5_cuts 83 = .ok (.dup2, 1) := by decide +kernel
theorem dX5_cuts_84 : decode cX5_cuts 84 = .ok (.iaload, 1) := by decide +kernel
theorem dX5_cuts_85 : decode cX5_cuts 85 = .ok (.iload_n 1, 1) := by decide +kernel
theorem dX5_cuts_86 : decode cX5_cuts 86 = .ok (.aload_n 0, 1) := by decide +kernel
theorem dX5_cuts_87 : decode cX5_cuts 87 = .ok (.getfield 7, 3) := by decide +kernel
theorem dX5_cuts_90 : decode cX5_cuts 90 = .ok (.iconst 0, 1) := by decide +kernel
theorem dX5_cuts_91 : decode cX5_cuts 91 = .ok (.iaload, 1) := by decide +kernel
theorem dX5_cuts_92 : decode cX5_cuts 92 = .ok (.if_icmp .ne 11, 3) := by decide +kernel
theorem dX5_cuts_95 : decode cX5_cuts 95 = .ok (.iload_n 1, 1) := by decide +kernel
theorem dX5_cuts_96 : decode cX5_cuts 96 = .ok (.ifCond .le 7, 3) := by decide +kernel
theorem dX5_cuts_99 : decode cX5_cuts 99 = .ok (.iconst 1, 1) := by decide +kernel
theorem dX5_cuts_100 : decode cX5_cuts 100 = .ok (.goto 4, 3) := by decide +kernel
theorem dX5_cuts_103 : decode cX5_cuts 103 = .ok (.iconst 0, 1) := by decide +kernel
theorem dX5_cuts_104 : decode cX5_cuts 104 = .ok (.isub, 1) := by decide +kernel
theorem dX5_cuts_105 : decode cX5_cuts 105 = .ok (.iastore, 1) := by decide +kernel
theorem dX5_cuts_106 : decode cX5_cuts 106 = .ok (.goto 23, 3) := by decide +kernel
theorem dX5_cuts_109 : decode cX5_cuts 109 = .ok (.iload_n 1, 1) := by decide +kernel
theorem dX5_cuts_110 : decode cX5_cuts 110 = .ok (.aload_n 0, 1) := by decide +kernel
theorem dX5_cuts_111 : decode cX5_cuts 111 = .ok (.getfield 7, 3) := by decide +kernel
theorem dX5_cuts_114 : decode cX5_cuts 114 = .ok (.iconst 1, 1) := by decide +kernel
theorem dX5_cuts_115 : decode cX5_cuts 115 = .ok (.iaload, 1) := by decide +kernel
theorem dX5_cuts_116 : decode cX5_cuts 116 = .ok (.if_icmp .ge 13, 3) := by decide +kernel
theorem dX5_cuts_119 : decode cX5_cuts 119 = .ok (.aload_n 0, 1) := by decide +kernel
theorem dX5_cuts_120 : decode cX5_cuts 120 = .ok (.getfield 7, 3) := by decide +kernel
theorem dX5_cuts_123 : decode cX5_cuts 123 = .ok (.iconst 1, 1) := by decide +kernel
theorem dX5_cuts_124 : decode cX5_cuts 124 = .ok (.dup2, 1) := by decide +kernel
theorem dX5_cuts_125 : decode cX5_cuts 125 = .ok (.iaload, 1) := by decide +kernel
theorem dX5_cuts_126 : decode cX5_cuts 126 = .ok (.iconst 1, 1) := by decide +kernel
theorem dX5_cuts_127 : decode cX5_cuts 127 = .ok (.isub, 1) := by decide +kernel
theorem dX5_cuts_128 : decode cX5_cuts 128 = .ok (.iastore, 1) := by decide +kernel
theorem dX5_cuts_129 : decode cX5_cuts 129 = .ok (.aload_n 0, 1) := by decide +kernel
theorem dX5_cuts_130 : decode cX5_cuts 130 = .ok (.getfield 7, 3) := by decide +kernel
theorem dX5_cuts_133 : decode cX5_cuts 133 = .ok (.invokestatic 71, 3) := by decide +kernel
theorem dX5_cuts_136 : decode cX5_cuts 136 = .ok (.aload_n 0, 1) := by decide +kernel
theorem dX5_cuts_137 : decode cX5_cuts 137 = .ok (.getfield 7, 3) := by decide +kernel
theorem dX5_cuts_140 : decode cX5_cuts 140 = .ok (.iconst 0, 1) := by decide +kernel
theorem dX5_cuts_141 : decode cX5_cuts 141 = .ok (.iaload, 1) := by decide +kernel
theorem dX5_cuts_142 : decode cX5_cuts 142 = .ok (.ireturn, 1) := by decide +kernel
set_option maxRecDepth 20000 in
theorem ggX5_scrolls_X5_goesUp : GoodIn wsX5_scrolls wsX5_goesUp := goodIn_r _ [4, 5, 6, 3, 7, 8, 9, 10] (by decide +kernel) (by decide +kernel)
set_option maxRecDepth 20000 in
theorem gX5_scrolls_X5_goesUp : GoodIn wsX5_scrolls (va_wsS RX5 68 yX5_goesUp wsX5_goesUp) := goodIn_app (goodIn_of _ (by decide +kernel)) ggX5_scrolls_X5_goesUp
set_option maxRecDepth 20000 in
theorem ggX5_scrolls_X5_settles : GoodIn wsX5_scrolls wsX5_settles := goodIn_r _ [13, 5, 6, 3, 7, 8, 9, 10, 1, 2, 4] (by decide +kernel) (by decide +kernel)
set_option maxRecDepth 20000 in
theorem gX5_scrolls_X5_settles : GoodIn wsX5_scrolls (va_wsS RX5 71 yX5_settles wsX5_settles) := goodIn_app (goodIn_of _ (by decide +kernel)) ggX5_scrolls_X5_settles
theorem dX5_scrolls_0 : decode cX5_scrolls 0 = .ok (.aload_n 0, 1) := by decide +kernel
theorem dX5_scrolls_1 : decode cX5_scrolls 1 = .ok (.iconst 2, 1) := by decide +kernel
theorem dX5_scrolls_2 : decode cX5_scrolls 2 = .ok (.dup2, 1) := by decide +kernel
theorem dX5_scrolls_3 : decode cX5_scrolls 3 = .ok (.iaload, 1) := by decide +kernel
theorem dX5_scrolls_4 : decode cX5_scrolls 4 = .ok (.iload_n 1, 1) := by decide +kernel
theorem dX5_scrolls_5 : decode cX5_scrolls 5 = .ok (.iadd, 1) := by decide +kernel
theorem dX5_scrolls_6 : decode cX5_scrolls 6 = .ok (.iastore, 1) := by decide +kernel
theorem dX5_scrolls_7 : decode cX5_scrolls 7 = .ok (.aload_n 0, 1) := by decide +kernel
theorem dX5_scrolls_8 : decode cX5_scrolls 8 = .ok (.invokestatic 68, 3) := by decide +kernel
theorem dX5_scrolls_11 : decode cX5_scrolls 11 = .ok (.aload_n 0, 1) := by decide +kernel
theorem dX5_scrolls_12 : decode cX5_scrolls 12 = .ok (.invokestatic 71, 3) := by decide +kernel
theorem dX5_scrolls_15 : decode cX5_scrolls 15 = .ok (.return_, 1) := by decide +kernel
set_option maxRecDepth 20000 in
theorem ggX5_scrolled_X5_in : GoodIn wsX5_scrolled wsX5_in := goodIn_r _ [7] (by decide +kernel) (by decide +kernel)
set_option maxRecDepth 20000 in
theorem gX5_scrolled_X5_in : GoodIn wsX5_scrolled (va_wsS RX5 37 yX5_in wsX5_in) := goodIn_app (goodIn_of _ (by decide +kernel)) ggX5_scrolled_X5_in
set_option maxRecDepth 20000 in
theorem ggX5_scrolled_X5_scrolls : GoodIn wsX5_scrolled wsX5_scrolls := goodIn_r _ [10, 11, 12, 6, 13, 14, 15, 16, 17, 18, 19, 20, 21, 22] (by decide +kernel) (by decide +kernel)
set_option maxRecDepth 20000 in
theorem gX5_scrolled_X5_scrolls : GoodIn wsX5_scrolled (va_wsS RX5 82 yX5_scrolls wsX5_scrolls) := goodIn_app (goodIn_of _ (by decide +kernel)) ggX5_scrolled_X5_scrolls
theorem dX5_scrolled_0 : decode cX5_scrolled 0 = .ok (.iload_n 1, 1) := by decide +kernel
theorem dX5_scrolled_1 : decode cX5_scrolled 1 = .ok (.sipush (-9999), 3) := by decide +kernel
theorem dX5_scrolled_4 : decode cX5_scrolled 4 = .ok (.sipush 9999, 3) := by decide +kernel
theorem dX5_scrolled_7 : decode cX5_scrolled 7 = .ok (.invokestatic 37, 3) := by decide +kernel
theorem dX5_scrolled_10 : decode cX5_scrolled 10 = .ok (.ifCond .ne 6, 3) := by decide +kernel
theorem dX5_scrolled_13 : decode cX5_scrolled 13 = .ok (.ldc 36, 2) := by decide +kernel
theorem dX5_scrolled_15 : decode cX5_scrolled 15 = .ok (.ireturn, 1) := by decide +kernel
theorem dX5_scrolled_16 : decode cX5_scrolled 16 = .ok (.aload_n 0, 1) := by decide +kernel
theorem dX5_scrolled_17 : decode cX5_scrolled 17 = .ok (.getfield 7, 3) := by decide +kernel
theorem dX5_scrolled_20 : decode cX5_scrolled 20 = .ok (.iconst 0, 1) := by decide +kernel
theorem dX5_scrolled_21 : decode cX5_scrolled 21 = .ok (.iaload, 1) := by decide +kernel
theorem dX5_scrolled_22 : decode cX5_scrolled 22 = .ok (.ifCond .ne 6, 3) := by decide +kernel
theorem dX5_scrolled_25 : decode cX5_scrolled 25 = .ok (.ldc 81, 2) := by decide +kernel
theorem dX5_scrolled_27 : decode cX5_scrolled 27 = .ok (.ireturn, 1) := by decide +kernel
theorem dX5_scrolled_28 : decode cX5_scrolled 28 = .ok (.aload_n 0, 1) := by decide +kernel
theorem dX5_scrolled_29 : decode cX5_scrolled 29 = .ok (.getfield 7, 3) := by decide +kernel
theorem dX5_scrolled_32 : decode cX5_scrolled 32 = .ok (.iload_n 1, 1) := by decide +kernel
theorem dX5_scrolled_33 : decode cX5_scrolled 33 = .ok (.invokestatic 82, 3) := by decide +kernel
theorem dX5_scrolled_36 : decode cX5_scrolled 36 = .ok (.aload_n 0, 1) := by decide +kernel
theorem dX5_scrolled_37 : decode cX5_scrolled 37 = .ok (.getfield 7, 3) := by decide +kernel
theorem dX5_scrolled_40 : decode cX5_scrolled 40 = .ok (.iconst 1, 1) := by decide +kernel
theorem dX5_scrolled_41 : decode cX5_scrolled 41 = .ok (.iaload, 1) := by decide +kernel
theorem dX5_scrolled_42 : decode cX5_scrolled 42 = .ok (.ireturn, 1) := by decide +kernel
set_option maxRecDepth 20000 in
theorem ggX5_jumps_X5_total : GoodIn wsX5_jumps wsX5_total := goodIn_r _ [5, 6, 7, 8, 4, 9, 10, 11, 12, 13, 14, 15, 16, 17, 18, 19, 20, 21, 22, 23, 24, 36, 37, 38, 39, 40, 41, 42, 43, 44, 45, 46, 47] (by decide +kernel) (by decide +kernel)
set_option maxRecDepth 20000 in
theorem gX5_jumps_X5_total : GoodIn wsX5_jumps (wsV RX5 74 RX5 yX5_total wsX5_total) := goodIn_app (goodIn_of _ (by decide +kernel)) ggX5_jumps_X5_total
set_option maxRecDepth 20000 in
theorem ggX5_jumps_X5_lineAt : GoodIn wsX5_jumps wsX5_lineAt := goodIn_r _ [28, 29, 10, 11, 12, 4, 13, 14, 15, 16, 17, 18, 19, 20, 21, 22, 23, 24, 36, 37, 38, 39, 40, 41, 42, 43, 44, 45, 46, 47] (by decide +kernel) (by decide +kernel)
set_option maxRecDepth 20000 in
theorem gX5_jumps_X5_lineAt : GoodIn wsX5_jumps (wsV RX5 86 RX5 yX5_lineAt wsX5_lineAt) := goodIn_app (goodIn_of _ (by decide +kernel)) ggX5_jumps_X5_lineAt
set_option maxRecDepth 20000 in
theorem ggX5_jumps_X5_topOf : GoodIn wsX5_jumps wsX5_topOf := goodIn_r _ [9, 10, 11, 12, 4, 13, 14, 15, 16, 17, 18, 19, 20, 21, 22, 23, 24, 36, 37, 38, 39, 40, 41, 42, 43, 44, 45, 46, 47] (by decide +kernel) (by decide +kernel)
set_option maxRecDepth 20000 in
theorem gX5_jumps_X5_topOf : GoodIn wsX5_jumps (wsV RX5 60 RX5 yX5_topOf wsX5_topOf) := goodIn_app (goodIn_of _ (by decide +kernel)) ggX5_jumps_X5_topOf
set_option maxRecDepth 20000 in
theorem ggX5_jumps_X5_settles : GoodIn wsX5_jumps wsX5_settles := goodIn_r _ [32, 15, 16, 4, 17, 18, 19, 20, 33, 34, 35] (by decide +kernel) (by decide +kernel)
set_option maxRecDepth 20000 in
theorem gX5_jumps_X5_settles : GoodIn wsX5_jumps (va_wsS RX5 71 yX5_settles wsX5_settles) := goodIn_app (goodIn_of _ (by decide +kernel)) ggX5_jumps_X5_settles
theorem dX5_jumps_0 : decode cX5_jumps 0 = .ok (.aload_n 0, 1) := by decide +kernel
theorem dX5_jumps_1 : decode cX5_jumps 1 = .ok (.aload_n 1, 1) := by decide +kernel
theorem dX5_jumps_2 : decode cX5_jumps 2 = .ok (.invokevirtual 74, 3) := by decide +kernel
theorem dX5_jumps_5 : decode cX5_jumps 5 = .ok (.aload_n 1, 1) := by decide +kernel
theorem dX5_jumps_6 : decode cX5_jumps 6 = .ok (.iconst 3, 1) := by decide +kernel
theorem dX5_jumps_7 : decode cX5_jumps 7 = .ok (.iaload, 1) := by decide +kernel
theorem dX5_jumps_8 : decode cX5_jumps 8 = .ok (.isub, 1) := by decide +kernel
theorem dX5_jumps_9 : decode cX5_jumps 9 = .ok (.istore_n 3, 1) := by decide +kernel
theorem dX5_jumps_10 : decode cX5_jumps 10 = .ok (.iload_n 3, 1) := by decide +kernel
theorem dX5_jumps_11 : decode cX5_jumps 11 = .ok (.ifCond .ge 7, 3) := by decide +kernel
theorem dX5_jumps_14 : decode cX5_jumps 14 = .ok (.iconst 0, 1) := by decide +kernel
theorem dX5_jumps_15 : decode cX5_jumps 15 = .ok (.goto 10, 3) := by decide +kernel
theorem dX5_jumps_18 : decode cX5_jumps 18 = .ok (.iload_n 3, 1) := by decide +kernel
theorem dX5_jumps_19 : decode cX5_jumps 19 = .ok (.iload_n 2, 1) := by decide +kernel
theorem dX5_jumps_20 : decode cX5_jumps 20 = .ok (.imul, 1) := by decide +kernel
theorem dX5_jumps_21 : decode cX5_jumps 21 = .ok (.sipush 1000, 3) := by decide +kernel
theorem dX5_jumps_24 : decode cX5_jumps 24 = .ok (.idiv, 1) := by decide +kernel
theorem dX5_jumps_25 : decode cX5_jumps 25 = .ok (.istore 4, 2) := by decide +kernel
theorem dX5_jumps_27 : decode cX5_jumps 27 = .ok (.aload_n 0, 1) := by decide +kernel
theorem dX5_jumps_28 : decode cX5_jumps 28 = .ok (.aload_n 1, 1) := by decide +kernel
theorem dX5_jumps_29 : decode cX5_jumps 29 = .ok (.iload 4, 2) := by decide +kernel
theorem dX5_jumps_31 : decode cX5_jumps 31 = .ok (.invokevirtual 86, 3) := by decide +kernel
theorem dX5_jumps_34 : decode cX5_jumps 34 = .ok (.istore 5, 2) := by decide +kernel
theorem dX5_jumps_36 : decode cX5_jumps 36 = .ok (.aload_n 1, 1) := by decide +kernel
theorem dX5_jumps_37 : decode cX5_jumps 37 = .ok (.iconst 2, 1) := by decide +kernel
theorem dX5_jumps_38 : decode cX5_jumps 38 = .ok (.iload 4, 2) := by decide +kernel
theorem dX5_jumps_40 : decode cX5_jumps 40 = .ok (.aload_n 0, 1) := by decide +kernel
theorem dX5_jumps_41 : decode cX5_jumps 41 = .ok (.aload_n 1, 1) := by decide +kernel
theorem dX5_jumps_42 : decode cX5_jumps 42 = .ok (.iload 5, 2) := by decide +kernel
theorem dX5_jumps_44 : decode cX5_jumps 44 = .ok (.invokevirtual 60, 3) := by decide +kernel
theorem dX5_jumps_47 : decode cX5_jumps 47 = .ok (.isub, 1) := by decide +kernel
theorem dX5_jumps_48 : decode cX5_jumps 48 = .ok (.iastore, 1) := by decide +kernel
theorem dX5_jumps_49 : decode cX5_jumps 49 = .ok (.aload_n 1, 1) := by decide +kernel
theorem dX5_jumps_50 : decode cX5_jumps 50 = .ok (.iconst 1, 1) := by decide +kernel
theorem dX5_jumps_51 : decode cX5_jumps 51 = .ok (.iload 5, 2) := by decide +kernel
theorem dX5_jumps_53 : decode cX5_jumps 53 = .ok (.iastore, 1) := by decide +kernel
theorem dX5_jumps_54 : decode cX5_jumps 54 = .ok (.aload_n 1, 1) := by decide +kernel
theorem dX5_jumps_55 : decode cX5_jumps 55 = .ok (.invokestatic 71, 3) := by decide +kernel
theorem dX5_jumps_58 : decode cX5_jumps 58 = .ok (.return_, 1) := by decide +kernel
set_option maxRecDepth 20000 in
theorem ggX5_jumped_X5_in : GoodIn wsX5_jumped wsX5_in := goodIn_r _ [7] (by decide +kernel) (by decide +kernel)
set_option maxRecDepth 20000 in
theorem gX5_jumped_X5_in : GoodIn wsX5_jumped (va_wsS RX5 37 yX5_in wsX5_in) := goodIn_app (goodIn_of _ (by decide +kernel)) ggX5_jumped_X5_in
set_option maxRecDepth 20000 in
theorem ggX5_jumped_X5_jumps : GoodIn wsX5_jumped wsX5_jumps := goodIn_r _ [11, 12, 13, 14, 6, 15, 16, 17, 18, 19, 20, 21, 22, 23, 24, 25, 26, 27, 28, 29, 30, 31, 32, 33, 34, 35, 36, 37, 38, 39, 40, 41, 42, 43, 44, 45, 46, 47, 48, 49, 50, 51, 52, 53, 54, 55, 56, 57] (by decide +kernel) (by decide +kernel)
set_option maxRecDepth 20000 in
theorem gX5_jumped_X5_jumps : GoodIn wsX5_jumped (wsV RX5 89 RX5 yX5_jumps wsX5_jumps) := goodIn_app (goodIn_of _ (by decide +kernel)) ggX5_jumped_X5_jumps
theorem dX5_jumped_0 : decode cX5_jumped 0 = .ok (.iload_n 1, 1) := by decide +kernel
theorem dX5_jumped_1 : decode cX5_jumped 1 = .ok (.iconst 0, 1) := by decide +kernel
theorem dX5_jumped_2 : decode cX5_jumped 2 = .ok (.sipush 1000, 3) := by decide +kernel
theorem dX5_jumped_5 : decode cX5_jumped 5 = .ok (.invokestatic 37, 3) := by decide +kernel
theorem dX5_jumped_8 : decode cX5_jumped 8 = .ok (.ifCond .ne 6, 3) := by decide +kernel
theorem dX5_jumped_11 : decode cX5_jumped 11 = .ok (.ldc 36, 2) := by decide +kernel
theorem dX5_jumped_13 : decode cX5_jumped 13 = .ok (.ireturn, 1) := by decide +kernel
theorem dX5_jumped_14 : decode cX5_jumped 14 = .ok (.aload_n 0, 1) := by decide +kernel
theorem dX5_jumped_15 : decode cX5_jumped 15 = .ok (.getfield 7, 3) := by decide +kernel
theorem dX5_jumped_18 : decode cX5_jumped 18 = .ok (.iconst 0, 1) := by decide +kernel
theorem dX5_jumped_19 : decode cX5_jumped 19 = .ok (.iaload, 1) := by decide +kernel
theorem dX5_jumped_20 : decode cX5_jumped 20 = .ok (.ifCond .ne 6, 3) := by decide +kernel
theorem dX5_jumped_23 : decode cX5_jumped 23 = .ok (.ldc 81, 2) := by decide +kernel
theorem dX5_jumped_25 : decode cX5_jumped 25 = .ok (.ireturn, 1) := by decide +kernel
theorem dX5_jumped_26 : decode cX5_jumped 26 = .ok (.aload_n 0, 1) := by decide +kernel
theorem dX5_jumped_27 : decode cX5_jumped 27 = .ok (.aload_n 0, 1) := by decide +kernel
theorem dX5_jumped_28 : decode cX5_jumped 28 = .ok (.getfield 7, 3) := by decide +kernel
theorem dX5_jumped_31 : decode cX5_jumped 31 = .ok (.iload_n 1, 1) := by decide +kernel
theorem dX5_jumped_32 : decode cX5_jumped 32 = .ok (.invokevirtual 89, 3) := by decide +kernel
theorem dX5_jumped_35 : decode cX5_jumped 35 = .ok (.aload_n 0, 1) := by decide +kernel
theorem dX5_jumped_36 : decode cX5_jumped 36 = .ok (.getfield 7, 3) := by decide +kernel
theorem dX5_jumped_39 : decode cX5_jumped 39 = .ok (.iconst 1, 1) := by decide +kernel
theorem dX5_jumped_40 : decode cX5_jumped 40 = .ok (.iaload, 1) := by decide +kernel
theorem dX5_jumped_41 : decode cX5_jumped 41 = .ok (.ireturn, 1) := by decide +kernel
set_option maxRecDepth 20000 in
theorem ggX5_gone_X5_isLine : GoodIn wsX5_gone wsX5_isLine := goodIn_r _ [7, 2, 8, 9, 6, 10, 23, 24, 25, 26, 27, 28, 29, 30, 31, 32, 33, 34] (by decide +kernel) (by decide +kernel)
set_option maxRecDepth 20000 in
theorem gX5_gone_X5_isLine : GoodIn wsX5_gone (wsV RX5 77 RX5 yX5_isLine wsX5_isLine) := goodIn_app (goodIn_of _ (by decide +kernel)) ggX5_gone_X5_isLine
set_option maxRecDepth 20000 in
theorem ggX5_gone_X5_settles : GoodIn wsX5_gone wsX5_settles := goodIn_r _ [13, 14, 15, 6, 16, 17, 18, 19, 20, 21, 22] (by decide +kernel) (by decide +kernel)
set_option maxRecDepth 20000 in
theorem gX5_gone_X5_settles : GoodIn wsX5_gone (va_wsS RX5 71 yX5_settles wsX5_settles) := goodIn_app (goodIn_of _ (by decide +kernel)) ggX5_gone_X5_settles
theorem dX5_gone_0 : decode cX5_gone 0 = .ok (.aload_n 0, 1) := by decide +kernel
theorem dX5_gone_1 : decode cX5_gone 1 = .ok (.iload_n 1, 1) := by decide +kernel
theorem dX5_gone_2 : decode cX5_gone 2 = .ok (.invokevirtual 77, 3) := by decide +kernel
theorem dX5_gone_5 : decode cX5_gone 5 = .ok (.ifCond .ne 6, 3) := by decide +kernel
theorem dX5_gone_8 : decode cX5_gone 8 = .ok (.ldc 36, 2) := by decide +kernel
theorem dX5_gone_10 : decode cX5_gone 10 = .ok (.ireturn, 1) := by decide +kernel
theorem dX5_gone_11 : decode cX5_gone 11 = .ok (.aload_n 0, 1) := by decide +kernel
theorem dX5_gone_12 : decode cX5_gone 12 = .ok (.getfield 7, 3) := by decide +kernel
theorem dX5_gone_15 : decode cX5_gone 15 = .ok (.iconst 1, 1) := by decide +kernel
theorem dX5_gone_16 : decode cX5_gone 16 = .ok (.iload_n 1, 1) := by decide +kernel
theorem dX5_gone_17 : decode cX5_gone 17 = .ok (.iastore, 1) := by decide +kernel
theorem dX5_gone_18 : decode cX5_gone 18 = .ok (.aload_n 0, 1) := by decide +kernel
theorem dX5_gone_19 : decode cX5_gone 19 = .ok (.getfield 7, 3) := by decide +kernel
theorem dX5_gone_22 : decode cX5_gone 22 = .ok (.iconst 2, 1) := by decide +kernel
theorem dX5_gone_23 : decode cX5_gone 23 = .ok (.iconst 0, 1) := by decide +kernel
theorem dX5_gone_24 : decode cX5_gone 24 = .ok (.iastore, 1) := by decide +kernel
theorem dX5_gone_25 : decode cX5_gone 25 = .ok (.aload_n 0, 1) := by decide +kernel
theorem dX5_gone_26 : decode cX5_gone 26 = .ok (.getfield 7, 3) := by decide +kernel
theorem dX5_gone_29 : decode cX5_gone 29 = .ok (.invokestatic 71, 3) := by decide +kernel
theorem dX5_gone_32 : decode cX5_gone 32 = .ok (.aload_n 0, 1) := by decide +kernel
theorem dX5_gone_33 : decode cX5_gone 33 = .ok (.getfield 7, 3) := by decide +kernel
theorem dX5_gone_36 : decode cX5_gone 36 = .ok (.iconst 1, 1) := by decide +kernel
theorem dX5_gone_37 : decode cX5_gone 37 = .ok (.iaload, 1) := by decide +kernel
theorem dX5_gone_38 : decode cX5_gone 38 = .ok (.ireturn, 1) := by decide +kernel
set_option maxRecDepth 20000 in
theorem ggX5_put_X5_keeps : GoodIn wsX5_put wsX5_keeps := goodIn_r _ [5, 6, 7, 8, 9, 4, 10, 55, 56, 57, 58, 59, 60, 61, 62, 63, 64, 65, 66] (by decide +kernel) (by decide +kernel)
set_option maxRecDepth 20000 in
theorem gX5_put_X5_keeps : GoodIn wsX5_put (wsV RX5 92 RX5 yX5_keeps wsX5_keeps) := goodIn_app (goodIn_of _ (by decide +kernel)) ggX5_put_X5_keeps
set_option maxRecDepth 20000 in
theorem ggX5_put_X5_puts : GoodIn wsX5_put wsX5_puts := goodIn_r _ [14, 6, 15, 16, 17, 18, 4, 19, 20, 21, 22, 23, 24, 25, 26, 27, 28, 29, 30, 31, 32, 33, 34, 35, 36, 37, 38, 39, 40, 41, 42, 43, 44, 45, 46, 47, 48, 55, 56, 57, 58, 59, 60, 61, 62, 63, 64, 65, 66] (by decide +kernel) (by decide +kernel)
set_option maxRecDepth 20000 in
theorem gX5_put_X5_puts : GoodIn wsX5_put (wsV RX5 95 RX5 yX5_puts wsX5_puts) := goodIn_app (goodIn_of _ (by decide +kernel)) ggX5_put_X5_puts
set_option maxRecDepth 20000 in
theorem ggX5_put_X5_acted : GoodIn wsX5_put wsX5_acted := goodIn_r _ [52, 16, 15, 53, 54, 7, 17, 18, 4, 19, 8, 9, 10, 55, 56, 57, 58, 59, 60, 61, 62, 63, 64, 65, 66] (by decide +kernel) (by decide +kernel)
set_option maxRecDepth 20000 in
theorem gX5_put_X5_acted : GoodIn wsX5_put (wsV RX5 99 RX5 yX5_acted wsX5_acted) := goodIn_app (goodIn_of _ (by decide +kernel)) ggX5_put_X5_acted
theorem dX5_put_0 : decode cX5_put 0 = .ok (.aload_n 0, 1) := by decide +kernel
theorem dX5_put_1 : decode cX5_put 1 = .ok (.invokevirtual 92, 3) := by decide +kernel
theorem dX5_put_4 : decode cX5_put 4 = .ok (.aload_n 0, 1) := by decide +kernel
theorem dX5_put_5 : decode cX5_put 5 = .ok (.aload_n 0, 1) := by decide +kernel
theorem dX5_put_6 : decode cX5_put 6 = .ok (.iload_n 1, 1) := by decide +kernel
theorem dX5_put_7 : decode cX5_put 7 = .ok (.iload_n 2, 1) := by decide +kernel
theorem dX5_put_8 : decode cX5_put 8 = .ok (.iload_n 3, 1) := by decide +kernel
theorem dX5_put_9 : decode cX5_put 9 = .ok (.invokevirtual 95, 3) := by decide +kernel
theorem dX5_put_12 : decode cX5_put 12 = .ok (.invokevirtual 99, 3) := by decide +kernel
theorem dX5_put_15 : decode cX5_put 15 = .ok (.ireturn, 1) := by decide +kernel
set_option maxRecDepth 20000 in
theorem ggX5_cut_X5_keeps : GoodIn wsX5_cut wsX5_keeps := goodIn_r _ [5, 6, 7, 8, 9, 4, 10, 42, 43, 44, 45, 46, 47, 48, 49, 50, 51, 52, 53] (by decide +kernel) (by decide +kernel)
set_option maxRecDepth 20000 in
theorem gX5_cut_X5_keeps : GoodIn wsX5_cut (wsV RX5 92 RX5 yX5_keeps wsX5_keeps) := goodIn_app (goodIn_of _ (by decide +kernel)) ggX5_cut_X5_keeps
set_option maxRecDepth 20000 in
theorem ggX5_cut_X5_cuts : GoodIn wsX5_cut wsX5_cuts := goodIn_r _ [14, 15, 6, 16, 17, 18, 4, 19, 20, 21, 22, 23, 24, 25, 26, 27, 28, 29, 30, 31, 32, 33, 34, 42, 43, 44, 45, 46, 47, 48, 49, 50, 51, 52, 53] (by decide +kernel) (by decide +kernel)
set_option maxRecDepth 20000 in
theorem gX5_cut_X5_cuts : GoodIn wsX5_cut (wsV RX5 103 RX5 yX5_cuts wsX5_cuts) := goodIn_app (goodIn_of _ (by decide +kernel)) ggX5_cut_X5_cuts
set_option maxRecDepth 20000 in
theorem ggX5_cut_X5_acted : GoodIn wsX5_cut wsX5_acted := goodIn_r _ [38, 39, 15, 40, 41, 7, 20, 21, 4, 22, 8, 9, 10, 42, 43, 44, 45, 46, 47, 48, 49, 50, 51, 52, 53] (by decide +kernel) (by decide +kernel)
end
section
set_option maxRecDepth 20000 in
theorem gX5_cut_X5_acted : GoodIn wsX5_cut (wsV RX5 99 RX5 yX5_acted wsX5_acted) := goodIn_app (goodIn_of _ (by decide +kernel)) ggX5_cut_X5_acted
theorem dX5_cut_0 : decode cX5_cut 0 = .ok (.aload_n 0, 1) := by decide +kernel
theorem dX5_cut_1 : decode cX5_cut 1 = .ok (.invokevirtual 92, 3) := by decide +kernel
theorem dX5_cut_4 : decode cX5_cut 4 = .ok (.aload_n 0, 1) := by decide +kernel
theorem dX5_cut_5 : decode cX5_cut 5 = .ok (.aload_n 0, 1) := by decide +kernel
theorem dX5_cut_6 : decode cX5_cut 6 = .ok (.iload_n 1, 1) := by decide +kernel
theorem dX5_cut_7 : decode cX5_cut 7 = .ok (.invokevirtual 103, 3) := by decide +kernel
theorem dX5_cut_10 : decode cX5_cut 10 = .ok (.invokevirtual 99, 3) := by decide +kernel
theorem dX5_cut_13 : decode cX5_cut 13 = .ok (.ireturn, 1) := by decide +kernel
set_option maxRecDepth 20000 in
theorem ggX5_change_X5_isLine : GoodIn wsX5_change wsX5_isLine := goodIn_r _ [7, 2, 8, 9, 6, 10, 38, 39, 40, 41, 42, 43, 44, 45, 46, 47, 48, 49] (by decide +kernel) (by decide +kernel)
set_option maxRecDepth 20000 in
theorem gX5_change_X5_isLine : GoodIn wsX5_change (wsV RX5 77 RX5 yX5_isLine wsX5_isLine) := goodIn_app (goodIn_of _ (by decide +kernel)) ggX5_change_X5_isLine
set_option maxRecDepth 20000 in
theorem ggX5_change_X5_in : GoodIn wsX5_change wsX5_in := goodIn_r _ [10] (by decide +kernel) (by decide +kernel)
set_option maxRecDepth 20000 in
theorem gX5_change_X5_in : GoodIn wsX5_change (va_wsS RX5 37 yX5_in wsX5_in) := goodIn_app (goodIn_of _ (by decide +kernel)) ggX5_change_X5_in
set_option maxRecDepth 20000 in
theorem ggX5_change_X5_keeps : GoodIn wsX5_change wsX5_keeps := goodIn_r _ [14, 2, 15, 16, 17, 6, 18, 38, 39, 40, 41, 42, 43, 44, 45, 46, 47, 48, 49] (by decide +kernel) (by decide +kernel)
set_option maxRecDepth 20000 in
theorem gX5_change_X5_keeps : GoodIn wsX5_change (wsV RX5 92 RX5 yX5_keeps wsX5_keeps) := goodIn_app (goodIn_of _ (by decide +kernel)) ggX5_change_X5_keeps
set_option maxRecDepth 20000 in
theorem ggX5_change_X5_l : GoodIn wsX5_change wsX5_l := goodIn_r _ [21] (by decide +kernel) (by decide +kernel)
set_option maxRecDepth 20000 in
theorem gX5_change_X5_l : GoodIn wsX5_change (va_wsS RX5 45 yX5_l wsX5_l) := goodIn_app (goodIn_of _ (by decide +kernel)) ggX5_change_X5_l
set_option maxRecDepth 20000 in
theorem ggX5_change_X5_settles : GoodIn wsX5_change wsX5_settles := goodIn_r _ [24, 19, 20, 6, 21, 25, 26, 27, 28, 29, 30] (by decide +kernel) (by decide +kernel)
set_option maxRecDepth 20000 in
theorem gX5_change_X5_settles : GoodIn wsX5_change (va_wsS RX5 71 yX5_settles wsX5_settles) := goodIn_app (goodIn_of _ (by decide +kernel)) ggX5_change_X5_settles
set_option maxRecDepth 20000 in
theorem ggX5_change_X5_acted : GoodIn wsX5_change wsX5_acted := goodIn_r _ [34, 35, 1, 36, 37, 15, 8, 9, 6, 10, 16, 17, 18, 38, 39, 40, 41, 42, 43, 44, 45, 46, 47, 48, 49] (by decide +kernel) (by decide +kernel)
set_option maxRecDepth 20000 in
theorem gX5_change_X5_acted : GoodIn wsX5_change (wsV RX5 99 RX5 yX5_acted wsX5_acted) := goodIn_app (goodIn_of _ (by decide +kernel)) ggX5_change_X5_acted
theorem dX5_change_0 : decode cX5_change 0 = .ok (.aload_n 0, 1) := by decide +kernel
theorem dX5_change_1 : decode cX5_change 1 = .ok (.iload_n 1, 1) := by decide +kernel
theorem dX5_change_2 : decode cX5_change 2 = .ok (.invokevirtual 77, 3) := by decide +kernel
theorem dX5_change_5 : decode cX5_change 5 = .ok (.ifCond .eq 14, 3) := by decide +kernel
theorem dX5_change_8 : decode cX5_change 8 = .ok (.iload_n 2, 1) := by decide +kernel
theorem dX5_change_9 : decode cX5_change 9 = .ok (.iconst 0, 1) := by decide +kernel
theorem dX5_change_10 : decode cX5_change 10 = .ok (.sipush 400, 3) := by decide +kernel
theorem dX5_change_13 : decode cX5_change 13 = .ok (.invokestatic 37, 3) := by decide +kernel
theorem dX5_change_16 : decode cX5_change 16 = .ok (.ifCond .ne 6, 3) := by decide +kernel
theorem dX5_change_19 : decode cX5_change 19 = .ok (.ldc 36, 2) := by decide +kernel
theorem dX5_change_21 : decode cX5_change 21 = .ok (.ireturn, 1) := by decide +kernel
theorem dX5_change_22 : decode cX5_change 22 = .ok (.aload_n 0, 1) := by decide +kernel
theorem dX5_change_23 : decode cX5_change 23 = .ok (.invokevirtual 92, 3) := by decide +kernel
theorem dX5_change_26 : decode cX5_change 26 = .ok (.aload_n 0, 1) := by decide +kernel
theorem dX5_change_27 : decode cX5_change 27 = .ok (.getfield 7, 3) := by decide +kernel
theorem dX5_change_30 : decode cX5_change 30 = .ok (.iload_n 1, 1) := by decide +kernel
theorem dX5_change_31 : decode cX5_change 31 = .ok (.iconst 1, 1) := by decide +kernel
theorem dX5_change_32 : decode cX5_change 32 = .ok (.invokestatic 45, 3) := by decide +kernel
theorem dX5_change_35 : decode cX5_change 35 = .ok (.iaload, 1) := by decide +kernel
theorem dX5_change_36 : decode cX5_change 36 = .ok (.istore_n 3, 1) := by decide +kernel
theorem dX5_change_37 : decode cX5_change 37 = .ok (.aload_n 0, 1) := by decide +kernel
theorem dX5_change_38 : decode cX5_change 38 = .ok (.getfield 7, 3) := by decide +kernel
theorem dX5_change_41 : decode cX5_change 41 = .ok (.iload_n 1, 1) := by decide +kernel
theorem dX5_change_42 : decode cX5_change 42 = .ok (.iconst 1, 1) := by decide +kernel
theorem dX5_change_43 : decode cX5_change 43 = .ok (.invokestatic 45, 3) := by decide +kernel
theorem dX5_change_46 : decode cX5_change 46 = .ok (.iload_n 2, 1) := by decide +kernel
theorem dX5_change_47 : decode cX5_change 47 = .ok (.iastore, 1) := by decide +kernel
theorem dX5_change_48 : decode cX5_change 48 = .ok (.aload_n 0, 1) := by decide +kernel
theorem dX5_change_49 : decode cX5_change 49 = .ok (.getfield 7, 3) := by decide +kernel
theorem dX5_change_52 : decode cX5_change 52 = .ok (.iload_n 1, 1) := by decide +kernel
theorem dX5_change_53 : decode cX5_change 53 = .ok (.iconst 2, 1) := by decide +kernel
theorem dX5_change_54 : decode cX5_change 54 = .ok (.invokestatic 45, 3) := by decide +kernel
theorem dX5_change_57 : decode cX5_change 57 = .ok (.iconst 0, 1) := by decide +kernel
theorem dX5_change_58 : decode cX5_change 58 = .ok (.iastore, 1) := by decide +kernel
theorem dX5_change_59 : decode cX5_change 59 = .ok (.aload_n 0, 1) := by decide +kernel
theorem dX5_change_60 : decode cX5_change 60 = .ok (.getfield 7, 3) := by decide +kernel
theorem dX5_change_63 : decode cX5_change 63 = .ok (.invokestatic 71, 3) := by decide +kernel
theorem dX5_change_66 : decode cX5_change 66 = .ok (.aload_n 0, 1) := by decide +kernel
theorem dX5_change_67 : decode cX5_change 67 = .ok (.iload_n 3, 1) := by decide +kernel
theorem dX5_change_68 : decode cX5_change 68 = .ok (.invokevirtual 99, 3) := by decide +kernel
theorem dX5_change_71 : decode cX5_change 71 = .ok (.ireturn, 1) := by decide +kernel
set_option maxRecDepth 20000 in
theorem ggX5_setHeight_X5_in : GoodIn wsX5_setHeight wsX5_in := goodIn_r _ [6] (by decide +kernel) (by decide +kernel)
set_option maxRecDepth 20000 in
theorem gX5_setHeight_X5_in : GoodIn wsX5_setHeight (va_wsS RX5 37 yX5_in wsX5_in) := goodIn_app (goodIn_of _ (by decide +kernel)) ggX5_setHeight_X5_in
set_option maxRecDepth 20000 in
theorem ggX5_setHeight_X5_keeps : GoodIn wsX5_setHeight wsX5_keeps := goodIn_r _ [10, 2, 11, 12, 13, 5, 14, 34, 35, 36, 37, 38, 39, 40, 41, 42, 43, 44, 45] (by decide +kernel) (by decide +kernel)
set_option maxRecDepth 20000 in
theorem gX5_setHeight_X5_keeps : GoodIn wsX5_setHeight (wsV RX5 92 RX5 yX5_keeps wsX5_keeps) := goodIn_app (goodIn_of _ (by decide +kernel)) ggX5_setHeight_X5_keeps
set_option maxRecDepth 20000 in
theorem ggX5_setHeight_X5_settles : GoodIn wsX5_setHeight wsX5_settles := goodIn_r _ [17, 18, 19, 5, 20, 21, 22, 23, 24, 25, 26] (by decide +kernel) (by decide +kernel)
set_option maxRecDepth 20000 in
theorem gX5_setHeight_X5_settles : GoodIn wsX5_setHeight (va_wsS RX5 71 yX5_settles wsX5_settles) := goodIn_app (goodIn_of _ (by decide +kernel)) ggX5_setHeight_X5_settles
set_option maxRecDepth 20000 in
theorem ggX5_setHeight_X5_acted : GoodIn wsX5_setHeight wsX5_acted := goodIn_r _ [30, 31, 1, 32, 33, 11, 3, 4, 5, 6, 12, 13, 14, 34, 35, 36, 37, 38, 39, 40, 41, 42, 43, 44, 45] (by decide +kernel) (by decide +kernel)
set_option maxRecDepth 20000 in
theorem gX5_setHeight_X5_acted : GoodIn wsX5_setHeight (wsV RX5 99 RX5 yX5_acted wsX5_acted) := goodIn_app (goodIn_of _ (by decide +kernel)) ggX5_setHeight_X5_acted
theorem dX5_setHeight_0 : decode cX5_setHeight 0 = .ok (.iload_n 1, 1) := by decide +kernel
theorem dX5_setHeight_1 : decode cX5_setHeight 1 = .ok (.bipush 20, 2) := by decide +kernel
theorem dX5_setHeight_3 : decode cX5_setHeight 3 = .ok (.sipush 600, 3) := by decide +kernel
theorem dX5_setHeight_6 : decode cX5_setHeight 6 = .ok (.invokestatic 37, 3) := by decide +kernel
theorem dX5_setHeight_9 : decode cX5_setHeight 9 = .ok (.ifCond .ne 6, 3) := by decide +kernel
theorem dX5_setHeight_12 : decode cX5_setHeight 12 = .ok (.ldc 36, 2) := by decide +kernel
theorem dX5_setHeight_14 : decode cX5_setHeight 14 = .ok (.ireturn, 1) := by decide +kernel
theorem dX5_setHeight_15 : decode cX5_setHeight 15 = .ok (.aload_n 0, 1) := by decide +kernel
theorem dX5_setHeight_16 : decode cX5_setHeight 16 = .ok (.invokevirtual 92, 3) := by decide +kernel
theorem dX5_setHeight_19 : decode cX5_setHeight 19 = .ok (.aload_n 0, 1) := by decide +kernel
theorem dX5_setHeight_20 : decode cX5_setHeight 20 = .ok (.getfield 7, 3) := by decide +kernel
theorem dX5_setHeight_23 : decode cX5_setHeight 23 = .ok (.iconst 3, 1) := by decide +kernel
theorem dX5_setHeight_24 : decode cX5_setHeight 24 = .ok (.iaload, 1) := by decide +kernel
theorem dX5_setHeight_25 : decode cX5_setHeight 25 = .ok (.istore_n 2, 1) := by decide +kernel
theorem dX5_setHeight_26 : decode cX5_setHeight 26 = .ok (.aload_n 0, 1) := by decide +kernel
theorem dX5_setHeight_27 : decode cX5_setHeight 27 = .ok (.getfield 7, 3) := by decide +kernel
theorem dX5_setHeight_30 : decode cX5_setHeight 30 = .ok (.iconst 3, 1) := by decide +kernel
theorem dX5_setHeight_31 : decode cX5_setHeight 31 = .ok (.iload_n 1, 1) := by decide +kernel
theorem dX5_setHeight_32 : decode cX5_setHeight 32 = .ok (.iastore, 1) := by decide +kernel
theorem dX5_setHeight_33 : decode cX5_setHeight 33 = .ok (.aload_n 0, 1) := by decide +kernel
theorem dX5_setHeight_34 : decode cX5_setHeight 34 = .ok (.getfield 7, 3) := by decide +kernel
theorem dX5_setHeight_37 : decode cX5_setHeight 37 = .ok (.invokestatic 71, 3) := by decide +kernel
theorem dX5_setHeight_40 : decode cX5_setHeight 40 = .ok (.aload_n 0, 1) := by decide +kernel
theorem dX5_setHeight_41 : decode cX5_setHeight 41 = .ok (.iload_n 2, 1) := by decide +kernel
theorem dX5_setHeight_42 : decode cX5_setHeight 42 = .ok (.invokevirtual 99, 3) := by decide +kernel
theorem dX5_setHeight_45 : decode cX5_setHeight 45 = .ok (.ireturn, 1) := by decide +kernel
set_option maxRecDepth 20000 in
theorem ggX5_setWidth_X5_in : GoodIn wsX5_setWidth wsX5_in := goodIn_r _ [6] (by decide +kernel) (by decide +kernel)
set_option maxRecDepth 20000 in
theorem gX5_setWidth_X5_in : GoodIn wsX5_setWidth (va_wsS RX5 37 yX5_in wsX5_in) := goodIn_app (goodIn_of _ (by decide +kernel)) ggX5_setWidth_X5_in
set_option maxRecDepth 20000 in
theorem ggX5_setWidth_X5_keeps : GoodIn wsX5_setWidth wsX5_keeps := goodIn_r _ [10, 2, 11, 12, 13, 5, 14, 34, 35, 36, 37, 38, 39, 40, 41, 42, 43, 44, 45] (by decide +kernel) (by decide +kernel)
set_option maxRecDepth 20000 in
theorem gX5_setWidth_X5_keeps : GoodIn wsX5_setWidth (wsV RX5 92 RX5 yX5_keeps wsX5_keeps) := goodIn_app (goodIn_of _ (by decide +kernel)) ggX5_setWidth_X5_keeps
set_option maxRecDepth 20000 in
theorem ggX5_setWidth_X5_l : GoodIn wsX5_setWidth wsX5_l := goodIn_r _ [17] (by decide +kernel) (by decide +kernel)
set_option maxRecDepth 20000 in
theorem gX5_setWidth_X5_l : GoodIn wsX5_setWidth (va_wsS RX5 45 yX5_l wsX5_l) := goodIn_app (goodIn_of _ (by decide +kernel)) ggX5_setWidth_X5_l
set_option maxRecDepth 20000 in
theorem ggX5_setWidth_X5_settles : GoodIn wsX5_setWidth wsX5_settles := goodIn_r _ [20, 15, 16, 5, 17, 21, 22, 23, 24, 25, 26] (by decide +kernel) (by decide +kernel)
set_option maxRecDepth 20000 in
theorem gX5_setWidth_X5_settles : GoodIn wsX5_setWidth (va_wsS RX5 71 yX5_settles wsX5_settles) := goodIn_app (goodIn_of _ (by decide +kernel)) ggX5_setWidth_X5_settles
set_option maxRecDepth 20000 in
theorem ggX5_setWidth_X5_acted : GoodIn wsX5_setWidth wsX5_acted := goodIn_r _ [30, 31, 1, 32, 33, 11, 3, 4, 5, 6, 12, 13, 14, 34, 35, 36, 37, 38, 39, 40, 41, 42, 43, 44, 45] (by decide +kernel) (by decide +kernel)
set_option maxRecDepth 20000 in
theorem gX5_setWidth_X5_acted : GoodIn wsX5_setWidth (wsV RX5 99 RX5 yX5_acted wsX5_acted) := goodIn_app (goodIn_of _ (by decide +kernel)) ggX5_setWidth_X5_acted
theorem dX5_setWidth_0 : decode cX5_setWidth 0 = .ok (.iload_n 1, 1) := by decide +kernel
theorem dX5_setWidth_1 : decode cX5_setWidth 1 = .ok (.iconst 5, 1) := by decide +kernel
theorem dX5_setWidth_2 : decode cX5_setWidth 2 = .ok (.bipush 80, 2) := by decide +kernel
theorem dX5_setWidth_4 : decode cX5_setWidth 4 = .ok (.invokestatic 37, 3) := by decide +kernel
theorem dX5_setWidth_7 : decode cX5_setWidth 7 = .ok (.ifCond .ne 6, 3) := by decide +kernel
theorem dX5_setWidth_10 : decode cX5_setWidth 10 = .ok (.ldc 36, 2) := by decide +kernel
theorem dX5_setWidth_12 : decode cX5_setWidth 12 = .ok (.ireturn, 1) := by decide +kernel
theorem dX5_setWidth_13 : decode cX5_setWidth 13 = .ok (.aload_n 0, 1) := by decide +kernel
theorem dX5_setWidth_14 : decode cX5_setWidth 14 = .ok (.invokevirtual 92, 3) := by decide +kernel
theorem dX5_setWidth_17 : decode cX5_setWidth 17 = .ok (.aload_n 0, 1) := by decide +kernel
theorem dX5_setWidth_18 : decode cX5_setWidth 18 = .ok (.getfield 7, 3) := by decide +kernel
theorem dX5_setWidth_21 : decode cX5_setWidth 21 = .ok (.iconst 4, 1) := by decide +kernel
theorem dX5_setWidth_22 : decode cX5_setWidth 22 = .ok (.iaload, 1) := by decide +kernel
theorem dX5_setWidth_23 : decode cX5_setWidth 23 = .ok (.istore_n 2, 1) := by decide +kernel
theorem dX5_setWidth_24 : decode cX5_setWidth 24 = .ok (.aload_n 0, 1) := by decide +kernel
theorem dX5_setWidth_25 : decode cX5_setWidth 25 = .ok (.getfield 7, 3) := by decide +kernel
theorem dX5_setWidth_28 : decode cX5_setWidth 28 = .ok (.iconst 4, 1) := by decide +kernel
theorem dX5_setWidth_29 : decode cX5_setWidth 29 = .ok (.iload_n 1, 1) := by decide +kernel
theorem dX5_setWidth_30 : decode cX5_setWidth 30 = .ok (.iastore, 1) := by decide +kernel
theorem dX5_setWidth_31 : decode cX5_setWidth 31 = .ok (.iconst 0, 1) := by decide +kernel
theorem dX5_setWidth_32 : decode cX5_setWidth 32 = .ok (.istore_n 3, 1) := by decide +kernel
theorem dX5_setWidth_33 : decode cX5_setWidth 33 = .ok (.iload_n 3, 1) := by decide +kernel
theorem dX5_setWidth_34 : decode cX5_setWidth 34 = .ok (.aload_n 0, 1) := by decide +kernel
theorem dX5_setWidth_35 : decode cX5_setWidth 35 = .ok (.getfield 7, 3) := by decide +kernel
theorem dX5_setWidth_38 : decode cX5_setWidth 38 = .ok (.iconst 0, 1) := by decide +kernel
theorem dX5_setWidth_39 : decode cX5_setWidth 39 = .ok (.iaload, 1) := by decide +kernel
theorem dX5_setWidth_40 : decode cX5_setWidth 40 = .ok (.if_icmp .ge 20, 3) := by decide +kernel
theorem dX5_setWidth_43 : decode cX5_setWidth 43 = .ok (.aload_n 0, 1) := by decide +kernel
theorem dX5_setWidth_44 : decode cX5_setWidth 44 = .ok (.getfield 7, 3) := by decide +kernel
theorem dX5_setWidth_47 : decode cX5_setWidth 47 = .ok (.iload_n 3, 1) := by decide +kernel
theorem dX5_setWidth_48 : decode cX5_setWidth 48 = .ok (.iconst 2, 1) := by decide +kernel
theorem dX5_setWidth_49 : decode cX5_setWidth 49 = .ok (.invokestatic 45, 3) := by decide +kernel
theorem dX5_setWidth_52 : decode cX5_setWidth 52 = .ok (.iconst 0, 1) := by decide +kernel
theorem dX5_setWidth_53 : decode cX5_setWidth 53 = .ok (.iastore, 1) := by decide +kernel
theorem dX5_setWidth_54 : decode cX5_setWidth 54 = .ok (.iinc 3 1, 3) := by decide +kernel
theorem dX5_setWidth_57 : decode cX5_setWidth 57 = .ok (.goto (-24), 3) := by decide +kernel
theorem dX5_setWidth_60 : decode cX5_setWidth 60 = .ok (.aload_n 0, 1) := by decide +kernel
theorem dX5_setWidth_61 : decode cX5_setWidth 61 = .ok (.getfield 7, 3) := by decide +kernel
theorem dX5_setWidth_64 : decode cX5_setWidth 64 = .ok (.invokestatic 71, 3) := by decide +kernel
theorem dX5_setWidth_67 : decode cX5_setWidth 67 = .ok (.aload_n 0, 1) := by decide +kernel
theorem dX5_setWidth_68 : decode cX5_setWidth 68 = .ok (.iload_n 2, 1) := by decide +kernel
theorem dX5_setWidth_69 : decode cX5_setWidth 69 = .ok (.invokevirtual 99, 3) := by decide +kernel
theorem dX5_setWidth_72 : decode cX5_setWidth 72 = .ok (.ireturn, 1) := by decide +kernel
set_option maxRecDepth 20000 in
theorem ggX5_scroll_X5_keeps : GoodIn wsX5_scroll wsX5_keeps := goodIn_r _ [5, 6, 7, 8, 9, 4, 10, 42, 43, 44, 45, 46, 47, 48, 49, 50, 51, 52, 53] (by decide +kernel) (by decide +kernel)
set_option maxRecDepth 20000 in
theorem gX5_scroll_X5_keeps : GoodIn wsX5_scroll (wsV RX5 92 RX5 yX5_keeps wsX5_keeps) := goodIn_app (goodIn_of _ (by decide +kernel)) ggX5_scroll_X5_keeps
set_option maxRecDepth 20000 in
theorem ggX5_scroll_X5_scrolled : GoodIn wsX5_scroll wsX5_scrolled := goodIn_r _ [14, 15, 6, 16, 17, 18, 4, 19, 20, 21, 22, 23, 24, 25, 26, 27, 28, 29, 30, 31, 32, 33, 34, 42, 43, 44, 45, 46, 47, 48, 49, 50, 51, 52, 53] (by decide +kernel) (by decide +kernel)
set_option maxRecDepth 20000 in
theorem gX5_scroll_X5_scrolled : GoodIn wsX5_scroll (wsV RX5 106 RX5 yX5_scrolled wsX5_scrolled) := goodIn_app (goodIn_of _ (by decide +kernel)) ggX5_scroll_X5_scrolled
set_option maxRecDepth 20000 in
theorem ggX5_scroll_X5_acted : GoodIn wsX5_scroll wsX5_acted := goodIn_r _ [38, 39, 15, 40, 41, 7, 17, 18, 4, 19, 8, 9, 10, 42, 43, 44, 45, 46, 47, 48, 49, 50, 51, 52, 53] (by decide +kernel) (by decide +kernel)
set_option maxRecDepth 20000 in
theorem gX5_scroll_X5_acted : GoodIn wsX5_scroll (wsV RX5 99 RX5 yX5_acted wsX5_acted) := goodIn_app (goodIn_of _ (by decide +kernel)) ggX5_scroll_X5_acted
theorem dX5_scroll_0 : decode cX5_scroll 0 = .ok (.aload_n 0, 1) := by decide +kernel
theorem dX5_scroll_1 : decode cX5_scroll 1 = .ok (.invokevirtual 92, 3) := by decide +kernel
theorem dX5_scroll_4 : decode cX5_scroll 4 = .ok (.aload_n 0, 1) := by decide +kernel
theorem dX5_scroll_5 : decode cX5_scroll 5 = .ok (.aload_n 0, 1) := by decide +kernel
theorem dX5_scroll_6 : decode cX5_scroll 6 = .ok (.iload_n 1, 1) := by decide +kernel
theorem dX5_scroll_7 : decode cX5_scroll 7 = .ok (.invokevirtual 106, 3) := by decide +kernel
theorem dX5_scroll_10 : decode cX5_scroll 10 = .ok (.invokevirtual 99, 3) := by decide +kernel
theorem dX5_scroll_13 : decode cX5_scroll 13 = .ok (.ireturn, 1) := by decide +kernel
set_option maxRecDepth 20000 in
theorem ggX5_jump_X5_keeps : GoodIn wsX5_jump wsX5_keeps := goodIn_r _ [5, 6, 7, 8, 9, 4, 10, 65, 66, 67, 68, 69, 70, 71, 72, 73, 74, 75, 76] (by decide +kernel) (by decide +kernel)
set_option maxRecDepth 20000 in
theorem gX5_jump_X5_keeps : GoodIn wsX5_jump (wsV RX5 92 RX5 yX5_keeps wsX5_keeps) := goodIn_app (goodIn_of _ (by decide +kernel)) ggX5_jump_X5_keeps
set_option maxRecDepth 20000 in
theorem ggX5_jump_X5_jumped : GoodIn wsX5_jump wsX5_jumped := goodIn_r _ [14, 15, 6, 16, 17, 18, 4, 19, 20, 21, 22, 23, 24, 25, 26, 27, 28, 29, 30, 31, 32, 33, 34, 35, 36, 37, 38, 39, 40, 41, 42, 43, 44, 45, 46, 47, 48, 49, 50, 51, 52, 53, 54, 55, 56, 57, 65, 66, 67, 68, 69, 70, 71, 72, 73, 74, 75, 76] (by decide +kernel) (by decide +kernel)
set_option maxRecDepth 20000 in
theorem gX5_jump_X5_jumped : GoodIn wsX5_jump (wsV RX5 109 RX5 yX5_jumped wsX5_jumped) := goodIn_app (goodIn_of _ (by decide +kernel)) ggX5_jump_X5_jumped
set_option maxRecDepth 20000 in
theorem ggX5_jump_X5_acted : GoodIn wsX5_jump wsX5_acted := goodIn_r _ [61, 62, 15, 63, 64, 7, 17, 18, 4, 19, 8, 9, 10, 65, 66, 67, 68, 69, 70, 71, 72, 73, 74, 75, 76] (by decide +kernel) (by decide +kernel)
set_option maxRecDepth 20000 in
theorem gX5_jump_X5_acted : GoodIn wsX5_jump (wsV RX5 99 RX5 yX5_acted wsX5_acted) := goodIn_app (goodIn_of _ (by decide +kernel)) ggX5_jump_X5_acted
theorem dX5_jump_0 : decode cX5_jump 0 = .ok (.aload_n 0, 1) := by decide +kernel
theorem dX5_jump_1 : decode cX5_jump 1 = .ok (.invokevirtual 92, 3) := by decide +kernel
theorem dX5_jump_4 : decode cX5_jump 4 = .ok (.aload_n 0, 1) := by decide +kernel
theorem dX5_jump_5 : decode cX5_jump 5 = .ok (.aload_n 0, 1) := by decide +kernel
theorem dX5_jump_6 : decode cX5_jump 6 = .ok (.iload_n 1, 1) := by decide +kernel
theorem dX5_jump_7 : decode cX5_jump 7 = .ok (.invokevirtual 109, 3) := by decide +kernel
theorem dX5_jump_10 : decode cX5_jump 10 = .ok (.invokevirtual 99, 3) := by decide +kernel
theorem dX5_jump_13 : decode cX5_jump 13 = .ok (.ireturn, 1) := by decide +kernel
set_option maxRecDepth 20000 in
theorem ggX5_goTo_X5_keeps : GoodIn wsX5_goTo wsX5_keeps := goodIn_r _ [5, 6, 7, 8, 9, 4, 10, 42, 43, 44, 45, 46, 47, 48, 49, 50, 51, 52, 53] (by decide +kernel) (by decide +kernel)
set_option maxRecDepth 20000 in
theorem gX5_goTo_X5_keeps : GoodIn wsX5_goTo (wsV RX5 92 RX5 yX5_keeps wsX5_keeps) := goodIn_app (goodIn_of _ (by decide +kernel)) ggX5_goTo_X5_keeps
set_option maxRecDepth 20000 in
theorem ggX5_goTo_X5_gone : GoodIn wsX5_goTo wsX5_gone := goodIn_r _ [14, 15, 6, 16, 17, 18, 4, 19, 20, 21, 22, 23, 24, 25, 26, 27, 28, 29, 30, 31, 32, 33, 34, 42, 43, 44, 45, 46, 47, 48, 49, 50, 51, 52, 53] (by decide +kernel) (by decide +kernel)
set_option maxRecDepth 20000 in
theorem gX5_goTo_X5_gone : GoodIn wsX5_goTo (wsV RX5 112 RX5 yX5_gone wsX5_gone) := goodIn_app (goodIn_of _ (by decide +kernel)) ggX5_goTo_X5_gone
set_option maxRecDepth 20000 in
theorem ggX5_goTo_X5_acted : GoodIn wsX5_goTo wsX5_acted := goodIn_r _ [38, 39, 15, 40, 41, 7, 20, 21, 4, 22, 8, 9, 10, 42, 43, 44, 45, 46, 47, 48, 49, 50, 51, 52, 53] (by decide +kernel) (by decide +kernel)
set_option maxRecDepth 20000 in
theorem gX5_goTo_X5_acted : GoodIn wsX5_goTo (wsV RX5 99 RX5 yX5_acted wsX5_acted) := goodIn_app (goodIn_of _ (by decide +kernel)) ggX5_goTo_X5_acted
theorem dX5_goTo_0 : decode cX5_goTo 0 = .ok (.aload_n 0, 1) := by decide +kernel
theorem dX5_goTo_1 : decode cX5_goTo 1 = .ok (.invokevirtual 92, 3) := by decide +kernel
theorem dX5_goTo_4 : decode cX5_goTo 4 = .ok (.aload_n 0, 1) := by decide +kernel
theorem dX5_goTo_5 : decode cX5_goTo 5 = .ok (.aload_n 0, 1) := by decide +kernel
theorem dX5_goTo_6 : decode cX5_goTo 6 = .ok (.iload_n 1, 1) := by decide +kernel
theorem dX5_goTo_7 : decode cX5_goTo 7 = .ok (.invokevirtual 112, 3) := by decide +kernel
theorem dX5_goTo_10 : decode cX5_goTo 10 = .ok (.invokevirtual 99, 3) := by decide +kernel
theorem dX5_goTo_13 : decode cX5_goTo 13 = .ok (.ireturn, 1) := by decide +kernel
set_option maxRecDepth 20000 in
theorem ggX5_undo_X5_copies : GoodIn wsX5_undo wsX5_copies := goodIn_r _ [8] (by decide +kernel) (by decide +kernel)
set_option maxRecDepth 20000 in
theorem gX5_undo_X5_copies : GoodIn wsX5_undo (va_wsS RX5 31 yX5_copies wsX5_copies) := goodIn_app (goodIn_of _ (by decide +kernel)) ggX5_undo_X5_copies
theorem dX5_undo_0 : decode cX5_undo 0 = .ok (.aload_n 0, 1) := by decide +kernel
theorem dX5_undo_1 : decode cX5_undo 1 = .ok (.getfield 41, 3) := by decide +kernel
theorem dX5_undo_4 : decode cX5_undo 4 = .ok (.ifCond .ne 6, 3) := by decide +kernel
theorem dX5_undo_7 : decode cX5_undo 7 = .ok (.ldc 81, 2) := by decide +kernel
theorem dX5_undo_9 : decode cX5_undo 9 = .ok (.ireturn, 1) := by decide +kernel
theorem dX5_undo_10 : decode cX5_undo 10 = .ok (.aload_n 0, 1) := by decide +kernel
theorem dX5_undo_11 : decode cX5_undo 11 = .ok (.dup, 1) := by decide +kernel
theorem dX5_undo_12 : decode cX5_undo 12 = .ok (.getfield 41, 3) := by decide +kernel
theorem dX5_undo_15 : decode cX5_undo 15 = .ok (.iconst 1, 1) := by decide +kernel
theorem dX5_undo_16 : decode cX5_undo 16 = .ok (.isub, 1) := by decide +kernel
theorem dX5_undo_17 : decode cX5_undo 17 = .ok (.putfield 41, 3) := by decide +kernel
theorem dX5_undo_20 : decode cX5_undo 20 = .ok (.aload_n 0, 1) := by decide +kernel
theorem dX5_undo_21 : decode cX5_undo 21 = .ok (.getfield 19, 3) := by decide +kernel
theorem dX5_undo_24 : decode cX5_undo 24 = .ok (.sipush 305, 3) := by decide +kernel
theorem dX5_undo_27 : decode cX5_undo 27 = .ok (.aload_n 0, 1) := by decide +kernel
theorem dX5_undo_28 : decode cX5_undo 28 = .ok (.getfield 41, 3) := by decide +kernel
theorem dX5_undo_31 : decode cX5_undo 31 = .ok (.imul, 1) := by decide +kernel
theorem dX5_undo_32 : decode cX5_undo 32 = .ok (.aload_n 0, 1) := by decide +kernel
theorem dX5_undo_33 : decode cX5_undo 33 = .ok (.getfield 7, 3) := by decide +kernel
theorem dX5_undo_36 : decode cX5_undo 36 = .ok (.iconst 0, 1) := by decide +kernel
theorem dX5_undo_37 : decode cX5_undo 37 = .ok (.invokestatic 31, 3) := by decide +kernel
theorem dX5_undo_40 : decode cX5_undo 40 = .ok (.aload_n 0, 1) := by decide +kernel
theorem dX5_undo_41 : decode cX5_undo 41 = .ok (.getfield 41, 3) := by decide +kernel
theorem dX5_undo_44 : decode cX5_undo 44 = .ok (.ireturn, 1) := by decide +kernel
set_option maxRecDepth 20000 in
theorem ggX5_append_X5_in : GoodIn wsX5_append wsX5_in := goodIn_r _ [8] (by decide +kernel) (by decide +kernel)
set_option maxRecDepth 20000 in
theorem gX5_append_X5_in : GoodIn wsX5_append (va_wsS RX5 37 yX5_in wsX5_in) := goodIn_app (goodIn_of _ (by decide +kernel)) ggX5_append_X5_in
theorem dX5_append_0 : decode cX5_append 0 = .ok (.iload_n 1, 1) := by decide +kernel
theorem dX5_append_1 : decode cX5_append 1 = .ok (.iconst 1, 1) := by decide +kernel
theorem dX5_append_2 : decode cX5_append 2 = .ok (.sipush 255, 3) := by decide +kernel
theorem dX5_append_5 : decode cX5_append 5 = .ok (.invokestatic 37, 3) := by decide +kernel
theorem dX5_append_8 : decode cX5_append 8 = .ok (.ifCond .ne 6, 3) := by decide +kernel
theorem dX5_append_11 : decode cX5_append 11 = .ok (.ldc 36, 2) := by decide +kernel
theorem dX5_append_13 : decode cX5_append 13 = .ok (.ireturn, 1) := by decide +kernel
theorem dX5_append_14 : decode cX5_append 14 = .ok (.aload_n 0, 1) := by decide +kernel
theorem dX5_append_15 : decode cX5_append 15 = .ok (.getfield 115, 3) := by decide +kernel
theorem dX5_append_18 : decode cX5_append 18 = .ok (.bipush 100, 2) := by decide +kernel
theorem dX5_append_20 : decode cX5_append 20 = .ok (.if_icmp .ne 6, 3) := by decide +kernel
theorem dX5_append_23 : decode cX5_append 23 = .ok (.ldc 35, 2) := by decide +kernel
theorem dX5_append_25 : decode cX5_append 25 = .ok (.ireturn, 1) := by decide +kernel
theorem dX5_append_26 : decode cX5_append 26 = .ok (.aload_n 0, 1) := by decide +kernel
theorem dX5_append_27 : decode cX5_append 27 = .ok (.getfield 22, 3) := by decide +kernel
theorem dX5_append_30 : decode cX5_append 30 = .ok (.aload_n 0, 1) := by decide +kernel
theorem dX5_append_31 : decode cX5_append 31 = .ok (.getfield 115, 3) := by decide +kernel
theorem dX5_append_34 : decode cX5_append 34 = .ok (.iload_n 1, 1) := by decide +kernel
theorem dX5_append_35 : decode cX5_append 35 = .ok (.iastore, 1) := by decide +kernel
theorem dX5_append_36 : decode cX5_append 36 = .ok (.aload_n 0, 1) := by decide +kernel
theorem dX5_append_37 : decode cX5_append 37 = .ok (.dup, 1) := by decide +kernel
theorem dX5_append_38 : decode cX5_append 38 = .ok (.getfield 115, 3) := by decide +kernel
theorem dX5_append_41 : decode cX5_append 41 = .ok (.iconst 1, 1) := by decide +kernel
theorem dX5_append_42 : decode cX5_append 42 = .ok (.iadd, 1) := by decide +kernel
theorem dX5_append_43 : decode cX5_append 43 = .ok (.putfield 115, 3) := by decide +kernel
theorem dX5_append_46 : decode cX5_append 46 = .ok (.aload_n 0, 1) := by decide +kernel
theorem dX5_append_47 : decode cX5_append 47 = .ok (.getfield 115, 3) := by decide +kernel
theorem dX5_append_50 : decode cX5_append 50 = .ok (.ireturn, 1) := by decide +kernel
theorem dX5_clearText_0 : decode cX5_clearText 0 = .ok (.aload_n 0, 1) := by decide +kernel
theorem dX5_clearText_1 : decode cX5_clearText 1 = .ok (.getfield 115, 3) := by decide +kernel
theorem dX5_clearText_4 : decode cX5_clearText 4 = .ok (.istore_n 1, 1) := by decide +kernel
theorem dX5_clearText_5 : decode cX5_clearText 5 = .ok (.aload_n 0, 1) := by decide +kernel
theorem dX5_clearText_6 : decode cX5_clearText 6 = .ok (.iconst 0, 1) := by decide +kernel
theorem dX5_clearText_7 : decode cX5_clearText 7 = .ok (.putfield 115, 3) := by decide +kernel
theorem dX5_clearText_10 : decode cX5_clearText 10 = .ok (.iload_n 1, 1) := by decide +kernel
theorem dX5_clearText_11 : decode cX5_clearText 11 = .ok (.ireturn, 1) := by decide +kernel
theorem dX5_next_0 : decode cX5_next 0 = .ok (.aload_n 0, 1) := by decide +kernel
theorem dX5_next_1 : decode cX5_next 1 = .ok (.getfield 118, 3) := by decide +kernel
theorem dX5_next_4 : decode cX5_next 4 = .ok (.aload_n 0, 1) := by decide +kernel
theorem dX5_next_5 : decode cX5_next 5 = .ok (.getfield 115, 3) := by decide +kernel
theorem dX5_next_8 : decode cX5_next 8 = .ok (.if_icmp .ge 15, 3) := by decide +kernel
theorem dX5_next_11 : decode cX5_next 11 = .ok (.aload_n 0, 1) := by decide +kernel
theorem dX5_next_12 : decode cX5_next 12 = .ok (.getfield 22, 3) := by decide +kernel
theorem dX5_next_15 : decode cX5_next 15 = .ok (.aload_n 0, 1) := by decide +kernel
theorem dX5_next_16 : decode cX5_next 16 = .ok (.getfield 118, 3) := by decide +kernel
theorem dX5_next_19 : decode cX5_next 19 = .ok (.iaload, 1) := by decide +kernel
theorem dX5_next_20 : decode cX5_next 20 = .ok (.goto 4, 3) := by decide +kernel
theorem dX5_next_23 : decode cX5_next 23 = .ok (.iconst (-1), 1) := by decide +kernel
theorem dX5_next_24 : decode cX5_next 24 = .ok (.ireturn, 1) := by decide +kernel
set_option maxRecDepth 20000 in
theorem ggX5_begins_X5_next : GoodIn wsX5_begins wsX5_next := goodIn_r _ [7, 1, 8, 9, 10, 11, 12, 13, 14, 15, 16, 17, 18, 19, 20, 21] (by decide +kernel) (by decide +kernel)
set_option maxRecDepth 20000 in
theorem gX5_begins_X5_next : GoodIn wsX5_begins (wsV RX5 121 RX5 yX5_next wsX5_next) := goodIn_app (goodIn_of _ (by decide +kernel)) ggX5_begins_X5_next
theorem dX5_begins_0 : decode cX5_begins 0 = .ok (.aload_n 0, 1) := by decide +kernel
theorem dX5_begins_1 : decode cX5_begins 1 = .ok (.invokevirtual 121, 3) := by decide +kernel
theorem dX5_begins_4 : decode cX5_begins 4 = .ok (.bipush 32, 2) := by decide +kernel
theorem dX5_begins_6 : decode cX5_begins 6 = .ok (.if_icmp .ne 16, 3) := by decide +kernel
theorem dX5_begins_9 : decode cX5_begins 9 = .ok (.aload_n 0, 1) := by decide +kernel
theorem dX5_begins_10 : decode cX5_begins 10 = .ok (.dup, 1) := by decide +kernel
theorem dX5_begins_11 : decode cX5_begins 11 = .ok (.getfield 118, 3) := by decide +kernel
theorem dX5_begins_14 : decode cX5_begins 14 = .ok (.iconst 1, 1) := by decide +kernel
theorem dX5_begins_15 : decode cX5_begins 15 = .ok (.iadd, 1) := by decide +kernel
theorem dX5_begins_16 : decode cX5_begins 16 = .ok (.putfield 118, 3) := by decide +kernel
theorem dX5_begins_19 : decode cX5_begins 19 = .ok (.goto (-19), 3) := by decide +kernel
theorem dX5_begins_22 : decode cX5_begins 22 = .ok (.aload_n 0, 1) := by decide +kernel
theorem dX5_begins_23 : decode cX5_begins 23 = .ok (.aload_n 0, 1) := by decide +kernel
theorem dX5_begins_24 : decode cX5_begins 24 = .ok (.getfield 118, 3) := by decide +kernel
theorem dX5_begins_27 : decode cX5_begins 27 = .ok (.putfield 125, 3) := by decide +kernel
theorem dX5_begins_30 : decode cX5_begins 30 = .ok (.return_, 1) := by decide +kernel
set_option maxRecDepth 20000 in
theorem ggX5_word_X5_begins : GoodIn wsX5_word wsX5_begins := goodIn_r _ [7, 1, 2, 8, 9, 10, 6, 11, 12, 13, 17, 18, 19, 20, 21, 22, 23, 24, 25, 26, 27, 28] (by decide +kernel) (by decide +kernel)
set_option maxRecDepth 20000 in
theorem gX5_word_X5_begins : GoodIn wsX5_word (wsV RX5 128 RX5 yX5_begins wsX5_begins) := goodIn_app (goodIn_of _ (by decide +kernel)) ggX5_word_X5_begins
set_option maxRecDepth 20000 in
theorem ggX5_word_X5_next : GoodIn wsX5_word wsX5_next := goodIn_r _ [11, 1, 12, 13, 17, 18, 19, 20, 21, 22, 23, 24, 25, 26, 27, 28] (by decide +kernel) (by decide +kernel)
set_option maxRecDepth 20000 in
theorem gX5_word_X5_next : GoodIn wsX5_word (wsV RX5 121 RX5 yX5_next wsX5_next) := goodIn_app (goodIn_of _ (by decide +kernel)) ggX5_word_X5_next
set_option maxRecDepth 20000 in
theorem ggX5_word_X5_in : GoodIn wsX5_word wsX5_in := goodIn_r _ [16] (by decide +kernel) (by decide +kernel)
set_option maxRecDepth 20000 in
theorem gX5_word_X5_in : GoodIn wsX5_word (va_wsS RX5 37 yX5_in wsX5_in) := goodIn_app (goodIn_of _ (by decide +kernel)) ggX5_word_X5_in
theorem dX5_word_0 : decode cX5_word 0 = .ok (.aload_n 0, 1) := by decide +kernel
theorem dX5_word_1 : decode cX5_word 1 = .ok (.invokevirtual 128, 3) := by decide +kernel
theorem dX5_word_4 : decode cX5_word 4 = .ok (.iconst 0, 1) := by decide +kernel
theorem dX5_word_5 : decode cX5_word 5 = .ok (.istore_n 1, 1) := by decide +kernel
theorem dX5_word_6 : decode cX5_word 6 = .ok (.aload_n 0, 1) := by decide +kernel
theorem dX5_word_7 : decode cX5_word 7 = .ok (.invokevirtual 121, 3) := by decide +kernel
theorem dX5_word_10 : decode cX5_word 10 = .ok (.bipush 97, 2) := by decide +kernel
theorem dX5_word_12 : decode cX5_word 12 = .ok (.bipush 122, 2) := by decide +kernel
theorem dX5_word_14 : decode cX5_word 14 = .ok (.invokestatic 37, 3) := by decide +kernel
theorem dX5_word_17 : decode cX5_word 17 = .ok (.ifCond .eq 46, 3) := by decide +kernel
theorem dX5_word_20 : decode cX5_word 20 = .ok (.aload_n 0, 1) := by decide +kernel
theorem dX5_word_21 : decode cX5_word 21 = .ok (.getfield 118, 3) := by decide +kernel
theorem dX5_word_24 : decode cX5_word 24 = .ok (.aload_n 0, 1) := by decide +kernel
theorem dX5_word_25 : decode cX5_word 25 = .ok (.getfield 125, 3) := by decide +kernel
theorem dX5_word_28 : decode cX5_word 28 = .ok (.isub, 1) := by decide +kernel
theorem dX5_word_29 : decode cX5_word 29 = .ok (.iconst 5, 1) := by decide +kernel
theorem dX5_word_30 : decode cX5_word 30 = .ok (.if_icmp .ge 18, 3) := by decide +kernel
theorem dX5_word_33 : decode cX5_word 33 = .ok (.bipush 32, 2) := by decide +kernel
theorem dX5_word_35 : decode cX5_word 35 = .ok (.iload_n 1, 1) := by decide +kernel
theorem dX5_word_36 : decode cX5_word 36 = .ok (.imul, 1) := by decide +kernel
theorem dX5_word_37 : decode cX5_word 37 = .ok (.aload_n 0, 1) := by decide +kernel
theorem dX5_word_38 : decode cX5_word 38 = .ok (.invokevirtual 121, 3) := by decide +kernel
theorem dX5_word_41 : decode cX5_word 41 = .ok (.iadd, 1) := by decide +kernel
theorem dX5_word_42 : decode cX5_word 42 = .ok (.bipush 96, 2) := by decide +kernel
theorem dX5_word_44 : decode cX5_word 44 = .ok (.isub, 1) := by decide +kernel
theorem dX5_word_45 : decode cX5_word 45 = .ok (.goto 4, 3) := by decide +kernel
theorem dX5_word_48 : decode cX5_word 48 = .ok (.iconst 0, 1) := by decide +kernel
theorem dX5_word_49 : decode cX5_word 49 = .ok (.istore_n 1, 1) := by decide +kernel
theorem dX5_word_50 : decode cX5_word 50 = .ok (.aload_n 0, 1) := by decide +kernel
theorem dX5_word_51 : decode cX5_word 51 = .ok (.dup, 1) := by decide +kernel
theorem dX5_word_52 : decode cX5_word 52 = .ok (.getfield 118, 3) := by decide +kernel
theorem dX5_word_55 : decode cX5_word 55 = .ok (.iconst 1, 1) := by decide +kernel
theorem dX5_word_56 : decode cX5_word 56 = .ok (.iadd, 1) := by decide +kernel
theorem dX5_word_57 : decode cX5_word 57 = .ok (.putfield 118, 3) := by decide +kernel
theorem dX5_word_60 : decode cX5_word 60 = .ok (.goto (-54), 3) := by decide +kernel
theorem dX5_word_63 : decode cX5_word 63 = .ok (.aload_n 0, 1) := by decide +kernel
theorem dX5_word_64 : decode cX5_word 64 = .ok (.getfield 118, 3) := by decide +kernel
theorem dX5_word_67 : decode cX5_word 67 = .ok (.aload_n 0, 1) := by decide +kernel
theorem dX5_word_68 : decode cX5_word 68 = .ok (.getfield 125, 3) := by decide +kernel
theorem dX5_word_71 : decode cX5_word 71 = .ok (.isub, 1) := by decide +kernel
theorem dX5_word_72 : decode cX5_word 72 = .ok (.bipush 6, 2) := by decide +kernel
theorem dX5_word_74 : decode cX5_word 74 = .ok (.if_icmp .ge 7, 3) := by decide +kernel
theorem dX5_word_77 : decode cX5_word 77 = .ok (.iload_n 1, 1) := by decide +kernel
theorem dX5_word_78 : decode cX5_word 78 = .ok (.goto 4, 3) := by decide +kernel
theorem dX5_word_81 : decode cX5_word 81 = .ok (.iconst 0, 1) := by decide +kernel
theorem dX5_word_82 : decode cX5_word 82 = .ok (.ireturn, 1) := by decide +kernel
set_option maxRecDepth 20000 in
theorem ggX5_number_X5_begins : GoodIn wsX5_number wsX5_begins := goodIn_r _ [9, 1, 2, 10, 11, 12, 8, 13, 14, 3, 18, 19, 20, 21, 22, 23, 24, 25, 26, 27, 28, 29] (by decide +kernel) (by decide +kernel)
set_option maxRecDepth 20000 in
theorem gX5_number_X5_begins : GoodIn wsX5_number (wsV RX5 128 RX5 yX5_begins wsX5_begins) := goodIn_app (goodIn_of _ (by decide +kernel)) ggX5_number_X5_begins
set_option maxRecDepth 20000 in
theorem ggX5_number_X5_next : GoodIn wsX5_number wsX5_next := goodIn_r _ [13, 1, 14, 3, 18, 19, 20, 21, 22, 23, 24, 25, 26, 27, 28, 29] (by decide +kernel) (by decide +kernel)
set_option maxRecDepth 20000 in
theorem gX5_number_X5_next : GoodIn wsX5_number (wsV RX5 121 RX5 yX5_next wsX5_next) := goodIn_app (goodIn_of _ (by decide +kernel)) ggX5_number_X5_next
set_option maxRecDepth 20000 in
theorem ggX5_number_X5_in : GoodIn wsX5_number wsX5_in := goodIn_r _ [17] (by decide +kernel) (by decide +kernel)
set_option maxRecDepth 20000 in
theorem gX5_number_X5_in : GoodIn wsX5_number (va_wsS RX5 37 yX5_in wsX5_in) := goodIn_app (goodIn_of _ (by decide +kernel)) ggX5_number_X5_in
theorem dX5_number_0 : decode cX5_number 0 = .ok (.aload_n 0, 1) := by decide +kernel
theorem dX5_number_1 : decode cX5_number 1 = .ok (.invokevirtual 128, 3) := by decide +kernel
theorem dX5_number_4 : decode cX5_number 4 = .ok (.iconst 0, 1) := by decide +kernel
theorem dX5_number_5 : decode cX5_number 5 = .ok (.istore_n 1, 1) := by decide +kernel
theorem dX5_number_6 : decode cX5_number 6 = .ok (.aload_n 0, 1) := by decide +kernel
theorem dX5_number_7 : decode cX5_number 7 = .ok (.invokevirtual 121, 3) := by decide +kernel
theorem dX5_number_10 : decode cX5_number 10 = .ok (.bipush 48, 2) := by decide +kernel
theorem dX5_number_12 : decode cX5_number 12 = .ok (.bipush 57, 2) := by decide +kernel
theorem dX5_number_14 : decode cX5_number 14 = .ok (.invokestatic 37, 3) := by decide +kernel
theorem dX5_number_17 : decode cX5_number 17 = .ok (.ifCond .eq 46, 3) := by decide +kernel
theorem dX5_number_20 : decode cX5_number 20 = .ok (.aload_n 0, 1) := by decide +kernel
theorem dX5_number_21 : decode cX5_number 21 = .ok (.getfield 118, 3) := by decide +kernel
theorem dX5_number_24 : decode cX5_number 24 = .ok (.aload_n 0, 1) := by decide +kernel
theorem dX5_number_25 : decode cX5_number 25 = .ok (.getfield 125, 3) := by decide +kernel
theorem dX5_number_28 : decode cX5_number 28 = .ok (.isub, 1) := by decide +kernel
theorem dX5_number_29 : decode cX5_number 29 = .ok (.iconst 4, 1) := by decide +kernel
theorem dX5_number_30 : decode cX5_number 30 = .ok (.if_icmp .ge 18, 3) := by decide +kernel
theorem dX5_number_33 : decode cX5_number 33 = .ok (.bipush 10, 2) := by decide +kernel
theorem dX5_number_35 : decode cX5_number 35 = .ok (.iload_n 1, 1) := by decide +kernel
theorem dX5_number_36 : decode cX5_number 36 = .ok (.imul, 1) := by decide +kernel
theorem dX5_number_37 : decode cX5_number 37 = .ok (.aload_n 0, 1) := by decide +kernel
theorem dX5_number_38 : decode cX5_number 38 = .ok (.invokevirtual 121, 3) := by decide +kernel
theorem dX5_number_41 : decode cX5_number 41 = .ok (.iadd, 1) := by decide +kernel
theorem dX5_number_42 : decode cX5_number 42 = .ok (.bipush 48, 2) := by decide +kernel
theorem dX5_number_44 : decode cX5_number 44 = .ok (.isub, 1) := by decide +kernel
theorem dX5_number_45 : decode cX5_number 45 = .ok (.goto 4, 3) := by decide +kernel
theorem dX5_number_48 : decode cX5_number 48 = .ok (.iload_n 1, 1) := by decide +kernel
theorem dX5_number_49 : decode cX5_number 49 = .ok (.istore_n 1, 1) := by decide +kernel
theorem dX5_number_50 : decode cX5_number 50 = .ok (.aload_n 0, 1) := by decide +kernel
theorem dX5_number_51 : decode cX5_number 51 = .ok (.dup, 1) := by decide +kernel
theorem dX5_number_52 : decode cX5_number 52 = .ok (.getfield 118, 3) := by decide +kernel
theorem dX5_number_55 : decode cX5_number 55 = .ok (.iconst 1, 1) := by decide +kernel
theorem dX5_number_56 : decode cX5_number 56 = .ok (.iadd, 1) := by decide +kernel
theorem dX5_number_57 : decode cX5_number 57 = .ok (.putfield 118, 3) := by decide +kernel
theorem dX5_number_60 : decode cX5_number 60 = .ok (.goto (-54), 3) := by decide +kernel
theorem dX5_number_63 : decode cX5_number 63 = .ok (.aload_n 0, 1) := by decide +kernel
theorem dX5_number_64 : decode cX5_number 64 = .ok (.getfield 118, 3) := by decide +kernel
theorem dX5_number_67 : decode cX5_number 67 = .ok (.aload_n 0, 1) := by decide +kernel
theorem dX5_number_68 : decode cX5_number 68 = .ok (.getfield 125, 3) := by decide +kernel
theorem dX5_number_71 : decode cX5_number 71 = .ok (.isub, 1) := by decide +kernel
theorem dX5_number_72 : decode cX5_number 72 = .ok (.istore_n 2, 1) := by decide +kernel
theorem dX5_number_73 : decode cX5_number 73 = .ok (.aload_n 0, 1) := by decide +kernel
theorem dX5_number_74 : decode cX5_number 74 = .ok (.iload_n 2, 1) := by decide +kernel
theorem dX5_number_75 : decode cX5_number 75 = .ok (.iconst 1, 1) := by decide +kernel
theorem dX5_number_76 : decode cX5_number 76 = .ok (.iconst 4, 1) := by decide +kernel
theorem dX5_number_77 : decode cX5_number 77 = .ok (.invokestatic 37, 3) := by decide +kernel
theorem dX5_number_80 : decode cX5_number 80 = .ok (.ifCond .eq 22, 3) := by decide +kernel
theorem dX5_number_83 : decode cX5_number 83 = .ok (.iload_n 2, 1) := by decide +kernel
theorem dX5_number_84 : decode cX5_number 84 = .ok (.iconst 1, 1) := by decide +kernel
theorem dX5_number_85 : decode cX5_number 85 = .ok (.if_icmp .le 21, 3) := by decide +kernel
theorem dX5_number_88 : decode cX5_number 88 = .ok (.aload_n 0, 1) := by decide +kernel
theorem dX5_number_89 : decode cX5_number 89 = .ok (.getfield 22, 3) := by decide +kernel
theorem dX5_number_92 : decode cX5_number 92 = .ok (.aload_n 0, 1) := by decide +kernel
theorem dX5_number_93 : decode cX5_number 93 = .ok (.getfield 125, 3) := by decide +kernel
theorem dX5_number_96 : decode cX5_number 96 = .ok (.iaload, 1) := by decide +kernel
theorem dX5_number_97 : decode cX5_number 97 = .ok (.bipush 48, 2) := by decide +kernel
theorem dX5_number_99 : decode cX5_number 99 = .ok (.if_icmp .ne 7, 3) := by decide +kernel
theorem dX5_number_102 : decode cX5_number 102 = .ok (.iconst 1, 1) := by decide +kernel
theorem dX5_number_103 : decode cX5_number 103 = .ok (.goto 4, 3) := by decide +kernel
theorem dX5_number_106 : decode cX5_number 106 = .ok (.iconst 0, 1) := by decide +kernel
theorem dX5_number_107 : decode cX5_number 107 = .ok (.putfield 131, 3) := by decide +kernel
theorem dX5_number_110 : decode cX5_number 110 = .ok (.iload_n 1, 1) := by decide +kernel
theorem dX5_number_111 : decode cX5_number 111 = .ok (.ireturn, 1) := by decide +kernel
theorem dX5_numbersOf_0 : decode cX5_numbersOf 0 = .ok (.iload_n 0, 1) := by decide +kernel
theorem dX5_numbersOf_1 : decode cX5_numbersOf 1 = .ok (.lookupswitch 71 #[(655, 69), (688, 65), (3764, 61), (17076, 59), (147182, 63), (20186693, 67)], 59) := by decide +kernel
theorem dX5_numbersOf_60 : decode cX5_numbersOf 60 = .ok (.iconst 3, 1) := by decide +kernel
theorem dX5_numbersOf_61 : decode cX5_numbersOf 61 = .ok (.ireturn, 1) := by decide +kernel
theorem dX5_numbersOf_62 : decode cX5_numbersOf 62 = .ok (.iconst 1, 1) := by decide +kernel
theorem dX5_numbersOf_63 : decode cX5_numbersOf 63 = .ok (.ireturn, 1) := by decide +kernel
theorem dX5_numbersOf_64 : decode cX5_numbersOf 64 = .ok (.iconst 1, 1) := by decide +kernel
theorem dX5_numbersOf_65 : decode cX5_numbersOf 65 = .ok (.ireturn, 1) := by decide +kernel
theorem dX5_numbersOf_66 : decode cX5_numbersOf 66 = .ok (.iconst 1, 1) := by decide +kernel
theorem dX5_numbersOf_67 : decode cX5_numbersOf 67 = .ok (.ireturn, 1) := by decide +kernel
theorem dX5_numbersOf_68 : decode cX5_numbersOf 68 = .ok (.iconst 1, 1) := by decide +kernel
theorem dX5_numbersOf_69 : decode cX5_numbersOf 69 = .ok (.ireturn, 1) := by decide +kernel
theorem dX5_numbersOf_70 : decode cX5_numbersOf 70 = .ok (.iconst 1, 1) := by decide +kernel
theorem dX5_numbersOf_71 : decode cX5_numbersOf 71 = .ok (.ireturn, 1) := by decide +kernel
theorem dX5_numbersOf_72 : decode cX5_numbersOf 72 = .ok (.iconst 0, 1) := by decide +kernel
theorem dX5_numbersOf_73 : decode cX5_numbersOf 73 = .ok (.ireturn, 1) := by decide +kernel
set_option maxRecDepth 20000 in
theorem ggX5_does_X5_puts : GoodIn wsX5_does wsX5_puts := goodIn_r _ [6, 7, 8, 9, 10, 11, 5, 12, 13, 14, 15, 16, 17, 18, 19, 20, 21, 22, 23, 24, 25, 26, 27, 28, 29, 30, 31, 32, 33, 34, 35, 36, 37, 38, 39, 40, 41, 75, 76, 77, 78, 79, 80, 81, 82, 83, 84, 85, 86] (by decide +kernel) (by decide +kernel)
set_option maxRecDepth 20000 in
theorem gX5_does_X5_puts : GoodIn wsX5_does (wsV RX5 95 RX5 yX5_puts wsX5_puts) := goodIn_app (goodIn_of _ (by decide +kernel)) ggX5_does_X5_puts
set_option maxRecDepth 20000 in
theorem ggX5_does_X5_cuts : GoodIn wsX5_does wsX5_cuts := goodIn_r _ [45, 8, 7, 46, 47, 48, 5, 49, 10, 11, 12, 13, 14, 15, 16, 17, 18, 19, 20, 21, 22, 23, 24, 75, 76, 77, 78, 79, 80, 81, 82, 83, 84, 85, 86] (by decide +kernel) (by decide +kernel)
set_option maxRecDepth 20000 in
theorem gX5_does_X5_cuts : GoodIn wsX5_does (wsV RX5 103 RX5 yX5_cuts wsX5_cuts) := goodIn_app (goodIn_of _ (by decide +kernel)) ggX5_does_X5_cuts
set_option maxRecDepth 20000 in
theorem ggX5_does_X5_scrolled : GoodIn wsX5_does wsX5_scrolled := goodIn_r _ [53, 8, 7, 54, 10, 11, 5, 12, 55, 56, 57, 22, 23, 24, 13, 14, 15, 19, 20, 21, 16, 17, 18, 75, 76, 77, 78, 79, 80, 81, 82, 83, 84, 85, 86] (by decide +kernel) (by decide +kernel)
set_option maxRecDepth 20000 in
theorem gX5_does_X5_scrolled : GoodIn wsX5_does (wsV RX5 106 RX5 yX5_scrolled wsX5_scrolled) := goodIn_app (goodIn_of _ (by decide +kernel)) ggX5_does_X5_scrolled
set_option maxRecDepth 20000 in
theorem ggX5_does_X5_jumped : GoodIn wsX5_does wsX5_jumped := goodIn_r _ [61, 8, 7, 54, 10, 11, 5, 12, 62, 63, 64, 65, 25, 26, 27, 28, 29, 30, 31, 32, 33, 34, 35, 36, 37, 13, 14, 15, 19, 20, 21, 38, 39, 40, 41, 66, 67, 68, 69, 70, 16, 17, 18, 22, 23, 24, 75, 76, 77, 78, 79, 80, 81, 82, 83, 84, 85, 86] (by decide +kernel) (by decide +kernel)
set_option maxRecDepth 20000 in
theorem gX5_does_X5_jumped : GoodIn wsX5_does (wsV RX5 109 RX5 yX5_jumped wsX5_jumped) := goodIn_app (goodIn_of _ (by decide +kernel)) ggX5_does_X5_jumped
set_option maxRecDepth 20000 in
theorem ggX5_does_X5_gone : GoodIn wsX5_does wsX5_gone := goodIn_r _ [74, 8, 7, 46, 47, 48, 5, 49, 10, 11, 12, 16, 17, 18, 13, 14, 15, 19, 20, 21, 22, 23, 24, 75, 76, 77, 78, 79, 80, 81, 82, 83, 84, 85, 86] (by decide +kernel) (by decide +kernel)
set_option maxRecDepth 20000 in
theorem gX5_does_X5_gone : GoodIn wsX5_does (wsV RX5 112 RX5 yX5_gone wsX5_gone) := goodIn_app (goodIn_of _ (by decide +kernel)) ggX5_does_X5_gone
theorem dX5_does_0 : decode cX5_does 0 = .ok (.iload_n 1, 1) := by decide +kernel
theorem dX5_does_1 : decode cX5_does 1 = .ok (.lookupswitch 119 #[(688, 96), (3764, 74), (17076, 51), (147182, 85), (20186693, 108)], 51) := by decide +kernel
theorem dX5_does_52 : decode cX5_does 52 = .ok (.aload_n 0, 1) := by decide +kernel
theorem dX5_does_53 : decode cX5_does 53 = .ok (.aload_n 0, 1) := by decide +kernel
theorem dX5_does_54 : decode cX5_does 54 = .ok (.getfield 28, 3) := by decide +kernel
theorem dX5_does_57 : decode cX5_does 57 = .ok (.iconst 0, 1) := by decide +kernel
theorem dX5_does_58 : decode cX5_does 58 = .ok (.iaload, 1) := by decide +kernel
theorem dX5_does_59 : decode cX5_does 59 = .ok (.aload_n 0, 1) := by decide +kernel
theorem dX5_does_60 : decode cX5_does 60 = .ok (.getfield 28, 3) := by decide +kernel
theorem dX5_does_63 : decode cX5_does 63 = .ok (.iconst 1, 1) := by decide +kernel
theorem dX5_does_64 : decode cX5_does 64 = .ok (.iaload, 1) := by decide +kernel
theorem dX5_does_65 : decode cX5_does 65 = .ok (.aload_n 0, 1) := by decide +kernel
theorem dX5_does_66 : decode cX5_does 66 = .ok (.getfield 28, 3) := by decide +kernel
theorem dX5_does_69 : decode cX5_does 69 = .ok (.iconst 2, 1) := by decide +kernel
theorem dX5_does_70 : decode cX5_does 70 = .ok (.iaload, 1) := by decide +kernel
theorem dX5_does_71 : decode cX5_does 71 = .ok (.invokevirtual 95, 3) := by decide +kernel
theorem dX5_does_74 : decode cX5_does 74 = .ok (.ireturn, 1) := by decide +kernel
theorem dX5_does_75 : decode cX5_does 75 = .ok (.aload_n 0, 1) := by decide +kernel
theorem dX5_does_76 : decode cX5_does 76 = .ok (.aload_n 0, 1) := by decide +kernel
theorem dX5_does_77 : decode cX5_does 77 = .ok (.getfield 28, 3) := by decide +kernel
theorem dX5_does_80 : decode cX5_does 80 = .ok (.iconst 0, 1) := by decide +kernel
theorem dX5_does_81 : decode cX5_does 81 = .ok (.iaload, 1) := by decide +kernel
theorem dX5_does_82 : decode cX5_does 82 = .ok (.invokevirtual 103, 3) := by decide +kernel
theorem dX5_does_85 : decode cX5_does 85 = .ok (.ireturn, 1) := by decide +kernel
theorem dX5_does_86 : decode cX5_does 86 = .ok (.aload_n 0, 1) := by decide +kernel
theorem dX5_does_87 : decode cX5_does 87 = .ok (.aload_n 0, 1) := by decide +kernel
theorem dX5_does_88 : decode cX5_does 88 = .ok (.getfield 28, 3) := by decide +kernel
theorem dX5_does_91 : decode cX5_does 91 = .ok (.iconst 0, 1) := by decide +kernel
theorem dX5_does_92 : decode cX5_does 92 = .ok (.iaload, 1) := by decide +kernel
theorem dX5_does_93 : decode cX5_does 93 = .ok (.invokevirtual 106, 3) := by decide +kernel
theorem dX5_does_96 : decode cX5_does 96 = .ok (.ireturn, 1) := by decide +kernel
theorem dX5_does_97 : decode cX5_does 97 = .ok (.aload_n 0, 1) := by decide +kernel
theorem dX5_does_98 : decode cX5_does 98 = .ok (.aload_n 0, 1) := by decide +kernel
theorem dX5_does_99 : decode cX5_does 99 = .ok (.getfield 28, 3) := by decide +kernel
theorem dX5_does_102 : decode cX5_does 102 = .ok (.iconst 0, 1) := by decide +kernel
theorem dX5_does_103 : decode cX5_does 103 = .ok (.iaload, 1) := by decide +kernel
theorem dX5_does_104 : decode cX5_does 104 = .ok (.ineg, 1) := by decide +kernel
theorem dX5_does_105 : decode cX5_does 105 = .ok (.invokevirtual 106, 3) := by decide +kernel
theorem dX5_does_108 : decode cX5_does 108 = .ok (.ireturn, 1) := by decide +kernel
theorem dX5_does_109 : decode cX5_does 109 = .ok (.aload_n 0, 1) := by decide +kernel
theorem dX5_does_110 : decode cX5_does 110 = .ok (.aload_n 0, 1) := by decide +kernel
theorem dX5_does_111 : decode cX5_does 111 = .ok (.getfield 28, 3) := by decide +kernel
theorem dX5_does_114 : decode cX5_does 114 = .ok (.iconst 0, 1) := by decide +kernel
theorem dX5_does_115 : decode cX5_does 115 = .ok (.iaload, 1) := by decide +kernel
theorem dX5_does_116 : decode cX5_does 116 = .ok (.invokevirtual 109, 3) := by decide +kernel
theorem dX5_does_119 : decode cX5_does 119 = .ok (.ireturn, 1) := by decide +kernel
theorem dX5_does_120 : decode cX5_does 120 = .ok (.aload_n 0, 1) := by decide +kernel
theorem dX5_does_121 : decode cX5_does 121 = .ok (.aload_n 0, 1) := by decide +kernel
theorem dX5_does_122 : decode cX5_does 122 = .ok (.getfield 28, 3) := by decide +kernel
theorem dX5_does_125 : decode cX5_does 125 = .ok (.iconst 0, 1) := by decide +kernel
theorem dX5_does_126 : decode cX5_does 126 = .ok (.iaload, 1) := by decide +kernel
theorem dX5_does_127 : decode cX5_does 127 = .ok (.invokevirtual 112, 3) := by decide +kernel
theorem dX5_does_130 : decode cX5_does 130 = .ok (.ireturn, 1) := by decide +kernel
set_option maxRecDepth 20000 in
theorem ggX5_fails_X5_word : GoodIn wsX5_fails wsX5_word := goodIn_r _ [11, 4, 1, 12, 13, 14, 10, 15, 16, 17, 18, 19, 20, 21, 22, 23, 24, 103, 104, 105, 106, 107, 108, 109, 110, 111, 112, 113, 114] (by decide +kernel) (by decide +kernel)
set_option maxRecDepth 20000 in
theorem gX5_fails_X5_word : GoodIn wsX5_fails (wsV RX5 135 RX5 yX5_word wsX5_word) := goodIn_app (goodIn_of _ (by decide +kernel)) ggX5_fails_X5_word
set_option maxRecDepth 20000 in
theorem ggX5_fails_X5_numbersOf : GoodIn wsX5_fails wsX5_numbersOf := goodIn_r _ [27] (by decide +kernel) (by decide +kernel)
set_option maxRecDepth 20000 in
theorem gX5_fails_X5_numbersOf : GoodIn wsX5_fails (va_wsS RX5 138 yX5_numbersOf wsX5_numbersOf) := goodIn_app (goodIn_of _ (by decide +kernel)) ggX5_fails_X5_numbersOf
set_option maxRecDepth 20000 in
theorem ggX5_fails_X5_number : GoodIn wsX5_fails wsX5_number := goodIn_r _ [31, 4, 1, 21, 2, 12, 13, 14, 10, 15, 16, 17, 18, 19, 20, 22, 23, 24, 103, 104, 105, 106, 107, 108, 109, 110, 111, 112, 113, 114] (by decide +kernel) (by decide +kernel)
set_option maxRecDepth 20000 in
theorem gX5_fails_X5_number : GoodIn wsX5_fails (wsV RX5 141 RX5 yX5_number wsX5_number) := goodIn_app (goodIn_of _ (by decide +kernel)) ggX5_fails_X5_number
set_option maxRecDepth 20000 in
theorem ggX5_fails_X5_begins : GoodIn wsX5_fails wsX5_begins := goodIn_r _ [15, 4, 1, 16, 17, 18, 10, 19, 20, 21, 103, 104, 105, 106, 107, 108, 109, 110, 111, 112, 113, 114] (by decide +kernel) (by decide +kernel)
set_option maxRecDepth 20000 in
theorem gX5_fails_X5_begins : GoodIn wsX5_fails (wsV RX5 128 RX5 yX5_begins wsX5_begins) := goodIn_app (goodIn_of _ (by decide +kernel)) ggX5_fails_X5_begins
set_option maxRecDepth 20000 in
theorem ggX5_fails_X5_next : GoodIn wsX5_fails wsX5_next := goodIn_r _ [19, 4, 20, 21, 103, 104, 105, 106, 107, 108, 109, 110, 111, 112, 113, 114] (by decide +kernel) (by decide +kernel)
set_option maxRecDepth 20000 in
theorem gX5_fails_X5_next : GoodIn wsX5_fails (wsV RX5 121 RX5 yX5_next wsX5_next) := goodIn_app (goodIn_of _ (by decide +kernel)) ggX5_fails_X5_next
set_option maxRecDepth 20000 in
theorem ggX5_fails_X5_does : GoodIn wsX5_fails wsX5_does := goodIn_r _ [35, 3, 36, 37, 38, 10, 39, 40, 6, 5, 22, 23, 24, 41, 42, 43, 44, 45, 46, 47, 48, 49, 50, 51, 52, 53, 54, 55, 56, 57, 58, 59, 60, 61, 62, 63, 64, 65, 66, 67, 68, 69, 70, 71, 72, 73, 74, 75, 76, 77, 78, 79, 80, 81, 82, 83, 84, 85, 86, 87, 88, 89, 90, 91, 92, 93, 94, 95, 96, 97, 98, 99, 100, 101, 102, 103, 104, 105, 106, 107, 108, 109, 110, 111, 112, 113, 114] (by decide +kernel) (by decide +kernel)
set_option maxRecDepth 20000 in
theorem gX5_fails_X5_does : GoodIn wsX5_fails (wsV RX5 144 RX5 yX5_does wsX5_does) := goodIn_app (goodIn_of _ (by decide +kernel)) ggX5_fails_X5_does
set_option maxRecDepth 20000 in
theorem ggX5_fails_X5_in : GoodIn wsX5_fails wsX5_in := goodIn_r _ [24] (by decide +kernel) (by decide +kernel)
set_option maxRecDepth 20000 in
theorem gX5_fails_X5_in : GoodIn wsX5_fails (va_wsS RX5 37 yX5_in wsX5_in) := goodIn_app (goodIn_of _ (by decide +kernel)) ggX5_fails_X5_in
theorem dX5_fails_0 : decode cX5_fails 0 = .ok (.aload_n 0, 1) := by decide +kernel
theorem dX5_fails_1 : decode cX5_fails 1 = .ok (.invokevirtual 135, 3) := by decide +kernel
theorem dX5_fails_4 : decode cX5_fails 4 = .ok (.istore_n 1, 1) := by decide +kernel
theorem dX5_fails_5 : decode cX5_fails 5 = .ok (.aload_n 0, 1) := by decide +kernel
theorem dX5_fails_6 : decode cX5_fails 6 = .ok (.getfield 125, 3) := by decide +kernel
theorem dX5_fails_9 : decode cX5_fails 9 = .ok (.istore_n 2, 1) := by decide +kernel
theorem dX5_fails_10 : decode cX5_fails 10 = .ok (.iload_n 1, 1) := by decide +kernel
theorem dX5_fails_11 : decode cX5_fails 11 = .ok (.invokestatic 138, 3) := by decide +kernel
theorem dX5_fails_14 : decode cX5_fails 14 = .ok (.istore_n 3, 1) := by decide +kernel
theorem dX5_fails_15 : decode cX5_fails 15 = .ok (.aload_n 0, 1) := by decide +kernel
theorem dX5_fails_16 : decode cX5_fails 16 = .ok (.iload_n 3, 1) := by decide +kernel
theorem dX5_fails_17 : decode cX5_fails 17 = .ok (.ifCond .ne 7, 3) := by decide +kernel
theorem dX5_fails_20 : decode cX5_fails 20 = .ok (.iconst 1, 1) := by decide +kernel
theorem dX5_fails_21 : decode cX5_fails 21 = .ok (.goto 4, 3) := by decide +kernel
theorem dX5_fails_24 : decode cX5_fails 24 = .ok (.iconst 0, 1) := by decide +kernel
theorem dX5_fails_25 : decode cX5_fails 25 = .ok (.putfield 131, 3) := by decide +kernel
theorem dX5_fails_28 : decode cX5_fails 28 = .ok (.iconst 0, 1) := by decide +kernel
theorem dX5_fails_29 : decode cX5_fails 29 = .ok (.istore 4, 2) := by decide +kernel
theorem dX5_fails_31 : decode cX5_fails 31 = .ok (.iload 4, 2) := by decide +kernel
theorem dX5_fails_33 : decode cX5_fails 33 = .ok (.iload_n 3, 1) := by decide +kernel
theorem dX5_fails_34 : decode cX5_fails 34 = .ok (.if_icmp .ge 27, 3) := by decide +kernel
theorem dX5_fails_37 : decode cX5_fails 37 = .ok (.aload_n 0, 1) := by decide +kernel
theorem dX5_fails_38 : decode cX5_fails 38 = .ok (.getfield 131, 3) := by decide +kernel
theorem dX5_fails_41 : decode cX5_fails 41 = .ok (.ifCond .ne 20, 3) := by decide +kernel
theorem dX5_fails_44 : decode cX5_fails 44 = .ok (.aload_n 0, 1) := by decide +kernel
theorem dX5_fails_45 : decode cX5_fails 45 = .ok (.getfield 28, 3) := by decide +kernel
theorem dX5_fails_48 : decode cX5_fails 48 = .ok (.iload 4, 2) := by decide +kernel
theorem dX5_fails_50 : decode cX5_fails 50 = .ok (.aload_n 0, 1) := by decide +kernel
theorem dX5_fails_51 : decode cX5_fails 51 = .ok (.invokevirtual 141, 3) := by decide +kernel
theorem dX5_fails_54 : decode cX5_fails 54 = .ok (.iastore, 1) := by decide +kernel
theorem dX5_fails_55 : decode cX5_fails 55 = .ok (.iinc 4 1, 3) := by decide +kernel
theorem dX5_fails_58 : decode cX5_fails 58 = .ok (.goto (-27), 3) := by decide +kernel
theorem dX5_fails_61 : decode cX5_fails 61 = .ok (.aload_n 0, 1) := by decide +kernel
theorem dX5_fails_62 : decode cX5_fails 62 = .ok (.getfield 131, 3) := by decide +kernel
theorem dX5_fails_65 : decode cX5_fails 65 = .ok (.ifCond .ne 35, 3) := by decide +kernel
theorem dX5_fails_68 : decode cX5_fails 68 = .ok (.aload_n 0, 1) := by decide +kernel
theorem dX5_fails_69 : decode cX5_fails 69 = .ok (.invokevirtual 128, 3) := by decide +kernel
theorem dX5_fails_72 : decode cX5_fails 72 = .ok (.aload_n 0, 1) := by decide +kernel
theorem dX5_fails_73 : decode cX5_fails 73 = .ok (.aload_n 0, 1) := by decide +kernel
theorem dX5_fails_74 : decode cX5_fails 74 = .ok (.invokevirtual 121, 3) := by decide +kernel
theorem dX5_fails_77 : decode cX5_fails 77 = .ok (.bipush 59, 2) := by decide +kernel
theorem dX5_fails_79 : decode cX5_fails 79 = .ok (.if_icmp .eq 7, 3) := by decide +kernel
theorem dX5_fails_82 : decode cX5_fails 82 = .ok (.iconst 1, 1) := by decide +kernel
theorem dX5_fails_83 : decode cX5_fails 83 = .ok (.goto 4, 3) := by decide +kernel
theorem dX5_fails_86 : decode cX5_fails 86 = .ok (.iconst 0, 1) := by decide +kernel
theorem dX5_fails_87 : decode cX5_fails 87 = .ok (.putfield 131, 3) := by decide +kernel
theorem dX5_fails_90 : decode cX5_fails 90 = .ok (.aload_n 0, 1) := by decide +kernel
theorem dX5_fails_91 : decode cX5_fails 91 = .ok (.dup, 1) := by decide +kernel
theorem dX5_fails_92 : decode cX5_fails 92 = .ok (.getfield 118, 3) := by decide +kernel
theorem dX5_fails_95 : decode cX5_fails 95 = .ok (.iconst 1, 1) := by decide +kernel
theorem dX5_fails_96 : decode cX5_fails 96 = .ok (.iadd, 1) := by decide +kernel
theorem dX5_fails_97 : decode cX5_fails 97 = .ok (.putfield 118, 3) := by decide +kernel
theorem dX5_fails_100 : decode cX5_fails 100 = .ok (.aload_n 0, 1) := by decide +kernel
theorem dX5_fails_101 : decode cX5_fails 101 = .ok (.getfield 131, 3) := by decide +kernel
theorem dX5_fails_104 : decode cX5_fails 104 = .ok (.ifCond .eq 8, 3) := by decide +kernel
theorem dX5_fails_107 : decode cX5_fails 107 = .ok (.aload_n 0, 1) := by decide +kernel
theorem dX5_fails_108 : decode cX5_fails 108 = .ok (.getfield 125, 3) := by decide +kernel
theorem dX5_fails_111 : decode cX5_fails 111 = .ok (.ireturn, 1) := by decide +kernel
theorem dX5_fails_112 : decode cX5_fails 112 = .ok (.aload_n 0, 1) := by decide +kernel
theorem dX5_fails_113 : decode cX5_fails 113 = .ok (.iload_n 1, 1) := by decide +kernel
theorem dX5_fails_114 : decode cX5_fails 114 = .ok (.invokevirtual 144, 3) := by decide +kernel
theorem dX5_fails_117 : decode cX5_fails 117 = .ok (.ldc 35, 2) := by decide +kernel
theorem dX5_fails_119 : decode cX5_fails 119 = .ok (.ldc 36, 2) := by decide +kernel
theorem dX5_fails_121 : decode cX5_fails 121 = .ok (.invokestatic 37, 3) := by decide +kernel
theorem dX5_fails_124 : decode cX5_fails 124 = .ok (.ifCond .eq 7, 3) := by decide +kernel
theorem dX5_fails_127 : decode cX5_fails 127 = .ok (.iload_n 2, 1) := by decide +kernel
theorem dX5_fails_128 : decode cX5_fails 128 = .ok (.goto 4, 3) := by decide +kernel
theorem dX5_fails_131 : decode cX5_fails 131 = .ok (.iconst (-1), 1) := by decide +kernel
theorem dX5_fails_132 : decode cX5_fails 132 = .ok (.ireturn, 1) := by decide +kernel
set_option maxRecDepth 20000 in
theorem ggX5_run_X5_keeps : GoodIn wsX5_run wsX5_keeps := goodIn_r _ [9, 4, 3, 10, 11, 8, 12, 121, 122, 123, 124, 125, 126, 127, 128, 129, 130, 131, 132] (by decide +kernel) (by decide +kernel)
set_option maxRecDepth 20000 in
theorem gX5_run_X5_keeps : GoodIn wsX5_run (wsV RX5 92 RX5 yX5_keeps wsX5_keeps) := goodIn_app (goodIn_of _ (by decide +kernel)) ggX5_run_X5_keeps
set_option maxRecDepth 20000 in
theorem ggX5_run_X5_begins : GoodIn wsX5_run wsX5_begins := goodIn_r _ [16, 1, 17, 18, 19, 20, 8, 21, 2, 22, 121, 122, 123, 124, 125, 126, 127, 128, 129, 130, 131, 132] (by decide +kernel) (by decide +kernel)
set_option maxRecDepth 20000 in
theorem gX5_run_X5_begins : GoodIn wsX5_run (wsV RX5 128 RX5 yX5_begins wsX5_begins) := goodIn_app (goodIn_of _ (by decide +kernel)) ggX5_run_X5_begins
set_option maxRecDepth 20000 in
theorem ggX5_run_X5_fails : GoodIn wsX5_run wsX5_fails := goodIn_r _ [26, 17, 27, 28, 1, 29, 30, 31, 32, 33, 8, 34, 13, 14, 15, 16, 18, 19, 20, 21, 2, 22, 35, 36, 37, 38, 39, 40, 41, 42, 43, 44, 45, 46, 47, 48, 49, 50, 51, 52, 4, 53, 54, 55, 56, 57, 58, 59, 60, 61, 62, 63, 64, 65, 66, 67, 68, 69, 70, 71, 72, 73, 74, 75, 76, 77, 78, 79, 80, 81, 82, 83, 84, 85, 86, 87, 88, 89, 90, 91, 92, 93, 94, 95, 96, 97, 98, 99, 100, 101, 102, 103, 104, 105, 106, 107, 108, 109, 110, 111, 112, 113, 114, 121, 122, 123, 124, 125, 126, 127, 128, 129, 130, 131, 132] (by decide +kernel) (by decide +kernel)
set_option maxRecDepth 20000 in
theorem gX5_run_X5_fails : GoodIn wsX5_run (wsV RX5 147 RX5 yX5_fails wsX5_fails) := goodIn_app (goodIn_of _ (by decide +kernel)) ggX5_run_X5_fails
set_option maxRecDepth 20000 in
theorem ggX5_run_X5_copies : GoodIn wsX5_run wsX5_copies := goodIn_r _ [12] (by decide +kernel) (by decide +kernel)
set_option maxRecDepth 20000 in
theorem gX5_run_X5_copies : GoodIn wsX5_run (va_wsS RX5 31 yX5_copies wsX5_copies) := goodIn_app (goodIn_of _ (by decide +kernel)) ggX5_run_X5_copies
set_option maxRecDepth 20000 in
theorem ggX5_run_X5_acted : GoodIn wsX5_run wsX5_acted := goodIn_r _ [118, 29, 30, 119, 120, 3, 35, 36, 8, 37, 10, 11, 12, 121, 122, 123, 124, 125, 126, 127, 128, 129, 130, 131, 132] (by decide +kernel) (by decide +kernel)
set_option maxRecDepth 20000 in
theorem gX5_run_X5_acted : GoodIn wsX5_run (wsV RX5 99 RX5 yX5_acted wsX5_acted) := goodIn_app (goodIn_of _ (by decide +kernel)) ggX5_run_X5_acted
theorem dX5_run_0 : decode cX5_run 0 = .ok (.aload_n 0, 1) := by decide +kernel
theorem dX5_run_1 : decode cX5_run 1 = .ok (.invokevirtual 92, 3) := by decide +kernel
theorem dX5_run_4 : decode cX5_run 4 = .ok (.aload_n 0, 1) := by decide +kernel
theorem dX5_run_5 : decode cX5_run 5 = .ok (.iconst 0, 1) := by decide +kernel
theorem dX5_run_6 : decode cX5_run 6 = .ok (.putfield 118, 3) := by decide +kernel
theorem dX5_run_9 : decode cX5_run 9 = .ok (.iconst 0, 1) := by decide +kernel
theorem dX5_run_10 : decode cX5_run 10 = .ok (.istore_n 1, 1) := by decide +kernel
theorem dX5_run_11 : decode cX5_run 11 = .ok (.aload_n 0, 1) := by decide +kernel
theorem dX5_run_12 : decode cX5_run 12 = .ok (.invokevirtual 128, 3) := by decide +kernel
theorem dX5_run_15 : decode cX5_run 15 = .ok (.aload_n 0, 1) := by decide +kernel
theorem dX5_run_16 : decode cX5_run 16 = .ok (.getfield 118, 3) := by decide +kernel
theorem dX5_run_19 : decode cX5_run 19 = .ok (.aload_n 0, 1) := by decide +kernel
theorem dX5_run_20 : decode cX5_run 20 = .ok (.getfield 115, 3) := by decide +kernel
theorem dX5_run_23 : decode cX5_run 23 = .ok (.if_icmp .ge 41, 3) := by decide +kernel
theorem dX5_run_26 : decode cX5_run 26 = .ok (.aload_n 0, 1) := by decide +kernel
theorem dX5_run_27 : decode cX5_run 27 = .ok (.invokevirtual 147, 3) := by decide +kernel
theorem dX5_run_30 : decode cX5_run 30 = .ok (.istore_n 2, 1) := by decide +kernel
theorem dX5_run_31 : decode cX5_run 31 = .ok (.iload_n 2, 1) := by decide +kernel
theorem dX5_run_32 : decode cX5_run 32 = .ok (.ifCond .lt 22, 3) := by decide +kernel
theorem dX5_run_35 : decode cX5_run 35 = .ok (.aload_n 0, 1) := by decide +kernel
theorem dX5_run_36 : decode cX5_run 36 = .ok (.getfield 13, 3) := by decide +kernel
theorem dX5_run_39 : decode cX5_run 39 = .ok (.iconst 0, 1) := by decide +kernel
theorem dX5_run_40 : decode cX5_run 40 = .ok (.aload_n 0, 1) := by decide +kernel
theorem dX5_run_41 : decode cX5_run 41 = .ok (.getfield 7, 3) := by decide +kernel
theorem dX5_run_44 : decode cX5_run 44 = .ok (.iconst 0, 1) := by decide +kernel
theorem dX5_run_45 : decode cX5_run 45 = .ok (.invokestatic 31, 3) := by decide +kernel
theorem dX5_run_48 : decode cX5_run 48 = .ok (.sipush (-1000), 3) := by decide +kernel
theorem dX5_run_51 : decode cX5_run 51 = .ok (.iload_n 2, 1) := by decide +kernel
theorem dX5_run_52 : decode cX5_run 52 = .ok (.isub, 1) := by decide +kernel
theorem dX5_run_53 : decode cX5_run 53 = .ok (.ireturn, 1) := by decide +kernel
theorem dX5_run_54 : decode cX5_run 54 = .ok (.iinc 1 1, 3) := by decide +kernel
theorem dX5_run_57 : decode cX5_run 57 = .ok (.aload_n 0, 1) := by decide +kernel
theorem dX5_run_58 : decode cX5_run 58 = .ok (.invokevirtual 128, 3) := by decide +kernel
theorem dX5_run_61 : decode cX5_run 61 = .ok (.goto (-46), 3) := by decide +kernel
theorem dX5_run_64 : decode cX5_run 64 = .ok (.aload_n 0, 1) := by decide +kernel
theorem dX5_run_65 : decode cX5_run 65 = .ok (.iconst 0, 1) := by decide +kernel
theorem dX5_run_66 : decode cX5_run 66 = .ok (.putfield 115, 3) := by decide +kernel
theorem dX5_run_69 : decode cX5_run 69 = .ok (.aload_n 0, 1) := by decide +kernel
theorem dX5_run_70 : decode cX5_run 70 = .ok (.iload_n 1, 1) := by decide +kernel
theorem dX5_run_71 : decode cX5_run 71 = .ok (.invokevirtual 99, 3) := by decide +kernel
theorem dX5_run_74 : decode cX5_run 74 = .ok (.ireturn, 1) := by decide +kernel
set_option maxRecDepth 20000 in
theorem ggX5_seenLines_X5_isSeen : GoodIn wsX5_seenLines wsX5_isSeen := goodIn_r _ [6, 7, 8, 9, 5, 10, 11, 12, 13, 14, 15, 16, 17, 18, 19, 20, 21, 22, 23, 24, 25, 26, 27, 28, 29, 30, 31, 32, 33, 34, 35, 36, 37, 38, 39, 40, 41] (by decide +kernel) (by decide +kernel)
set_option maxRecDepth 20000 in
theorem gX5_seenLines_X5_isSeen : GoodIn wsX5_seenLines (wsV RX5 150 RX5 yX5_isSeen wsX5_isSeen) := goodIn_app (goodIn_of _ (by decide +kernel)) ggX5_seenLines_X5_isSeen
theorem dX5_seenLines_0 : decode cX5_seenLines 0 = .ok (.iconst 0, 1) := by decide +kernel
theorem dX5_seenLines_1 : decode cX5_seenLines 1 = .ok (.istore_n 1, 1) := by decide +kernel
theorem dX5_seenLines_2 : decode cX5_seenLines 2 = .ok (.iconst 0, 1) := by decide +kernel
theorem dX5_seenLines_3 : decode cX5_seenLines 3 = .ok (.istore_n 2, 1) := by decide +kernel
theorem dX5_seenLines_4 : decode cX5_seenLines 4 = .ok (.iload_n 2, 1) := by decide +kernel
theorem dX5_seenLines_5 : decode cX5_seenLines 5 = .ok (.aload_n 0, 1) := by decide +kernel
theorem dX5_seenLines_6 : decode cX5_seenLines 6 = .ok (.getfield 7, 3) := by decide +kernel
theorem dX5_seenLines_9 : decode cX5_seenLines 9 = .ok (.iconst 0, 1) := by decide +kernel
theorem dX5_seenLines_10 : decode cX5_seenLines 10 = .ok (.iaload, 1) := by decide +kernel
theorem dX5_seenLines_11 : decode cX5_seenLines 11 = .ok (.if_icmp .ge 29, 3) := by decide +kernel
theorem dX5_seenLines_14 : decode cX5_seenLines 14 = .ok (.iload_n 1, 1) := by decide +kernel
theorem dX5_seenLines_15 : decode cX5_seenLines 15 = .ok (.aload_n 0, 1) := by decide +kernel
theorem dX5_seenLines_16 : decode cX5_seenLines 16 = .ok (.aload_n 0, 1) := by decide +kernel
theorem dX5_seenLines_17 : decode cX5_seenLines 17 = .ok (.getfield 7, 3) := by decide +kernel
theorem dX5_seenLines_20 : decode cX5_seenLines 20 = .ok (.iload_n 2, 1) := by decide +kernel
theorem dX5_seenLines_21 : decode cX5_seenLines 21 = .ok (.invokevirtual 150, 3) := by decide +kernel
theorem dX5_seenLines_24 : decode cX5_seenLines 24 = .ok (.ifCond .eq 7, 3) := by decide +kernel
theorem dX5_seenLines_27 : decode cX5_seenLines 27 = .ok (.iconst 1, 1) := by decide +kernel
theorem dX5_seenLines_28 : decode cX5_seenLines 28 = .ok (.goto 4, 3) := by decide +kernel
theorem dX5_seenLines_31 : decode cX5_seenLines 31 = .ok (.iconst 0, 1) := by decide +kernel
theorem dX5_seenLines_32 : decode cX5_seenLines 32 = .ok (.iadd, 1) := by decide +kernel
theorem dX5_seenLines_33 : decode cX5_seenLines 33 = .ok (.istore_n 1, 1) := by decide +kernel
theorem dX5_seenLines_34 : decode cX5_seenLines 34 = .ok (.iinc 2 1, 3) := by decide +kernel
theorem dX5_seenLines_37 : decode cX5_seenLines 37 = .ok (.goto (-33), 3) := by decide +kernel
theorem dX5_seenLines_40 : decode cX5_seenLines 40 = .ok (.iload_n 1, 1) := by decide +kernel
theorem dX5_seenLines_41 : decode cX5_seenLines 41 = .ok (.ireturn, 1) := by decide +kernel
set_option maxRecDepth 20000 in
theorem ggX5_count_X5_laysGuesses : GoodIn wsX5_count wsX5_laysGuesses := goodIn_r _ [11, 5, 12, 13, 10, 14, 15, 16, 17, 49, 50, 51, 52, 53, 54, 55, 56, 57, 58, 59, 60] (by decide +kernel) (by decide +kernel)
set_option maxRecDepth 20000 in
theorem gX5_count_X5_laysGuesses : GoodIn wsX5_count (wsV RX5 53 RX5 yX5_laysGuesses wsX5_laysGuesses) := goodIn_app (goodIn_of _ (by decide +kernel)) ggX5_count_X5_laysGuesses
set_option maxRecDepth 20000 in
theorem ggX5_count_X5_measured : GoodIn wsX5_count wsX5_measured := goodIn_r _ [21, 12, 13, 10, 14] (by decide +kernel) (by decide +kernel)
set_option maxRecDepth 20000 in
theorem gX5_count_X5_measured : GoodIn wsX5_count (wsV RX5 154 RX5 yX5_measured wsX5_measured) := goodIn_app (goodIn_of _ (by decide +kernel)) ggX5_count_X5_measured
set_option maxRecDepth 20000 in
theorem ggX5_count_X5_total : GoodIn wsX5_count wsX5_total := goodIn_r _ [25, 26, 27, 28, 10, 29, 7, 8, 9, 11, 5, 12, 13, 14, 15, 16, 17, 30, 31, 32, 33, 49, 50, 51, 52, 53, 54, 55, 56, 57, 58, 59, 60] (by decide +kernel) (by decide +kernel)
set_option maxRecDepth 20000 in
theorem gX5_count_X5_total : GoodIn wsX5_count (wsV RX5 74 RX5 yX5_total wsX5_total) := goodIn_app (goodIn_of _ (by decide +kernel)) ggX5_count_X5_total
set_option maxRecDepth 20000 in
theorem ggX5_count_X5_windowOf : GoodIn wsX5_count wsX5_windowOf := goodIn_r _ [37, 26, 27, 28, 10, 29, 7, 8, 9, 11, 5, 12, 13, 14, 15, 16, 17, 30, 31, 32, 33, 49, 50, 51, 52, 53, 54, 55, 56, 57, 58, 59, 60] (by decide +kernel) (by decide +kernel)
set_option maxRecDepth 20000 in
theorem gX5_count_X5_windowOf : GoodIn wsX5_count (wsV RX5 64 RX5 yX5_windowOf wsX5_windowOf) := goodIn_app (goodIn_of _ (by decide +kernel)) ggX5_count_X5_windowOf
set_option maxRecDepth 20000 in
theorem ggX5_count_X5_seenLines : GoodIn wsX5_count wsX5_seenLines := goodIn_r _ [41, 1, 42, 43, 44, 10, 45, 26, 27, 28, 29, 7, 8, 9, 11, 5, 12, 13, 14, 15, 16, 17, 30, 31, 32, 33, 34, 35, 36, 37, 49, 50, 51, 52, 53, 54, 55, 56, 57, 58, 59, 60] (by decide +kernel) (by decide +kernel)
set_option maxRecDepth 20000 in
theorem gX5_count_X5_seenLines : GoodIn wsX5_count (wsV RX5 157 RX5 yX5_seenLines wsX5_seenLines) := goodIn_app (goodIn_of _ (by decide +kernel)) ggX5_count_X5_seenLines
set_option maxRecDepth 20000 in
theorem ggX5_count_X5_in : GoodIn wsX5_count wsX5_in := goodIn_r _ [48] (by decide +kernel) (by decide +kernel)
set_option maxRecDepth 20000 in
theorem gX5_count_X5_in : GoodIn wsX5_count (va_wsS RX5 37 yX5_in wsX5_in) := goodIn_app (goodIn_of _ (by decide +kernel)) ggX5_count_X5_in
theorem dX5_count_0 : decode cX5_count 0 = .ok (.aload_n 0, 1) := by decide +kernel
theorem dX5_count_1 : decode cX5_count 1 = .ok (.getfield 7, 3) := by decide +kernel
theorem dX5_count_4 : decode cX5_count 4 = .ok (.iconst 0, 1) := by decide +kernel
theorem dX5_count_5 : decode cX5_count 5 = .ok (.iaload, 1) := by decide +kernel
theorem dX5_count_6 : decode cX5_count 6 = .ok (.ifCond .ne 7, 3) := by decide +kernel
theorem dX5_count_9 : decode cX5_count 9 = .ok (.iconst 1, 1) := by decide +kernel
theorem dX5_count_10 : decode cX5_count 10 = .ok (.goto 4, 3) := by decide +kernel
theorem dX5_count_13 : decode cX5_count 13 = .ok (.iconst 0, 1) := by decide +kernel
theorem dX5_count_14 : decode cX5_count 14 = .ok (.istore_n 2, 1) := by decide +kernel
theorem dX5_count_15 : decode cX5_count 15 = .ok (.aload_n 0, 1) := by decide +kernel
theorem dX5_count_16 : decode cX5_count 16 = .ok (.aload_n 0, 1) := by decide +kernel
theorem dX5_count_17 : decode cX5_count 17 = .ok (.getfield 7, 3) := by decide +kernel
theorem dX5_count_20 : decode cX5_count 20 = .ok (.invokevirtual 53, 3) := by decide +kernel
theorem dX5_count_23 : decode cX5_count 23 = .ok (.iload_n 1, 1) := by decide +kernel
theorem dX5_count_24 : decode cX5_count 24 = .ok (.tableswitch 167 0 13 #[72, 79, 88, 104, 120, 129, 138, 145, 167, 167, 167, 152, 157, 162], 72) := by decide +kernel
theorem dX5_count_96 : decode cX5_count 96 = .ok (.aload_n 0, 1) := by decide +kernel
theorem dX5_count_97 : decode cX5_count 97 = .ok (.getfield 7, 3) := by decide +kernel
theorem dX5_count_100 : decode cX5_count 100 = .ok (.iconst 0, 1) := by decide +kernel
theorem dX5_count_101 : decode cX5_count 101 = .ok (.iaload, 1) := by decide +kernel
theorem dX5_count_102 : decode cX5_count 102 = .ok (.ireturn, 1) := by decide +kernel
theorem dX5_count_103 : decode cX5_count 103 = .ok (.aload_n 0, 1) := by decide +kernel
theorem dX5_count_104 : decode cX5_count 104 = .ok (.aload_n 0, 1) := by decide +kernel
theorem dX5_count_105 : decode cX5_count 105 = .ok (.getfield 7, 3) := by decide +kernel
theorem dX5_count_108 : decode cX5_count 108 = .ok (.invokevirtual 154, 3) := by decide +kernel
theorem dX5_count_111 : decode cX5_count 111 = .ok (.ireturn, 1) := by decide +kernel
theorem dX5_count_112 : decode cX5_count 112 = .ok (.iload_n 2, 1) := by decide +kernel
theorem dX5_count_113 : decode cX5_count 113 = .ok (.ifCond .eq 8, 3) := by decide +kernel
theorem dX5_count_116 : decode cX5_count 116 = .ok (.ldc 63, 2) := by decide +kernel
theorem dX5_count_118 : decode cX5_count 118 = .ok (.goto 9, 3) := by decide +kernel
theorem dX5_count_121 : decode cX5_count 121 = .ok (.aload_n 0, 1) := by decide +kernel
theorem dX5_count_122 : decode cX5_count 122 = .ok (.getfield 7, 3) := by decide +kernel
theorem dX5_count_125 : decode cX5_count 125 = .ok (.iconst 1, 1) := by decide +kernel
theorem dX5_count_126 : decode cX5_count 126 = .ok (.iaload, 1) := by decide +kernel
theorem dX5_count_127 : decode cX5_count 127 = .ok (.ireturn, 1) := by decide +kernel
theorem dX5_count_128 : decode cX5_count 128 = .ok (.iload_n 2, 1) := by decide +kernel
theorem dX5_count_129 : decode cX5_count 129 = .ok (.ifCond .eq 8, 3) := by decide +kernel
theorem dX5_count_132 : decode cX5_count 132 = .ok (.ldc 63, 2) := by decide +kernel
theorem dX5_count_134 : decode cX5_count 134 = .ok (.goto 9, 3) := by decide +kernel
theorem dX5_count_137 : decode cX5_count 137 = .ok (.aload_n 0, 1) := by decide +kernel
theorem dX5_count_138 : decode cX5_count 138 = .ok (.getfield 7, 3) := by decide +kernel
theorem dX5_count_141 : decode cX5_count 141 = .ok (.iconst 2, 1) := by decide +kernel
theorem dX5_count_142 : decode cX5_count 142 = .ok (.iaload, 1) := by decide +kernel
theorem dX5_count_143 : decode cX5_count 143 = .ok (.ireturn, 1) := by decide +kernel
theorem dX5_count_144 : decode cX5_count 144 = .ok (.aload_n 0, 1) := by decide +kernel
theorem dX5_count_145 : decode cX5_count 145 = .ok (.aload_n 0, 1) := by decide +kernel
theorem dX5_count_146 : decode cX5_count 146 = .ok (.getfield 7, 3) := by decide +kernel
theorem dX5_count_149 : decode cX5_count 149 = .ok (.invokevirtual 74, 3) := by decide +kernel
theorem dX5_count_152 : decode cX5_count 152 = .ok (.ireturn, 1) := by decide +kernel
theorem dX5_count_153 : decode cX5_count 153 = .ok (.aload_n 0, 1) := by decide +kernel
theorem dX5_count_154 : decode cX5_count 154 = .ok (.aload_n 0, 1) := by decide +kernel
theorem dX5_count_155 : decode cX5_count 155 = .ok (.getfield 7, 3) := by decide +kernel
theorem dX5_count_158 : decode cX5_count 158 = .ok (.invokevirtual 64, 3) := by decide +kernel
theorem dX5_count_161 : decode cX5_count 161 = .ok (.ireturn, 1) := by decide +kernel
theorem dX5_count_162 : decode cX5_count 162 = .ok (.aload_n 0, 1) := by decide +kernel
theorem dX5_count_163 : decode cX5_count 163 = .ok (.getfield 7, 3) := by decide +kernel
theorem dX5_count_166 : decode cX5_count 166 = .ok (.iconst 3, 1) := by decide +kernel
theorem dX5_count_167 : decode cX5_count 167 = .ok (.iaload, 1) := by decide +kernel
theorem dX5_count_168 : decode cX5_count 168 = .ok (.ireturn, 1) := by decide +kernel
theorem dX5_count_169 : decode cX5_count 169 = .ok (.aload_n 0, 1) := by decide +kernel
theorem dX5_count_170 : decode cX5_count 170 = .ok (.getfield 7, 3) := by decide +kernel
theorem dX5_count_173 : decode cX5_count 173 = .ok (.iconst 4, 1) := by decide +kernel
theorem dX5_count_174 : decode cX5_count 174 = .ok (.iaload, 1) := by decide +kernel
theorem dX5_count_175 : decode cX5_count 175 = .ok (.ireturn, 1) := by decide +kernel
theorem dX5_count_176 : decode cX5_count 176 = .ok (.aload_n 0, 1) := by decide +kernel
theorem dX5_count_177 : decode cX5_count 177 = .ok (.invokevirtual 157, 3) := by decide +kernel
theorem dX5_count_180 : decode cX5_count 180 = .ok (.ireturn, 1) := by decide +kernel
theorem dX5_count_181 : decode cX5_count 181 = .ok (.aload_n 0, 1) := by decide +kernel
theorem dX5_count_182 : decode cX5_count 182 = .ok (.getfield 41, 3) := by decide +kernel
theorem dX5_count_185 : decode cX5_count 185 = .ok (.ireturn, 1) := by decide +kernel
theorem dX5_count_186 : decode cX5_count 186 = .ok (.aload_n 0, 1) := by decide +kernel
theorem dX5_count_187 : decode cX5_count 187 = .ok (.getfield 115, 3) := by decide +kernel
theorem dX5_count_190 : decode cX5_count 190 = .ok (.ireturn, 1) := by decide +kernel
theorem dX5_count_191 : decode cX5_count 191 = .ok (.iload_n 1, 1) := by decide +kernel
theorem dX5_count_192 : decode cX5_count 192 = .ok (.bipush 8, 2) := by decide +kernel
theorem dX5_count_194 : decode cX5_count 194 = .ok (.bipush 10, 2) := by decide +kernel
theorem dX5_count_196 : decode cX5_count 196 = .ok (.invokestatic 37, 3) := by decide +kernel
theorem dX5_count_199 : decode cX5_count 199 = .ok (.ifCond .eq 15, 3) := by decide +kernel
theorem dX5_count_202 : decode cX5_count 202 = .ok (.aload_n 0, 1) := by decide +kernel
theorem dX5_count_203 : decode cX5_count 203 = .ok (.getfield 25, 3) := by decide +kernel
theorem dX5_count_206 : decode cX5_count 206 = .ok (.iload_n 1, 1) := by decide +kernel
theorem dX5_count_207 : decode cX5_count 207 = .ok (.bipush 8, 2) := by decide +kernel
theorem dX5_count_209 : decode cX5_count 209 = .ok (.isub, 1) := by decide +kernel
theorem dX5_count_210 : decode cX5_count 210 = .ok (.iaload, 1) := by decide +kernel
theorem dX5_count_211 : decode cX5_count 211 = .ok (.goto 5, 3) := by decide +kernel
theorem dX5_count_214 : decode cX5_count 214 = .ok (.ldc 36, 2) := by decide +kernel
theorem dX5_count_216 : decode cX5_count 216 = .ok (.ireturn, 1) := by decide +kernel
set_option maxRecDepth 20000 in
theorem ggX5_line_X5_isLine : GoodIn wsX5_line wsX5_isLine := goodIn_r _ [7, 2, 8, 9, 6, 10, 34, 35, 36, 37, 38, 39, 40, 41, 42, 43, 44, 45] (by decide +kernel) (by decide +kernel)
set_option maxRecDepth 20000 in
theorem gX5_line_X5_isLine : GoodIn wsX5_line (wsV RX5 77 RX5 yX5_isLine wsX5_isLine) := goodIn_app (goodIn_of _ (by decide +kernel)) ggX5_line_X5_isLine
set_option maxRecDepth 20000 in
theorem ggX5_line_X5_laysGuesses : GoodIn wsX5_line wsX5_laysGuesses := goodIn_r _ [14, 15, 16, 17, 6, 18, 19, 20, 21, 34, 35, 36, 37, 38, 39, 40, 41, 42, 43, 44, 45] (by decide +kernel) (by decide +kernel)
set_option maxRecDepth 20000 in
theorem gX5_line_X5_laysGuesses : GoodIn wsX5_line (wsV RX5 53 RX5 yX5_laysGuesses wsX5_laysGuesses) := goodIn_app (goodIn_of _ (by decide +kernel)) ggX5_line_X5_laysGuesses
set_option maxRecDepth 20000 in
theorem ggX5_line_X5_l : GoodIn wsX5_line wsX5_l := goodIn_r _ [18] (by decide +kernel) (by decide +kernel)
set_option maxRecDepth 20000 in
theorem gX5_line_X5_l : GoodIn wsX5_line (va_wsS RX5 45 yX5_l wsX5_l) := goodIn_app (goodIn_of _ (by decide +kernel)) ggX5_line_X5_l
set_option maxRecDepth 20000 in
theorem ggX5_line_X5_heightOf : GoodIn wsX5_line wsX5_heightOf := goodIn_r _ [25, 15, 16, 17, 6, 18, 19, 20, 21, 34, 35, 36, 37, 38, 39, 40, 41, 42, 43, 44, 45] (by decide +kernel) (by decide +kernel)
set_option maxRecDepth 20000 in
theorem gX5_line_X5_heightOf : GoodIn wsX5_line (wsV RX5 57 RX5 yX5_heightOf wsX5_heightOf) := goodIn_app (goodIn_of _ (by decide +kernel)) ggX5_line_X5_heightOf
set_option maxRecDepth 20000 in
theorem ggX5_line_X5_topOf : GoodIn wsX5_line wsX5_topOf := goodIn_r _ [29, 11, 12, 13, 6, 14, 15, 16, 17, 18, 19, 20, 21, 22, 23, 24, 25, 34, 35, 36, 37, 38, 39, 40, 41, 42, 43, 44, 45] (by decide +kernel) (by decide +kernel)
set_option maxRecDepth 20000 in
theorem gX5_line_X5_topOf : GoodIn wsX5_line (wsV RX5 60 RX5 yX5_topOf wsX5_topOf) := goodIn_app (goodIn_of _ (by decide +kernel)) ggX5_line_X5_topOf
set_option maxRecDepth 20000 in
theorem ggX5_line_X5_trueOf : GoodIn wsX5_line wsX5_trueOf := goodIn_r _ [21, 16, 17, 6, 18] (by decide +kernel) (by decide +kernel)
set_option maxRecDepth 20000 in
theorem gX5_line_X5_trueOf : GoodIn wsX5_line (va_wsS RX5 49 yX5_trueOf wsX5_trueOf) := goodIn_app (goodIn_of _ (by decide +kernel)) ggX5_line_X5_trueOf
set_option maxRecDepth 20000 in
theorem ggX5_line_X5_windowOf : GoodIn wsX5_line wsX5_windowOf := goodIn_r _ [33, 26, 27, 28, 6, 29, 11, 12, 13, 14, 15, 16, 17, 18, 19, 20, 21, 22, 23, 24, 25, 34, 35, 36, 37, 38, 39, 40, 41, 42, 43, 44, 45] (by decide +kernel) (by decide +kernel)
set_option maxRecDepth 20000 in
theorem gX5_line_X5_windowOf : GoodIn wsX5_line (wsV RX5 64 RX5 yX5_windowOf wsX5_windowOf) := goodIn_app (goodIn_of _ (by decide +kernel)) ggX5_line_X5_windowOf
theorem dX5_line_0 : decode cX5_line 0 = .ok (.aload_n 0, 1) := by decide +kernel
theorem dX5_line_1 : decode cX5_line 1 = .ok (.iload_n 1, 1) := by decide +kernel
theorem dX5_line_2 : decode cX5_line 2 = .ok (.invokevirtual 77, 3) := by decide +kernel
theorem dX5_line_5 : decode cX5_line 5 = .ok (.ifCond .ne 6, 3) := by decide +kernel
theorem dX5_line_8 : decode cX5_line 8 = .ok (.ldc 36, 2) := by decide +kernel
theorem dX5_line_10 : decode cX5_line 10 = .ok (.ireturn, 1) := by decide +kernel
theorem dX5_line_11 : decode cX5_line 11 = .ok (.aload_n 0, 1) := by decide +kernel
theorem dX5_line_12 : decode cX5_line 12 = .ok (.aload_n 0, 1) := by decide +kernel
theorem dX5_line_13 : decode cX5_line 13 = .ok (.getfield 7, 3) := by decide +kernel
theorem dX5_line_16 : decode cX5_line 16 = .ok (.invokevirtual 53, 3) := by decide +kernel
theorem dX5_line_19 : decode cX5_line 19 = .ok (.iload_n 2, 1) := by decide +kernel
theorem dX5_line_20 : decode cX5_line 20 = .ok (.tableswitch 125 0 6 #[44, 55, 66, 76, 87, 97, 106], 44) := by decide +kernel
theorem dX5_line_64 : decode cX5_line 64 = .ok (.aload_n 0, 1) := by decide +kernel
theorem dX5_line_65 : decode cX5_line 65 = .ok (.getfield 7, 3) := by decide +kernel
theorem dX5_line_68 : decode cX5_line 68 = .ok (.iload_n 1, 1) := by decide +kernel
theorem dX5_line_69 : decode cX5_line 69 = .ok (.iconst 0, 1) := by decide +kernel
theorem dX5_line_70 : decode cX5_line 70 = .ok (.invokestatic 45, 3) := by decide +kernel
theorem dX5_line_73 : decode cX5_line 73 = .ok (.iaload, 1) := by decide +kernel
theorem dX5_line_74 : decode cX5_line 74 = .ok (.ireturn, 1) := by decide +kernel
theorem dX5_line_75 : decode cX5_line 75 = .ok (.aload_n 0, 1) := by decide +kernel
theorem dX5_line_76 : decode cX5_line 76 = .ok (.getfield 7, 3) := by decide +kernel
theorem dX5_line_79 : decode cX5_line 79 = .ok (.iload_n 1, 1) := by decide +kernel
theorem dX5_line_80 : decode cX5_line 80 = .ok (.iconst 1, 1) := by decide +kernel
theorem dX5_line_81 : decode cX5_line 81 = .ok (.invokestatic 45, 3) := by decide +kernel
theorem dX5_line_84 : decode cX5_line 84 = .ok (.iaload, 1) := by decide +kernel
theorem dX5_line_85 : decode cX5_line 85 = .ok (.ireturn, 1) := by decide +kernel
theorem dX5_line_86 : decode cX5_line 86 = .ok (.aload_n 0, 1) := by decide +kernel
theorem dX5_line_87 : decode cX5_line 87 = .ok (.aload_n 0, 1) := by decide +kernel
theorem dX5_line_88 : decode cX5_line 88 = .ok (.getfield 7, 3) := by decide +kernel
theorem dX5_line_91 : decode cX5_line 91 = .ok (.iload_n 1, 1) := by decide +kernel
theorem dX5_line_92 : decode cX5_line 92 = .ok (.invokevirtual 57, 3) := by decide +kernel
theorem dX5_line_95 : decode cX5_line 95 = .ok (.ireturn, 1) := by decide +kernel
theorem dX5_line_96 : decode cX5_line 96 = .ok (.aload_n 0, 1) := by decide +kernel
theorem dX5_line_97 : decode cX5_line 97 = .ok (.getfield 7, 3) := by decide +kernel
theorem dX5_line_100 : decode cX5_line 100 = .ok (.iload_n 1, 1) := by decide +kernel
theorem dX5_line_101 : decode cX5_line 101 = .ok (.iconst 2, 1) := by decide +kernel
theorem dX5_line_102 : decode cX5_line 102 = .ok (.invokestatic 45, 3) := by decide +kernel
theorem dX5_line_105 : decode cX5_line 105 = .ok (.iaload, 1) := by decide +kernel
theorem dX5_line_106 : decode cX5_line 106 = .ok (.ireturn, 1) := by decide +kernel
theorem dX5_line_107 : decode cX5_line 107 = .ok (.aload_n 0, 1) := by decide +kernel
theorem dX5_line_108 : decode cX5_line 108 = .ok (.aload_n 0, 1) := by decide +kernel
theorem dX5_line_109 : decode cX5_line 109 = .ok (.getfield 7, 3) := by decide +kernel
theorem dX5_line_112 : decode cX5_line 112 = .ok (.iload_n 1, 1) := by decide +kernel
theorem dX5_line_113 : decode cX5_line 113 = .ok (.invokevirtual 60, 3) := by decide +kernel
theorem dX5_line_116 : decode cX5_line 116 = .ok (.ireturn, 1) := by decide +kernel
theorem dX5_line_117 : decode cX5_line 117 = .ok (.aload_n 0, 1) := by decide +kernel
theorem dX5_line_118 : decode cX5_line 118 = .ok (.getfield 7, 3) := by decide +kernel
theorem dX5_line_121 : decode cX5_line 121 = .ok (.iload_n 1, 1) := by decide +kernel
theorem dX5_line_122 : decode cX5_line 122 = .ok (.invokestatic 49, 3) := by decide +kernel
theorem dX5_line_125 : decode cX5_line 125 = .ok (.ireturn, 1) := by decide +kernel
theorem dX5_line_126 : decode cX5_line 126 = .ok (.aload_n 0, 1) := by decide +kernel
theorem dX5_line_127 : decode cX5_line 127 = .ok (.aload_n 0, 1) := by decide +kernel
theorem dX5_line_128 : decode cX5_line 128 = .ok (.getfield 7, 3) := by decide +kernel
theorem dX5_line_131 : decode cX5_line 131 = .ok (.iload_n 1, 1) := by decide +kernel
theorem dX5_line_132 : decode cX5_line 132 = .ok (.invokevirtual 60, 3) := by decide +kernel
theorem dX5_line_135 : decode cX5_line 135 = .ok (.aload_n 0, 1) := by decide +kernel
theorem dX5_line_136 : decode cX5_line 136 = .ok (.aload_n 0, 1) := by decide +kernel
theorem dX5_line_137 : decode cX5_line 137 = .ok (.getfield 7, 3) := by decide +kernel
theorem dX5_line_140 : decode cX5_line 140 = .ok (.invokevirtual 64, 3) := by decide +kernel
theorem dX5_line_143 : decode cX5_line 143 = .ok (.isub, 1) := by decide +kernel
theorem dX5_line_144 : decode cX5_line 144 = .ok (.ireturn, 1) := by decide +kernel
end
section
theorem dX5_line_145 : decode cX5_line 145 = .ok (.ldc 36, 2) := by decide +kernel
theorem dX5_line_147 : decode cX5_line 147 = .ok (.ireturn, 1) := by decide +kernel
set_option maxRecDepth 20000 in
theorem ggX5_seen_X5_in : GoodIn wsX5_seen wsX5_in := goodIn_r _ [6] (by decide +kernel) (by decide +kernel)
set_option maxRecDepth 20000 in
theorem gX5_seen_X5_in : GoodIn wsX5_seen (va_wsS RX5 37 yX5_in wsX5_in) := goodIn_app (goodIn_of _ (by decide +kernel)) ggX5_seen_X5_in
set_option maxRecDepth 20000 in
theorem ggX5_seen_X5_windowOf : GoodIn wsX5_seen wsX5_windowOf := goodIn_r _ [10, 11, 12, 13, 5, 14, 15, 16, 17, 18, 19, 20, 21, 22, 23, 24, 25, 26, 27, 28, 29, 35, 36, 37, 38, 39, 40, 41, 42, 43, 44, 45, 46] (by decide +kernel) (by decide +kernel)
set_option maxRecDepth 20000 in
theorem gX5_seen_X5_windowOf : GoodIn wsX5_seen (wsV RX5 64 RX5 yX5_windowOf wsX5_windowOf) := goodIn_app (goodIn_of _ (by decide +kernel)) ggX5_seen_X5_windowOf
set_option maxRecDepth 20000 in
theorem ggX5_seen_X5_lineAt : GoodIn wsX5_seen wsX5_lineAt := goodIn_r _ [33, 34, 15, 16, 17, 5, 18, 19, 20, 21, 22, 23, 24, 25, 26, 27, 28, 29, 35, 36, 37, 38, 39, 40, 41, 42, 43, 44, 45, 46] (by decide +kernel) (by decide +kernel)
set_option maxRecDepth 20000 in
theorem gX5_seen_X5_lineAt : GoodIn wsX5_seen (wsV RX5 86 RX5 yX5_lineAt wsX5_lineAt) := goodIn_app (goodIn_of _ (by decide +kernel)) ggX5_seen_X5_lineAt
theorem dX5_seen_0 : decode cX5_seen 0 = .ok (.iload_n 1, 1) := by decide +kernel
theorem dX5_seen_1 : decode cX5_seen 1 = .ok (.iconst 0, 1) := by decide +kernel
theorem dX5_seen_2 : decode cX5_seen 2 = .ok (.aload_n 0, 1) := by decide +kernel
theorem dX5_seen_3 : decode cX5_seen 3 = .ok (.getfield 7, 3) := by decide +kernel
theorem dX5_seen_6 : decode cX5_seen 6 = .ok (.iconst 3, 1) := by decide +kernel
theorem dX5_seen_7 : decode cX5_seen 7 = .ok (.iaload, 1) := by decide +kernel
theorem dX5_seen_8 : decode cX5_seen 8 = .ok (.iconst 1, 1) := by decide +kernel
theorem dX5_seen_9 : decode cX5_seen 9 = .ok (.isub, 1) := by decide +kernel
theorem dX5_seen_10 : decode cX5_seen 10 = .ok (.invokestatic 37, 3) := by decide +kernel
theorem dX5_seen_13 : decode cX5_seen 13 = .ok (.ifCond .eq 24, 3) := by decide +kernel
theorem dX5_seen_16 : decode cX5_seen 16 = .ok (.aload_n 0, 1) := by decide +kernel
theorem dX5_seen_17 : decode cX5_seen 17 = .ok (.aload_n 0, 1) := by decide +kernel
theorem dX5_seen_18 : decode cX5_seen 18 = .ok (.getfield 7, 3) := by decide +kernel
theorem dX5_seen_21 : decode cX5_seen 21 = .ok (.aload_n 0, 1) := by decide +kernel
theorem dX5_seen_22 : decode cX5_seen 22 = .ok (.aload_n 0, 1) := by decide +kernel
theorem dX5_seen_23 : decode cX5_seen 23 = .ok (.getfield 7, 3) := by decide +kernel
theorem dX5_seen_26 : decode cX5_seen 26 = .ok (.invokevirtual 64, 3) := by decide +kernel
theorem dX5_seen_29 : decode cX5_seen 29 = .ok (.iload_n 1, 1) := by decide +kernel
theorem dX5_seen_30 : decode cX5_seen 30 = .ok (.iadd, 1) := by decide +kernel
theorem dX5_seen_31 : decode cX5_seen 31 = .ok (.invokevirtual 86, 3) := by decide +kernel
theorem dX5_seen_34 : decode cX5_seen 34 = .ok (.goto 5, 3) := by decide +kernel
theorem dX5_seen_37 : decode cX5_seen 37 = .ok (.ldc 36, 2) := by decide +kernel
theorem dX5_seen_39 : decode cX5_seen 39 = .ok (.ireturn, 1) := by decide +kernel
set_option maxRecDepth 20000 in
theorem ggX5_at_X5_lineAt : GoodIn wsX5_at wsX5_lineAt := goodIn_r _ [7, 8, 9, 10, 11, 6, 12, 13, 14, 15, 16, 17, 18, 19, 20, 21, 22, 23, 24, 25, 26, 27, 28, 29, 30, 31, 32, 33, 34, 35] (by decide +kernel) (by decide +kernel)
set_option maxRecDepth 20000 in
theorem gX5_at_X5_lineAt : GoodIn wsX5_at (wsV RX5 86 RX5 yX5_lineAt wsX5_lineAt) := goodIn_app (goodIn_of _ (by decide +kernel)) ggX5_at_X5_lineAt
theorem dX5_at_0 : decode cX5_at 0 = .ok (.iload_n 1, 1) := by decide +kernel
theorem dX5_at_1 : decode cX5_at 1 = .ok (.ifCond .ge 8, 3) := by decide +kernel
theorem dX5_at_4 : decode cX5_at 4 = .ok (.ldc 36, 2) := by decide +kernel
theorem dX5_at_6 : decode cX5_at 6 = .ok (.goto 12, 3) := by decide +kernel
theorem dX5_at_9 : decode cX5_at 9 = .ok (.aload_n 0, 1) := by decide +kernel
theorem dX5_at_10 : decode cX5_at 10 = .ok (.aload_n 0, 1) := by decide +kernel
theorem dX5_at_11 : decode cX5_at 11 = .ok (.getfield 7, 3) := by decide +kernel
theorem dX5_at_14 : decode cX5_at 14 = .ok (.iload_n 1, 1) := by decide +kernel
theorem dX5_at_15 : decode cX5_at 15 = .ok (.invokevirtual 86, 3) := by decide +kernel
theorem dX5_at_18 : decode cX5_at 18 = .ok (.ireturn, 1) := by decide +kernel
set_option maxRecDepth 20000 in
theorem ggX5_share_X5_total : GoodIn wsX5_share wsX5_total := goodIn_r _ [6, 7, 8, 9, 5, 10, 11, 12, 13, 14, 15, 16, 17, 18, 19, 20, 21, 22, 23, 24, 25, 30, 31, 32, 33, 34, 35, 36, 37, 38, 39, 40, 41] (by decide +kernel) (by decide +kernel)
set_option maxRecDepth 20000 in
theorem gX5_share_X5_total : GoodIn wsX5_share (wsV RX5 74 RX5 yX5_total wsX5_total) := goodIn_app (goodIn_of _ (by decide +kernel)) ggX5_share_X5_total
set_option maxRecDepth 20000 in
theorem ggX5_share_X5_windowOf : GoodIn wsX5_share wsX5_windowOf := goodIn_r _ [29, 7, 8, 9, 5, 10, 11, 12, 13, 14, 15, 16, 17, 18, 19, 20, 21, 22, 23, 24, 25, 30, 31, 32, 33, 34, 35, 36, 37, 38, 39, 40, 41] (by decide +kernel) (by decide +kernel)
set_option maxRecDepth 20000 in
theorem gX5_share_X5_windowOf : GoodIn wsX5_share (wsV RX5 64 RX5 yX5_windowOf wsX5_windowOf) := goodIn_app (goodIn_of _ (by decide +kernel)) ggX5_share_X5_windowOf
theorem dX5_share_0 : decode cX5_share 0 = .ok (.aload_n 0, 1) := by decide +kernel
theorem dX5_share_1 : decode cX5_share 1 = .ok (.aload_n 0, 1) := by decide +kernel
theorem dX5_share_2 : decode cX5_share 2 = .ok (.getfield 7, 3) := by decide +kernel
theorem dX5_share_5 : decode cX5_share 5 = .ok (.invokevirtual 74, 3) := by decide +kernel
theorem dX5_share_8 : decode cX5_share 8 = .ok (.aload_n 0, 1) := by decide +kernel
theorem dX5_share_9 : decode cX5_share 9 = .ok (.getfield 7, 3) := by decide +kernel
theorem dX5_share_12 : decode cX5_share 12 = .ok (.iconst 3, 1) := by decide +kernel
theorem dX5_share_13 : decode cX5_share 13 = .ok (.iaload, 1) := by decide +kernel
theorem dX5_share_14 : decode cX5_share 14 = .ok (.isub, 1) := by decide +kernel
theorem dX5_share_15 : decode cX5_share 15 = .ok (.istore_n 1, 1) := by decide +kernel
theorem dX5_share_16 : decode cX5_share 16 = .ok (.iload_n 1, 1) := by decide +kernel
theorem dX5_share_17 : decode cX5_share 17 = .ok (.ifCond .gt 7, 3) := by decide +kernel
theorem dX5_share_20 : decode cX5_share 20 = .ok (.iconst 0, 1) := by decide +kernel
theorem dX5_share_21 : decode cX5_share 21 = .ok (.goto 17, 3) := by decide +kernel
theorem dX5_share_24 : decode cX5_share 24 = .ok (.aload_n 0, 1) := by decide +kernel
theorem dX5_share_25 : decode cX5_share 25 = .ok (.aload_n 0, 1) := by decide +kernel
theorem dX5_share_26 : decode cX5_share 26 = .ok (.getfield 7, 3) := by decide +kernel
theorem dX5_share_29 : decode cX5_share 29 = .ok (.invokevirtual 64, 3) := by decide +kernel
theorem dX5_share_32 : decode cX5_share 32 = .ok (.sipush 1000, 3) := by decide +kernel
theorem dX5_share_35 : decode cX5_share 35 = .ok (.imul, 1) := by decide +kernel
theorem dX5_share_36 : decode cX5_share 36 = .ok (.iload_n 1, 1) := by decide +kernel
theorem dX5_share_37 : decode cX5_share 37 = .ok (.idiv, 1) := by decide +kernel
theorem dX5_share_38 : decode cX5_share 38 = .ok (.ireturn, 1) := by decide +kernel
set_option maxRecDepth 20000 in
theorem ggX5_trueSum_X5_isLine : GoodIn wsX5_trueSum wsX5_isLine := goodIn_r _ [7, 2, 8, 9, 6, 10, 17, 18, 19, 20, 21, 22, 23, 24, 25, 26, 27, 28] (by decide +kernel) (by decide +kernel)
set_option maxRecDepth 20000 in
theorem gX5_trueSum_X5_isLine : GoodIn wsX5_trueSum (wsV RX5 77 RX5 yX5_isLine wsX5_isLine) := goodIn_app (goodIn_of _ (by decide +kernel)) ggX5_trueSum_X5_isLine
set_option maxRecDepth 20000 in
theorem ggX5_trueSum_X5_trueOf : GoodIn wsX5_trueSum wsX5_trueOf := goodIn_r _ [13, 14, 15, 6, 16] (by decide +kernel) (by decide +kernel)
set_option maxRecDepth 20000 in
theorem gX5_trueSum_X5_trueOf : GoodIn wsX5_trueSum (va_wsS RX5 49 yX5_trueOf wsX5_trueOf) := goodIn_app (goodIn_of _ (by decide +kernel)) ggX5_trueSum_X5_trueOf
theorem dX5_trueSum_0 : decode cX5_trueSum 0 = .ok (.aload_n 0, 1) := by decide +kernel
theorem dX5_trueSum_1 : decode cX5_trueSum 1 = .ok (.iload_n 1, 1) := by decide +kernel
theorem dX5_trueSum_2 : decode cX5_trueSum 2 = .ok (.invokevirtual 77, 3) := by decide +kernel
theorem dX5_trueSum_5 : decode cX5_trueSum 5 = .ok (.ifCond .eq 16, 3) := by decide +kernel
theorem dX5_trueSum_8 : decode cX5_trueSum 8 = .ok (.aload_n 0, 1) := by decide +kernel
theorem dX5_trueSum_9 : decode cX5_trueSum 9 = .ok (.iload_n 2, 1) := by decide +kernel
theorem dX5_trueSum_10 : decode cX5_trueSum 10 = .ok (.invokevirtual 77, 3) := by decide +kernel
theorem dX5_trueSum_13 : decode cX5_trueSum 13 = .ok (.ifCond .eq 8, 3) := by decide +kernel
theorem dX5_trueSum_16 : decode cX5_trueSum 16 = .ok (.iload_n 2, 1) := by decide +kernel
theorem dX5_trueSum_17 : decode cX5_trueSum 17 = .ok (.iload_n 1, 1) := by decide +kernel
theorem dX5_trueSum_18 : decode cX5_trueSum 18 = .ok (.if_icmp .ge 6, 3) := by decide +kernel
theorem dX5_trueSum_21 : decode cX5_trueSum 21 = .ok (.ldc 36, 2) := by decide +kernel
theorem dX5_trueSum_23 : decode cX5_trueSum 23 = .ok (.ireturn, 1) := by decide +kernel
theorem dX5_trueSum_24 : decode cX5_trueSum 24 = .ok (.iconst 0, 1) := by decide +kernel
theorem dX5_trueSum_25 : decode cX5_trueSum 25 = .ok (.istore_n 3, 1) := by decide +kernel
theorem dX5_trueSum_26 : decode cX5_trueSum 26 = .ok (.iload_n 1, 1) := by decide +kernel
theorem dX5_trueSum_27 : decode cX5_trueSum 27 = .ok (.istore 4, 2) := by decide +kernel
theorem dX5_trueSum_29 : decode cX5_trueSum 29 = .ok (.iload 4, 2) := by decide +kernel
theorem dX5_trueSum_31 : decode cX5_trueSum 31 = .ok (.iload_n 2, 1) := by decide +kernel
theorem dX5_trueSum_32 : decode cX5_trueSum 32 = .ok (.if_icmp .gt 21, 3) := by decide +kernel
theorem dX5_trueSum_35 : decode cX5_trueSum 35 = .ok (.iload_n 3, 1) := by decide +kernel
theorem dX5_trueSum_36 : decode cX5_trueSum 36 = .ok (.aload_n 0, 1) := by decide +kernel
theorem dX5_trueSum_37 : decode cX5_trueSum 37 = .ok (.getfield 7, 3) := by decide +kernel
theorem dX5_trueSum_40 : decode cX5_trueSum 40 = .ok (.iload 4, 2) := by decide +kernel
theorem dX5_trueSum_42 : decode cX5_trueSum 42 = .ok (.invokestatic 49, 3) := by decide +kernel
theorem dX5_trueSum_45 : decode cX5_trueSum 45 = .ok (.iadd, 1) := by decide +kernel
theorem dX5_trueSum_46 : decode cX5_trueSum 46 = .ok (.istore_n 3, 1) := by decide +kernel
theorem dX5_trueSum_47 : decode cX5_trueSum 47 = .ok (.iinc 4 1, 3) := by decide +kernel
theorem dX5_trueSum_50 : decode cX5_trueSum 50 = .ok (.goto (-21), 3) := by decide +kernel
theorem dX5_trueSum_53 : decode cX5_trueSum 53 = .ok (.iload_n 3, 1) := by decide +kernel
theorem dX5_trueSum_54 : decode cX5_trueSum 54 = .ok (.ireturn, 1) := by decide +kernel
set_option maxRecDepth 20000 in
theorem ggX5_scrollsTo_X5_isLine : GoodIn wsX5_scrollsTo wsX5_isLine := goodIn_r _ [9, 2, 10, 11, 8, 12, 52, 53, 54, 55, 56, 57, 58, 59, 60, 61, 62, 63] (by decide +kernel) (by decide +kernel)
set_option maxRecDepth 20000 in
theorem gX5_scrollsTo_X5_isLine : GoodIn wsX5_scrollsTo (wsV RX5 77 RX5 yX5_isLine wsX5_isLine) := goodIn_app (goodIn_of _ (by decide +kernel)) ggX5_scrollsTo_X5_isLine
set_option maxRecDepth 20000 in
theorem ggX5_scrollsTo_X5_in : GoodIn wsX5_scrollsTo wsX5_in := goodIn_r _ [12] (by decide +kernel) (by decide +kernel)
set_option maxRecDepth 20000 in
theorem gX5_scrollsTo_X5_in : GoodIn wsX5_scrollsTo (va_wsS RX5 37 yX5_in wsX5_in) := goodIn_app (goodIn_of _ (by decide +kernel)) ggX5_scrollsTo_X5_in
set_option maxRecDepth 20000 in
theorem ggX5_scrollsTo_X5_copies : GoodIn wsX5_scrollsTo wsX5_copies := goodIn_r _ [15] (by decide +kernel) (by decide +kernel)
set_option maxRecDepth 20000 in
theorem gX5_scrollsTo_X5_copies : GoodIn wsX5_scrollsTo (va_wsS RX5 31 yX5_copies wsX5_copies) := goodIn_app (goodIn_of _ (by decide +kernel)) ggX5_scrollsTo_X5_copies
set_option maxRecDepth 20000 in
theorem ggX5_scrollsTo_X5_isSeen : GoodIn wsX5_scrollsTo wsX5_isSeen := goodIn_r _ [19, 20, 21, 22, 8, 23, 24, 25, 26, 27, 28, 29, 30, 31, 32, 33, 34, 35, 36, 37, 38, 39, 40, 41, 42, 52, 53, 54, 55, 56, 57, 58, 59, 60, 61, 62, 63] (by decide +kernel) (by decide +kernel)
set_option maxRecDepth 20000 in
theorem gX5_scrollsTo_X5_isSeen : GoodIn wsX5_scrollsTo (wsV RX5 150 RX5 yX5_isSeen wsX5_isSeen) := goodIn_app (goodIn_of _ (by decide +kernel)) ggX5_scrollsTo_X5_isSeen
set_option maxRecDepth 20000 in
theorem ggX5_scrollsTo_X5_scrolls : GoodIn wsX5_scrollsTo wsX5_scrolls := goodIn_r _ [45, 46, 47, 8, 48, 29, 30, 31, 32, 33, 34, 49, 50, 51] (by decide +kernel) (by decide +kernel)
set_option maxRecDepth 20000 in
theorem gX5_scrollsTo_X5_scrolls : GoodIn wsX5_scrollsTo (va_wsS RX5 82 yX5_scrolls wsX5_scrolls) := goodIn_app (goodIn_of _ (by decide +kernel)) ggX5_scrollsTo_X5_scrolls
theorem dX5_scrollsTo_0 : decode cX5_scrollsTo 0 = .ok (.aload_n 0, 1) := by decide +kernel
theorem dX5_scrollsTo_1 : decode cX5_scrollsTo 1 = .ok (.iload_n 1, 1) := by decide +kernel
theorem dX5_scrollsTo_2 : decode cX5_scrollsTo 2 = .ok (.invokevirtual 77, 3) := by decide +kernel
theorem dX5_scrollsTo_5 : decode cX5_scrollsTo 5 = .ok (.ifCond .eq 20, 3) := by decide +kernel
theorem dX5_scrollsTo_8 : decode cX5_scrollsTo 8 = .ok (.iload_n 2, 1) := by decide +kernel
theorem dX5_scrollsTo_9 : decode cX5_scrollsTo 9 = .ok (.sipush (-9999), 3) := by decide +kernel
theorem dX5_scrollsTo_12 : decode cX5_scrollsTo 12 = .ok (.sipush 9999, 3) := by decide +kernel
theorem dX5_scrollsTo_15 : decode cX5_scrollsTo 15 = .ok (.invokestatic 37, 3) := by decide +kernel
theorem dX5_scrollsTo_18 : decode cX5_scrollsTo 18 = .ok (.ifCond .eq 7, 3) := by decide +kernel
theorem dX5_scrollsTo_21 : decode cX5_scrollsTo 21 = .ok (.iload_n 2, 1) := by decide +kernel
theorem dX5_scrollsTo_22 : decode cX5_scrollsTo 22 = .ok (.ifCond .ne 6, 3) := by decide +kernel
theorem dX5_scrollsTo_25 : decode cX5_scrollsTo 25 = .ok (.ldc 36, 2) := by decide +kernel
theorem dX5_scrollsTo_27 : decode cX5_scrollsTo 27 = .ok (.ireturn, 1) := by decide +kernel
theorem dX5_scrollsTo_28 : decode cX5_scrollsTo 28 = .ok (.aload_n 0, 1) := by decide +kernel
theorem dX5_scrollsTo_29 : decode cX5_scrollsTo 29 = .ok (.getfield 7, 3) := by decide +kernel
theorem dX5_scrollsTo_32 : decode cX5_scrollsTo 32 = .ok (.iconst 0, 1) := by decide +kernel
theorem dX5_scrollsTo_33 : decode cX5_scrollsTo 33 = .ok (.aload_n 0, 1) := by decide +kernel
theorem dX5_scrollsTo_34 : decode cX5_scrollsTo 34 = .ok (.getfield 16, 3) := by decide +kernel
theorem dX5_scrollsTo_37 : decode cX5_scrollsTo 37 = .ok (.iconst 0, 1) := by decide +kernel
theorem dX5_scrollsTo_38 : decode cX5_scrollsTo 38 = .ok (.invokestatic 31, 3) := by decide +kernel
theorem dX5_scrollsTo_41 : decode cX5_scrollsTo 41 = .ok (.iconst 0, 1) := by decide +kernel
theorem dX5_scrollsTo_42 : decode cX5_scrollsTo 42 = .ok (.istore_n 3, 1) := by decide +kernel
theorem dX5_scrollsTo_43 : decode cX5_scrollsTo 43 = .ok (.iload_n 3, 1) := by decide +kernel
theorem dX5_scrollsTo_44 : decode cX5_scrollsTo 44 = .ok (.bipush 101, 2) := by decide +kernel
theorem dX5_scrollsTo_46 : decode cX5_scrollsTo 46 = .ok (.if_icmp .ge 31, 3) := by decide +kernel
theorem dX5_scrollsTo_49 : decode cX5_scrollsTo 49 = .ok (.aload_n 0, 1) := by decide +kernel
theorem dX5_scrollsTo_50 : decode cX5_scrollsTo 50 = .ok (.aload_n 0, 1) := by decide +kernel
theorem dX5_scrollsTo_51 : decode cX5_scrollsTo 51 = .ok (.getfield 16, 3) := by decide +kernel
theorem dX5_scrollsTo_54 : decode cX5_scrollsTo 54 = .ok (.iload_n 1, 1) := by decide +kernel
theorem dX5_scrollsTo_55 : decode cX5_scrollsTo 55 = .ok (.invokevirtual 150, 3) := by decide +kernel
theorem dX5_scrollsTo_58 : decode cX5_scrollsTo 58 = .ok (.ifCond .eq 5, 3) := by decide +kernel
theorem dX5_scrollsTo_61 : decode cX5_scrollsTo 61 = .ok (.iload_n 3, 1) := by decide +kernel
theorem dX5_scrollsTo_62 : decode cX5_scrollsTo 62 = .ok (.ireturn, 1) := by decide +kernel
theorem dX5_scrollsTo_63 : decode cX5_scrollsTo 63 = .ok (.aload_n 0, 1) := by decide +kernel
theorem dX5_scrollsTo_64 : decode cX5_scrollsTo 64 = .ok (.getfield 16, 3) := by decide +kernel
theorem dX5_scrollsTo_67 : decode cX5_scrollsTo 67 = .ok (.iload_n 2, 1) := by decide +kernel
theorem dX5_scrollsTo_68 : decode cX5_scrollsTo 68 = .ok (.invokestatic 82, 3) := by decide +kernel
theorem dX5_scrollsTo_71 : decode cX5_scrollsTo 71 = .ok (.iinc 3 1, 3) := by decide +kernel
theorem dX5_scrollsTo_74 : decode cX5_scrollsTo 74 = .ok (.goto (-31), 3) := by decide +kernel
theorem dX5_scrollsTo_77 : decode cX5_scrollsTo 77 = .ok (.ldc 63, 2) := by decide +kernel
theorem dX5_scrollsTo_79 : decode cX5_scrollsTo 79 = .ok (.ireturn, 1) := by decide +kernel
set_option maxRecDepth 20000 in
theorem ggX5_measuredBy_X5_in : GoodIn wsX5_measuredBy wsX5_in := goodIn_r _ [7] (by decide +kernel) (by decide +kernel)
set_option maxRecDepth 20000 in
theorem gX5_measuredBy_X5_in : GoodIn wsX5_measuredBy (va_wsS RX5 37 yX5_in wsX5_in) := goodIn_app (goodIn_of _ (by decide +kernel)) ggX5_measuredBy_X5_in
set_option maxRecDepth 20000 in
theorem ggX5_measuredBy_X5_copies : GoodIn wsX5_measuredBy wsX5_copies := goodIn_r _ [10] (by decide +kernel) (by decide +kernel)
set_option maxRecDepth 20000 in
theorem gX5_measuredBy_X5_copies : GoodIn wsX5_measuredBy (va_wsS RX5 31 yX5_copies wsX5_copies) := goodIn_app (goodIn_of _ (by decide +kernel)) ggX5_measuredBy_X5_copies
set_option maxRecDepth 20000 in
theorem ggX5_measuredBy_X5_jumps : GoodIn wsX5_measuredBy wsX5_jumps := goodIn_r _ [14, 15, 16, 17, 6, 18, 19, 20, 21, 22, 23, 24, 25, 26, 27, 28, 29, 30, 31, 32, 33, 34, 35, 36, 37, 38, 39, 40, 41, 42, 43, 44, 45, 46, 47, 48, 53, 54, 55, 56, 57, 58, 59, 60, 61, 62, 63, 64] (by decide +kernel) (by decide +kernel)
set_option maxRecDepth 20000 in
theorem gX5_measuredBy_X5_jumps : GoodIn wsX5_measuredBy (wsV RX5 89 RX5 yX5_jumps wsX5_jumps) := goodIn_app (goodIn_of _ (by decide +kernel)) ggX5_measuredBy_X5_jumps
set_option maxRecDepth 20000 in
theorem ggX5_measuredBy_X5_measured : GoodIn wsX5_measuredBy wsX5_measured := goodIn_r _ [52, 28, 29, 6, 30] (by decide +kernel) (by decide +kernel)
set_option maxRecDepth 20000 in
theorem gX5_measuredBy_X5_measured : GoodIn wsX5_measuredBy (wsV RX5 154 RX5 yX5_measured wsX5_measured) := goodIn_app (goodIn_of _ (by decide +kernel)) ggX5_measuredBy_X5_measured
theorem dX5_measuredBy_0 : decode cX5_measuredBy 0 = .ok (.iload_n 1, 1) := by decide +kernel
theorem dX5_measuredBy_1 : decode cX5_measuredBy 1 = .ok (.iconst 0, 1) := by decide +kernel
theorem dX5_measuredBy_2 : decode cX5_measuredBy 2 = .ok (.sipush 1000, 3) := by decide +kernel
theorem dX5_measuredBy_5 : decode cX5_measuredBy 5 = .ok (.invokestatic 37, 3) := by decide +kernel
theorem dX5_measuredBy_8 : decode cX5_measuredBy 8 = .ok (.ifCond .ne 6, 3) := by decide +kernel
theorem dX5_measuredBy_11 : decode cX5_measuredBy 11 = .ok (.ldc 36, 2) := by decide +kernel
theorem dX5_measuredBy_13 : decode cX5_measuredBy 13 = .ok (.ireturn, 1) := by decide +kernel
theorem dX5_measuredBy_14 : decode cX5_measuredBy 14 = .ok (.aload_n 0, 1) := by decide +kernel
theorem dX5_measuredBy_15 : decode cX5_measuredBy 15 = .ok (.getfield 7, 3) := by decide +kernel
theorem dX5_measuredBy_18 : decode cX5_measuredBy 18 = .ok (.iconst 0, 1) := by decide +kernel
theorem dX5_measuredBy_19 : decode cX5_measuredBy 19 = .ok (.iaload, 1) := by decide +kernel
theorem dX5_measuredBy_20 : decode cX5_measuredBy 20 = .ok (.ifCond .ne 5, 3) := by decide +kernel
theorem dX5_measuredBy_23 : decode cX5_measuredBy 23 = .ok (.iconst 0, 1) := by decide +kernel
theorem dX5_measuredBy_24 : decode cX5_measuredBy 24 = .ok (.ireturn, 1) := by decide +kernel
theorem dX5_measuredBy_25 : decode cX5_measuredBy 25 = .ok (.aload_n 0, 1) := by decide +kernel
theorem dX5_measuredBy_26 : decode cX5_measuredBy 26 = .ok (.getfield 7, 3) := by decide +kernel
theorem dX5_measuredBy_29 : decode cX5_measuredBy 29 = .ok (.iconst 0, 1) := by decide +kernel
theorem dX5_measuredBy_30 : decode cX5_measuredBy 30 = .ok (.aload_n 0, 1) := by decide +kernel
theorem dX5_measuredBy_31 : decode cX5_measuredBy 31 = .ok (.getfield 16, 3) := by decide +kernel
theorem dX5_measuredBy_34 : decode cX5_measuredBy 34 = .ok (.iconst 0, 1) := by decide +kernel
theorem dX5_measuredBy_35 : decode cX5_measuredBy 35 = .ok (.invokestatic 31, 3) := by decide +kernel
theorem dX5_measuredBy_38 : decode cX5_measuredBy 38 = .ok (.aload_n 0, 1) := by decide +kernel
theorem dX5_measuredBy_39 : decode cX5_measuredBy 39 = .ok (.aload_n 0, 1) := by decide +kernel
theorem dX5_measuredBy_40 : decode cX5_measuredBy 40 = .ok (.getfield 16, 3) := by decide +kernel
theorem dX5_measuredBy_43 : decode cX5_measuredBy 43 = .ok (.iload_n 1, 1) := by decide +kernel
theorem dX5_measuredBy_44 : decode cX5_measuredBy 44 = .ok (.invokevirtual 89, 3) := by decide +kernel
theorem dX5_measuredBy_47 : decode cX5_measuredBy 47 = .ok (.aload_n 0, 1) := by decide +kernel
theorem dX5_measuredBy_48 : decode cX5_measuredBy 48 = .ok (.aload_n 0, 1) := by decide +kernel
theorem dX5_measuredBy_49 : decode cX5_measuredBy 49 = .ok (.getfield 16, 3) := by decide +kernel
theorem dX5_measuredBy_52 : decode cX5_measuredBy 52 = .ok (.invokevirtual 154, 3) := by decide +kernel
theorem dX5_measuredBy_55 : decode cX5_measuredBy 55 = .ok (.aload_n 0, 1) := by decide +kernel
theorem dX5_measuredBy_56 : decode cX5_measuredBy 56 = .ok (.aload_n 0, 1) := by decide +kernel
theorem dX5_measuredBy_57 : decode cX5_measuredBy 57 = .ok (.getfield 7, 3) := by decide +kernel
theorem dX5_measuredBy_60 : decode cX5_measuredBy 60 = .ok (.invokevirtual 154, 3) := by decide +kernel
theorem dX5_measuredBy_63 : decode cX5_measuredBy 63 = .ok (.isub, 1) := by decide +kernel
theorem dX5_measuredBy_64 : decode cX5_measuredBy 64 = .ok (.ireturn, 1) := by decide +kernel
theorem dJ9_max_7cf53_0 : decode cJ9_max_7cf53 0 = .ok (.iload_n 0, 1) := by decide +kernel
theorem dJ9_max_7cf53_1 : decode cJ9_max_7cf53 1 = .ok (.iload_n 1, 1) := by decide +kernel
theorem dJ9_max_7cf53_2 : decode cJ9_max_7cf53 2 = .ok (.if_icmp .lt 7, 3) := by decide +kernel
theorem dJ9_max_7cf53_5 : decode cJ9_max_7cf53 5 = .ok (.iload_n 0, 1) := by decide +kernel
theorem dJ9_max_7cf53_6 : decode cJ9_max_7cf53 6 = .ok (.goto 4, 3) := by decide +kernel
theorem dJ9_max_7cf53_9 : decode cJ9_max_7cf53 9 = .ok (.iload_n 1, 1) := by decide +kernel
theorem dJ9_max_7cf53_10 : decode cJ9_max_7cf53 10 = .ok (.ireturn, 1) := by decide +kernel
theorem dJ9_min_7cf53_0 : decode cJ9_min_7cf53 0 = .ok (.iload_n 0, 1) := by decide +kernel
theorem dJ9_min_7cf53_1 : decode cJ9_min_7cf53 1 = .ok (.iload_n 1, 1) := by decide +kernel
theorem dJ9_min_7cf53_2 : decode cJ9_min_7cf53 2 = .ok (.if_icmp .gt 7, 3) := by decide +kernel
theorem dJ9_min_7cf53_5 : decode cJ9_min_7cf53 5 = .ok (.iload_n 0, 1) := by decide +kernel
theorem dJ9_min_7cf53_6 : decode cJ9_min_7cf53 6 = .ok (.goto 4, 3) := by decide +kernel
theorem dJ9_min_7cf53_9 : decode cJ9_min_7cf53 9 = .ok (.iload_n 1, 1) := by decide +kernel
theorem dJ9_min_7cf53_10 : decode cJ9_min_7cf53 10 = .ok (.ireturn, 1) := by decide +kernel
set_option maxRecDepth 20000 in
theorem ggJ0_length_8abf5_J0_coder_7d493 : GoodIn wsJ0_length_8abf5 wsJ0_coder_7d493 := goodIn_r _ [6, 7, 8] (by decide +kernel) (by decide +kernel)
set_option maxRecDepth 20000 in
theorem gJ0_length_8abf5_J0_coder_7d493 : GoodIn wsJ0_length_8abf5 (wsV RJ0 335 RJ0 yJ0_coder_7d493 wsJ0_coder_7d493) := goodIn_app (goodIn_of _ (by decide +kernel)) ggJ0_length_8abf5_J0_coder_7d493
theorem dJ0_length_8abf5_0 : decode cJ0_length_8abf5 0 = .ok (.aload_n 0, 1) := by decide +kernel
theorem dJ0_length_8abf5_1 : decode cJ0_length_8abf5 1 = .ok (.getfield 9, 3) := by decide +kernel
theorem dJ0_length_8abf5_4 : decode cJ0_length_8abf5 4 = .ok (.arraylength, 1) := by decide +kernel
theorem dJ0_length_8abf5_5 : decode cJ0_length_8abf5 5 = .ok (.aload_n 0, 1) := by decide +kernel
theorem dJ0_length_8abf5_6 : decode cJ0_length_8abf5 6 = .ok (.invokevirtual 335, 3) := by decide +kernel
theorem dJ0_length_8abf5_9 : decode cJ0_length_8abf5 9 = .ok (.ishr, 1) := by decide +kernel
theorem dJ0_length_8abf5_10 : decode cJ0_length_8abf5 10 = .ok (.ireturn, 1) := by decide +kernel
set_option maxRecDepth 20000 in
theorem ggJ0_charAt_5068e_J0_isLatin1_aae02 : GoodIn wsJ0_charAt_5068e wsJ0_isLatin1_aae02 := goodIn_r _ [6, 7, 8] (by decide +kernel) (by decide +kernel)
set_option maxRecDepth 20000 in
theorem gJ0_charAt_5068e_J0_isLatin1_aae02 : GoodIn wsJ0_charAt_5068e (wsV RJ0 492 RJ0 yJ0_isLatin1_aae02 wsJ0_isLatin1_aae02) := goodIn_app (goodIn_of _ (by decide +kernel)) ggJ0_charAt_5068e_J0_isLatin1_aae02
set_option maxRecDepth 20000 in
theorem ggJ0_charAt_5068e_J1_charAt_3b067 : GoodIn wsJ0_charAt_5068e wsJ1_charAt_3b067 := goodIn_r _ [12, 13, 14, 5, 15, 16, 17, 18, 19, 20] (by decide +kernel) (by decide +kernel)
set_option maxRecDepth 20000 in
theorem gJ0_charAt_5068e_J1_charAt_3b067 : GoodIn wsJ0_charAt_5068e (va_wsS RJ0 495 yJ1_charAt_3b067 wsJ1_charAt_3b067) := goodIn_app (goodIn_of _ (by decide +kernel)) ggJ0_charAt_5068e_J1_charAt_3b067
set_option maxRecDepth 20000 in
theorem ggJ0_charAt_5068e_J2_charAt_3b067 : GoodIn wsJ0_charAt_5068e wsJ2_charAt_3b067 := goodIn_r _ [24, 25, 26, 23, 27, 28, 29, 30, 31, 14, 5, 15, 16, 17, 18, 19, 20, 32, 33, 34, 35, 36, 37] (by decide +kernel) (by decide +kernel)
set_option maxRecDepth 20000 in
theorem gJ0_charAt_5068e_J2_charAt_3b067 : GoodIn wsJ0_charAt_5068e (va_wsS RJ0 498 yJ2_charAt_3b067 wsJ2_charAt_3b067) := goodIn_app (goodIn_of _ (by decide +kernel)) ggJ0_charAt_5068e_J2_charAt_3b067
theorem dJ0_charAt_5068e_0 : decode cJ0_charAt_5068e 0 = .ok (.aload_n 0, 1) := by decide +kernel
theorem dJ0_charAt_5068e_1 : decode cJ0_charAt_5068e 1 = .ok (.invokevirtual 492, 3) := by decide +kernel
theorem dJ0_charAt_5068e_4 : decode cJ0_charAt_5068e 4 = .ok (.ifCond .eq 12, 3) := by decide +kernel
theorem dJ0_charAt_5068e_7 : decode cJ0_charAt_5068e 7 = .ok (.aload_n 0, 1) := by decide +kernel
theorem dJ0_charAt_5068e_8 : decode cJ0_charAt_5068e 8 = .ok (.getfield 9, 3) := by decide +kernel
theorem dJ0_charAt_5068e_11 : decode cJ0_charAt_5068e 11 = .ok (.iload_n 1, 1) := by decide +kernel
theorem dJ0_charAt_5068e_12 : decode cJ0_charAt_5068e 12 = .ok (.invokestatic 495, 3) := by decide +kernel
theorem dJ0_charAt_5068e_15 : decode cJ0_charAt_5068e 15 = .ok (.ireturn, 1) := by decide +kernel
theorem dJ0_charAt_5068e_16 : decode cJ0_charAt_5068e 16 = .ok (.aload_n 0, 1) := by decide +kernel
theorem dJ0_charAt_5068e_17 : decode cJ0_charAt_5068e 17 = .ok (.getfield 9, 3) := by decide +kernel
theorem dJ0_charAt_5068e_20 : decode cJ0_charAt_5068e 20 = .ok (.iload_n 1, 1) := by decide +kernel
theorem dJ0_charAt_5068e_21 : decode cJ0_charAt_5068e 21 = .ok (.invokestatic 498, 3) := by decide +kernel
theorem dJ0_charAt_5068e_24 : decode cJ0_charAt_5068e 24 = .ok (.ireturn, 1) := by decide +kernel
theorem dJ0_coder_7d493_0 : decode cJ0_coder_7d493 0 = .ok (.getstatic 38, 3) := by decide +kernel
theorem dJ0_coder_7d493_3 : decode cJ0_coder_7d493 3 = .ok (.ifCond .eq 10, 3) := by decide +kernel
theorem dJ0_coder_7d493_6 : decode cJ0_coder_7d493 6 = .ok (.aload_n 0, 1) := by decide +kernel
theorem dJ0_coder_7d493_7 : decode cJ0_coder_7d493 7 = .ok (.getfield 15, 3) := by decide +kernel
theorem dJ0_coder_7d493_10 : decode cJ0_coder_7d493 10 = .ok (.goto 4, 3) := by decide +kernel
theorem dJ0_coder_7d493_13 : decode cJ0_coder_7d493 13 = .ok (.iconst 1, 1) := by decide +kernel
theorem dJ0_coder_7d493_14 : decode cJ0_coder_7d493 14 = .ok (.ireturn, 1) := by decide +kernel
theorem dJ0_isLatin1_aae02_0 : decode cJ0_isLatin1_aae02 0 = .ok (.getstatic 38, 3) := by decide +kernel
theorem dJ0_isLatin1_aae02_3 : decode cJ0_isLatin1_aae02 3 = .ok (.ifCond .eq 14, 3) := by decide +kernel
theorem dJ0_isLatin1_aae02_6 : decode cJ0_isLatin1_aae02 6 = .ok (.aload_n 0, 1) := by decide +kernel
theorem dJ0_isLatin1_aae02_7 : decode cJ0_isLatin1_aae02 7 = .ok (.getfield 15, 3) := by decide +kernel
theorem dJ0_isLatin1_aae02_10 : decode cJ0_isLatin1_aae02 10 = .ok (.ifCond .ne 7, 3) := by decide +kernel
theorem dJ0_isLatin1_aae02_13 : decode cJ0_isLatin1_aae02 13 = .ok (.iconst 1, 1) := by decide +kernel
theorem dJ0_isLatin1_aae02_14 : decode cJ0_isLatin1_aae02 14 = .ok (.goto 4, 3) := by decide +kernel
theorem dJ0_isLatin1_aae02_17 : decode cJ0_isLatin1_aae02 17 = .ok (.iconst 0, 1) := by decide +kernel
theorem dJ0_isLatin1_aae02_18 : decode cJ0_isLatin1_aae02 18 = .ok (.ireturn, 1) := by decide +kernel
set_option maxRecDepth 20000 in
theorem ggJ0_checkIndex_df160_J3_checkIndex_8e157 : GoodIn wsJ0_checkIndex_df160 wsJ3_checkIndex_8e157 := goodIn_r _ [5] (by decide +kernel) (by decide +kernel)
set_option maxRecDepth 20000 in
theorem gJ0_checkIndex_df160_J3_checkIndex_8e157 : GoodIn wsJ0_checkIndex_df160 (va_wsS RJ0 1059 yJ3_checkIndex_8e157 wsJ3_checkIndex_8e157) := goodIn_app (goodIn_of _ (by decide +kernel)) ggJ0_checkIndex_df160_J3_checkIndex_8e157
theorem dJ0_checkIndex_df160_0 : decode cJ0_checkIndex_df160 0 = .ok (.iload_n 0, 1) := by decide +kernel
theorem dJ0_checkIndex_df160_1 : decode cJ0_checkIndex_df160 1 = .ok (.iload_n 1, 1) := by decide +kernel
theorem dJ0_checkIndex_df160_2 : decode cJ0_checkIndex_df160 2 = .ok (.getstatic 1053, 3) := by decide +kernel
theorem dJ0_checkIndex_df160_5 : decode cJ0_checkIndex_df160 5 = .ok (.invokestatic 1059, 3) := by decide +kernel
theorem dJ0_checkIndex_df160_8 : decode cJ0_checkIndex_df160 8 = .ok (.pop, 1) := by decide +kernel
theorem dJ0_checkIndex_df160_9 : decode cJ0_checkIndex_df160 9 = .ok (.return_, 1) := by decide +kernel
set_option maxRecDepth 20000 in
theorem ggJ1_charAt_3b067_J0_checkIndex_df160 : GoodIn wsJ1_charAt_3b067 wsJ0_checkIndex_df160 := goodIn_r _ [4, 5, 6, 7, 8, 9] (by decide +kernel) (by decide +kernel)
set_option maxRecDepth 20000 in
theorem gJ1_charAt_3b067_J0_checkIndex_df160 : GoodIn wsJ1_charAt_3b067 (va_wsS RJ1 9 yJ0_checkIndex_df160 wsJ0_checkIndex_df160) := goodIn_app (goodIn_of _ (by decide +kernel)) ggJ1_charAt_3b067_J0_checkIndex_df160
theorem dJ1_charAt_3b067_0 : decode cJ1_charAt_3b067 0 = .ok (.iload_n 1, 1) := by decide +kernel
theorem dJ1_charAt_3b067_1 : decode cJ1_charAt_3b067 1 = .ok (.aload_n 0, 1) := by decide +kernel
theorem dJ1_charAt_3b067_2 : decode cJ1_charAt_3b067 2 = .ok (.arraylength, 1) := by decide +kernel
theorem dJ1_charAt_3b067_3 : decode cJ1_charAt_3b067 3 = .ok (.invokestatic 9, 3) := by decide +kernel
theorem dJ1_charAt_3b067_6 : decode cJ1_charAt_3b067 6 = .ok (.aload_n 0, 1) := by decide +kernel
theorem dJ1_charAt_3b067_7 : decode cJ1_charAt_3b067 7 = .ok (.iload_n 1, 1) := by decide +kernel
theorem dJ1_charAt_3b067_8 : decode cJ1_charAt_3b067 8 = .ok (.baload, 1) := by decide +kernel
theorem dJ1_charAt_3b067_9 : decode cJ1_charAt_3b067 9 = .ok (.sipush 255, 3) := by decide +kernel
theorem dJ1_charAt_3b067_12 : decode cJ1_charAt_3b067 12 = .ok (.iand, 1) := by decide +kernel
theorem dJ1_charAt_3b067_13 : decode cJ1_charAt_3b067 13 = .ok (.i2c, 1) := by decide +kernel
theorem dJ1_charAt_3b067_14 : decode cJ1_charAt_3b067 14 = .ok (.ireturn, 1) := by decide +kernel
set_option maxRecDepth 20000 in
theorem ggJ2_getChar_3b067_J2_length_9d52b : GoodIn wsJ2_getChar_3b067 wsJ2_length_9d52b := goodIn_r _ [7] (by decide +kernel) (by decide +kernel)
set_option maxRecDepth 20000 in
theorem gJ2_getChar_3b067_J2_length_9d52b : GoodIn wsJ2_getChar_3b067 (va_wsS RJ2 48 yJ2_length_9d52b wsJ2_length_9d52b) := goodIn_app (goodIn_of _ (by decide +kernel)) ggJ2_getChar_3b067_J2_length_9d52b
theorem dJ2_getChar_3b067_0 : decode cJ2_getChar_3b067 0 = .ok (.getstatic 44, 3) := by decide +kernel
theorem dJ2_getChar_3b067_3 : decode cJ2_getChar_3b067 3 = .ok (.ifCond .ne 25, 3) := by decide +kernel
theorem dJ2_getChar_3b067_6 : decode cJ2_getChar_3b067 6 = .ok (.iload_n 1, 1) := by decide +kernel
theorem dJ2_getChar_3b067_7 : decode cJ2_getChar_3b067 7 = .ok (.ifCond .lt 11, 3) := by decide +kernel
theorem dJ2_getChar_3b067_10 : decode cJ2_getChar_3b067 10 = .ok (.iload_n 1, 1) := by decide +kernel
theorem dJ2_getChar_3b067_11 : decode cJ2_getChar_3b067 11 = .ok (.aload_n 0, 1) := by decide +kernel
theorem dJ2_getChar_3b067_12 : decode cJ2_getChar_3b067 12 = .ok (.invokestatic 48, 3) := by decide +kernel
theorem dJ2_getChar_3b067_15 : decode cJ2_getChar_3b067 15 = .ok (.if_icmp .lt 13, 3) := by decide +kernel
theorem dJ2_getChar_3b067_18 : decode cJ2_getChar_3b067 18 = .ok (.new 52, 3) := by decide +kernel
theorem dJ2_getChar_3b067_21 : decode cJ2_getChar_3b067 21 = .ok (.dup, 1) := by decide +kernel
theorem dJ2_getChar_3b067_22 : decode cJ2_getChar_3b067 22 = .ok (.ldc 54, 2) := by decide +kernel
theorem dJ2_getChar_3b067_24 : decode cJ2_getChar_3b067 24 = .ok (.invokespecial 56, 3) := by decide +kernel
theorem dJ2_getChar_3b067_27 : decode cJ2_getChar_3b067 27 = .ok (.athrow, 1) := by decide +kernel
theorem dJ2_getChar_3b067_28 : decode cJ2_getChar_3b067 28 = .ok (.iload_n 1, 1) := by decide +kernel
theorem dJ2_getChar_3b067_29 : decode cJ2_getChar_3b067 29 = .ok (.iconst 1, 1) := by decide +kernel
theorem dJ2_getChar_3b067_30 : decode cJ2_getChar_3b067 30 = .ok (.ishl, 1) := by decide +kernel
theorem dJ2_getChar_3b067_31 : decode cJ2_getChar_3b067 31 = .ok (.istore_n 1, 1) := by decide +kernel
theorem dJ2_getChar_3b067_32 : decode cJ2_getChar_3b067 32 = .ok (.aload_n 0, 1) := by decide +kernel
theorem dJ2_getChar_3b067_33 : decode cJ2_getChar_3b067 33 = .ok (.iload_n 1, 1) := by decide +kernel
theorem dJ2_getChar_3b067_34 : decode cJ2_getChar_3b067 34 = .ok (.iinc 1 1, 3) := by decide +kernel
theorem dJ2_getChar_3b067_37 : decode cJ2_getChar_3b067 37 = .ok (.baload, 1) := by decide +kernel
theorem dJ2_getChar_3b067_38 : decode cJ2_getChar_3b067 38 = .ok (.sipush 255, 3) := by decide +kernel
theorem dJ2_getChar_3b067_41 : decode cJ2_getChar_3b067 41 = .ok (.iand, 1) := by decide +kernel
theorem dJ2_getChar_3b067_42 : decode cJ2_getChar_3b067 42 = .ok (.getstatic 59, 3) := by decide +kernel
theorem dJ2_getChar_3b067_45 : decode cJ2_getChar_3b067 45 = .ok (.ishl, 1) := by decide +kernel
theorem dJ2_getChar_3b067_46 : decode cJ2_getChar_3b067 46 = .ok (.aload_n 0, 1) := by decide +kernel
theorem dJ2_getChar_3b067_47 : decode cJ2_getChar_3b067 47 = .ok (.iload_n 1, 1) := by decide +kernel
theorem dJ2_getChar_3b067_48 : decode cJ2_getChar_3b067 48 = .ok (.baload, 1) := by decide +kernel
theorem dJ2_getChar_3b067_49 : decode cJ2_getChar_3b067 49 = .ok (.sipush 255, 3) := by decide +kernel
theorem dJ2_getChar_3b067_52 : decode cJ2_getChar_3b067 52 = .ok (.iand, 1) := by decide +kernel
theorem dJ2_getChar_3b067_53 : decode cJ2_getChar_3b067 53 = .ok (.getstatic 63, 3) := by decide +kernel
theorem dJ2_getChar_3b067_56 : decode cJ2_getChar_3b067 56 = .ok (.ishl, 1) := by decide +kernel
theorem dJ2_getChar_3b067_57 : decode cJ2_getChar_3b067 57 = .ok (.ior, 1) := by decide +kernel
theorem dJ2_getChar_3b067_58 : decode cJ2_getChar_3b067 58 = .ok (.i2c, 1) := by decide +kernel
theorem dJ2_getChar_3b067_59 : decode cJ2_getChar_3b067 59 = .ok (.ireturn, 1) := by decide +kernel
theorem dJ2_length_9d52b_0 : decode cJ2_length_9d52b 0 = .ok (.aload_n 0, 1) := by decide +kernel
theorem dJ2_length_9d52b_1 : decode cJ2_length_9d52b 1 = .ok (.arraylength, 1) := by decide +kernel
theorem dJ2_length_9d52b_2 : decode cJ2_length_9d52b 2 = .ok (.iconst 1, 1) := by decide +kernel
theorem dJ2_length_9d52b_3 : decode cJ2_length_9d52b 3 = .ok (.ishr, 1) := by decide +kernel
theorem dJ2_length_9d52b_4 : decode cJ2_length_9d52b 4 = .ok (.ireturn, 1) := by decide +kernel
set_option maxRecDepth 20000 in
theorem ggJ2_charAt_3b067_J2_checkIndex_2214a : GoodIn wsJ2_charAt_3b067 wsJ2_checkIndex_2214a := goodIn_r _ [4, 5, 6, 3, 7, 8, 9, 10, 11, 12, 13, 14, 15, 16] (by decide +kernel) (by decide +kernel)
set_option maxRecDepth 20000 in
theorem gJ2_charAt_3b067_J2_checkIndex_2214a : GoodIn wsJ2_charAt_3b067 (va_wsS RJ2 67 yJ2_checkIndex_2214a wsJ2_checkIndex_2214a) := goodIn_app (goodIn_of _ (by decide +kernel)) ggJ2_charAt_3b067_J2_checkIndex_2214a
set_option maxRecDepth 20000 in
theorem ggJ2_charAt_3b067_J2_getChar_3b067 : GoodIn wsJ2_charAt_3b067 wsJ2_getChar_3b067 := goodIn_r _ [19, 20, 21, 22, 5, 6, 3, 7] (by decide +kernel) (by decide +kernel)
set_option maxRecDepth 20000 in
theorem gJ2_charAt_3b067_J2_getChar_3b067 : GoodIn wsJ2_charAt_3b067 (va_wsS RJ2 71 yJ2_getChar_3b067 wsJ2_getChar_3b067) := goodIn_app (goodIn_of _ (by decide +kernel)) ggJ2_charAt_3b067_J2_getChar_3b067
theorem dJ2_charAt_3b067_0 : decode cJ2_charAt_3b067 0 = .ok (.iload_n 1, 1) := by decide +kernel
theorem dJ2_charAt_3b067_1 : decode cJ2_charAt_3b067 1 = .ok (.aload_n 0, 1) := by decide +kernel
theorem dJ2_charAt_3b067_2 : decode cJ2_charAt_3b067 2 = .ok (.invokestatic 67, 3) := by decide +kernel
theorem dJ2_charAt_3b067_5 : decode cJ2_charAt_3b067 5 = .ok (.aload_n 0, 1) := by decide +kernel
theorem dJ2_charAt_3b067_6 : decode cJ2_charAt_3b067 6 = .ok (.iload_n 1, 1) := by decide +kernel
theorem dJ2_charAt_3b067_7 : decode cJ2_charAt_3b067 7 = .ok (.invokestatic 71, 3) := by decide +kernel
theorem dJ2_charAt_3b067_10 : decode cJ2_charAt_3b067 10 = .ok (.ireturn, 1) := by decide +kernel
set_option maxRecDepth 20000 in
theorem ggJ2_checkIndex_2214a_J2_length_9d52b : GoodIn wsJ2_checkIndex_2214a wsJ2_length_9d52b := goodIn_r _ [4] (by decide +kernel) (by decide +kernel)
set_option maxRecDepth 20000 in
theorem gJ2_checkIndex_2214a_J2_length_9d52b : GoodIn wsJ2_checkIndex_2214a (va_wsS RJ2 48 yJ2_length_9d52b wsJ2_length_9d52b) := goodIn_app (goodIn_of _ (by decide +kernel)) ggJ2_checkIndex_2214a_J2_length_9d52b
set_option maxRecDepth 20000 in
theorem ggJ2_checkIndex_2214a_J0_checkIndex_df160 : GoodIn wsJ2_checkIndex_2214a wsJ0_checkIndex_df160 := goodIn_r _ [8, 9, 10, 11, 12, 13] (by decide +kernel) (by decide +kernel)
set_option maxRecDepth 20000 in
theorem gJ2_checkIndex_2214a_J0_checkIndex_df160 : GoodIn wsJ2_checkIndex_2214a (va_wsS RJ2 414 yJ0_checkIndex_df160 wsJ0_checkIndex_df160) := goodIn_app (goodIn_of _ (by decide +kernel)) ggJ2_checkIndex_2214a_J0_checkIndex_df160
theorem dJ2_checkIndex_2214a_0 : decode cJ2_checkIndex_2214a 0 = .ok (.iload_n 0, 1) := by decide +kernel
theorem dJ2_checkIndex_2214a_1 : decode cJ2_checkIndex_2214a 1 = .ok (.aload_n 1, 1) := by decide +kernel
theorem dJ2_checkIndex_2214a_2 : decode cJ2_checkIndex_2214a 2 = .ok (.invokestatic 48, 3) := by decide +kernel
theorem dJ2_checkIndex_2214a_5 : decode cJ2_checkIndex_2214a 5 = .ok (.invokestatic 414, 3) := by decide +kernel
theorem dJ2_checkIndex_2214a_8 : decode cJ2_checkIndex_2214a 8 = .ok (.return_, 1) := by decide +kernel
theorem dJ3_checkIndex_8e157_0 : decode cJ3_checkIndex_8e157 0 = .ok (.iload_n 0, 1) := by decide +kernel
theorem dJ3_checkIndex_8e157_1 : decode cJ3_checkIndex_8e157 1 = .ok (.ifCond .lt 8, 3) := by decide +kernel
theorem dJ3_checkIndex_8e157_4 : decode cJ3_checkIndex_8e157 4 = .ok (.iload_n 0, 1) := by decide +kernel
theorem dJ3_checkIndex_8e157_5 : decode cJ3_checkIndex_8e157 5 = .ok (.iload_n 1, 1) := by decide +kernel
theorem dJ3_checkIndex_8e157_6 : decode cJ3_checkIndex_8e157 6 = .ok (.if_icmp .lt 10, 3) := by decide +kernel
theorem dJ3_checkIndex_8e157_9 : decode cJ3_checkIndex_8e157 9 = .ok (.aload_n 2, 1) := by decide +kernel
theorem dJ3_checkIndex_8e157_10 : decode cJ3_checkIndex_8e157 10 = .ok (.iload_n 0, 1) := by decide +kernel
theorem dJ3_checkIndex_8e157_11 : decode cJ3_checkIndex_8e157 11 = .ok (.iload_n 1, 1) := by decide +kernel
theorem dJ3_checkIndex_8e157_12 : decode cJ3_checkIndex_8e157 12 = .ok (.invokestatic 95, 3) := by decide +kernel
theorem dJ3_checkIndex_8e157_15 : decode cJ3_checkIndex_8e157 15 = .ok (.athrow, 1) := by decide +kernel
theorem dJ3_checkIndex_8e157_16 : decode cJ3_checkIndex_8e157 16 = .ok (.iload_n 0, 1) := by decide +kernel
theorem dJ3_checkIndex_8e157_17 : decode cJ3_checkIndex_8e157 17 = .ok (.ireturn, 1) := by decide +kernel
set_option maxRecDepth 20000 in
theorem ggL_law_X4_init : GoodIn wsL_law wsX4_init := goodIn_r _ [8, 9, 10, 11, 12, 13, 14, 15, 16, 17, 18, 19, 20, 21, 22, 23, 24, 25, 26, 27, 28, 29, 30, 31, 32, 33, 34, 35, 36, 37, 38, 39, 40, 41, 42, 43, 44, 45, 46, 47, 48, 49, 50, 51, 52, 53, 54, 55, 56, 57, 58, 59, 680, 681, 682, 683, 664, 665, 666, 667, 684, 685, 686, 687, 688, 689, 690, 691, 692, 693, 694, 695, 696, 697, 698, 699] (by decide +kernel) (by decide +kernel)
set_option maxRecDepth 20000 in
theorem gL_law_X4_init : GoodIn wsL_law (wsX4_init) := ggL_law_X4_init
set_option maxRecDepth 20000 in
theorem ggL_law_X5_init : GoodIn wsL_law wsX5_init := goodIn_r _ [62, 63, 10, 11, 38, 64, 65, 66, 67, 68, 69, 70, 668, 669, 670, 671, 672, 673, 674, 675, 676, 677, 678, 679] (by decide +kernel) (by decide +kernel)
set_option maxRecDepth 20000 in
theorem gL_law_X5_init : GoodIn wsL_law (wsX5_init) := ggL_law_X5_init
set_option maxRecDepth 20000 in
theorem ggL_law_X4_put : GoodIn wsL_law wsX4_put := goodIn_r _ [74, 16, 15, 75, 76, 77, 14, 78, 32, 33, 79, 80, 81, 82, 83, 31, 84, 39, 85, 86, 87, 88, 40, 42, 43, 44, 89, 45, 90, 91, 92, 93, 94, 95, 96, 97, 2, 98, 99, 100, 101, 102, 103, 104, 105, 106, 107, 108, 109, 110, 111, 112, 113, 114, 115, 116, 117, 118, 119, 120, 121, 122, 123, 124, 125, 126, 127, 128, 129, 130, 131, 132, 133, 134, 135, 136, 137, 138, 139, 140, 141, 142, 143, 144, 145, 146, 147, 148, 149, 150, 151, 152, 153, 154, 155, 156, 20, 157, 158, 159, 19, 160, 161, 162, 163, 164, 165, 166, 167, 168, 169, 51, 170, 664, 665, 666, 667, 680, 681, 682, 683, 693, 694, 695, 696, 697, 698, 699, 684, 685, 686] (by decide +kernel) (by decide +kernel)
set_option maxRecDepth 20000 in
theorem gL_law_X4_put : GoodIn wsL_law (wsV RL 13 RX4 yX4_put wsX4_put) := goodIn_app (goodIn_of _ (by decide +kernel)) ggL_law_X4_put
set_option maxRecDepth 20000 in
theorem ggL_law_X5_put : GoodIn wsL_law wsX5_put := goodIn_r _ [174, 175, 176, 177, 5, 178, 64, 65, 179, 180, 181, 182, 183, 184, 185, 186, 187, 188, 189, 190, 191, 192, 193, 194, 195, 196, 197, 198, 199, 200, 201, 202, 203, 204, 205, 206, 207, 208, 209, 210, 211, 212, 213, 214, 69, 215, 216, 217, 218, 219, 220, 221, 222, 223, 67, 668, 669, 670, 671, 672, 673, 674, 675, 676, 677, 678, 679] (by decide +kernel) (by decide +kernel)
set_option maxRecDepth 20000 in
theorem gL_law_X5_put : GoodIn wsL_law (wsV RL 17 RX5 yX5_put wsX5_put) := goodIn_app (goodIn_of _ (by decide +kernel)) ggL_law_X5_put
set_option maxRecDepth 20000 in
theorem ggL_law_X4_cut : GoodIn wsL_law wsX4_cut := goodIn_r _ [227, 16, 15, 75, 76, 77, 14, 78, 32, 33, 79, 80, 81, 82, 83, 31, 84, 39, 85, 86, 87, 88, 40, 42, 43, 44, 89, 45, 228, 229, 230, 231, 95, 94, 232, 120, 121, 122, 233, 234, 235, 236, 119, 237, 238, 239, 240, 123, 100, 101, 102, 124, 125, 126, 127, 107, 108, 109, 110, 111, 112, 113, 114, 115, 116, 117, 118, 128, 129, 130, 131, 132, 133, 134, 135, 136, 137, 138, 139, 140, 141, 142, 143, 153, 154, 155, 2, 156, 20, 157, 158, 159, 19, 160, 161, 162, 163, 164, 165, 166, 167, 168, 169, 51, 170, 664, 665, 666, 667, 680, 681, 682, 683, 693, 694, 695, 696, 697, 698, 699, 684, 685, 686] (by decide +kernel) (by decide +kernel)
set_option maxRecDepth 20000 in
theorem gL_law_X4_cut : GoodIn wsL_law (wsV RL 18 RX4 yX4_cut wsX4_cut) := goodIn_app (goodIn_of _ (by decide +kernel)) ggL_law_X4_cut
set_option maxRecDepth 20000 in
theorem ggL_law_X5_cut : GoodIn wsL_law wsX5_cut := goodIn_r _ [244, 175, 176, 177, 5, 178, 64, 65, 179, 180, 181, 245, 246, 247, 248, 186, 249, 250, 251, 252, 188, 189, 190, 191, 192, 193, 194, 195, 196, 197, 198, 199, 200, 201, 202, 219, 220, 221, 222, 187, 223, 67, 668, 669, 670, 671, 672, 673, 674, 675, 676, 677, 678, 679] (by decide +kernel) (by decide +kernel)
set_option maxRecDepth 20000 in
theorem gL_law_X5_cut : GoodIn wsL_law (wsV RL 22 RX5 yX5_cut wsX5_cut) := goodIn_app (goodIn_of _ (by decide +kernel)) ggL_law_X5_cut
set_option maxRecDepth 20000 in
theorem ggL_law_X4_change : GoodIn wsL_law wsX4_change := goodIn_r _ [256, 16, 15, 75, 76, 77, 14, 78, 32, 33, 79, 80, 81, 82, 83, 31, 84, 39, 85, 86, 87, 88, 40, 42, 43, 44, 89, 45, 257, 258, 259, 260, 95, 261, 232, 120, 121, 122, 97, 2, 98, 262, 263, 264, 265, 119, 237, 238, 239, 240, 123, 100, 101, 102, 124, 125, 126, 127, 107, 108, 109, 110, 94, 111, 112, 113, 114, 115, 116, 117, 118, 128, 129, 130, 131, 132, 133, 134, 135, 136, 137, 138, 139, 140, 141, 142, 143, 153, 154, 155, 156, 20, 157, 158, 159, 19, 160, 161, 162, 163, 164, 165, 166, 167, 168, 169, 51, 170, 664, 665, 666, 667, 680, 681, 682, 683, 693, 694, 695, 696, 697, 698, 699, 684, 685, 686] (by decide +kernel) (by decide +kernel)
set_option maxRecDepth 20000 in
theorem gL_law_X4_change : GoodIn wsL_law (wsV RL 23 RX4 yX4_change wsX4_change) := goodIn_app (goodIn_of _ (by decide +kernel)) ggL_law_X4_change
set_option maxRecDepth 20000 in
theorem ggL_law_X5_change : GoodIn wsL_law wsX5_change := goodIn_r _ [269, 186, 64, 249, 250, 251, 5, 252, 188, 189, 190, 175, 176, 177, 178, 65, 179, 180, 181, 191, 192, 193, 194, 195, 196, 197, 198, 199, 200, 201, 202, 219, 220, 221, 222, 187, 223, 67, 668, 669, 670, 671, 672, 673, 674, 675, 676, 677, 678, 679] (by decide +kernel) (by decide +kernel)
set_option maxRecDepth 20000 in
theorem gL_law_X5_change : GoodIn wsL_law (wsV RL 27 RX5 yX5_change wsX5_change) := goodIn_app (goodIn_of _ (by decide +kernel)) ggL_law_X5_change
set_option maxRecDepth 20000 in
theorem ggL_law_X4_setHeight : GoodIn wsL_law wsX4_setHeight := goodIn_r _ [273, 16, 15, 75, 76, 77, 14, 78, 32, 33, 79, 80, 81, 82, 83, 31, 84, 39, 85, 86, 87, 88, 40, 42, 43, 44, 89, 45, 274, 275, 276, 277, 95, 97, 2, 98, 107, 108, 109, 110, 94, 111, 112, 113, 114, 115, 116, 117, 118, 119, 120, 121, 122, 123, 100, 101, 102, 124, 125, 126, 127, 128, 129, 130, 131, 132, 133, 134, 135, 136, 137, 138, 139, 140, 141, 142, 143, 153, 154, 155, 156, 20, 157, 158, 159, 19, 160, 161, 162, 163, 164, 165, 166, 167, 168, 169, 51, 170, 664, 665, 666, 667, 680, 681, 682, 683, 693, 694, 695, 696, 697, 698, 699, 684, 685, 686] (by decide +kernel) (by decide +kernel)
set_option maxRecDepth 20000 in
theorem gL_law_X4_setHeight : GoodIn wsL_law (wsV RL 28 RX4 yX4_setHeight wsX4_setHeight) := goodIn_app (goodIn_of _ (by decide +kernel)) ggL_law_X4_setHeight
set_option maxRecDepth 20000 in
theorem ggL_law_X5_setHeight : GoodIn wsL_law wsX5_setHeight := goodIn_r _ [281, 186, 64, 188, 189, 5, 190, 175, 176, 177, 178, 65, 179, 180, 181, 194, 195, 196, 191, 192, 193, 197, 198, 199, 200, 201, 202, 219, 220, 221, 222, 187, 223, 67, 668, 669, 670, 671, 672, 673, 674, 675, 676, 677, 678, 679] (by decide +kernel) (by decide +kernel)
set_option maxRecDepth 20000 in
theorem gL_law_X5_setHeight : GoodIn wsL_law (wsV RL 31 RX5 yX5_setHeight wsX5_setHeight) := goodIn_app (goodIn_of _ (by decide +kernel)) ggL_law_X5_setHeight
set_option maxRecDepth 20000 in
theorem ggL_law_X4_setWidth : GoodIn wsL_law wsX4_setWidth := goodIn_r _ [285, 16, 15, 75, 76, 77, 14, 78, 32, 33, 79, 80, 81, 82, 83, 31, 84, 39, 85, 86, 87, 88, 40, 42, 43, 44, 89, 45, 286, 287, 288, 289, 95, 290, 97, 2, 98, 291, 292, 293, 294, 237, 238, 239, 240, 119, 120, 121, 122, 123, 100, 101, 102, 124, 125, 126, 127, 107, 108, 109, 110, 94, 111, 112, 113, 114, 115, 116, 117, 118, 128, 129, 130, 131, 132, 133, 134, 135, 136, 137, 138, 139, 140, 141, 142, 143, 153, 154, 155, 156, 20, 157, 158, 159, 19, 160, 161, 162, 163, 164, 165, 166, 167, 168, 169, 51, 170, 664, 665, 666, 667, 680, 681, 682, 683, 693, 694, 695, 696, 697, 698, 699, 684, 685, 686] (by decide +kernel) (by decide +kernel)
set_option maxRecDepth 20000 in
theorem gL_law_X4_setWidth : GoodIn wsL_law (wsV RL 32 RX4 yX4_setWidth wsX4_setWidth) := goodIn_app (goodIn_of _ (by decide +kernel)) ggL_law_X4_setWidth
set_option maxRecDepth 20000 in
theorem ggL_law_X5_setWidth : GoodIn wsL_law wsX5_setWidth := goodIn_r _ [298, 186, 64, 188, 189, 5, 190, 175, 176, 177, 178, 65, 179, 180, 181, 191, 192, 193, 194, 195, 196, 197, 198, 199, 200, 201, 202, 219, 220, 221, 222, 187, 223, 67, 668, 669, 670, 671, 672, 673, 674, 675, 676, 677, 678, 679] (by decide +kernel) (by decide +kernel)
set_option maxRecDepth 20000 in
theorem gL_law_X5_setWidth : GoodIn wsL_law (wsV RL 35 RX5 yX5_setWidth wsX5_setWidth) := goodIn_app (goodIn_of _ (by decide +kernel)) ggL_law_X5_setWidth
set_option maxRecDepth 20000 in
theorem ggL_law_X4_scroll : GoodIn wsL_law wsX4_scroll := goodIn_r _ [302, 16, 15, 75, 76, 77, 14, 78, 32, 33, 79, 80, 81, 82, 83, 31, 84, 39, 85, 86, 87, 88, 40, 42, 43, 44, 89, 45, 303, 304, 305, 306, 95, 94, 307, 97, 2, 98, 136, 137, 138, 139, 140, 141, 142, 143, 115, 116, 117, 118, 119, 120, 121, 122, 123, 100, 101, 102, 124, 125, 126, 127, 128, 129, 130, 131, 132, 133, 134, 135, 107, 108, 109, 110, 111, 112, 113, 114, 153, 154, 155, 156, 20, 157, 158, 159, 19, 160, 161, 162, 163, 164, 165, 166, 167, 168, 169, 51, 170, 664, 665, 666, 667, 680, 681, 682, 683, 693, 694, 695, 696, 697, 698, 699, 684, 685, 686] (by decide +kernel) (by decide +kernel)
set_option maxRecDepth 20000 in
theorem gL_law_X4_scroll : GoodIn wsL_law (wsV RL 36 RX4 yX4_scroll wsX4_scroll) := goodIn_app (goodIn_of _ (by decide +kernel)) ggL_law_X4_scroll
set_option maxRecDepth 20000 in
theorem ggL_law_X5_scroll : GoodIn wsL_law wsX5_scroll := goodIn_r _ [311, 175, 176, 177, 5, 178, 64, 65, 179, 180, 181, 312, 313, 314, 315, 186, 316, 188, 189, 190, 317, 318, 319, 200, 201, 202, 191, 192, 193, 197, 198, 199, 194, 195, 196, 219, 220, 221, 222, 187, 223, 67, 668, 669, 670, 671, 672, 673, 674, 675, 676, 677, 678, 679] (by decide +kernel) (by decide +kernel)
set_option maxRecDepth 20000 in
theorem gL_law_X5_scroll : GoodIn wsL_law (wsV RL 39 RX5 yX5_scroll wsX5_scroll) := goodIn_app (goodIn_of _ (by decide +kernel)) ggL_law_X5_scroll
set_option maxRecDepth 20000 in
theorem ggL_law_X4_jump : GoodIn wsL_law wsX4_jump := goodIn_r _ [323, 16, 15, 75, 76, 77, 14, 78, 32, 33, 79, 80, 81, 82, 83, 31, 84, 39, 85, 86, 87, 88, 40, 42, 43, 44, 89, 45, 324, 325, 326, 327, 95, 94, 307, 140, 141, 142, 143, 97, 2, 98, 144, 145, 146, 147, 148, 149, 150, 151, 152, 129, 130, 131, 119, 120, 121, 122, 124, 125, 126, 127, 132, 133, 134, 135, 328, 329, 330, 331, 332, 333, 107, 108, 109, 110, 111, 112, 113, 114, 115, 116, 117, 118, 123, 100, 101, 102, 128, 136, 137, 138, 139, 153, 154, 155, 156, 20, 157, 158, 159, 19, 160, 161, 162, 163, 164, 165, 166, 167, 168, 169, 51, 170, 664, 665, 666, 667, 680, 681, 682, 683, 693, 694, 695, 696, 697, 698, 699, 684, 685, 686] (by decide +kernel) (by decide +kernel)
set_option maxRecDepth 20000 in
theorem gL_law_X4_jump : GoodIn wsL_law (wsV RL 40 RX4 yX4_jump wsX4_jump) := goodIn_app (goodIn_of _ (by decide +kernel)) ggL_law_X4_jump
set_option maxRecDepth 20000 in
theorem ggL_law_X5_jump : GoodIn wsL_law wsX5_jump := goodIn_r _ [337, 175, 176, 177, 5, 178, 64, 65, 179, 180, 181, 338, 339, 340, 341, 186, 316, 188, 189, 190, 342, 343, 344, 345, 203, 204, 205, 206, 207, 208, 209, 210, 211, 212, 213, 214, 69, 191, 192, 193, 197, 198, 199, 215, 216, 217, 218, 346, 347, 348, 349, 350, 194, 195, 196, 200, 201, 202, 219, 220, 221, 222, 187, 223, 67, 668, 669, 670, 671, 672, 673, 674, 675, 676, 677, 678, 679] (by decide +kernel) (by decide +kernel)
set_option maxRecDepth 20000 in
theorem gL_law_X5_jump : GoodIn wsL_law (wsV RL 43 RX5 yX5_jump wsX5_jump) := goodIn_app (goodIn_of _ (by decide +kernel)) ggL_law_X5_jump
set_option maxRecDepth 20000 in
theorem ggL_law_X4_goTo : GoodIn wsL_law wsX4_goTo := goodIn_r _ [354, 16, 15, 75, 76, 77, 14, 78, 32, 33, 79, 80, 81, 82, 83, 31, 84, 39, 85, 86, 87, 88, 40, 42, 43, 44, 89, 45, 355, 356, 357, 358, 95, 232, 120, 121, 122, 107, 108, 109, 110, 94, 111, 112, 113, 114, 115, 116, 117, 118, 119, 123, 100, 101, 102, 124, 125, 126, 127, 128, 129, 130, 131, 132, 133, 134, 135, 136, 137, 138, 139, 140, 141, 142, 143, 153, 154, 155, 2, 156, 20, 157, 158, 159, 19, 160, 161, 162, 163, 164, 165, 166, 167, 168, 169, 51, 170, 664, 665, 666, 667, 680, 681, 682, 683, 693, 694, 695, 696, 697, 698, 699, 684, 685, 686] (by decide +kernel) (by decide +kernel)
set_option maxRecDepth 20000 in
theorem gL_law_X4_goTo : GoodIn wsL_law (wsV RL 44 RX4 yX4_goTo wsX4_goTo) := goodIn_app (goodIn_of _ (by decide +kernel)) ggL_law_X4_goTo
set_option maxRecDepth 20000 in
theorem ggL_law_X5_goTo : GoodIn wsL_law wsX5_goTo := goodIn_r _ [362, 175, 176, 177, 5, 178, 64, 65, 179, 180, 181, 363, 364, 365, 366, 186, 249, 250, 251, 252, 188, 189, 190, 194, 195, 196, 191, 192, 193, 197, 198, 199, 200, 201, 202, 219, 220, 221, 222, 187, 223, 67, 668, 669, 670, 671, 672, 673, 674, 675, 676, 677, 678, 679] (by decide +kernel) (by decide +kernel)
set_option maxRecDepth 20000 in
theorem gL_law_X5_goTo : GoodIn wsL_law (wsV RL 47 RX5 yX5_goTo wsX5_goTo) := goodIn_app (goodIn_of _ (by decide +kernel)) ggL_law_X5_goTo
set_option maxRecDepth 20000 in
theorem ggL_law_X4_undo : GoodIn wsL_law wsX4_undo := goodIn_r _ [370, 20, 371, 372, 15, 373, 374, 375, 19, 376, 162, 161, 166, 167, 168, 169, 51, 170, 76, 77, 14, 78, 32, 33, 79, 80, 81, 82, 83, 31, 84, 39, 85, 86, 87, 88, 40, 42, 43, 44, 89, 45, 664, 665, 666, 667, 684, 685, 686, 680, 681, 682, 683, 693, 694, 695, 696, 697, 698, 699] (by decide +kernel) (by decide +kernel)
set_option maxRecDepth 20000 in
theorem gL_law_X4_undo : GoodIn wsL_law (wsV RL 48 RX4 yX4_undo wsX4_undo) := goodIn_app (goodIn_of _ (by decide +kernel)) ggL_law_X4_undo
set_option maxRecDepth 20000 in
theorem ggL_law_X5_undo : GoodIn wsL_law wsX5_undo := goodIn_r _ [380, 223, 316, 67, 64, 179, 180, 5, 181, 668, 669, 670, 671, 672, 673, 674, 675, 676, 677, 678, 679] (by decide +kernel) (by decide +kernel)
set_option maxRecDepth 20000 in
theorem gL_law_X5_undo : GoodIn wsL_law (wsV RL 52 RX5 yX5_undo wsX5_undo) := goodIn_app (goodIn_of _ (by decide +kernel)) ggL_law_X5_undo
set_option maxRecDepth 20000 in
theorem ggL_law_X4_append : GoodIn wsL_law wsX4_append := goodIn_r _ [384, 385, 24, 386, 97, 2, 98, 387, 388, 389, 23, 390, 391, 392, 58, 664, 665, 666, 667, 687, 688, 689, 690, 691, 692] (by decide +kernel) (by decide +kernel)
set_option maxRecDepth 20000 in
theorem gL_law_X4_append : GoodIn wsL_law (wsV RL 53 RX4 yX4_append wsX4_append) := goodIn_app (goodIn_of _ (by decide +kernel)) ggL_law_X4_append
set_option maxRecDepth 20000 in
theorem ggL_law_X5_append : GoodIn wsL_law wsX5_append := goodIn_r _ [396, 186, 397, 187, 68, 188, 189, 5, 190, 668, 669, 670, 671, 672, 673, 674, 675, 676, 677, 678, 679] (by decide +kernel) (by decide +kernel)
set_option maxRecDepth 20000 in
theorem gL_law_X5_append : GoodIn wsL_law (wsV RL 56 RX5 yX5_append wsX5_append) := goodIn_app (goodIn_of _ (by decide +kernel)) ggL_law_X5_append
set_option maxRecDepth 20000 in
theorem ggL_law_X4_clearText : GoodIn wsL_law wsX4_clearText := goodIn_r _ [401, 24, 402, 403, 404, 23, 405, 391, 664, 665, 666, 667, 687, 688, 689, 690, 691, 692] (by decide +kernel) (by decide +kernel)
set_option maxRecDepth 20000 in
theorem gL_law_X4_clearText : GoodIn wsL_law (wsV RL 57 RX4 yX4_clearText wsX4_clearText) := goodIn_app (goodIn_of _ (by decide +kernel)) ggL_law_X4_clearText
set_option maxRecDepth 20000 in
theorem ggL_law_X5_clearText : GoodIn wsL_law wsX5_clearText := goodIn_r _ [409, 397, 668, 669, 670, 671, 672, 673, 674, 675, 676, 677, 678, 679] (by decide +kernel) (by decide +kernel)
set_option maxRecDepth 20000 in
theorem gL_law_X5_clearText : GoodIn wsL_law (wsV RL 60 RX5 yX5_clearText wsX5_clearText) := goodIn_app (goodIn_of _ (by decide +kernel)) ggL_law_X5_clearText
set_option maxRecDepth 20000 in
theorem ggL_law_X4_run : GoodIn wsL_law wsX4_run := goodIn_r _ [413, 16, 15, 24, 414, 75, 76, 77, 14, 78, 32, 33, 79, 80, 81, 82, 83, 31, 84, 39, 85, 86, 87, 88, 40, 42, 43, 44, 89, 45, 415, 416, 417, 23, 418, 419, 420, 421, 422, 423, 424, 425, 391, 59, 426, 427, 428, 429, 430, 164, 142, 165, 431, 432, 433, 434, 58, 435, 436, 437, 438, 439, 440, 441, 442, 443, 444, 445, 446, 447, 448, 449, 450, 451, 452, 453, 454, 455, 456, 457, 458, 459, 460, 461, 462, 463, 464, 465, 466, 467, 468, 469, 470, 471, 472, 473, 474, 475, 476, 477, 478, 479, 480, 481, 482, 483, 484, 485, 486, 487, 488, 489, 490, 491, 492, 493, 494, 495, 496, 497, 498, 499, 500, 501, 502, 503, 504, 505, 506, 507, 2, 508, 385, 509, 510, 511, 512, 90, 91, 92, 93, 94, 95, 96, 97, 98, 99, 100, 101, 102, 103, 104, 105, 106, 107, 108, 109, 110, 111, 112, 113, 114, 115, 116, 117, 118, 119, 120, 121, 122, 123, 124, 125, 126, 127, 128, 129, 130, 131, 132, 133, 134, 135, 136, 137, 138, 139, 140, 141, 143, 144, 145, 146, 147, 148, 149, 150, 151, 152, 228, 229, 230, 231, 232, 233, 234, 235, 236, 237, 238, 239, 240, 303, 304, 305, 306, 307, 324, 325, 326, 327, 328, 329, 330, 331, 332, 333, 355, 356, 357, 358, 402, 403, 404, 405, 153, 154, 155, 156, 20, 157, 158, 159, 19, 160, 161, 162, 163, 166, 167, 168, 169, 51, 170, 664, 665, 666, 667, 687, 688, 689, 690, 691, 692, 680, 681, 682, 683, 693, 694, 695, 696, 697, 698, 699, 684, 685, 686] (by decide +kernel) (by decide +kernel)
set_option maxRecDepth 20000 in
theorem gL_law_X4_run : GoodIn wsL_law (wsV RL 61 RX4 yX4_run wsX4_run) := goodIn_app (goodIn_of _ (by decide +kernel)) ggL_law_X4_run
set_option maxRecDepth 20000 in
theorem ggL_law_X5_run : GoodIn wsL_law wsX5_run := goodIn_r _ [516, 517, 397, 65, 64, 175, 176, 177, 5, 178, 179, 180, 181, 518, 519, 520, 521, 522, 523, 524, 525, 526, 68, 527, 528, 529, 530, 531, 70, 187, 186, 532, 533, 534, 535, 188, 189, 190, 536, 537, 538, 539, 540, 541, 542, 543, 544, 545, 546, 182, 183, 184, 185, 191, 192, 193, 194, 195, 196, 197, 198, 199, 200, 201, 202, 203, 204, 205, 206, 207, 208, 209, 210, 211, 212, 213, 214, 69, 215, 216, 217, 218, 245, 246, 247, 248, 249, 250, 251, 252, 312, 313, 314, 315, 316, 317, 318, 319, 338, 339, 340, 341, 342, 343, 344, 345, 346, 347, 348, 349, 350, 363, 364, 365, 366, 219, 220, 221, 222, 223, 67, 668, 669, 670, 671, 672, 673, 674, 675, 676, 677, 678, 679] (by decide +kernel) (by decide +kernel)
set_option maxRecDepth 20000 in
theorem gL_law_X5_run : GoodIn wsL_law (wsV RL 64 RX5 yX5_run wsX5_run) := goodIn_app (goodIn_of _ (by decide +kernel)) ggL_law_X5_run
set_option maxRecDepth 20000 in
theorem ggL_law_X4_count : GoodIn wsL_law wsX4_count := goodIn_r _ [550, 15, 551, 552, 553, 554, 555, 556, 557, 20, 371, 24, 558, 385, 559, 560, 561, 31, 562, 44, 563, 145, 146, 147, 89, 148, 149, 150, 151, 152, 129, 130, 131, 42, 39, 40, 119, 120, 121, 122, 124, 125, 126, 127, 45, 132, 133, 134, 135, 43, 564, 565, 566, 14, 567, 32, 79, 80, 333, 568, 569, 570, 571, 572, 94, 33, 128, 664, 665, 666, 667, 680, 681, 682, 683, 693, 694, 695, 696, 697, 698, 699, 684, 685, 686, 687, 688, 689, 690, 691, 692] (by decide +kernel) (by decide +kernel)
set_option maxRecDepth 20000 in
theorem gL_law_X4_count : GoodIn wsL_law (wsV RL 65 RX4 yX4_count wsX4_count) := goodIn_app (goodIn_of _ (by decide +kernel)) ggL_law_X4_count
set_option maxRecDepth 20000 in
theorem ggL_law_X5_count : GoodIn wsL_law wsX5_count := goodIn_r _ [576, 64, 350, 223, 397, 69, 186, 211, 212, 213, 5, 214, 191, 192, 193, 197, 198, 199, 577, 578, 579, 580, 203, 204, 205, 206, 207, 208, 209, 210, 215, 216, 217, 218, 581, 582, 583, 584, 585, 586, 587, 588, 589, 590, 591, 592, 188, 189, 190, 668, 669, 670, 671, 672, 673, 674, 675, 676, 677, 678, 679] (by decide +kernel) (by decide +kernel)
set_option maxRecDepth 20000 in
theorem gL_law_X5_count : GoodIn wsL_law (wsV RL 68 RX5 yX5_count wsX5_count) := goodIn_app (goodIn_of _ (by decide +kernel)) ggL_law_X5_count
set_option maxRecDepth 20000 in
theorem ggL_law_X4_line : GoodIn wsL_law wsX4_line := goodIn_r _ [596, 15, 551, 385, 597, 598, 599, 600, 120, 121, 31, 122, 89, 601, 129, 130, 131, 42, 39, 40, 119, 124, 125, 126, 127, 45, 132, 133, 134, 135, 44, 43, 602, 149, 150, 151, 152, 603, 604, 605, 606, 564, 565, 566, 14, 567, 32, 79, 80, 333, 664, 665, 666, 667, 680, 681, 682, 683, 693, 694, 695, 696, 697, 698, 699] (by decide +kernel) (by decide +kernel)
set_option maxRecDepth 20000 in
theorem gL_law_X4_line : GoodIn wsL_law (wsV RL 69 RX4 yX4_line wsX4_line) := goodIn_app (goodIn_of _ (by decide +kernel)) ggL_law_X4_line
set_option maxRecDepth 20000 in
theorem ggL_law_X5_line : GoodIn wsL_law wsX5_line := goodIn_r _ [610, 186, 64, 249, 250, 251, 5, 252, 188, 189, 190, 211, 212, 213, 214, 69, 191, 192, 193, 197, 198, 199, 215, 216, 217, 218, 207, 208, 209, 210, 581, 582, 583, 584, 668, 669, 670, 671, 672, 673, 674, 675, 676, 677, 678, 679] (by decide +kernel) (by decide +kernel)
set_option maxRecDepth 20000 in
theorem gL_law_X5_line : GoodIn wsL_law (wsV RL 72 RX5 yX5_line wsX5_line) := goodIn_app (goodIn_of _ (by decide +kernel)) ggL_law_X5_line
set_option maxRecDepth 20000 in
theorem ggL_law_X4_seen : GoodIn wsL_law wsX4_seen := goodIn_r _ [614, 15, 556, 385, 551, 386, 97, 2, 98, 564, 565, 566, 14, 567, 32, 79, 80, 333, 149, 150, 31, 151, 89, 152, 129, 130, 131, 42, 39, 40, 119, 120, 121, 122, 124, 125, 126, 127, 45, 132, 133, 134, 135, 44, 43, 615, 329, 330, 331, 332, 664, 665, 666, 667, 680, 681, 682, 683, 693, 694, 695, 696, 697, 698, 699] (by decide +kernel) (by decide +kernel)
set_option maxRecDepth 20000 in
theorem gL_law_X4_seen : GoodIn wsL_law (wsV RL 73 RX4 yX4_seen wsX4_seen) := goodIn_app (goodIn_of _ (by decide +kernel)) ggL_law_X4_seen
set_option maxRecDepth 20000 in
theorem ggL_law_X5_seen : GoodIn wsL_law wsX5_seen := goodIn_r _ [619, 64, 186, 188, 189, 5, 190, 581, 582, 583, 584, 207, 208, 209, 210, 211, 212, 213, 214, 69, 191, 192, 193, 197, 198, 199, 215, 216, 217, 218, 346, 347, 348, 349, 350, 668, 669, 670, 671, 672, 673, 674, 675, 676, 677, 678, 679] (by decide +kernel) (by decide +kernel)
set_option maxRecDepth 20000 in
theorem gL_law_X5_seen : GoodIn wsL_law (wsV RL 76 RX5 yX5_seen wsX5_seen) := goodIn_app (goodIn_of _ (by decide +kernel)) ggL_law_X5_seen
set_option maxRecDepth 20000 in
theorem ggL_law_X4_at : GoodIn wsL_law wsX4_at := goodIn_r _ [623, 385, 15, 551, 615, 329, 330, 31, 331, 89, 332, 152, 129, 130, 131, 42, 39, 40, 119, 120, 121, 122, 124, 125, 126, 127, 45, 132, 133, 134, 135, 44, 43, 664, 665, 666, 667, 680, 681, 682, 683, 693, 694, 695, 696, 697, 698, 699] (by decide +kernel) (by decide +kernel)
set_option maxRecDepth 20000 in
theorem gL_law_X4_at : GoodIn wsL_law (wsV RL 77 RX4 yX4_at wsX4_at) := goodIn_app (goodIn_of _ (by decide +kernel)) ggL_law_X4_at
set_option maxRecDepth 20000 in
theorem ggL_law_X5_at : GoodIn wsL_law wsX5_at := goodIn_r _ [627, 186, 64, 346, 347, 348, 5, 349, 350, 211, 212, 213, 214, 69, 191, 192, 193, 197, 198, 199, 215, 216, 217, 218, 668, 669, 670, 671, 672, 673, 674, 675, 676, 677, 678, 679] (by decide +kernel) (by decide +kernel)
set_option maxRecDepth 20000 in
theorem gL_law_X5_at : GoodIn wsL_law (wsV RL 80 RX5 yX5_at wsX5_at) := goodIn_app (goodIn_of _ (by decide +kernel)) ggL_law_X5_at
set_option maxRecDepth 20000 in
theorem ggL_law_X4_share : GoodIn wsL_law wsX4_share := goodIn_r _ [631, 15, 551, 556, 563, 145, 146, 31, 147, 89, 148, 149, 150, 151, 152, 129, 130, 131, 42, 39, 40, 119, 120, 121, 122, 124, 125, 126, 127, 45, 132, 133, 134, 135, 44, 43, 564, 565, 566, 14, 567, 32, 79, 80, 333, 664, 665, 666, 667, 680, 681, 682, 683, 693, 694, 695, 696, 697, 698, 699] (by decide +kernel) (by decide +kernel)
set_option maxRecDepth 20000 in
theorem gL_law_X4_share : GoodIn wsL_law (wsV RL 81 RX4 yX4_share wsX4_share) := goodIn_app (goodIn_of _ (by decide +kernel)) ggL_law_X4_share
set_option maxRecDepth 20000 in
theorem ggL_law_X5_share : GoodIn wsL_law wsX5_share := goodIn_r _ [635, 64, 203, 204, 205, 5, 206, 207, 208, 209, 210, 211, 212, 213, 214, 69, 191, 192, 193, 197, 198, 199, 215, 216, 217, 218, 581, 582, 583, 584, 668, 669, 670, 671, 672, 673, 674, 675, 676, 677, 678, 679] (by decide +kernel) (by decide +kernel)
set_option maxRecDepth 20000 in
theorem gL_law_X5_share : GoodIn wsL_law (wsV RL 84 RX5 yX5_share wsX5_share) := goodIn_app (goodIn_of _ (by decide +kernel)) ggL_law_X5_share
set_option maxRecDepth 20000 in
theorem ggL_law_X4_trueSum : GoodIn wsL_law wsX4_trueSum := goodIn_r _ [639, 15, 551, 385, 600, 120, 121, 31, 122, 89, 603, 604, 605, 606, 39, 40, 119, 124, 125, 126, 127, 45, 664, 665, 666, 667, 680, 681, 682, 683, 693, 694, 695, 696, 697, 698, 699] (by decide +kernel) (by decide +kernel)
set_option maxRecDepth 20000 in
theorem gL_law_X4_trueSum : GoodIn wsL_law (wsV RL 85 RX4 yX4_trueSum wsX4_trueSum) := goodIn_app (goodIn_of _ (by decide +kernel)) ggL_law_X4_trueSum
set_option maxRecDepth 20000 in
theorem ggL_law_X5_trueSum : GoodIn wsL_law wsX5_trueSum := goodIn_r _ [643, 186, 64, 249, 250, 251, 5, 252, 188, 189, 190, 197, 198, 199, 191, 192, 193, 668, 669, 670, 671, 672, 673, 674, 675, 676, 677, 678, 679] (by decide +kernel) (by decide +kernel)
set_option maxRecDepth 20000 in
theorem gL_law_X5_trueSum : GoodIn wsL_law (wsV RL 88 RX5 yX5_trueSum wsX5_trueSum) := goodIn_app (goodIn_of _ (by decide +kernel)) ggL_law_X5_trueSum
set_option maxRecDepth 20000 in
theorem ggL_law_X4_scrollsTo : GoodIn wsL_law wsX4_scrollsTo := goodIn_r _ [647, 15, 551, 385, 16, 553, 600, 120, 121, 31, 122, 89, 386, 97, 2, 98, 75, 76, 77, 14, 78, 32, 33, 79, 80, 81, 82, 83, 84, 39, 85, 86, 87, 88, 40, 42, 43, 44, 45, 648, 649, 650, 651, 128, 129, 130, 131, 119, 124, 125, 126, 127, 132, 133, 134, 135, 303, 304, 305, 306, 95, 94, 307, 136, 137, 138, 139, 140, 141, 142, 143, 115, 116, 117, 118, 123, 100, 101, 102, 107, 108, 109, 110, 111, 112, 113, 114, 664, 665, 666, 667, 680, 681, 682, 683, 693, 694, 695, 696, 697, 698, 699] (by decide +kernel) (by decide +kernel)
set_option maxRecDepth 20000 in
theorem gL_law_X4_scrollsTo : GoodIn wsL_law (wsV RL 89 RX4 yX4_scrollsTo wsX4_scrollsTo) := goodIn_app (goodIn_of _ (by decide +kernel)) ggL_law_X4_scrollsTo
set_option maxRecDepth 20000 in
theorem ggL_law_X5_scrollsTo : GoodIn wsL_law wsX5_scrollsTo := goodIn_r _ [655, 186, 64, 66, 350, 249, 250, 251, 5, 252, 188, 189, 190, 179, 180, 181, 589, 590, 591, 592, 207, 208, 209, 210, 211, 212, 213, 214, 69, 191, 192, 193, 197, 198, 199, 215, 216, 217, 218, 581, 582, 583, 584, 317, 318, 319, 200, 201, 202, 194, 195, 196, 668, 669, 670, 671, 672, 673, 674, 675, 676, 677, 678, 679] (by decide +kernel) (by decide +kernel)
set_option maxRecDepth 20000 in
theorem gL_law_X5_scrollsTo : GoodIn wsL_law (wsV RL 92 RX5 yX5_scrollsTo wsX5_scrollsTo) := goodIn_app (goodIn_of _ (by decide +kernel)) ggL_law_X5_scrollsTo
set_option maxRecDepth 20000 in
theorem ggL_law_X4_measuredBy : GoodIn wsL_law wsX4_measuredBy := goodIn_r _ [659, 385, 16, 15, 551, 386, 97, 2, 98, 75, 76, 77, 14, 78, 32, 33, 79, 80, 81, 82, 83, 31, 84, 39, 85, 86, 87, 88, 40, 42, 43, 44, 89, 45, 324, 325, 326, 327, 95, 94, 307, 140, 141, 142, 143, 144, 145, 146, 147, 148, 149, 150, 151, 152, 129, 130, 131, 119, 120, 121, 122, 124, 125, 126, 127, 132, 133, 134, 135, 328, 329, 330, 331, 332, 333, 107, 108, 109, 110, 111, 112, 113, 114, 115, 116, 117, 118, 123, 100, 101, 102, 128, 136, 137, 138, 139, 559, 560, 561, 562, 664, 665, 666, 667, 680, 681, 682, 683, 693, 694, 695, 696, 697, 698, 699] (by decide +kernel) (by decide +kernel)
set_option maxRecDepth 20000 in
theorem gL_law_X4_measuredBy : GoodIn wsL_law (wsV RL 93 RX4 yX4_measuredBy wsX4_measuredBy) := goodIn_app (goodIn_of _ (by decide +kernel)) ggL_law_X4_measuredBy
set_option maxRecDepth 20000 in
theorem ggL_law_X5_measuredBy : GoodIn wsL_law wsX5_measuredBy := goodIn_r _ [663, 186, 64, 66, 188, 189, 5, 190, 179, 180, 181, 342, 343, 344, 345, 203, 204, 205, 206, 207, 208, 209, 210, 211, 212, 213, 214, 69, 191, 192, 193, 197, 198, 199, 215, 216, 217, 218, 346, 347, 348, 349, 350, 194, 195, 196, 200, 201, 202, 577, 578, 579, 580, 668, 669, 670, 671, 672, 673, 674, 675, 676, 677, 678, 679] (by decide +kernel) (by decide +kernel)
set_option maxRecDepth 20000 in
theorem gL_law_X5_measuredBy : GoodIn wsL_law (wsV RL 96 RX5 yX5_measuredBy wsX5_measuredBy) := goodIn_app (goodIn_of _ (by decide +kernel)) ggL_law_X5_measuredBy
theorem dL_law_0 : decode cL_law 0 = .ok (.new 7, 3) := by decide +kernel
theorem dL_law_3 : decode cL_law 3 = .ok (.dup, 1) := by decide +kernel
theorem dL_law_4 : decode cL_law 4 = .ok (.invokespecial 9, 3) := by decide +kernel
theorem dL_law_7 : decode cL_law 7 = .ok (.astore_n 1, 1) := by decide +kernel
theorem dL_law_8 : decode cL_law 8 = .ok (.new 10, 3) := by decide +kernel
theorem dL_law_11 : decode cL_law 11 = .ok (.dup, 1) := by decide +kernel
theorem dL_law_12 : decode cL_law 12 = .ok (.invokespecial 12, 3) := by decide +kernel
theorem dL_law_15 : decode cL_law 15 = .ok (.astore_n 2, 1) := by decide +kernel
theorem dL_law_16 : decode cL_law 16 = .ok (.iconst 0, 1) := by decide +kernel
theorem dL_law_17 : decode cL_law 17 = .ok (.istore_n 3, 1) := by decide +kernel
theorem dL_law_18 : decode cL_law 18 = .ok (.iload_n 3, 1) := by decide +kernel
theorem dL_law_19 : decode cL_law 19 = .ok (.aload_n 0, 1) := by decide +kernel
theorem dL_law_20 : decode cL_law 20 = .ok (.arraylength, 1) := by decide +kernel
theorem dL_law_21 : decode cL_law 21 = .ok (.iconst 4, 1) := by decide +kernel
theorem dL_law_22 : decode cL_law 22 = .ok (.isub, 1) := by decide +kernel
theorem dL_law_23 : decode cL_law 23 = .ok (.if_icmp .gt 591, 3) := by decide +kernel
theorem dL_law_26 : decode cL_law 26 = .ok (.aload_n 0, 1) := by decide +kernel
theorem dL_law_27 : decode cL_law 27 = .ok (.iload_n 3, 1) := by decide +kernel
theorem dL_law_28 : decode cL_law 28 = .ok (.iaload, 1) := by decide +kernel
theorem dL_law_29 : decode cL_law 29 = .ok (.bipush 31, 2) := by decide +kernel
theorem dL_law_31 : decode cL_law 31 = .ok (.iand, 1) := by decide +kernel
theorem dL_law_32 : decode cL_law 32 = .ok (.tableswitch 576 0 19 #[96, 139, 162, 195, 218, 241, 264, 287, 310, 323, 346, 359, 372, 395, 428, 451, 474, 487, 520, 553], 96) := by decide +kernel
theorem dL_law_128 : decode cL_law 128 = .ok (.aload_n 1, 1) := by decide +kernel
theorem dL_law_129 : decode cL_law 129 = .ok (.aload_n 0, 1) := by decide +kernel
theorem dL_law_130 : decode cL_law 130 = .ok (.iload_n 3, 1) := by decide +kernel
theorem dL_law_131 : decode cL_law 131 = .ok (.iconst 1, 1) := by decide +kernel
theorem dL_law_132 : decode cL_law 132 = .ok (.iadd, 1) := by decide +kernel
theorem dL_law_133 : decode cL_law 133 = .ok (.iaload, 1) := by decide +kernel
theorem dL_law_134 : decode cL_law 134 = .ok (.aload_n 0, 1) := by decide +kernel
theorem dL_law_135 : decode cL_law 135 = .ok (.iload_n 3, 1) := by decide +kernel
theorem dL_law_136 : decode cL_law 136 = .ok (.iconst 2, 1) := by decide +kernel
theorem dL_law_137 : decode cL_law 137 = .ok (.iadd, 1) := by decide +kernel
theorem dL_law_138 : decode cL_law 138 = .ok (.iaload, 1) := by decide +kernel
theorem dL_law_139 : decode cL_law 139 = .ok (.aload_n 0, 1) := by decide +kernel
theorem dL_law_140 : decode cL_law 140 = .ok (.iload_n 3, 1) := by decide +kernel
theorem dL_law_141 : decode cL_law 141 = .ok (.iconst 3, 1) := by decide +kernel
theorem dL_law_142 : decode cL_law 142 = .ok (.iadd, 1) := by decide +kernel
theorem dL_law_143 : decode cL_law 143 = .ok (.iaload, 1) := by decide +kernel
theorem dL_law_144 : decode cL_law 144 = .ok (.invokevirtual 13, 3) := by decide +kernel
theorem dL_law_147 : decode cL_law 147 = .ok (.aload_n 2, 1) := by decide +kernel
theorem dL_law_148 : decode cL_law 148 = .ok (.aload_n 0, 1) := by decide +kernel
theorem dL_law_149 : decode cL_law 149 = .ok (.iload_n 3, 1) := by decide +kernel
theorem dL_law_150 : decode cL_law 150 = .ok (.iconst 1, 1) := by decide +kernel
theorem dL_law_151 : decode cL_law 151 = .ok (.iadd, 1) := by decide +kernel
theorem dL_law_152 : decode cL_law 152 = .ok (.iaload, 1) := by decide +kernel
theorem dL_law_153 : decode cL_law 153 = .ok (.aload_n 0, 1) := by decide +kernel
theorem dL_law_154 : decode cL_law 154 = .ok (.iload_n 3, 1) := by decide +kernel
theorem dL_law_155 : decode cL_law 155 = .ok (.iconst 2, 1) := by decide +kernel
theorem dL_law_156 : decode cL_law 156 = .ok (.iadd, 1) := by decide +kernel
theorem dL_law_157 : decode cL_law 157 = .ok (.iaload, 1) := by decide +kernel
theorem dL_law_158 : decode cL_law 158 = .ok (.aload_n 0, 1) := by decide +kernel
theorem dL_law_159 : decode cL_law 159 = .ok (.iload_n 3, 1) := by decide +kernel
theorem dL_law_160 : decode cL_law 160 = .ok (.iconst 3, 1) := by decide +kernel
theorem dL_law_161 : decode cL_law 161 = .ok (.iadd, 1) := by decide +kernel
theorem dL_law_162 : decode cL_law 162 = .ok (.iaload, 1) := by decide +kernel
theorem dL_law_163 : decode cL_law 163 = .ok (.invokevirtual 17, 3) := by decide +kernel
theorem dL_law_166 : decode cL_law 166 = .ok (.if_icmp .eq 442, 3) := by decide +kernel
theorem dL_law_169 : decode cL_law 169 = .ok (.iconst 0, 1) := by decide +kernel
theorem dL_law_170 : decode cL_law 170 = .ok (.ireturn, 1) := by decide +kernel
theorem dL_law_171 : decode cL_law 171 = .ok (.aload_n 1, 1) := by decide +kernel
theorem dL_law_172 : decode cL_law 172 = .ok (.aload_n 0, 1) := by decide +kernel
theorem dL_law_173 : decode cL_law 173 = .ok (.iload_n 3, 1) := by decide +kernel
theorem dL_law_174 : decode cL_law 174 = .ok (.iconst 1, 1) := by decide +kernel
theorem dL_law_175 : decode cL_law 175 = .ok (.iadd, 1) := by decide +kernel
theorem dL_law_176 : decode cL_law 176 = .ok (.iaload, 1) := by decide +kernel
theorem dL_law_177 : decode cL_law 177 = .ok (.invokevirtual 18, 3) := by decide +kernel
theorem dL_law_180 : decode cL_law 180 = .ok (.aload_n 2, 1) := by decide +kernel
theorem dL_law_181 : decode cL_law 181 = .ok (.aload_n 0, 1) := by decide +kernel
theorem dL_law_182 : decode cL_law 182 = .ok (.iload_n 3, 1) := by decide +kernel
theorem dL_law_183 : decode cL_law 183 = .ok (.iconst 1, 1) := by decide +kernel
theorem dL_law_184 : decode cL_law 184 = .ok (.iadd, 1) := by decide +kernel
theorem dL_law_185 : decode cL_law 185 = .ok (.iaload, 1) := by decide +kernel
theorem dL_law_186 : decode cL_law 186 = .ok (.invokevirtual 22, 3) := by decide +kernel
theorem dL_law_189 : decode cL_law 189 = .ok (.if_icmp .eq 419, 3) := by decide +kernel
theorem dL_law_192 : decode cL_law 192 = .ok (.iconst 0, 1) := by decide +kernel
theorem dL_law_193 : decode cL_law 193 = .ok (.ireturn, 1) := by decide +kernel
theorem dL_law_194 : decode cL_law 194 = .ok (.aload_n 1, 1) := by decide +kernel
theorem dL_law_195 : decode cL_law 195 = .ok (.aload_n 0, 1) := by decide +kernel
theorem dL_law_196 : decode cL_law 196 = .ok (.iload_n 3, 1) := by decide +kernel
theorem dL_law_197 : decode cL_law 197 = .ok (.iconst 1, 1) := by decide +kernel
theorem dL_law_198 : decode cL_law 198 = .ok (.iadd, 1) := by decide +kernel
theorem dL_law_199 : decode cL_law 199 = .ok (.iaload, 1) := by decide +kernel
theorem dL_law_200 : decode cL_law 200 = .ok (.aload_n 0, 1) := by decide +kernel
theorem dL_law_201 : decode cL_law 201 = .ok (.iload_n 3, 1) := by decide +kernel
theorem dL_law_202 : decode cL_law 202 = .ok (.iconst 2, 1) := by decide +kernel
theorem dL_law_203 : decode cL_law 203 = .ok (.iadd, 1) := by decide +kernel
theorem dL_law_204 : decode cL_law 204 = .ok (.iaload, 1) := by decide +kernel
theorem dL_law_205 : decode cL_law 205 = .ok (.invokevirtual 23, 3) := by decide +kernel
theorem dL_law_208 : decode cL_law 208 = .ok (.aload_n 2, 1) := by decide +kernel
theorem dL_law_209 : decode cL_law 209 = .ok (.aload_n 0, 1) := by decide +kernel
theorem dL_law_210 : decode cL_law 210 = .ok (.iload_n 3, 1) := by decide +kernel
theorem dL_law_211 : decode cL_law 211 = .ok (.iconst 1, 1) := by decide +kernel
theorem dL_law_212 : decode cL_law 212 = .ok (.iadd, 1) := by decide +kernel
theorem dL_law_213 : decode cL_law 213 = .ok (.iaload, 1) := by decide +kernel
theorem dL_law_214 : decode cL_law 214 = .ok (.aload_n 0, 1) := by decide +kernel
theorem dL_law_215 : decode cL_law 215 = .ok (.iload_n 3, 1) := by decide +kernel
theorem dL_law_216 : decode cL_law 216 = .ok (.iconst 2, 1) := by decide +kernel
theorem dL_law_217 : decode cL_law 217 = .ok (.iadd, 1) := by decide +kernel
theorem dL_law_218 : decode cL_law 218 = .ok (.iaload, 1) := by decide +kernel
theorem dL_law_219 : decode cL_law 219 = .ok (.invokevirtual 27, 3) := by decide +kernel
theorem dL_law_222 : decode cL_law 222 = .ok (.if_icmp .eq 386, 3) := by decide +kernel
theorem dL_law_225 : decode cL_law 225 = .ok (.iconst 0, 1) := by decide +kernel
theorem dL_law_226 : decode cL_law 226 = .ok (.ireturn, 1) := by decide +kernel
theorem dL_law_227 : decode cL_law 227 = .ok (.aload_n 1, 1) := by decide +kernel
theorem dL_law_228 : decode cL_law 228 = .ok (.aload_n 0, 1) := by decide +kernel
theorem dL_law_229 : decode cL_law 229 = .ok (.iload_n 3, 1) := by decide +kernel
theorem dL_law_230 : decode cL_law 230 = .ok (.iconst 1, 1) := by decide +kernel
theorem dL_law_231 : decode cL_law 231 = .ok (.iadd, 1) := by decide +kernel
theorem dL_law_232 : decode cL_law 232 = .ok (.iaload, 1) := by decide +kernel
theorem dL_law_233 : decode cL_law 233 = .ok (.invokevirtual 28, 3) := by decide +kernel
theorem dL_law_236 : decode cL_law 236 = .ok (.aload_n 2, 1) := by decide +kernel
theorem dL_law_237 : decode cL_law 237 = .ok (.aload_n 0, 1) := by decide +kernel
theorem dL_law_238 : decode cL_law 238 = .ok (.iload_n 3, 1) := by decide +kernel
theorem dL_law_239 : decode cL_law 239 = .ok (.iconst 1, 1) := by decide +kernel
theorem dL_law_240 : decode cL_law 240 = .ok (.iadd, 1) := by decide +kernel
theorem dL_law_241 : decode cL_law 241 = .ok (.iaload, 1) := by decide +kernel
theorem dL_law_242 : decode cL_law 242 = .ok (.invokevirtual 31, 3) := by decide +kernel
theorem dL_law_245 : decode cL_law 245 = .ok (.if_icmp .eq 363, 3) := by decide +kernel
theorem dL_law_248 : decode cL_law 248 = .ok (.iconst 0, 1) := by decide +kernel
theorem dL_law_249 : decode cL_law 249 = .ok (.ireturn, 1) := by decide +kernel
theorem dL_law_250 : decode cL_law 250 = .ok (.aload_n 1, 1) := by decide +kernel
theorem dL_law_251 : decode cL_law 251 = .ok (.aload_n 0, 1) := by decide +kernel
theorem dL_law_252 : decode cL_law 252 = .ok (.iload_n 3, 1) := by decide +kernel
theorem dL_law_253 : decode cL_law 253 = .ok (.iconst 1, 1) := by decide +kernel
theorem dL_law_254 : decode cL_law 254 = .ok (.iadd, 1) := by decide +kernel
theorem dL_law_255 : decode cL_law 255 = .ok (.iaload, 1) := by decide +kernel
theorem dL_law_256 : decode cL_law 256 = .ok (.invokevirtual 32, 3) := by decide +kernel
theorem dL_law_259 : decode cL_law 259 = .ok (.aload_n 2, 1) := by decide +kernel
theorem dL_law_260 : decode cL_law 260 = .ok (.aload_n 0, 1) := by decide +kernel
theorem dL_law_261 : decode cL_law 261 = .ok (.iload_n 3, 1) := by decide +kernel
theorem dL_law_262 : decode cL_law 262 = .ok (.iconst 1, 1) := by decide +kernel
theorem dL_law_263 : decode cL_law 263 = .ok (.iadd, 1) := by decide +kernel
theorem dL_law_264 : decode cL_law 264 = .ok (.iaload, 1) := by decide +kernel
theorem dL_law_265 : decode cL_law 265 = .ok (.invokevirtual 35, 3) := by decide +kernel
theorem dL_law_268 : decode cL_law 268 = .ok (.if_icmp .eq 340, 3) := by decide +kernel
theorem dL_law_271 : decode cL_law 271 = .ok (.iconst 0, 1) := by decide +kernel
theorem dL_law_272 : decode cL_law 272 = .ok (.ireturn, 1) := by decide +kernel
theorem dL_law_273 : decode cL_law 273 = .ok (.aload_n 1, 1) := by decide +kernel
theorem dL_law_274 : decode cL_law 274 = .ok (.aload_n 0, 1) := by decide +kernel
theorem dL_law_275 : decode cL_law 275 = .ok (.iload_n 3, 1) := by decide +kernel
theorem dL_law_276 : decode cL_law 276 = .ok (.iconst 1, 1) := by decide +kernel
theorem dL_law_277 : decode cL_law 277 = .ok (.iadd, 1) := by decide +kernel
theorem dL_law_278 : decode cL_law 278 = .ok (.iaload, 1) := by decide +kernel
theorem dL_law_279 : decode cL_law 279 = .ok (.invokevirtual 36, 3) := by decide +kernel
theorem dL_law_282 : decode cL_law 282 = .ok (.aload_n 2, 1) := by decide +kernel
theorem dL_law_283 : decode cL_law 283 = .ok (.aload_n 0, 1) := by decide +kernel
theorem dL_law_284 : decode cL_law 284 = .ok (.iload_n 3, 1) := by decide +kernel
theorem dL_law_285 : decode cL_law 285 = .ok (.iconst 1, 1) := by decide +kernel
theorem dL_law_286 : decode cL_law 286 = .ok (.iadd, 1) := by decide +kernel
theorem dL_law_287 : decode cL_law 287 = .ok (.iaload, 1) := by decide +kernel
theorem dL_law_288 : decode cL_law 288 = .ok (.invokevirtual 39, 3) := by decide +kernel
theorem dL_law_291 : decode cL_law 291 = .ok (.if_icmp .eq 317, 3) := by decide +kernel
theorem dL_law_294 : decode cL_law 294 = .ok (.iconst 0, 1) := by decide +kernel
theorem dL_law_295 : decode cL_law 295 = .ok (.ireturn, 1) := by decide +kernel
theorem dL_law_296 : decode cL_law 296 = .ok (.aload_n 1, 1) := by decide +kernel
theorem dL_law_297 : decode cL_law 297 = .ok (.aload_n 0, 1) := by decide +kernel
theorem dL_law_298 : decode cL_law 298 = .ok (.iload_n 3, 1) := by decide +kernel
theorem dL_law_299 : decode cL_law 299 = .ok (.iconst 1, 1) := by decide +kernel
theorem dL_law_300 : decode cL_law 300 = .ok (.iadd, 1) := by decide +kernel
theorem dL_law_301 : decode cL_law 301 = .ok (.iaload, 1) := by decide +kernel
theorem dL_law_302 : decode cL_law 302 = .ok (.invokevirtual 40, 3) := by decide +kernel
theorem dL_law_305 : decode cL_law 305 = .ok (.aload_n 2, 1) := by decide +kernel
theorem dL_law_306 : decode cL_law 306 = .ok (.aload_n 0, 1) := by decide +kernel
theorem dL_law_307 : decode cL_law 307 = .ok (.iload_n 3, 1) := by decide +kernel
theorem dL_law_308 : decode cL_law 308 = .ok (.iconst 1, 1) := by decide +kernel
theorem dL_law_309 : decode cL_law 309 = .ok (.iadd, 1) := by decide +kernel
theorem dL_law_310 : decode cL_law 310 = .ok (.iaload, 1) := by decide +kernel
theorem dL_law_311 : decode cL_law 311 = .ok (.invokevirtual 43, 3) := by decide +kernel
theorem dL_law_314 : decode cL_law 314 = .ok (.if_icmp .eq 294, 3) := by decide +kernel
theorem dL_law_317 : decode cL_law 317 = .ok (.iconst 0, 1) := by decide +kernel
theorem dL_law_318 : decode cL_law 318 = .ok (.ireturn, 1) := by decide +kernel
theorem dL_law_319 : decode cL_law 319 = .ok (.aload_n 1, 1) := by decide +kernel
theorem dL_law_320 : decode cL_law 320 = .ok (.aload_n 0, 1) := by decide +kernel
theorem dL_law_321 : decode cL_law 321 = .ok (.iload_n 3, 1) := by decide +kernel
theorem dL_law_322 : decode cL_law 322 = .ok (.iconst 1, 1) := by decide +kernel
theorem dL_law_323 : decode cL_law 323 = .ok (.iadd, 1) := by decide +kernel
theorem dL_law_324 : decode cL_law 324 = .ok (.iaload, 1) := by decide +kernel
theorem dL_law_325 : decode cL_law 325 = .ok (.invokevirtual 44, 3) := by decide +kernel
theorem dL_law_328 : decode cL_law 328 = .ok (.aload_n 2, 1) := by decide +kernel
theorem dL_law_329 : decode cL_law 329 = .ok (.aload_n 0, 1) := by decide +kernel
theorem dL_law_330 : decode cL_law 330 = .ok (.iload_n 3, 1) := by decide +kernel
theorem dL_law_331 : decode cL_law 331 = .ok (.iconst 1, 1) := by decide +kernel
theorem dL_law_332 : decode cL_law 332 = .ok (.iadd, 1) := by decide +kernel
theorem dL_law_333 : decode cL_law 333 = .ok (.iaload, 1) := by decide +kernel
theorem dL_law_334 : decode cL_law 334 = .ok (.invokevirtual 47, 3) := by decide +kernel
theorem dL_law_337 : decode cL_law 337 = .ok (.if_icmp .eq 271, 3) := by decide +kernel
theorem dL_law_340 : decode cL_law 340 = .ok (.iconst 0, 1) := by decide +kernel
theorem dL_law_341 : decode cL_law 341 = .ok (.ireturn, 1) := by decide +kernel
theorem dL_law_342 : decode cL_law 342 = .ok (.aload_n 1, 1) := by decide +kernel
theorem dL_law_343 : decode cL_law 343 = .ok (.invokevirtual 48, 3) := by decide +kernel
theorem dL_law_346 : decode cL_law 346 = .ok (.aload_n 2, 1) := by decide +kernel
theorem dL_law_347 : decode cL_law 347 = .ok (.invokevirtual 52, 3) := by decide +kernel
theorem dL_law_350 : decode cL_law 350 = .ok (.if_icmp .eq 258, 3) := by decide +kernel
theorem dL_law_353 : decode cL_law 353 = .ok (.iconst 0, 1) := by decide +kernel
theorem dL_law_354 : decode cL_law 354 = .ok (.ireturn, 1) := by decide +kernel
theorem dL_law_355 : decode cL_law 355 = .ok (.aload_n 1, 1) := by decide +kernel
theorem dL_law_356 : decode cL_law 356 = .ok (.aload_n 0, 1) := by decide +kernel
theorem dL_law_357 : decode cL_law 357 = .ok (.iload_n 3, 1) := by decide +kernel
theorem dL_law_358 : decode cL_law 358 = .ok (.iconst 1, 1) := by decide +kernel
theorem dL_law_359 : decode cL_law 359 = .ok (.iadd, 1) := by decide +kernel
theorem dL_law_360 : decode cL_law 360 = .ok (.iaload, 1) := by decide +kernel
theorem dL_law_361 : decode cL_law 361 = .ok (.invokevirtual 53, 3) := by decide +kernel
theorem dL_law_364 : decode cL_law 364 = .ok (.aload_n 2, 1) := by decide +kernel
theorem dL_law_365 : decode cL_law 365 = .ok (.aload_n 0, 1) := by decide +kernel
theorem dL_law_366 : decode cL_law 366 = .ok (.iload_n 3, 1) := by decide +kernel
theorem dL_law_367 : decode cL_law 367 = .ok (.iconst 1, 1) := by decide +kernel
theorem dL_law_368 : decode cL_law 368 = .ok (.iadd, 1) := by decide +kernel
theorem dL_law_369 : decode cL_law 369 = .ok (.iaload, 1) := by decide +kernel
theorem dL_law_370 : decode cL_law 370 = .ok (.invokevirtual 56, 3) := by decide +kernel
theorem dL_law_373 : decode cL_law 373 = .ok (.if_icmp .eq 235, 3) := by decide +kernel
theorem dL_law_376 : decode cL_law 376 = .ok (.iconst 0, 1) := by decide +kernel
theorem dL_law_377 : decode cL_law 377 = .ok (.ireturn, 1) := by decide +kernel
theorem dL_law_378 : decode cL_law 378 = .ok (.aload_n 1, 1) := by decide +kernel
theorem dL_law_379 : decode cL_law 379 = .ok (.invokevirtual 57, 3) := by decide +kernel
theorem dL_law_382 : decode cL_law 382 = .ok (.aload_n 2, 1) := by decide +kernel
theorem dL_law_383 : decode cL_law 383 = .ok (.invokevirtual 60, 3) := by decide +kernel
theorem dL_law_386 : decode cL_law 386 = .ok (.if_icmp .eq 222, 3) := by decide +kernel
theorem dL_law_389 : decode cL_law 389 = .ok (.iconst 0, 1) := by decide +kernel
theorem dL_law_390 : decode cL_law 390 = .ok (.ireturn, 1) := by decide +kernel
theorem dL_law_391 : decode cL_law 391 = .ok (.aload_n 1, 1) := by decide +kernel
theorem dL_law_392 : decode cL_law 392 = .ok (.invokevirtual 61, 3) := by decide +kernel
theorem dL_law_395 : decode cL_law 395 = .ok (.aload_n 2, 1) := by decide +kernel
theorem dL_law_396 : decode cL_law 396 = .ok (.invokevirtual 64, 3) := by decide +kernel
theorem dL_law_399 : decode cL_law 399 = .ok (.if_icmp .eq 209, 3) := by decide +kernel
theorem dL_law_402 : decode cL_law 402 = .ok (.iconst 0, 1) := by decide +kernel
theorem dL_law_403 : decode cL_law 403 = .ok (.ireturn, 1) := by decide +kernel
theorem dL_law_404 : decode cL_law 404 = .ok (.aload_n 1, 1) := by decide +kernel
theorem dL_law_405 : decode cL_law 405 = .ok (.aload_n 0, 1) := by decide +kernel
theorem dL_law_406 : decode cL_law 406 = .ok (.iload_n 3, 1) := by decide +kernel
theorem dL_law_407 : decode cL_law 407 = .ok (.iconst 1, 1) := by decide +kernel
theorem dL_law_408 : decode cL_law 408 = .ok (.iadd, 1) := by decide +kernel
theorem dL_law_409 : decode cL_law 409 = .ok (.iaload, 1) := by decide +kernel
theorem dL_law_410 : decode cL_law 410 = .ok (.invokevirtual 65, 3) := by decide +kernel
theorem dL_law_413 : decode cL_law 413 = .ok (.aload_n 2, 1) := by decide +kernel
theorem dL_law_414 : decode cL_law 414 = .ok (.aload_n 0, 1) := by decide +kernel
theorem dL_law_415 : decode cL_law 415 = .ok (.iload_n 3, 1) := by decide +kernel
theorem dL_law_416 : decode cL_law 416 = .ok (.iconst 1, 1) := by decide +kernel
theorem dL_law_417 : decode cL_law 417 = .ok (.iadd, 1) := by decide +kernel
theorem dL_law_418 : decode cL_law 418 = .ok (.iaload, 1) := by decide +kernel
theorem dL_law_419 : decode cL_law 419 = .ok (.invokevirtual 68, 3) := by decide +kernel
theorem dL_law_422 : decode cL_law 422 = .ok (.if_icmp .eq 186, 3) := by decide +kernel
theorem dL_law_425 : decode cL_law 425 = .ok (.iconst 0, 1) := by decide +kernel
theorem dL_law_426 : decode cL_law 426 = .ok (.ireturn, 1) := by decide +kernel
theorem dL_law_427 : decode cL_law 427 = .ok (.aload_n 1, 1) := by decide +kernel
theorem dL_law_428 : decode cL_law 428 = .ok (.aload_n 0, 1) := by decide +kernel
theorem dL_law_429 : decode cL_law 429 = .ok (.iload_n 3, 1) := by decide +kernel
theorem dL_law_430 : decode cL_law 430 = .ok (.iconst 1, 1) := by decide +kernel
theorem dL_law_431 : decode cL_law 431 = .ok (.iadd, 1) := by decide +kernel
theorem dL_law_432 : decode cL_law 432 = .ok (.iaload, 1) := by decide +kernel
theorem dL_law_433 : decode cL_law 433 = .ok (.aload_n 0, 1) := by decide +kernel
theorem dL_law_434 : decode cL_law 434 = .ok (.iload_n 3, 1) := by decide +kernel
theorem dL_law_435 : decode cL_law 435 = .ok (.iconst 2, 1) := by decide +kernel
theorem dL_law_436 : decode cL_law 436 = .ok (.iadd, 1) := by decide +kernel
theorem dL_law_437 : decode cL_law 437 = .ok (.iaload, 1) := by decide +kernel
theorem dL_law_438 : decode cL_law 438 = .ok (.invokevirtual 69, 3) := by decide +kernel
theorem dL_law_441 : decode cL_law 441 = .ok (.aload_n 2, 1) := by decide +kernel
theorem dL_law_442 : decode cL_law 442 = .ok (.aload_n 0, 1) := by decide +kernel
theorem dL_law_443 : decode cL_law 443 = .ok (.iload_n 3, 1) := by decide +kernel
theorem dL_law_444 : decode cL_law 444 = .ok (.iconst 1, 1) := by decide +kernel
theorem dL_law_445 : decode cL_law 445 = .ok (.iadd, 1) := by decide +kernel
theorem dL_law_446 : decode cL_law 446 = .ok (.iaload, 1) := by decide +kernel
theorem dL_law_447 : decode cL_law 447 = .ok (.aload_n 0, 1) := by decide +kernel
theorem dL_law_448 : decode cL_law 448 = .ok (.iload_n 3, 1) := by decide +kernel
theorem dL_law_449 : decode cL_law 449 = .ok (.iconst 2, 1) := by decide +kernel
theorem dL_law_450 : decode cL_law 450 = .ok (.iadd, 1) := by decide +kernel
theorem dL_law_451 : decode cL_law 451 = .ok (.iaload, 1) := by decide +kernel
theorem dL_law_452 : decode cL_law 452 = .ok (.invokevirtual 72, 3) := by decide +kernel
theorem dL_law_455 : decode cL_law 455 = .ok (.if_icmp .eq 153, 3) := by decide +kernel
theorem dL_law_458 : decode cL_law 458 = .ok (.iconst 0, 1) := by decide +kernel
theorem dL_law_459 : decode cL_law 459 = .ok (.ireturn, 1) := by decide +kernel
theorem dL_law_460 : decode cL_law 460 = .ok (.aload_n 1, 1) := by decide +kernel
theorem dL_law_461 : decode cL_law 461 = .ok (.aload_n 0, 1) := by decide +kernel
theorem dL_law_462 : decode cL_law 462 = .ok (.iload_n 3, 1) := by decide +kernel
theorem dL_law_463 : decode cL_law 463 = .ok (.iconst 1, 1) := by decide +kernel
theorem dL_law_464 : decode cL_law 464 = .ok (.iadd, 1) := by decide +kernel
theorem dL_law_465 : decode cL_law 465 = .ok (.iaload, 1) := by decide +kernel
theorem dL_law_466 : decode cL_law 466 = .ok (.invokevirtual 73, 3) := by decide +kernel
theorem dL_law_469 : decode cL_law 469 = .ok (.aload_n 2, 1) := by decide +kernel
theorem dL_law_470 : decode cL_law 470 = .ok (.aload_n 0, 1) := by decide +kernel
theorem dL_law_471 : decode cL_law 471 = .ok (.iload_n 3, 1) := by decide +kernel
theorem dL_law_472 : decode cL_law 472 = .ok (.iconst 1, 1) := by decide +kernel
theorem dL_law_473 : decode cL_law 473 = .ok (.iadd, 1) := by decide +kernel
theorem dL_law_474 : decode cL_law 474 = .ok (.iaload, 1) := by decide +kernel
theorem dL_law_475 : decode cL_law 475 = .ok (.invokevirtual 76, 3) := by decide +kernel
theorem dL_law_478 : decode cL_law 478 = .ok (.if_icmp .eq 130, 3) := by decide +kernel
theorem dL_law_481 : decode cL_law 481 = .ok (.iconst 0, 1) := by decide +kernel
theorem dL_law_482 : decode cL_law 482 = .ok (.ireturn, 1) := by decide +kernel
theorem dL_law_483 : decode cL_law 483 = .ok (.aload_n 1, 1) := by decide +kernel
theorem dL_law_484 : decode cL_law 484 = .ok (.aload_n 0, 1) := by decide +kernel
theorem dL_law_485 : decode cL_law 485 = .ok (.iload_n 3, 1) := by decide +kernel
theorem dL_law_486 : decode cL_law 486 = .ok (.iconst 1, 1) := by decide +kernel
theorem dL_law_487 : decode cL_law 487 = .ok (.iadd, 1) := by decide +kernel
theorem dL_law_488 : decode cL_law 488 = .ok (.iaload, 1) := by decide +kernel
theorem dL_law_489 : decode cL_law 489 = .ok (.invokevirtual 77, 3) := by decide +kernel
theorem dL_law_492 : decode cL_law 492 = .ok (.aload_n 2, 1) := by decide +kernel
theorem dL_law_493 : decode cL_law 493 = .ok (.aload_n 0, 1) := by decide +kernel
theorem dL_law_494 : decode cL_law 494 = .ok (.iload_n 3, 1) := by decide +kernel
theorem dL_law_495 : decode cL_law 495 = .ok (.iconst 1, 1) := by decide +kernel
theorem dL_law_496 : decode cL_law 496 = .ok (.iadd, 1) := by decide +kernel
theorem dL_law_497 : decode cL_law 497 = .ok (.iaload, 1) := by decide +kernel
theorem dL_law_498 : decode cL_law 498 = .ok (.invokevirtual 80, 3) := by decide +kernel
theorem dL_law_501 : decode cL_law 501 = .ok (.if_icmp .eq 107, 3) := by decide +kernel
theorem dL_law_504 : decode cL_law 504 = .ok (.iconst 0, 1) := by decide +kernel
theorem dL_law_505 : decode cL_law 505 = .ok (.ireturn, 1) := by decide +kernel
theorem dL_law_506 : decode cL_law 506 = .ok (.aload_n 1, 1) := by decide +kernel
theorem dL_law_507 : decode cL_law 507 = .ok (.invokevirtual 81, 3) := by decide +kernel
theorem dL_law_510 : decode cL_law 510 = .ok (.aload_n 2, 1) := by decide +kernel
theorem dL_law_511 : decode cL_law 511 = .ok (.invokevirtual 84, 3) := by decide +kernel
theorem dL_law_514 : decode cL_law 514 = .ok (.if_icmp .eq 94, 3) := by decide +kernel
theorem dL_law_517 : decode cL_law 517 = .ok (.iconst 0, 1) := by decide +kernel
theorem dL_law_518 : decode cL_law 518 = .ok (.ireturn, 1) := by decide +kernel
theorem dL_law_519 : decode cL_law 519 = .ok (.aload_n 1, 1) := by decide +kernel
theorem dL_law_520 : decode cL_law 520 = .ok (.aload_n 0, 1) := by decide +kernel
theorem dL_law_521 : decode cL_law 521 = .ok (.iload_n 3, 1) := by decide +kernel
theorem dL_law_522 : decode cL_law 522 = .ok (.iconst 1, 1) := by decide +kernel
theorem dL_law_523 : decode cL_law 523 = .ok (.iadd, 1) := by decide +kernel
theorem dL_law_524 : decode cL_law 524 = .ok (.iaload, 1) := by decide +kernel
theorem dL_law_525 : decode cL_law 525 = .ok (.aload_n 0, 1) := by decide +kernel
theorem dL_law_526 : decode cL_law 526 = .ok (.iload_n 3, 1) := by decide +kernel
theorem dL_law_527 : decode cL_law 527 = .ok (.iconst 2, 1) := by decide +kernel
theorem dL_law_528 : decode cL_law 528 = .ok (.iadd, 1) := by decide +kernel
theorem dL_law_529 : decode cL_law 529 = .ok (.iaload, 1) := by decide +kernel
theorem dL_law_530 : decode cL_law 530 = .ok (.invokevirtual 85, 3) := by decide +kernel
theorem dL_law_533 : decode cL_law 533 = .ok (.aload_n 2, 1) := by decide +kernel
theorem dL_law_534 : decode cL_law 534 = .ok (.aload_n 0, 1) := by decide +kernel
theorem dL_law_535 : decode cL_law 535 = .ok (.iload_n 3, 1) := by decide +kernel
theorem dL_law_536 : decode cL_law 536 = .ok (.iconst 1, 1) := by decide +kernel
theorem dL_law_537 : decode cL_law 537 = .ok (.iadd, 1) := by decide +kernel
theorem dL_law_538 : decode cL_law 538 = .ok (.iaload, 1) := by decide +kernel
theorem dL_law_539 : decode cL_law 539 = .ok (.aload_n 0, 1) := by decide +kernel
theorem dL_law_540 : decode cL_law 540 = .ok (.iload_n 3, 1) := by decide +kernel
theorem dL_law_541 : decode cL_law 541 = .ok (.iconst 2, 1) := by decide +kernel
theorem dL_law_542 : decode cL_law 542 = .ok (.iadd, 1) := by decide +kernel
theorem dL_law_543 : decode cL_law 543 = .ok (.iaload, 1) := by decide +kernel
theorem dL_law_544 : decode cL_law 544 = .ok (.invokevirtual 88, 3) := by decide +kernel
theorem dL_law_547 : decode cL_law 547 = .ok (.if_icmp .eq 61, 3) := by decide +kernel
theorem dL_law_550 : decode cL_law 550 = .ok (.iconst 0, 1) := by decide +kernel
theorem dL_law_551 : decode cL_law 551 = .ok (.ireturn, 1) := by decide +kernel
theorem dL_law_552 : decode cL_law 552 = .ok (.aload_n 1, 1) := by decide +kernel
theorem dL_law_553 : decode cL_law 553 = .ok (.aload_n 0, 1) := by decide +kernel
theorem dL_law_554 : decode cL_law 554 = .ok (.iload_n 3, 1) := by decide +kernel
theorem dL_law_555 : decode cL_law 555 = .ok (.iconst 1, 1) := by decide +kernel
theorem dL_law_556 : decode cL_law 556 = .ok (.iadd, 1) := by decide +kernel
theorem dL_law_557 : decode cL_law 557 = .ok (.iaload, 1) := by decide +kernel
theorem dL_law_558 : decode cL_law 558 = .ok (.aload_n 0, 1) := by decide +kernel
theorem dL_law_559 : decode cL_law 559 = .ok (.iload_n 3, 1) := by decide +kernel
theorem dL_law_560 : decode cL_law 560 = .ok (.iconst 2, 1) := by decide +kernel
theorem dL_law_561 : decode cL_law 561 = .ok (.iadd, 1) := by decide +kernel
theorem dL_law_562 : decode cL_law 562 = .ok (.iaload, 1) := by decide +kernel
theorem dL_law_563 : decode cL_law 563 = .ok (.invokevirtual 89, 3) := by decide +kernel
theorem dL_law_566 : decode cL_law 566 = .ok (.aload_n 2, 1) := by decide +kernel
theorem dL_law_567 : decode cL_law 567 = .ok (.aload_n 0, 1) := by decide +kernel
theorem dL_law_568 : decode cL_law 568 = .ok (.iload_n 3, 1) := by decide +kernel
theorem dL_law_569 : decode cL_law 569 = .ok (.iconst 1, 1) := by decide +kernel
theorem dL_law_570 : decode cL_law 570 = .ok (.iadd, 1) := by decide +kernel
theorem dL_law_571 : decode cL_law 571 = .ok (.iaload, 1) := by decide +kernel
theorem dL_law_572 : decode cL_law 572 = .ok (.aload_n 0, 1) := by decide +kernel
theorem dL_law_573 : decode cL_law 573 = .ok (.iload_n 3, 1) := by decide +kernel
theorem dL_law_574 : decode cL_law 574 = .ok (.iconst 2, 1) := by decide +kernel
theorem dL_law_575 : decode cL_law 575 = .ok (.iadd, 1) := by decide +kernel
theorem dL_law_576 : decode cL_law 576 = .ok (.iaload, 1) := by decide +kernel
theorem dL_law_577 : decode cL_law 577 = .ok (.invokevirtual 92, 3) := by decide +kernel
theorem dL_law_580 : decode cL_law 580 = .ok (.if_icmp .eq 28, 3) := by decide +kernel
theorem dL_law_583 : decode cL_law 583 = .ok (.iconst 0, 1) := by decide +kernel
theorem dL_law_584 : decode cL_law 584 = .ok (.ireturn, 1) := by decide +kernel
theorem dL_law_585 : decode cL_law 585 = .ok (.aload_n 1, 1) := by decide +kernel
theorem dL_law_586 : decode cL_law 586 = .ok (.aload_n 0, 1) := by decide +kernel
theorem dL_law_587 : decode cL_law 587 = .ok (.iload_n 3, 1) := by decide +kernel
theorem dL_law_588 : decode cL_law 588 = .ok (.iconst 1, 1) := by decide +kernel
theorem dL_law_589 : decode cL_law 589 = .ok (.iadd, 1) := by decide +kernel
theorem dL_law_590 : decode cL_law 590 = .ok (.iaload, 1) := by decide +kernel
theorem dL_law_591 : decode cL_law 591 = .ok (.invokevirtual 93, 3) := by decide +kernel
theorem dL_law_594 : decode cL_law 594 = .ok (.aload_n 2, 1) := by decide +kernel
end
section
theorem dL_law_595 : decode cL_law 595 = .ok (.aload_n 0, 1) := by decide +kernel
theorem dL_law_596 : decode cL_law 596 = .ok (.iload_n 3, 1) := by decide +kernel
theorem dL_law_597 : decode cL_law 597 = .ok (.iconst 1, 1) := by decide +kernel
theorem dL_law_598 : decode cL_law 598 = .ok (.iadd, 1) := by decide +kernel
theorem dL_law_599 : decode cL_law 599 = .ok (.iaload, 1) := by decide +kernel
theorem dL_law_600 : decode cL_law 600 = .ok (.invokevirtual 96, 3) := by decide +kernel
theorem dL_law_603 : decode cL_law 603 = .ok (.if_icmp .eq 5, 3) := by decide +kernel
theorem dL_law_606 : decode cL_law 606 = .ok (.iconst 0, 1) := by decide +kernel
theorem dL_law_607 : decode cL_law 607 = .ok (.ireturn, 1) := by decide +kernel
theorem dL_law_608 : decode cL_law 608 = .ok (.iinc 3 4, 3) := by decide +kernel
theorem dL_law_611 : decode cL_law 611 = .ok (.goto (-593), 3) := by decide +kernel
theorem dL_law_614 : decode cL_law 614 = .ok (.iconst 1, 1) := by decide +kernel
theorem dL_law_615 : decode cL_law 615 = .ok (.ireturn, 1) := by decide +kernel
abbrev vwCl : List vw_C := [(RX0, TX0, 3), (RX1, TX1, 7), (RX2, TX2, 6), (RX3, TX3, 4), (RX4, TX4, 4), (RX5, TX5, 12)]
end
section
/-! ===== INFRA: worlds of ints as Int, one goal form VV, a row an instruction ===== -/
abbrev TT : Type := va_G × ClassId × ClassId × ClassId × ClassId × (Nat → Nat) × (Nat → Nat) × Nat
abbrev xtys (T : TT) : List (ClassId × FieldType) := [(T.2.1, .int), (T.2.2.1, .boolean), (T.2.2.2.1, .char), (T.2.2.2.2.1, .object RX3)]
abbrev MB : Type := Program × Launch × Env × Room × State × MethodId × Array Value × List Frame × Method × Code × (State → Prop) × (Nat → Prop)
abbrev xcl : List vw_C := [(RX0, TX0, 3), (RX1, TX1, 7), (RX2, TX2, 6), (RX3, TX3, 4), (RX4, TX4, 4), (RX5, TX5, 12)]
def iv (n : Int) : Value := .int (Int32.ofInt n)
def ia (c : ClassId) (n : Nat) (w : Nat → Int) : va_E := .inl (c, n, .inl (fun j => Int32.ofInt (w j)))
def qa (c : ClassId) (n : Nat) (f : Nat → Option Nat) : va_E := .inl (c, n, .inr (.inr (.inr (.inr f))))
def ob (ci : Nat) (fs : List Value) : va_E := .inr (ci, fs)
-- what stands in the old heap and is never changed: the texts of the commands, two statics of the JDK, the link of a nest mate
def xlen : List Nat := [3, 3, 4, 2, 5, 2]
def xbyt : List (List Int32) := [[112, 117, 116], [99, 117, 116], [100, 111, 119, 110], [117, 112], [115, 104, 97, 114, 101], [116, 111]]
def xtxt : List (Nat × String) := [(75, "put"), (77, "cut"), (79, "down"), (81, "up"), (83, "share"), (85, "to")]
def SX (T : TT) (A : Nat → Prop) (U : State) (H : Heap) : Prop :=
  va_Nw (.methodLinkNest RX3 35 yX4_isOutside RX4) U ∧ (∀ i, i < 6 → vk_R RX2 (xtxt.getD i (0, "")).1 (xtxt.getD i (0, "")).2 (T.2.2.2.2.2.1 i) U) ∧ vk_S 6 xlen xbyt T.2.2.2.2.2.1 T.2.2.2.2.2.2.1 A U H ∧
  va_Z "java/lang/String" "COMPACT_STRINGS" "Z" (.int 1) A U H ∧ va_Z "jdk/internal/util/Preconditions" "SIOOBE_FORMATTER" "Ljava/util/function/BiFunction;" (.ref T.2.2.2.2.2.2.2) A U H
theorem SX.warm {T : TT} {A : Nat → Prop} {s U : State} {H : Heap} (hW : s.WarmedH U.vm) (h : SX T A s H) : SX T A U H :=
  ⟨va_Nw.warmM hW h.1, fun i hi => vk_R.warm hW (h.2.1 i hi), vk_S.moved hW.alike h.2.2.1, va_Z.moved hW.alike h.2.2.2.1, va_Z.moved hW.alike h.2.2.2.2⟩
theorem SX.kept {T : TT} {A : Nat → Prop} {U : State} {H H1 : Heap} (h : SX T A U H) (hq : ∀ a : Nat, a < H.size → ¬ A a → H1[a]? = H[a]?) : SX T A U H1 :=
  ⟨h.1, h.2.1, vk_S.kept h.2.2.1 hq, va_Z.kept h.2.2.2.1 hq, va_Z.kept h.2.2.2.2 hq⟩
theorem SX.narrow {T : TT} {A B : Nat → Prop} {U : State} {H : Heap} (h : SX T A U H) (hAB : ∀ q, B q → A q) : SX T B U H :=
  ⟨h.1, h.2.1, vk_S.narrow h.2.2.1 hAB, va_Z.narrow h.2.2.2.1 hAB, va_Z.narrow h.2.2.2.2 hAB⟩
def VV (T : TT) (M : MB) (nL : Nat) (lv : List (Nat × Value)) (ws : va_W) (ce sl : Nat) (pc : Nat) (st : List Value) : Prop :=
  ∀ (ls : Array Slot) (H : Heap) (locs : List Loc), lv_has ls nL lv → va_P T.1 xcl ws H → va_D M.2.2.2.2.2.2.2.2.2.2.2 ws → va_S M.2.2.2.2.2.2.2.2.2.2.2 M.2.2.2.2.1.heap H locs →
   W M.1 M.2.1 M.2.2.1 M.2.2.2.1 M.2.2.2.2.1 M.2.2.2.2.2.1 M.2.2.2.2.2.2.1 M.2.2.2.2.2.2.2.1 M.2.2.2.2.2.2.2.2.1 M.2.2.2.2.2.2.2.2.2.1 H locs ce sl M.2.2.2.2.2.2.2.2.2.2.1 (F0 M.2.2.2.2.2.1 pc ls st)
def FM (T : TT) (M : MB) (cc : ByteArray) (own : String) (nL : Nat) (Ts : List Cond) (R0 : Room) : Prop :=
  M.1.tables.exec = Jvm.exec ∧ M.2.2.2.2.2.2.2.2.2.1.code = cc ∧ M.2.2.2.2.2.2.2.2.2.1.maxLocals = nL ∧ M.2.2.2.2.1.vm.findClass own = some M.2.2.2.2.2.1.cls ∧
   (∀ w ∈ Ts, w.before M.2.2.2.2.2.2.1 M.2.2.2.2.1 = true) ∧ va_K T.1 xcl (xtys T) M.2.2.2.2.1 ∧ (∀ q, M.2.2.2.2.1.heap.size ≤ q → M.2.2.2.2.2.2.2.2.2.2.2 q) ∧ M.2.2.2.1 = R0 ∧ SX T M.2.2.2.2.2.2.2.2.2.2.2 M.2.2.2.2.1 M.2.2.2.2.1.heap
/-- the end of a method: at an ireturn with this value and this world the walk is done -/
def FinI (T : TT) (M : MB) (cc : ByteArray) (nL : Nat) (v : Value) (ws : va_W) : Prop := ∀ (lv : List (Nat × Value)) (pc : Nat), decode cc pc = .ok (.ireturn, 1) → VV T M nL lv ws 0 0 pc [v]
def FinV (T : TT) (M : MB) (cc : ByteArray) (nL : Nat) (ws : va_W) : Prop := ∀ (lv : List (Nat × Value)) (pc : Nat), decode cc pc = .ok (.return_, 1) → VV T M nL lv ws 0 0 pc []
def FinA (T : TT) (M : MB) (cc : ByteArray) (nL : Nat) (v : Value) (ws : va_W) : Prop := ∀ (lv : List (Nat × Value)) (pc : Nat), decode cc pc = .ok (.areturn, 1) → VV T M nL lv ws 0 0 pc [v]
/-- a contract that makes nothing: from this world to that one, with this answer -/
def CT (l : Launch) (y : MethodName) (wy : List Cond) (rm : Room) (T : TT) (vals : List Value) (ws : va_W) (ret : Option Value) (ws' : va_W) : Prop :=
  ∀ sz : Nat, Met l y wy rm (va_Pc vals (fun U => U.heap.size = sz ∧ va_P T.1 xcl ws U.heap ∧ va_K T.1 xcl (xtys T) U ∧ va_D (fun _ => True) ws ∧ SX T (va_A ws sz) U U.heap))
    (fun _ st oc t => (oc = .returned ret ∧ va_P T.1 xcl ws' t.heap) ∧ va_F (va_A ws sz) st t) 0 0 (va_A ws sz)
-- ints
theorem xi_lt {a b : Int} (h : (-2147483648 ≤ a ∧ a < 2147483648) ∧ -2147483648 ≤ b ∧ b < 2147483648) : Int32.ofInt a < Int32.ofInt b ↔ a < b := by
  rw [Int32.lt_iff_toInt_lt, Int32.toInt_ofInt_of_le (by omega) (by omega), Int32.toInt_ofInt_of_le (by omega) (by omega)]
theorem xi_le {a b : Int} (h : (-2147483648 ≤ a ∧ a < 2147483648) ∧ -2147483648 ≤ b ∧ b < 2147483648) : Int32.ofInt a ≤ Int32.ofInt b ↔ a ≤ b := by
  rw [Int32.le_iff_toInt_le, Int32.toInt_ofInt_of_le (by omega) (by omega), Int32.toInt_ofInt_of_le (by omega) (by omega)]
theorem xi_eq {a b : Int} (h : (-2147483648 ≤ a ∧ a < 2147483648) ∧ -2147483648 ≤ b ∧ b < 2147483648) : Int32.ofInt a = Int32.ofInt b ↔ a = b := by
  rw [← Int32.toInt_inj, Int32.toInt_ofInt_of_le (by omega) (by omega), Int32.toInt_ofInt_of_le (by omega) (by omega)]
theorem xi_cl {i : Int} (h : 0 ≤ i ∧ i < 2147483648) : (Int32.ofInt i).toNatClampNeg = i.toNat := by
  rw [Int32.toNatClampNeg, Int32.toInt_ofInt_of_le (by omega) (by omega)]
theorem xi_in {i : Int} {n : Nat} (h : 0 ≤ i ∧ i < (n : Int) ∧ i < 2147483648) : vp_in (Int32.ofInt i) n := by
  rw [vp_in_iff, Int32.toInt_ofInt_of_le (by omega) (by omega)]
  omega
theorem xi_div {a b : Int} (h : (0 ≤ a ∧ a < 2147483648) ∧ 0 < b ∧ b < 2147483648) : Int32.ofInt a / Int32.ofInt b = Int32.ofInt (a / b) := by
  have h1 : Int32.ofInt b ≠ -1 := by
    intro h9
    have h8 := congrArg Int32.toInt h9
    rw [Int32.toInt_ofInt_of_le (by omega) (by omega)] at h8
    have h7 : (-1 : Int32).toInt = -1 := by decide
    omega
  have hq0 : 0 ≤ a / b := Int.ediv_nonneg (by omega) (by omega)
  have hq1 : a / b ≤ a := Int.ediv_le_self b (by omega)
  rw [← Int32.toInt_inj, Int32.toInt_div_of_ne_right _ _ h1, Int32.toInt_ofInt_of_le (by omega) (by omega), Int32.toInt_ofInt_of_le (by omega) (by omega), Int32.toInt_ofInt_of_le (by omega) (by omega), Int.tdiv_eq_ediv_of_nonneg (by omega)]
theorem xi_upd {w : Nat → Int} {k : Nat} {v : Int} : upd (fun j => Int32.ofInt (w j)) k (Int32.ofInt v) = fun j => Int32.ofInt (va_up w k v j) := by
  funext j
  by_cases h : j = k <;> simp [upd, va_up, h]
theorem xi_cpy {f g : Nat → Int} {a b n : Nat} : va_cpy (fun j => Int32.ofInt (f j)) (fun j => Int32.ofInt (g j)) a b n = fun j => Int32.ofInt (va_cpy f g a b n j) := by
  funext j
  simp only [va_cpy]
  split <;> rfl
theorem xi_z : Int32.ofInt 0 = 0 := rfl
theorem xi_e0 {a : Int} (h : -2147483648 ≤ a ∧ a < 2147483648) : Int32.ofInt a = 0 ↔ a = 0 := by
  rw [← xi_z, xi_eq ⟨h, by omega⟩]
theorem xi_to (y : Int32) : y = Int32.ofInt y.toInt := (Int32.ofInt_toInt y).symm
theorem iv_to (y : Int32) : Value.int y = iv y.toInt := by rw [iv, Int32.ofInt_toInt]
theorem xi_bd (y : Int32) : -2147483648 ≤ y.toInt ∧ y.toInt < 2147483648 := ⟨Int32.le_toInt y, Int32.toInt_lt y⟩
-- truth values
def bi (P : Prop) [Decidable P] : Int := if P then 1 else 0
theorem bi_t {P : Prop} [Decidable P] (h : P) : bi P = 1 := if_pos h
theorem bi_f {P : Prop} [Decidable P] (h : ¬ P) : bi P = 0 := if_neg h
theorem bi_b {P : Prop} [Decidable P] : -2147483648 ≤ bi P ∧ bi P < 2147483648 := by unfold bi; split <;> decide
theorem bi_0 {P : Prop} [Decidable P] : bi P = 0 ↔ ¬ P := by unfold bi; split <;> simp [*]
theorem bi_n {P : Prop} [Decidable P] : narrow .boolean (iv (bi P)) = iv (bi P) := by unfold bi; split <;> rfl
-- locals
def setL (lv : List (Nat × Value)) (i : Nat) (v : Value) : List (Nat × Value) := if lv.any (fun q => q.1 == i) then lv.map (fun q => if q.1 = i then (i, v) else q) else lv ++ [(i, v)]
theorem setL_mem {lv : List (Nat × Value)} {i : Nat} {v : Value} {q : Nat × Value} (h : q ∈ setL lv i v) : q = (i, v) ∨ (q ∈ lv ∧ q.1 ≠ i) := by
  unfold setL at h
  split at h
  · obtain ⟨a, ha, hq⟩ := List.mem_map.mp h
    split at hq
    · exact Or.inl hq.symm
    · rename_i hne
      exact Or.inr ⟨hq ▸ ha, hq ▸ hne⟩
  · rename_i hn
    rcases List.mem_append.mp h with h | h
    · refine Or.inr ⟨h, fun he => hn ?_⟩
      exact List.any_eq_true.mpr ⟨q, h, by simp [he]⟩
    · exact Or.inl (List.mem_singleton.mp h)
theorem lv_setL {ls : Array Slot} {nL i : Nat} {lv : List (Nat × Value)} {v : Value} (hc : lv.all (fun q => q.2.category == 1) = true) (h : lv_has ls nL ((i, v) :: lv.filter (fun q => !(q.1 == i) && !(q.1 + 1 == i && q.2.category == 2)))) : lv_has ls nL (setL lv i v) := by
  refine ⟨h.1, h.2.1, fun q hq => h.2.2 q ?_⟩
  rcases setL_mem hq with rfl | ⟨hm, hne⟩
  · exact List.mem_cons_self
  · refine List.mem_cons_of_mem _ (List.mem_filter.mpr ⟨hm, ?_⟩)
    have h1 := List.all_eq_true.mp hc q hm
    simp only [beq_iff_eq] at h1
    simp [hne, h1]
-- worlds
def setA : va_W → List Nat → va_W → va_W
  | ws, i :: is, c :: cs => setA (ws.set i c) is cs
  | ws, _, _ => ws
theorem setA_fst (is : List Nat) (ws cs : va_W) (wc : va_W) (hs : is.map (fun i => ws[i]?) = wc.map some) (hadr : cs.map Prod.fst = wc.map Prod.fst) (hn : va_nd is = true) : (setA ws is cs).map Prod.fst = ws.map Prod.fst := by
  induction is generalizing ws cs wc with
  | nil => cases cs <;> rfl
  | cons i is ih =>
    cases cs with
    | nil => rfl
    | cons c cs =>
      cases wc with
      | nil => simp at hs
      | cons w wc =>
        simp only [List.map_cons, List.cons.injEq] at hs hadr
        simp only [va_nd, Bool.and_eq_true, decide_eq_true_eq] at hn
        have hset : (ws.set i c).map Prod.fst = ws.map Prod.fst := by
          have h1 : (ws.map Prod.fst)[i]? = some c.1 := by rw [List.getElem?_map, hs.1, hadr.1]; rfl
          rw [List.map_set]
          apply List.ext_getElem?
          intro j
          rw [List.getElem?_set]
          split
          · rename_i hij
            subst hij
            split
            · exact h1.symm
            · rename_i hlt
              rw [List.getElem?_eq_none (by simpa using hlt)] at h1
              cases h1
          · rfl
        show (setA (ws.set i c) is cs).map Prod.fst = ws.map Prod.fst
        rw [ih (ws.set i c) cs wc ?_ hadr.2 hn.2, hset]
        rw [← hs.2]
        apply List.map_congr_left
        intro j hj
        rw [List.getElem?_set_ne]
        intro he
        subst he
        exact hn.1 hj
theorem setA_get (is : List Nat) (ws cs : va_W) (k : Nat) (q : Nat × va_E) (hl : is.length = cs.length) (h : (setA ws is cs)[k]? = some q) : (k ∉ is ∧ ws[k]? = some q) ∨ q ∈ cs := by
  induction is generalizing ws cs with
  | nil =>
    refine Or.inl ⟨List.not_mem_nil, ?_⟩
    cases cs <;> exact h
  | cons i is ih =>
    cases cs with
    | nil => simp at hl
    | cons c cs =>
      rcases ih (ws.set i c) cs (by simpa using hl) h with ⟨h1, h2⟩ | h1
      · by_cases hik : i = k
        · subst hik
          rw [List.getElem?_set] at h2
          simp only [if_true] at h2
          split at h2
          · cases h2
            exact Or.inr List.mem_cons_self
          · cases h2
        · rw [List.getElem?_set_ne hik] at h2
          exact Or.inl ⟨fun hm => (List.mem_cons.mp hm).elim (fun he => hik he.symm) h1, h2⟩
      · exact Or.inr (List.mem_cons_of_mem _ h1)
theorem va_D.adr {A : Nat → Prop} {ws ws' : va_W} (hD : va_D A ws) (h : ws'.map Prod.fst = ws.map Prod.fst) : va_D A ws' := by
  have key : ∀ (k : Nat) (q : Nat × va_E), ws'[k]? = some q → ∃ q2, ws[k]? = some q2 ∧ q2.1 = q.1 := by
    intro k q hq
    have h1 : (ws'.map Prod.fst)[k]? = some q.1 := by rw [List.getElem?_map, hq]; rfl
    rw [h, List.getElem?_map] at h1
    cases h2 : ws[k]? with
    | none => rw [h2] at h1; cases h1
    | some q2 => rw [h2] at h1; exact ⟨q2, rfl, by simpa using h1⟩
  refine ⟨fun i j a b ha hb hab => ?_, fun k q hq => ?_⟩
  · obtain ⟨a2, ha2, ea⟩ := key i a ha
    obtain ⟨b2, hb2, eb⟩ := key j b hb
    exact hD.1 i j a2 b2 ha2 hb2 (by rw [ea, eb, hab])
  · obtain ⟨q2, h2, e2⟩ := key k q hq
    rw [← e2]
    exact hD.2 k q2 h2
theorem va_P.setA {A0 : Nat → Prop} {D : va_G} {cl : List vw_C} {ws wc cs : va_W} {H H1 : Heap} (hP : va_P D cl ws H) (hD : va_D A0 ws) (is : List Nat) (hs : is.map (fun i => ws[i]?) = wc.map some) (hadr : cs.map Prod.fst = wc.map Prod.fst)
    (hk : ∀ q : Nat, q < H.size → ¬ va_A wc H.size q → H1[q]? = H[q]?) (hP1 : va_P D cl cs H1) : va_P D cl (setA ws is cs) H1 := by
  intro k q hq
  have hlen : is.length = cs.length := by
    have h1 := congrArg List.length hs
    have h2 := congrArg List.length hadr
    simp only [List.length_map] at h1 h2
    omega
  rcases setA_get is ws cs k q hlen hq with ⟨hni, hw⟩ | hm
  · have hat := hP k q hw
    refine hat.kept (hk q.1 hat.lt ?_)
    intro hA
    rcases hA with ⟨j, e, he⟩ | hge
    · have h1 : (is.map (fun i => ws[i]?))[j]? = some (some (q.1, e)) := by rw [hs, List.getElem?_map, he]; rfl
      rw [List.getElem?_map] at h1
      cases h2 : is[j]? with
      | none => rw [h2] at h1; cases h1
      | some i =>
        rw [h2] at h1
        have h3 : ws[i]? = some (q.1, e) := by simpa using h1
        have := hD.1 i k (q.1, e) q h3 hw rfl
        subst this
        exact hni (List.mem_of_getElem? h2)
    · exact absurd hat.lt (Nat.not_lt.mpr hge)
  · obtain ⟨j, hj, he⟩ := List.mem_iff_getElem.mp hm
    exact hP1 j q (by rw [List.getElem?_eq_getElem hj, he])
theorem setA_self (is : List Nat) (ws wc : va_W) (hs : is.map (fun i => ws[i]?) = wc.map some) : setA ws is wc = ws := by
  induction is generalizing wc with
  | nil => cases wc <;> rfl
  | cons i is ih =>
    cases wc with
    | nil => rfl
    | cons w wc =>
      simp only [List.map_cons, List.cons.injEq] at hs
      have h1 : ws.set i w = ws := by
        apply List.ext_getElem?
        intro j
        rw [List.getElem?_set]
        split
        · rename_i hij
          subst hij
          split
          · exact hs.1.symm
          · rename_i hlt
            rw [List.getElem?_eq_none (by omega)] at hs
            cases hs.1
        · rfl
      show setA (ws.set i w) is wc = ws
      rw [h1]
      exact ih wc hs.2
end
section
/-! ===== ROWS over VV ===== -/
section Rows
variable {T : TT} {M : MB} {cc : ByteArray} {own : String} {nL : Nat} {Ts : List Cond} {R0 : Room} {lv lv' : List (Nat × Value)} {ws ws' : va_W} {ce sl pc : Nat} {rest : List Value}
theorem xr_iconst (hM : FM T M cc own nL Ts R0) {n : Int} (hd : decode cc pc = .ok (.iconst n, 1)) (k : VV T M nL lv ws ce sl (pc + 1) (iv n :: rest)) : VV T M nL lv ws ce sl pc rest := by
  obtain ⟨p, l, e, R, s, m, args, below, meth, c, Q, A⟩ := M
  obtain ⟨hx, hb, hml, hown, hts, hK, hA, hR, hSX⟩ := hM
  intro ls H locs hl hP hD hS
  exact lv_iconst hx hb hd rfl (k ls H locs hl hP hD hS)
theorem xr_bipush (hM : FM T M cc own nL Ts R0) {n : Int} (hd : decode cc pc = .ok (.bipush n, 2)) (hv : (Int8.ofInt n).toInt32 = Int32.ofInt n) (k : VV T M nL lv ws ce sl (pc + 2) (iv n :: rest)) : VV T M nL lv ws ce sl pc rest := by
  obtain ⟨p, l, e, R, s, m, args, below, meth, c, Q, A⟩ := M
  obtain ⟨hx, hb, hml, hown, hts, hK, hA, hR, hSX⟩ := hM
  intro ls H locs hl hP hD hS
  exact lv_bipush hx hb hd hv (k ls H locs hl hP hD hS)
theorem xr_sipush (hM : FM T M cc own nL Ts R0) {n : Int} (hd : decode cc pc = .ok (.sipush n, 3)) (hv : (Int16.ofInt n).toInt32 = Int32.ofInt n) (k : VV T M nL lv ws ce sl (pc + 3) (iv n :: rest)) : VV T M nL lv ws ce sl pc rest := by
  obtain ⟨p, l, e, R, s, m, args, below, meth, c, Q, A⟩ := M
  obtain ⟨hx, hb, hml, hown, hts, hK, hA, hR, hSX⟩ := hM
  intro ls H locs hl hP hD hS
  exact lv_sipush hx hb hd hv (k ls H locs hl hP hD hS)
theorem xr_ldc (hM : FM T M cc own nL Ts R0) {index : Nat} {v : Int32} (n : Int) (hw : Jvm.Cond.constant own index v ∈ Ts) (hv : v = Int32.ofInt n) (hd : decode cc pc = .ok (.ldc index, 2)) (k : VV T M nL lv ws ce sl (pc + 2) (iv n :: rest)) : VV T M nL lv ws ce sl pc rest := by
  obtain ⟨p, l, e, R, s, m, args, below, meth, c, Q, A⟩ := M
  obtain ⟨hx, hb, hml, hown, hts, hK, hA, hR, hSX⟩ := hM
  intro ls H locs hl hP hD hS
  subst hv
  exact lv_ldc hx hb hown (hts _ hw) hd (k ls H locs hl hP hD hS)
theorem xr_iload_n (hM : FM T M cc own nL Ts R0) {q : Fin 4} {i : Nat} {x : Int} (j : Nat) (hd : decode cc pc = .ok (.iload_n q, 1)) (hi : (q : Nat) = i) (hj : lv[j]? = some (i, iv x)) (k : VV T M nL lv ws ce sl (pc + 1) (iv x :: rest)) : VV T M nL lv ws ce sl pc rest := by
  obtain ⟨p, l, e, R, s, m, args, below, meth, c, Q, A⟩ := M
  obtain ⟨hx, hb, hml, hown, hts, hK, hA, hR, hSX⟩ := hM
  intro ls H locs hl hP hD hS
  exact lv_iload_n hx hb hd hi (lv_at hl j hj) (k ls H locs hl hP hD hS)
theorem xr_iload (hM : FM T M cc own nL Ts R0) {i : Nat} {x : Int} (j : Nat) (hd : decode cc pc = .ok (.iload i, 2)) (hj : lv[j]? = some (i, iv x)) (k : VV T M nL lv ws ce sl (pc + 2) (iv x :: rest)) : VV T M nL lv ws ce sl pc rest := by
  obtain ⟨p, l, e, R, s, m, args, below, meth, c, Q, A⟩ := M
  obtain ⟨hx, hb, hml, hown, hts, hK, hA, hR, hSX⟩ := hM
  intro ls H locs hl hP hD hS
  exact lv_iload hx hb hd (lv_at hl j hj) (k ls H locs hl hP hD hS)
theorem xr_aload_n (hM : FM T M cc own nL Ts R0) {q : Fin 4} {i a : Nat} (j : Nat) (hd : decode cc pc = .ok (.aload_n q, 1)) (hi : (q : Nat) = i) (hj : lv[j]? = some (i, .ref a)) (k : VV T M nL lv ws ce sl (pc + 1) (.ref a :: rest)) : VV T M nL lv ws ce sl pc rest := by
  obtain ⟨p, l, e, R, s, m, args, below, meth, c, Q, A⟩ := M
  obtain ⟨hx, hb, hml, hown, hts, hK, hA, hR, hSX⟩ := hM
  intro ls H locs hl hP hD hS
  exact lv_aload_n hx hb hd hi (lv_at hl j hj) (k ls H locs hl hP hD hS)
theorem xr_aload (hM : FM T M cc own nL Ts R0) {i a : Nat} (j : Nat) (hd : decode cc pc = .ok (.aload i, 2)) (hj : lv[j]? = some (i, .ref a)) (k : VV T M nL lv ws ce sl (pc + 2) (.ref a :: rest)) : VV T M nL lv ws ce sl pc rest := by
  obtain ⟨p, l, e, R, s, m, args, below, meth, c, Q, A⟩ := M
  obtain ⟨hx, hb, hml, hown, hts, hK, hA, hR, hSX⟩ := hM
  intro ls H locs hl hP hD hS
  exact lv_aload hx hb hd (lv_at hl j hj) (k ls H locs hl hP hD hS)
theorem xr_istore_n (hM : FM T M cc own nL Ts R0) {q : Fin 4} {i : Nat} {x : Int} (hd : decode cc pc = .ok (.istore_n q, 1)) (hi : (q : Nat) = i) (hn : i < nL) (hc : lv.all (fun q => q.2.category == 1) = true) (hs : setL lv i (iv x) = lv') (k : VV T M nL lv' ws ce sl (pc + 1) rest) : VV T M nL lv ws ce sl pc (iv x :: rest) := by
  obtain ⟨p, l, e, R, s, m, args, below, meth, c, Q, A⟩ := M
  obtain ⟨hx, hb, hml, hown, hts, hK, hA, hR, hSX⟩ := hM
  intro ls H locs hl hP hD hS
  subst hs
  exact lv_istore_n hx hb hd hi hl hn rfl (fun ls1 h1 => k ls1 H locs (lv_setL hc h1) hP hD hS)
theorem xr_istore (hM : FM T M cc own nL Ts R0) {i : Nat} {x : Int} (hd : decode cc pc = .ok (.istore i, 2)) (hn : i < nL) (hc : lv.all (fun q => q.2.category == 1) = true) (hs : setL lv i (iv x) = lv') (k : VV T M nL lv' ws ce sl (pc + 2) rest) : VV T M nL lv ws ce sl pc (iv x :: rest) := by
  obtain ⟨p, l, e, R, s, m, args, below, meth, c, Q, A⟩ := M
  obtain ⟨hx, hb, hml, hown, hts, hK, hA, hR, hSX⟩ := hM
  intro ls H locs hl hP hD hS
  subst hs
  exact lv_istore hx hb hd hl hn rfl (fun ls1 h1 => k ls1 H locs (lv_setL hc h1) hP hD hS)
theorem xr_astore_n (hM : FM T M cc own nL Ts R0) {q : Fin 4} {i a : Nat} (hd : decode cc pc = .ok (.astore_n q, 1)) (hi : (q : Nat) = i) (hn : i < nL) (hc : lv.all (fun q => q.2.category == 1) = true) (hs : setL lv i (.ref a) = lv') (k : VV T M nL lv' ws ce sl (pc + 1) rest) : VV T M nL lv ws ce sl pc (.ref a :: rest) := by
  obtain ⟨p, l, e, R, s, m, args, below, meth, c, Q, A⟩ := M
  obtain ⟨hx, hb, hml, hown, hts, hK, hA, hR, hSX⟩ := hM
  intro ls H locs hl hP hD hS
  subst hs
  exact lv_astore_n hx hb hd hi hl hn rfl (fun ls1 h1 => k ls1 H locs (lv_setL hc h1) hP hD hS)
theorem xr_iinc (hM : FM T M cc own nL Ts R0) {i : Nat} {x n : Int} (j : Nat) (hd : decode cc pc = .ok (.iinc i n, 3)) (hj : lv[j]? = some (i, iv x)) (hn : i < nL) (hc : lv.all (fun q => q.2.category == 1) = true) (hs : setL lv i (iv (x + n)) = lv') (k : VV T M nL lv' ws ce sl (pc + 3) rest) : VV T M nL lv ws ce sl pc rest := by
  obtain ⟨p, l, e, R, s, m, args, below, meth, c, Q, A⟩ := M
  obtain ⟨hx, hb, hml, hown, hts, hK, hA, hR, hSX⟩ := hM
  intro ls H locs hl hP hD hS
  subst hs
  exact lv_iinc hx hb hd hl hj (Int32.ofInt_add x n).symm hn rfl (fun ls1 h1 => k ls1 H locs (lv_setL hc h1) hP hD hS)
theorem xr_iadd (hM : FM T M cc own nL Ts R0) {x y : Int} (hd : decode cc pc = .ok (.iadd, 1)) (k : VV T M nL lv ws ce sl (pc + 1) (iv (x + y) :: rest)) : VV T M nL lv ws ce sl pc (iv y :: iv x :: rest) := by
  obtain ⟨p, l, e, R, s, m, args, below, meth, c, Q, A⟩ := M
  obtain ⟨hx, hb, hml, hown, hts, hK, hA, hR, hSX⟩ := hM
  intro ls H locs hl hP hD hS
  have k1 := k ls H locs hl hP hD hS
  rw [iv, Int32.ofInt_add] at k1
  exact lv_iadd hx hb hd k1
theorem xr_isub (hM : FM T M cc own nL Ts R0) {x y : Int} (hd : decode cc pc = .ok (.isub, 1)) (k : VV T M nL lv ws ce sl (pc + 1) (iv (x - y) :: rest)) : VV T M nL lv ws ce sl pc (iv y :: iv x :: rest) := by
  obtain ⟨p, l, e, R, s, m, args, below, meth, c, Q, A⟩ := M
  obtain ⟨hx, hb, hml, hown, hts, hK, hA, hR, hSX⟩ := hM
  intro ls H locs hl hP hD hS
  have k1 := k ls H locs hl hP hD hS
  rw [iv, Int32.ofInt_sub] at k1
  exact lv_isub hx hb hd k1
theorem xr_imul (hM : FM T M cc own nL Ts R0) {x y : Int} (hd : decode cc pc = .ok (.imul, 1)) (k : VV T M nL lv ws ce sl (pc + 1) (iv (x * y) :: rest)) : VV T M nL lv ws ce sl pc (iv y :: iv x :: rest) := by
  obtain ⟨p, l, e, R, s, m, args, below, meth, c, Q, A⟩ := M
  obtain ⟨hx, hb, hml, hown, hts, hK, hA, hR, hSX⟩ := hM
  intro ls H locs hl hP hD hS
  have k1 := k ls H locs hl hP hD hS
  rw [iv, Int32.ofInt_mul] at k1
  exact lv_imul hx hb hd k1
theorem xr_ineg (hM : FM T M cc own nL Ts R0) {x : Int} (hd : decode cc pc = .ok (.ineg, 1)) (k : VV T M nL lv ws ce sl (pc + 1) (iv (-x) :: rest)) : VV T M nL lv ws ce sl pc (iv x :: rest) := by
  obtain ⟨p, l, e, R, s, m, args, below, meth, c, Q, A⟩ := M
  obtain ⟨hx, hb, hml, hown, hts, hK, hA, hR, hSX⟩ := hM
  intro ls H locs hl hP hD hS
  have k1 := k ls H locs hl hP hD hS
  rw [iv, Int32.ofInt_neg] at k1
  exact lv_ineg hx hb hd k1
theorem xr_idiv (hM : FM T M cc own nL Ts R0) {x y : Int} (hd : decode cc pc = .ok (.idiv, 1)) (h : (0 ≤ x ∧ x < 2147483648) ∧ 0 < y ∧ y < 2147483648) (k : VV T M nL lv ws ce sl (pc + 1) (iv (x / y) :: rest)) : VV T M nL lv ws ce sl pc (iv y :: iv x :: rest) := by
  obtain ⟨p, l, e, R, s, m, args, below, meth, c, Q, A⟩ := M
  obtain ⟨hx, hb, hml, hown, hts, hK, hA, hR, hSX⟩ := hM
  intro ls H locs hl hP hD hS
  have k1 := k ls H locs hl hP hD hS
  rw [iv, ← xi_div h] at k1
  exact lv_idiv hx hb hd (fun h9 => by have h8 := (xi_e0 (by omega)).mp h9; omega) k1
theorem xr_irem (hM : FM T M cc own nL Ts R0) {x y : Int} (hd : decode cc pc = .ok (.irem, 1)) (h : (0 ≤ x ∧ x < 2147483648) ∧ 0 < y ∧ y < 2147483648) (k : VV T M nL lv ws ce sl (pc + 1) (iv (x % y) :: rest)) : VV T M nL lv ws ce sl pc (iv y :: iv x :: rest) := by
  obtain ⟨p, l, e, R, s, m, args, below, meth, c, Q, A⟩ := M
  obtain ⟨hx, hb, hml, hown, hts, hK, hA, hR, hSX⟩ := hM
  intro ls H locs hl hP hD hS
  have k1 := k ls H locs hl hP hD hS
  have e : x % y = x - x / y * y := by rw [Int.emod_def, Int.mul_comm]
  rw [iv, e, Int32.ofInt_sub, Int32.ofInt_mul, ← xi_div h] at k1
  exact lv_irem hx hb hd (fun h9 => by have h8 := (xi_e0 (by omega)).mp h9; omega) k1
theorem xr_dup (hM : FM T M cc own nL Ts R0) {v : Value} (hd : decode cc pc = .ok (.dup, 1)) (hv : v.category = 1) (k : VV T M nL lv ws ce sl (pc + 1) (v :: v :: rest)) : VV T M nL lv ws ce sl pc (v :: rest) := by
  obtain ⟨p, l, e, R, s, m, args, below, meth, c, Q, A⟩ := M
  obtain ⟨hx, hb, hml, hown, hts, hK, hA, hR, hSX⟩ := hM
  intro ls H locs hl hP hD hS
  exact lv_dup hx hb hd hv (k ls H locs hl hP hD hS)
theorem xr_dup2 (hM : FM T M cc own nL Ts R0) {v w : Value} (hd : decode cc pc = .ok (.dup2, 1)) (hv : v.category = 1) (hw : w.category = 1) (k : VV T M nL lv ws ce sl (pc + 1) (v :: w :: v :: w :: rest)) : VV T M nL lv ws ce sl pc (v :: w :: rest) := by
  obtain ⟨p, l, e, R, s, m, args, below, meth, c, Q, A⟩ := M
  obtain ⟨hx, hb, hml, hown, hts, hK, hA, hR, hSX⟩ := hM
  intro ls H locs hl hP hD hS
  exact lv_dup2_11 hx hb hd hv hw (k ls H locs hl hP hD hS)
theorem xr_pop (hM : FM T M cc own nL Ts R0) {v : Value} (hd : decode cc pc = .ok (.pop, 1)) (hv : v.category = 1) (k : VV T M nL lv ws ce sl (pc + 1) rest) : VV T M nL lv ws ce sl pc (v :: rest) := by
  obtain ⟨p, l, e, R, s, m, args, below, meth, c, Q, A⟩ := M
  obtain ⟨hx, hb, hml, hown, hts, hK, hA, hR, hSX⟩ := hM
  intro ls H locs hl hP hD hS
  exact lv_pop hx hb hd hv (k ls H locs hl hP hD hS)
theorem xr_goto (hM : FM T M cc own nL Ts R0) {off : Int} (tgt : Nat) (hd : decode cc pc = .ok (.goto off, 3)) (ht : (pc : Int) + off = (tgt : Int)) (k : VV T M nL lv ws ce sl tgt rest) : VV T M nL lv ws ce sl pc rest := by
  obtain ⟨p, l, e, R, s, m, args, below, meth, c, Q, A⟩ := M
  obtain ⟨hx, hb, hml, hown, hts, hK, hA, hR, hSX⟩ := hM
  intro ls H locs hl hP hD hS
  exact lv_goto hx hb hd ht (k ls H locs hl hP hD hS)
theorem xr_ifnonnull (hM : FM T M cc own nL Ts R0) {off : Int} {a : Nat} (tgt : Nat) (hd : decode cc pc = .ok (.ifnonnull off, 3)) (ht : (pc : Int) + off = (tgt : Int)) (k : VV T M nL lv ws ce sl tgt rest) : VV T M nL lv ws ce sl pc (.ref a :: rest) := by
  obtain ⟨p, l, e, R, s, m, args, below, meth, c, Q, A⟩ := M
  obtain ⟨hx, hb, hml, hown, hts, hK, hA, hR, hSX⟩ := hM
  intro ls H locs hl hP hD hS
  exact lv_ifnonnull hx hb hd ht (k ls H locs hl hP hD hS)
theorem xr_icmp_eq (hM : FM T M cc own nL Ts R0) {x y off : Int} (tgt : Nat) (hd : decode cc pc = .ok (.if_icmp .eq off, 3)) (ht : (pc : Int) + off = (tgt : Int)) (h : (-2147483648 ≤ x ∧ x < 2147483648) ∧ -2147483648 ≤ y ∧ y < 2147483648) (kt : x = y → VV T M nL lv ws ce sl tgt rest) (kf : x ≠ y → VV T M nL lv ws ce sl (pc + 3) rest) : VV T M nL lv ws ce sl pc (iv y :: iv x :: rest) := by
  obtain ⟨p, l, e, R, s, m, args, below, meth, c, Q, A⟩ := M
  obtain ⟨hx, hb, hml, hown, hts, hK, hA, hR, hSX⟩ := hM
  intro ls H locs hl hP hD hS
  exact lv_icmp_eq hx hb hd ht (fun q => kt ((fun q => (xi_eq h).mp q) q) ls H locs hl hP hD hS) (fun q => kf ((fun q => by have q1 := mt (xi_eq h).mpr q; omega) q) ls H locs hl hP hD hS)
theorem xr_icmp_ne (hM : FM T M cc own nL Ts R0) {x y off : Int} (tgt : Nat) (hd : decode cc pc = .ok (.if_icmp .ne off, 3)) (ht : (pc : Int) + off = (tgt : Int)) (h : (-2147483648 ≤ x ∧ x < 2147483648) ∧ -2147483648 ≤ y ∧ y < 2147483648) (kt : x ≠ y → VV T M nL lv ws ce sl tgt rest) (kf : x = y → VV T M nL lv ws ce sl (pc + 3) rest) : VV T M nL lv ws ce sl pc (iv y :: iv x :: rest) := by
  obtain ⟨p, l, e, R, s, m, args, below, meth, c, Q, A⟩ := M
  obtain ⟨hx, hb, hml, hown, hts, hK, hA, hR, hSX⟩ := hM
  intro ls H locs hl hP hD hS
  exact lv_icmp_ne hx hb hd ht (fun q => kt ((fun q => by have q1 := mt (xi_eq h).mpr q; exact q1) q) ls H locs hl hP hD hS) (fun q => kf ((fun q => (xi_eq h).mp q) q) ls H locs hl hP hD hS)
theorem xr_icmp_lt (hM : FM T M cc own nL Ts R0) {x y off : Int} (tgt : Nat) (hd : decode cc pc = .ok (.if_icmp .lt off, 3)) (ht : (pc : Int) + off = (tgt : Int)) (h : (-2147483648 ≤ x ∧ x < 2147483648) ∧ -2147483648 ≤ y ∧ y < 2147483648) (kt : x < y → VV T M nL lv ws ce sl tgt rest) (kf : y ≤ x → VV T M nL lv ws ce sl (pc + 3) rest) : VV T M nL lv ws ce sl pc (iv y :: iv x :: rest) := by
  obtain ⟨p, l, e, R, s, m, args, below, meth, c, Q, A⟩ := M
  obtain ⟨hx, hb, hml, hown, hts, hK, hA, hR, hSX⟩ := hM
  intro ls H locs hl hP hD hS
  exact lv_icmp_lt hx hb hd ht (fun q => kt ((fun q => (xi_lt h).mp q) q) ls H locs hl hP hD hS) (fun q => kf ((fun q => by have q1 := mt (xi_lt h).mpr q; omega) q) ls H locs hl hP hD hS)
theorem xr_icmp_ge (hM : FM T M cc own nL Ts R0) {x y off : Int} (tgt : Nat) (hd : decode cc pc = .ok (.if_icmp .ge off, 3)) (ht : (pc : Int) + off = (tgt : Int)) (h : (-2147483648 ≤ x ∧ x < 2147483648) ∧ -2147483648 ≤ y ∧ y < 2147483648) (kt : y ≤ x → VV T M nL lv ws ce sl tgt rest) (kf : x < y → VV T M nL lv ws ce sl (pc + 3) rest) : VV T M nL lv ws ce sl pc (iv y :: iv x :: rest) := by
  obtain ⟨p, l, e, R, s, m, args, below, meth, c, Q, A⟩ := M
  obtain ⟨hx, hb, hml, hown, hts, hK, hA, hR, hSX⟩ := hM
  intro ls H locs hl hP hD hS
  exact lv_icmp_ge hx hb hd ht (fun q => kt ((fun q => (xi_le ⟨h.2, h.1⟩).mp q) q) ls H locs hl hP hD hS) (fun q => kf ((fun q => by have q1 := mt (xi_le ⟨h.2, h.1⟩).mpr q; omega) q) ls H locs hl hP hD hS)
theorem xr_icmp_gt (hM : FM T M cc own nL Ts R0) {x y off : Int} (tgt : Nat) (hd : decode cc pc = .ok (.if_icmp .gt off, 3)) (ht : (pc : Int) + off = (tgt : Int)) (h : (-2147483648 ≤ x ∧ x < 2147483648) ∧ -2147483648 ≤ y ∧ y < 2147483648) (kt : y < x → VV T M nL lv ws ce sl tgt rest) (kf : x ≤ y → VV T M nL lv ws ce sl (pc + 3) rest) : VV T M nL lv ws ce sl pc (iv y :: iv x :: rest) := by
  obtain ⟨p, l, e, R, s, m, args, below, meth, c, Q, A⟩ := M
  obtain ⟨hx, hb, hml, hown, hts, hK, hA, hR, hSX⟩ := hM
  intro ls H locs hl hP hD hS
  exact lv_icmp_gt hx hb hd ht (fun q => kt ((fun q => (xi_lt ⟨h.2, h.1⟩).mp q) q) ls H locs hl hP hD hS) (fun q => kf ((fun q => by have q1 := mt (xi_lt ⟨h.2, h.1⟩).mpr q; omega) q) ls H locs hl hP hD hS)
theorem xr_icmp_le (hM : FM T M cc own nL Ts R0) {x y off : Int} (tgt : Nat) (hd : decode cc pc = .ok (.if_icmp .le off, 3)) (ht : (pc : Int) + off = (tgt : Int)) (h : (-2147483648 ≤ x ∧ x < 2147483648) ∧ -2147483648 ≤ y ∧ y < 2147483648) (kt : x ≤ y → VV T M nL lv ws ce sl tgt rest) (kf : y < x → VV T M nL lv ws ce sl (pc + 3) rest) : VV T M nL lv ws ce sl pc (iv y :: iv x :: rest) := by
  obtain ⟨p, l, e, R, s, m, args, below, meth, c, Q, A⟩ := M
  obtain ⟨hx, hb, hml, hown, hts, hK, hA, hR, hSX⟩ := hM
  intro ls H locs hl hP hD hS
  exact lv_icmp_le hx hb hd ht (fun q => kt ((fun q => (xi_le h).mp q) q) ls H locs hl hP hD hS) (fun q => kf ((fun q => by have q1 := mt (xi_le h).mpr q; omega) q) ls H locs hl hP hD hS)
theorem xr_if_eq (hM : FM T M cc own nL Ts R0) {x off : Int} (tgt : Nat) (hd : decode cc pc = .ok (.ifCond .eq off, 3)) (ht : (pc : Int) + off = (tgt : Int)) (h : -2147483648 ≤ x ∧ x < 2147483648) (kt : x = 0 → VV T M nL lv ws ce sl tgt rest) (kf : x ≠ 0 → VV T M nL lv ws ce sl (pc + 3) rest) : VV T M nL lv ws ce sl pc (iv x :: rest) := by
  obtain ⟨p, l, e, R, s, m, args, below, meth, c, Q, A⟩ := M
  obtain ⟨hx, hb, hml, hown, hts, hK, hA, hR, hSX⟩ := hM
  intro ls H locs hl hP hD hS
  exact lv_if_eq hx hb hd ht (fun q => kt ((fun q => (xi_e0 h).mp q) q) ls H locs hl hP hD hS) (fun q => kf ((fun q => by have q1 := mt (xi_e0 h).mpr q; omega) q) ls H locs hl hP hD hS)
theorem xr_if_ne (hM : FM T M cc own nL Ts R0) {x off : Int} (tgt : Nat) (hd : decode cc pc = .ok (.ifCond .ne off, 3)) (ht : (pc : Int) + off = (tgt : Int)) (h : -2147483648 ≤ x ∧ x < 2147483648) (kt : x ≠ 0 → VV T M nL lv ws ce sl tgt rest) (kf : x = 0 → VV T M nL lv ws ce sl (pc + 3) rest) : VV T M nL lv ws ce sl pc (iv x :: rest) := by
  obtain ⟨p, l, e, R, s, m, args, below, meth, c, Q, A⟩ := M
  obtain ⟨hx, hb, hml, hown, hts, hK, hA, hR, hSX⟩ := hM
  intro ls H locs hl hP hD hS
  exact lv_if_ne hx hb hd ht (fun q => kt ((fun q => by have q1 := mt (xi_e0 h).mpr q; exact q1) q) ls H locs hl hP hD hS) (fun q => kf ((fun q => (xi_e0 h).mp q) q) ls H locs hl hP hD hS)
theorem xr_if_lt (hM : FM T M cc own nL Ts R0) {x off : Int} (tgt : Nat) (hd : decode cc pc = .ok (.ifCond .lt off, 3)) (ht : (pc : Int) + off = (tgt : Int)) (h : -2147483648 ≤ x ∧ x < 2147483648) (kt : x < 0 → VV T M nL lv ws ce sl tgt rest) (kf : 0 ≤ x → VV T M nL lv ws ce sl (pc + 3) rest) : VV T M nL lv ws ce sl pc (iv x :: rest) := by
  obtain ⟨p, l, e, R, s, m, args, below, meth, c, Q, A⟩ := M
  obtain ⟨hx, hb, hml, hown, hts, hK, hA, hR, hSX⟩ := hM
  intro ls H locs hl hP hD hS
  exact lv_if_lt hx hb hd ht (fun q => kt ((fun q => (@xi_lt x 0 ⟨h, by omega⟩).mp q) q) ls H locs hl hP hD hS) (fun q => kf ((fun q => by have q1 := mt (@xi_lt x 0 ⟨h, by omega⟩).mpr q; omega) q) ls H locs hl hP hD hS)
theorem xr_if_ge (hM : FM T M cc own nL Ts R0) {x off : Int} (tgt : Nat) (hd : decode cc pc = .ok (.ifCond .ge off, 3)) (ht : (pc : Int) + off = (tgt : Int)) (h : -2147483648 ≤ x ∧ x < 2147483648) (kt : 0 ≤ x → VV T M nL lv ws ce sl tgt rest) (kf : x < 0 → VV T M nL lv ws ce sl (pc + 3) rest) : VV T M nL lv ws ce sl pc (iv x :: rest) := by
  obtain ⟨p, l, e, R, s, m, args, below, meth, c, Q, A⟩ := M
  obtain ⟨hx, hb, hml, hown, hts, hK, hA, hR, hSX⟩ := hM
  intro ls H locs hl hP hD hS
  exact lv_if_ge hx hb hd ht (fun q => kt ((fun q => (@xi_le 0 x ⟨by omega, h⟩).mp q) q) ls H locs hl hP hD hS) (fun q => kf ((fun q => by have q1 := mt (@xi_le 0 x ⟨by omega, h⟩).mpr q; omega) q) ls H locs hl hP hD hS)
theorem xr_if_gt (hM : FM T M cc own nL Ts R0) {x off : Int} (tgt : Nat) (hd : decode cc pc = .ok (.ifCond .gt off, 3)) (ht : (pc : Int) + off = (tgt : Int)) (h : -2147483648 ≤ x ∧ x < 2147483648) (kt : 0 < x → VV T M nL lv ws ce sl tgt rest) (kf : x ≤ 0 → VV T M nL lv ws ce sl (pc + 3) rest) : VV T M nL lv ws ce sl pc (iv x :: rest) := by
  obtain ⟨p, l, e, R, s, m, args, below, meth, c, Q, A⟩ := M
  obtain ⟨hx, hb, hml, hown, hts, hK, hA, hR, hSX⟩ := hM
  intro ls H locs hl hP hD hS
  exact lv_if_gt hx hb hd ht (fun q => kt ((fun q => (@xi_lt 0 x ⟨by omega, h⟩).mp q) q) ls H locs hl hP hD hS) (fun q => kf ((fun q => by have q1 := mt (@xi_lt 0 x ⟨by omega, h⟩).mpr q; omega) q) ls H locs hl hP hD hS)
theorem xr_if_le (hM : FM T M cc own nL Ts R0) {x off : Int} (tgt : Nat) (hd : decode cc pc = .ok (.ifCond .le off, 3)) (ht : (pc : Int) + off = (tgt : Int)) (h : -2147483648 ≤ x ∧ x < 2147483648) (kt : x ≤ 0 → VV T M nL lv ws ce sl tgt rest) (kf : 0 < x → VV T M nL lv ws ce sl (pc + 3) rest) : VV T M nL lv ws ce sl pc (iv x :: rest) := by
  obtain ⟨p, l, e, R, s, m, args, below, meth, c, Q, A⟩ := M
  obtain ⟨hx, hb, hml, hown, hts, hK, hA, hR, hSX⟩ := hM
  intro ls H locs hl hP hD hS
  exact lv_if_le hx hb hd ht (fun q => kt ((fun q => (@xi_le x 0 ⟨h, by omega⟩).mp q) q) ls H locs hl hP hD hS) (fun q => kf ((fun q => by have q1 := mt (@xi_le x 0 ⟨h, by omega⟩).mpr q; omega) q) ls H locs hl hP hD hS)
theorem xr_ifb_eq (hM : FM T M cc own nL Ts R0) {P : Prop} [Decidable P] {off : Int} (tgt : Nat) (hd : decode cc pc = .ok (.ifCond .eq off, 3)) (ht : (pc : Int) + off = (tgt : Int)) (kt : ¬ P → VV T M nL lv ws ce sl tgt rest) (kf : P → VV T M nL lv ws ce sl (pc + 3) rest) : VV T M nL lv ws ce sl pc (iv (bi P) :: rest) :=
  xr_if_eq hM tgt hd ht bi_b (fun q => kt (bi_0.mp q)) (fun q => kf (Decidable.not_not.mp (fun h => q (bi_0.mpr h))))
theorem xr_ifb_ne (hM : FM T M cc own nL Ts R0) {P : Prop} [Decidable P] {off : Int} (tgt : Nat) (hd : decode cc pc = .ok (.ifCond .ne off, 3)) (ht : (pc : Int) + off = (tgt : Int)) (kt : P → VV T M nL lv ws ce sl tgt rest) (kf : ¬ P → VV T M nL lv ws ce sl (pc + 3) rest) : VV T M nL lv ws ce sl pc (iv (bi P) :: rest) :=
  xr_if_ne hM tgt hd ht bi_b (fun q => kt (Decidable.not_not.mp (fun h => q (bi_0.mpr h)))) (fun q => kf (bi_0.mp q))
theorem xr_get (hM : FM T M cc own nL Ts R0) {ref C : String} {TT0 : u_T} {N index a : Nat} (ci q0 j : Nat) (hin : ∀ w ∈ u_ws C TT0 N, w ∈ Ts) {fs : List Value} {v : Value} (he : ws[q0]? = some (a, ob ci fs)) (hc : xcl[ci]? = some (C, TT0, N)) (hk : j < N) (hw : Cond.fieldLink own index ref (TT0 j).2.1 (TT0 j).2.2.1 ∈ Ts) (hr : (TT0 j).1 = ref) (hv : fs[j]? = some v) (hd : decode cc pc = .ok (.getfield index, 3))
    (k : VV T M nL lv ws ce sl (pc + 3) (v :: rest)) : VV T M nL lv ws ce sl pc (.ref a :: rest) := by
  obtain ⟨p, l, e, R, s, m, args, below, meth, c, Q, A⟩ := M
  obtain ⟨hx, hb, hml, hown, hts, hK, hA, hR, hSX⟩ := hM
  intro ls H locs hl hP hD hS
  exact va_get hx hb hts hin hown hK hP q0 he hc j hk (hts _ hw) (fun x h9 => by rw [← hr]; exact h9) hv hd (k ls H locs hl hP hD hS)
theorem xr_put (hM : FM T M cc own nL Ts R0) {ref C : String} {TT0 : u_T} {N index a : Nat} (ci q0 j : Nat) (hin : ∀ w ∈ u_ws C TT0 N, w ∈ Ts) (ty0 : Nat → FieldType) (hty : ∀ k, k < N → parseFieldDescriptor (TT0 k).2.2.1 = some (ty0 k)) (hnm : ∀ a, a < N → ∀ b, b < N → a ≠ b → (TT0 a).2.1 ≠ (TT0 b).2.1) {fs : List Value} {x : Int} (he : ws[q0]? = some (a, ob ci fs)) (hc : xcl[ci]? = some (C, TT0, N)) (hk : j < N) (hw : Cond.fieldLink own index ref (TT0 j).2.1 (TT0 j).2.2.1 ∈ Ts) (hr : (TT0 j).1 = ref) (hfin : (TT0 j).2.2.2 = false) (hd0 : ty0 j = .int) (hl0 : j < fs.length) (hs : ws.set q0 (a, ob ci (fs.set j (iv x))) = ws') (hd : decode cc pc = .ok (.putfield index, 3))
    (k : VV T M nL lv ws' ce sl (pc + 3) rest) : VV T M nL lv ws ce sl pc (iv x :: .ref a :: rest) := by
  obtain ⟨p, l, e, R, s, m, args, below, meth, c, Q, A⟩ := M
  obtain ⟨hx, hb, hml, hown, hts, hK, hA, hR, hSX⟩ := hM
  intro ls H locs hl hP hD hS
  subst hs
  exact va_put (ty := .int) hx hb hts hin ty0 hty hnm hown hK hP hD hS q0 he hc j hk (hts _ hw) (fun x h9 => by rw [← hr]; exact h9) hfin (by rw [hty j hk, hd0]) rfl rfl hl0 hd (fun H1 locs1 hP1 hD1 hS1 => k ls H1 locs1 hl hP1 hD1 hS1)
theorem xr_putz (hM : FM T M cc own nL Ts R0) {ref C : String} {TT0 : u_T} {N index a : Nat} (ci q0 j : Nat) (hin : ∀ w ∈ u_ws C TT0 N, w ∈ Ts) (ty0 : Nat → FieldType) (hty : ∀ k, k < N → parseFieldDescriptor (TT0 k).2.2.1 = some (ty0 k)) (hnm : ∀ a, a < N → ∀ b, b < N → a ≠ b → (TT0 a).2.1 ≠ (TT0 b).2.1) {fs : List Value} {x : Int} (hx01 : x = 0 ∨ x = 1) (he : ws[q0]? = some (a, ob ci fs)) (hc : xcl[ci]? = some (C, TT0, N)) (hk : j < N) (hw : Cond.fieldLink own index ref (TT0 j).2.1 (TT0 j).2.2.1 ∈ Ts) (hr : (TT0 j).1 = ref) (hfin : (TT0 j).2.2.2 = false) (hd0 : ty0 j = .boolean) (hl0 : j < fs.length) (hs : ws.set q0 (a, ob ci (fs.set j (iv x))) = ws') (hd : decode cc pc = .ok (.putfield index, 3))
    (k : VV T M nL lv ws' ce sl (pc + 3) rest) : VV T M nL lv ws ce sl pc (iv x :: .ref a :: rest) := by
  obtain ⟨p, l, e, R, s, m, args, below, meth, c, Q, A⟩ := M
  obtain ⟨hx, hb, hml, hown, hts, hK, hA, hR, hSX⟩ := hM
  intro ls H locs hl hP hD hS
  subst hs
  exact va_put (ty := .boolean) hx hb hts hin ty0 hty hnm hown hK hP hD hS q0 he hc j hk (hts _ hw) (fun x h9 => by rw [← hr]; exact h9) hfin (by rw [hty j hk, hd0]) (by rcases hx01 with rfl | rfl <;> rfl) (by rcases hx01 with rfl | rfl <;> rfl) hl0 hd (fun H1 locs1 hP1 hD1 hS1 => k ls H1 locs1 hl hP1 hD1 hS1)
theorem xr_iald (hM : FM T M cc own nL Ts R0) {a n : Nat} {w : Nat → Int} {i : Int} (q0 j : Nat) (he : ws[q0]? = some (a, ia T.2.1 n w)) (hij : i.toNat = j) (hi : 0 ≤ i ∧ i < (n : Int) ∧ i < 2147483648) (hd : decode cc pc = .ok (.iaload, 1))
    (k : VV T M nL lv ws ce sl (pc + 1) (iv (w j) :: rest)) : VV T M nL lv ws ce sl pc (iv i :: .ref a :: rest) := by
  obtain ⟨p, l, e, R, s, m, args, below, meth, c, Q, A⟩ := M
  obtain ⟨hx, hb, hml, hown, hts, hK, hA, hR, hSX⟩ := hM
  intro ls H locs hl hP hD hS
  subst hij
  refine va_iald hx hb hK hP q0 0 he rfl (xi_in hi) hd ?_
  rw [xi_cl ⟨hi.1, hi.2.2⟩]
  exact k ls H locs hl hP hD hS
theorem xr_zald (hM : FM T M cc own nL Ts R0) {a n : Nat} {w : Nat → Int} {i : Int} (q0 j : Nat) (he : ws[q0]? = some (a, ia T.2.2.1 n w)) (hij : i.toNat = j) (hi : 0 ≤ i ∧ i < (n : Int) ∧ i < 2147483648) (hd : decode cc pc = .ok (.baload, 1))
    (k : VV T M nL lv ws ce sl (pc + 1) (iv (w j) :: rest)) : VV T M nL lv ws ce sl pc (iv i :: .ref a :: rest) := by
  obtain ⟨p, l, e, R, s, m, args, below, meth, c, Q, A⟩ := M
  obtain ⟨hx, hb, hml, hown, hts, hK, hA, hR, hSX⟩ := hM
  intro ls H locs hl hP hD hS
  subst hij
  refine va_zald hx hb hK hP q0 1 he rfl (xi_in hi) hd ?_
  rw [xi_cl ⟨hi.1, hi.2.2⟩]
  exact k ls H locs hl hP hD hS
theorem xr_cald (hM : FM T M cc own nL Ts R0) {a n : Nat} {w : Nat → Int} {i : Int} (q0 j : Nat) (he : ws[q0]? = some (a, ia T.2.2.2.1 n w)) (hij : i.toNat = j) (hi : 0 ≤ i ∧ i < (n : Int) ∧ i < 2147483648) (hd : decode cc pc = .ok (.caload, 1))
    (k : VV T M nL lv ws ce sl (pc + 1) (iv (w j) :: rest)) : VV T M nL lv ws ce sl pc (iv i :: .ref a :: rest) := by
  obtain ⟨p, l, e, R, s, m, args, below, meth, c, Q, A⟩ := M
  obtain ⟨hx, hb, hml, hown, hts, hK, hA, hR, hSX⟩ := hM
  intro ls H locs hl hP hD hS
  subst hij
  refine va_cald hx hb hK hP q0 2 he rfl (xi_in hi) hd ?_
  rw [xi_cl ⟨hi.1, hi.2.2⟩]
  exact k ls H locs hl hP hD hS
theorem xr_iast (hM : FM T M cc own nL Ts R0) {a n : Nat} {w : Nat → Int} {i x : Int} (q0 j : Nat) (he : ws[q0]? = some (a, ia T.2.1 n w)) (hij : i.toNat = j) (hi : 0 ≤ i ∧ i < (n : Int) ∧ i < 2147483648) (hd : decode cc pc = .ok (.iastore, 1)) (hs : ws.set q0 (a, ia T.2.1 n (va_up w j x)) = ws')
    (k : VV T M nL lv ws' ce sl (pc + 1) rest) : VV T M nL lv ws ce sl pc (iv x :: iv i :: .ref a :: rest) := by
  obtain ⟨p, l, e, R, s, m, args, below, meth, c, Q, A⟩ := M
  obtain ⟨hx, hb, hml, hown, hts, hK, hA, hR, hSX⟩ := hM
  intro ls H locs hl hP hD hS
  subst hij hs
  refine va_iast hx hb hK hP hD hS q0 0 he rfl (xi_in hi) hd ?_
  rw [xi_cl ⟨hi.1, hi.2.2⟩, xi_upd]
  exact fun H1 locs1 hP1 hD1 hS1 => k ls H1 locs1 hl hP1 hD1 hS1
theorem xr_zast (hM : FM T M cc own nL Ts R0) {a n : Nat} {w : Nat → Int} {i x : Int} (q0 j : Nat) (he : ws[q0]? = some (a, ia T.2.2.1 n w)) (hij : i.toNat = j) (hi : 0 ≤ i ∧ i < (n : Int) ∧ i < 2147483648) (hx01 : x = 0 ∨ x = 1) (hd : decode cc pc = .ok (.bastore, 1)) (hs : ws.set q0 (a, ia T.2.2.1 n (va_up w j x)) = ws')
    (k : VV T M nL lv ws' ce sl (pc + 1) rest) : VV T M nL lv ws ce sl pc (iv x :: iv i :: .ref a :: rest) := by
  obtain ⟨p, l, e, R, s, m, args, below, meth, c, Q, A⟩ := M
  obtain ⟨hx, hb, hml, hown, hts, hK, hA, hR, hSX⟩ := hM
  intro ls H locs hl hP hD hS
  subst hij hs
  refine va_zast hx hb hK hP hD hS q0 1 he rfl (xi_in hi) hd ?_
  have hnar : vp_nar .boolean (Int32.ofInt x) = Int32.ofInt x := by rcases hx01 with rfl | rfl <;> rfl
  rw [xi_cl ⟨hi.1, hi.2.2⟩, hnar, xi_upd]
  exact fun H1 locs1 hP1 hD1 hS1 => k ls H1 locs1 hl hP1 hD1 hS1
theorem xi_char {x : Int} (h : 0 ≤ x ∧ x < 65536) : ((Int32.ofInt x).toUInt32 % 65536).toInt32 = Int32.ofInt x := by
  obtain ⟨n, rfl⟩ := Int.eq_ofNat_of_zero_le h.1
  rw [pk_char]
  have h1 : n < 65536 := by omega
  have h2 : Int32.ofInt (n : Int) = nI n := Int32.ofInt_eq_ofNat
  rw [h2, pk_tn (by omega), Nat.mod_eq_of_lt h1]
theorem xi_charN {x : Int} (h : 0 ≤ x ∧ x < 65536) : vp_nar .char (Int32.ofInt x) = Int32.ofInt x := by
  obtain ⟨n, rfl⟩ := Int.eq_ofNat_of_zero_le h.1
  have h2 : Int32.ofInt (n : Int) = nI n := Int32.ofInt_eq_ofNat
  rw [h2]
  unfold vp_nar
  rw [(pk_charN (by omega)).1]
theorem xr_i2c (hM : FM T M cc own nL Ts R0) {x : Int} (hi : 0 ≤ x ∧ x < 65536) (hd : decode cc pc = .ok (.i2c, 1))
    (k : VV T M nL lv ws ce sl (pc + 1) (iv x :: rest)) : VV T M nL lv ws ce sl pc (iv x :: rest) := by
  obtain ⟨p, l, e, R, s, m, args, below, meth, c, Q, A⟩ := M
  obtain ⟨hx, hb, hml, hown, hts, hK, hA, hR, hSX⟩ := hM
  intro ls H locs hl hP hD hS
  exact lv_i2c hx hb hd (xi_char hi) (k ls H locs hl hP hD hS)
theorem xr_cast (hM : FM T M cc own nL Ts R0) {a n : Nat} {w : Nat → Int} {i x : Int} (q0 j : Nat) (he : ws[q0]? = some (a, ia T.2.2.2.1 n w)) (hij : i.toNat = j) (hi : 0 ≤ i ∧ i < (n : Int) ∧ i < 2147483648) (hx01 : 0 ≤ x ∧ x < 65536) (hd : decode cc pc = .ok (.castore, 1)) (hs : ws.set q0 (a, ia T.2.2.2.1 n (va_up w j x)) = ws')
    (k : VV T M nL lv ws' ce sl (pc + 1) rest) : VV T M nL lv ws ce sl pc (iv x :: iv i :: .ref a :: rest) := by
  obtain ⟨p, l, e, R, s, m, args, below, meth, c, Q, A⟩ := M
  obtain ⟨hx, hb, hml, hown, hts, hK, hA, hR, hSX⟩ := hM
  intro ls H locs hl hP hD hS
  subst hij hs
  refine va_cast hx hb hK hP hD hS q0 2 he rfl (xi_in hi) hd ?_
  rw [xi_cl ⟨hi.1, hi.2.2⟩, xi_charN hx01, xi_upd]
  exact fun H1 locs1 hP1 hD1 hS1 => k ls H1 locs1 hl hP1 hD1 hS1
theorem xr_aald (hM : FM T M cc own nL Ts R0) {a n : Nat} {f : Nat → Option Nat} {i : Int} (q0 : Nat) {b : Nat} (he : ws[q0]? = some (a, qa T.2.2.2.2.1 n f)) (hi : 0 ≤ i ∧ i < (n : Int) ∧ i < 2147483648) (hf : f i.toNat = some b) (hd : decode cc pc = .ok (.aaload, 1))
    (k : VV T M nL lv ws ce sl (pc + 1) (.ref b :: rest)) : VV T M nL lv ws ce sl pc (iv i :: .ref a :: rest) := by
  obtain ⟨p, l, e, R, s, m, args, below, meth, c, Q, A⟩ := M
  obtain ⟨hx, hb, hml, hown, hts, hK, hA, hR, hSX⟩ := hM
  intro ls H locs hl hP hD hS
  refine va_aldq hx hb hK hP q0 3 he rfl (xi_in hi) hd ?_
  rw [xi_cl ⟨hi.1, hi.2.2⟩, hf]
  exact k ls H locs hl hP hD hS
theorem xr_copyi (hM : FM T M cc own nL Ts R0) {index a0 a1 n0 n1 : Nat} {f g : Nat → Int} {sp dp n : Int} (q0 q1 : Nat) (hw1 : Cond.methodLink own index arraycopyName ∈ Ts) (hw2 : Cond.native arraycopyName ∈ Ts) (hw3 : Cond.static arraycopyName ∈ Ts) (hw4 : Cond.initialized "java/lang/System" ∈ Ts)
    (he0 : ws[q0]? = some (a0, ia T.2.1 n0 f)) (he1 : ws[q1]? = some (a1, ia T.2.1 n1 g)) (h : 0 ≤ sp ∧ 0 ≤ dp ∧ 0 ≤ n ∧ sp + n ≤ (n0 : Int) ∧ dp + n ≤ (n1 : Int) ∧ n0 < 2147483648 ∧ n1 < 2147483648) (hfr : 1 ≤ R0.frames) (hlo : (rest.map fun v => v.category).sum + (nativeFrameWords "java/lang/System" "arraycopy" 5 + 11) ≤ R0.locals) (hd : decode cc pc = .ok (.invokestatic index, 3)) (hs : ws.set q1 (a1, ia T.2.1 n1 (va_cpy f g sp.toNat dp.toNat n.toNat)) = ws')
    (k : VV T M nL lv ws' ce sl (pc + 3) rest) : VV T M nL lv ws ce sl pc (iv n :: iv dp :: .ref a1 :: iv sp :: .ref a0 :: rest) := by
  obtain ⟨p, l, e, R, s, m, args, below, meth, c, Q, A⟩ := M
  obtain ⟨hx, hb, hml, hown, hts, hK, hA, hR, hSX⟩ := hM
  intro ls H locs hl hP hD hS
  subst hs
  have e1 := xi_cl (i := sp) (by omega)
  have e2 := xi_cl (i := dp) (by omega)
  have e3 := xi_cl (i := n) (by omega)
  refine va_copyi (ty := .int) hx hb (hml.trans hl.1.symm) hown (hts _ hw1) (hts _ hw2) (hts _ hw3) (hts _ hw4) hK hP hD hS q0 q1 0 0 he0 he1 rfl rfl rfl (fun q9 => by have q8 := (@xi_lt sp 0 ⟨by omega, by omega⟩).mp q9; omega) (fun q9 => by have q8 := (@xi_lt dp 0 ⟨by omega, by omega⟩).mp q9; omega) (fun q9 => by have q8 := (@xi_lt n 0 ⟨by omega, by omega⟩).mp q9; omega) (by rw [e1, e3]; omega) (by rw [e2, e3]; omega) (fun _ _ => rfl) (by rw [hR]; exact hfr) (by rw [hR]; exact hlo) hd ?_
  rw [e1, e2, e3, xi_cpy]
  exact fun H1 locs1 hP1 hD1 hS1 => k ls H1 locs1 hl hP1 hD1 hS1
theorem xr_copyz (hM : FM T M cc own nL Ts R0) {index a0 a1 n0 n1 : Nat} {f g : Nat → Int} {sp dp n : Int} (q0 q1 : Nat) (hw1 : Cond.methodLink own index arraycopyName ∈ Ts) (hw2 : Cond.native arraycopyName ∈ Ts) (hw3 : Cond.static arraycopyName ∈ Ts) (hw4 : Cond.initialized "java/lang/System" ∈ Ts)
    (he0 : ws[q0]? = some (a0, ia T.2.2.1 n0 f)) (he1 : ws[q1]? = some (a1, ia T.2.2.1 n1 g)) (hf01 : ∀ j, f j = 0 ∨ f j = 1) (h : 0 ≤ sp ∧ 0 ≤ dp ∧ 0 ≤ n ∧ sp + n ≤ (n0 : Int) ∧ dp + n ≤ (n1 : Int) ∧ n0 < 2147483648 ∧ n1 < 2147483648) (hfr : 1 ≤ R0.frames) (hlo : (rest.map fun v => v.category).sum + (nativeFrameWords "java/lang/System" "arraycopy" 5 + 11) ≤ R0.locals) (hd : decode cc pc = .ok (.invokestatic index, 3)) (hs : ws.set q1 (a1, ia T.2.2.1 n1 (va_cpy f g sp.toNat dp.toNat n.toNat)) = ws')
    (k : VV T M nL lv ws' ce sl (pc + 3) rest) : VV T M nL lv ws ce sl pc (iv n :: iv dp :: .ref a1 :: iv sp :: .ref a0 :: rest) := by
  obtain ⟨p, l, e, R, s, m, args, below, meth, c, Q, A⟩ := M
  obtain ⟨hx, hb, hml, hown, hts, hK, hA, hR, hSX⟩ := hM
  intro ls H locs hl hP hD hS
  subst hs
  have e1 := xi_cl (i := sp) (by omega)
  have e2 := xi_cl (i := dp) (by omega)
  have e3 := xi_cl (i := n) (by omega)
  refine va_copyi (ty := .boolean) hx hb (hml.trans hl.1.symm) hown (hts _ hw1) (hts _ hw2) (hts _ hw3) (hts _ hw4) hK hP hD hS q0 q1 1 1 he0 he1 rfl rfl rfl (fun q9 => by have q8 := (@xi_lt sp 0 ⟨by omega, by omega⟩).mp q9; omega) (fun q9 => by have q8 := (@xi_lt dp 0 ⟨by omega, by omega⟩).mp q9; omega) (fun q9 => by have q8 := (@xi_lt n 0 ⟨by omega, by omega⟩).mp q9; omega) (by rw [e1, e3]; omega) (by rw [e2, e3]; omega) (fun j _ => by rcases hf01 ((Int32.ofInt sp).toNatClampNeg + j) with q | q <;> rw [q] <;> rfl) (by rw [hR]; exact hfr) (by rw [hR]; exact hlo) hd ?_
  rw [e1, e2, e3, xi_cpy]
  exact fun H1 locs1 hP1 hD1 hS1 => k ls H1 locs1 hl hP1 hD1 hS1
theorem xr_mmax (hM : FM T M cc own nL Ts R0) {index : Nat} {x y : Int} (hw1 : Cond.methodLink own index Lib.Math.max.name ∈ Ts) (hw2 : Cond.static Lib.Math.max.name ∈ Ts) (hw3 : Cond.initialized "java/lang/Math" ∈ Ts) (hw4 : Cond.code Lib.Math.max.name Lib.Math.max.code 2 (some .int) ∈ Ts) (h : (-2147483648 ≤ x ∧ x < 2147483648) ∧ -2147483648 ≤ y ∧ y < 2147483648)
    (hfr : 1 ≤ R0.frames) (hlo : (rest.map fun v => v.category).sum + 13 ≤ R0.locals) (hc1 : ce ≤ R0.cells) (hc2 : sl ≤ R0.slots) (hd : decode cc pc = .ok (.invokestatic index, 3))
    (k : VV T M nL lv ws ce sl (pc + 3) (iv (max x y) :: rest)) : VV T M nL lv ws ce sl pc (iv y :: iv x :: rest) := by
  obtain ⟨p, l, e, R, s, m, args, below, meth, c, Q, A⟩ := M
  obtain ⟨hx, hb, hml, hown, hts, hK, hA, hR, hSX⟩ := hM
  intro ls H locs hl hP hD hS
  refine va_mmax hx hb (hml.trans hl.1.symm) hown (hts _ hw1) (hts _ hw2) (hts _ hw3) (hts _ hw4) (by rw [hR]; exact hfr) (by rw [hR]; exact hlo) (by rw [hR]; exact hc1) (by rw [hR]; exact hc2) hd ?_
  have k1 := k ls H locs hl hP hD hS
  have e : Value.int (if Int32.ofInt x < Int32.ofInt y then Int32.ofInt y else Int32.ofInt x) = iv (max x y) := by
    by_cases q : x < y
    · rw [if_pos ((xi_lt (by omega)).mpr q)]
      show iv y = _
      congr 1
      omega
    · rw [if_neg (fun q9 => q ((xi_lt (by omega)).mp q9))]
      show iv x = _
      congr 1
      omega
  rw [e]
  exact k1
theorem xr_mmin (hM : FM T M cc own nL Ts R0) {index : Nat} {x y : Int} (hw1 : Cond.methodLink own index Lib.Math.min.name ∈ Ts) (hw2 : Cond.static Lib.Math.min.name ∈ Ts) (hw3 : Cond.initialized "java/lang/Math" ∈ Ts) (hw4 : Cond.code Lib.Math.min.name Lib.Math.min.code 2 (some .int) ∈ Ts) (h : (-2147483648 ≤ x ∧ x < 2147483648) ∧ -2147483648 ≤ y ∧ y < 2147483648)
    (hfr : 1 ≤ R0.frames) (hlo : (rest.map fun v => v.category).sum + 13 ≤ R0.locals) (hc1 : ce ≤ R0.cells) (hc2 : sl ≤ R0.slots) (hd : decode cc pc = .ok (.invokestatic index, 3))
    (k : VV T M nL lv ws ce sl (pc + 3) (iv (min x y) :: rest)) : VV T M nL lv ws ce sl pc (iv y :: iv x :: rest) := by
  obtain ⟨p, l, e, R, s, m, args, below, meth, c, Q, A⟩ := M
  obtain ⟨hx, hb, hml, hown, hts, hK, hA, hR, hSX⟩ := hM
  intro ls H locs hl hP hD hS
  refine va_mmin hx hb (hml.trans hl.1.symm) hown (hts _ hw1) (hts _ hw2) (hts _ hw3) (hts _ hw4) (by rw [hR]; exact hfr) (by rw [hR]; exact hlo) (by rw [hR]; exact hc1) (by rw [hR]; exact hc2) hd ?_
  have k1 := k ls H locs hl hP hD hS
  have e : Value.int (if Int32.ofInt y < Int32.ofInt x then Int32.ofInt y else Int32.ofInt x) = iv (min x y) := by
    by_cases q : y < x
    · rw [if_pos ((xi_lt (by omega)).mpr q)]
      show iv y = _
      congr 1
      omega
    · rw [if_neg (fun q9 => q ((xi_lt (by omega)).mp q9))]
      show iv x = _
      congr 1
      omega
  rw [e]
  exact k1
end Rows
end
section
/-! ===== CONTRACTS: how one is proved (CT.Z, CT.V, CT.A) and used (xr_callV, xr_callS) ===== -/
theorem xl_fm {α : Type} {is : List Nat} {f : Nat → Option α} {wc : List α} (h : is.map f = wc.map some) : is.filterMap f = wc := by
  have h1 := congrArg (List.filterMap id) h
  rw [List.filterMap_map, List.filterMap_map] at h1
  simpa using h1
theorem xl_blind {T : TT} {vals : List Value} {ws : va_W} {sz : Nat} : FrameBlind (va_Pc vals (fun U => U.heap.size = sz ∧ va_P T.1 xcl ws U.heap ∧ va_K T.1 xcl (xtys T) U ∧ va_D (fun _ => True) ws ∧ SX T (va_A ws sz) U U.heap)) := fun a U g mk q => by
  obtain ⟨q0, q1, qP, qK, qD, qX⟩ := q
  exact ⟨q0, q1, qP, va_K.moved (u := U) (U := U.calling g mk a) (Vm.Alike.refl U.vm) qK, qD, qX.warm (s := U) (State.WarmedH.refl U)⟩
theorem xl_S {A0 A1 : Nat → Prop} {H0 H H1 : Heap} {locs L : List Loc} (hS : va_S A0 H0 H locs) (hz : H.size ≤ H1.size) (hk : ∀ q : Nat, q < H.size → ¬ A1 q → H1[q]? = H[q]?) (hA : ∀ q, A1 q → A0 q) (hL : ∀ q ∈ L, A1 q.base) : va_S A0 H0 H1 (locs ++ L) :=
  ⟨Nat.le_trans hS.1 hz, fun q h1 h2 => by rw [hk q (Nat.lt_of_lt_of_le h1 hS.1) (fun z => h2 (hA q z))]; exact hS.2.1 q h1 h2, fun q hq => by
    rcases List.mem_append.mp hq with h | h
    · exact hS.2.2 q h
    · exact hA _ (hL q h)⟩
theorem CT.Z {l : Launch} {y : MethodName} {wy wy' : List Cond} {rm : Room} {T : TT} {vals : List Value} {ws ws' : va_W} {cc : ByteArray} {maxL : Nat} {rt : FieldType} {v : Int} {lv0 : List (Nat × Value)} (hy : plainName y.cls = true) (hw : wy = Cond.code y cc maxL (some rt) :: wy') (hlen : (lg_sl vals).length ≤ maxL) (hn : narrow rt (iv v) = iv v) (hlv : lv_args 0 vals = lv0)
    (h : ∀ M : MB, FM T M cc y.cls maxL wy rm → FinI T M cc maxL (iv v) ws' → VV T M maxL lv0 ws 0 0 0 []) : CT l y wy rm T vals ws (some (iv v)) ws' := by
  intro sz
  refine Met.ofW (cc := cc) (maxL := maxL) (ret := some rt) hy hw ?_
  intro p e s m args below meth c s₁ B hml hv
  obtain ⟨rfl, hsz, hP, hK, hD0, hSX⟩ := hv
  have hr := B.returns
  have hts := atoms_spec (ws := wy) B.pre
  have hown : s.vm.findClass y.cls = some m.cls := findClass_of_methodNamed B.named
  have hlocks := B.notSynchronized
  subst hsz
  have hD := hD0.self (sz := s.heap.size)
  have hl := lv_entry vals (n := maxL) hlen
  rw [lg_entry_eq]
  rw [hlv] at hl
  have hF : FinI T (p, l, e, rm, s, m, vals.toArray, below, meth, c, MQ below (fun _ st oc t => (oc = .returned (some (iv v)) ∧ va_P T.1 xcl ws' t.heap) ∧ va_F (va_A ws s.heap.size) st t) vals.toArray s 0 0 (va_A ws s.heap.size), va_A ws s.heap.size) cc maxL (iv v) ws' := by
    intro lv pc hd ls H locs hl hP hD hS
    show W p l e rm s m vals.toArray below meth c H locs 0 0 (MQ below (fun _ st oc t => (oc = .returned (some (iv v)) ∧ va_P T.1 xcl ws' t.heap) ∧ va_F (va_A ws s.heap.size) st t) vals.toArray s 0 0 (va_A ws s.heap.size)) (F0 m pc ls [.int (Int32.ofInt v)])
    exact W.zret (v := Int32.ofInt v) B.exec B.bytes hr hn (fun t ht hW => ⟨⟨rfl, by rw [ht]; exact hP⟩, hS.F ht⟩) hS.2.2 hd hlocks
  exact h (p, l, e, rm, s, m, vals.toArray, below, meth, c, MQ below (fun _ st oc t => (oc = .returned (some (iv v)) ∧ va_P T.1 xcl ws' t.heap) ∧ va_F (va_A ws s.heap.size) st t) vals.toArray s 0 0 (va_A ws s.heap.size), va_A ws s.heap.size)
    ⟨B.exec, B.bytes, hml, hown, hts, hK, fun q h => Or.inr h, rfl, hSX⟩
    hF _ _ _ hl hP hD va_S.rf
theorem CT.V {l : Launch} {y : MethodName} {wy wy' : List Cond} {rm : Room} {T : TT} {vals : List Value} {ws ws' : va_W} {cc : ByteArray} {maxL : Nat} {lv0 : List (Nat × Value)} (hy : plainName y.cls = true) (hw : wy = Cond.code y cc maxL none :: wy') (hlen : (lg_sl vals).length ≤ maxL) (hlv : lv_args 0 vals = lv0)
    (h : ∀ M : MB, FM T M cc y.cls maxL wy rm → FinV T M cc maxL ws' → VV T M maxL lv0 ws 0 0 0 []) : CT l y wy rm T vals ws none ws' := by
  intro sz
  refine Met.ofW (cc := cc) (maxL := maxL) (ret := none) hy hw ?_
  intro p e s m args below meth c s₁ B hml hv
  obtain ⟨rfl, hsz, hP, hK, hD0, hSX⟩ := hv
  have hr := B.returns
  have hts := atoms_spec (ws := wy) B.pre
  have hown : s.vm.findClass y.cls = some m.cls := findClass_of_methodNamed B.named
  have hlocks := B.notSynchronized
  subst hsz
  have hD := hD0.self (sz := s.heap.size)
  have hl := lv_entry vals (n := maxL) hlen
  rw [lg_entry_eq]
  rw [hlv] at hl
  have hF : FinV T (p, l, e, rm, s, m, vals.toArray, below, meth, c, MQ below (fun _ st oc t => (oc = .returned (none) ∧ va_P T.1 xcl ws' t.heap) ∧ va_F (va_A ws s.heap.size) st t) vals.toArray s 0 0 (va_A ws s.heap.size), va_A ws s.heap.size) cc maxL ws' := by
    intro lv pc hd ls H locs hl hP hD hS
    show W p l e rm s m vals.toArray below meth c H locs 0 0 (MQ below (fun _ st oc t => (oc = .returned (none) ∧ va_P T.1 xcl ws' t.heap) ∧ va_F (va_A ws s.heap.size) st t) vals.toArray s 0 0 (va_A ws s.heap.size)) (F0 m pc ls [])
    exact W.vret B.exec B.bytes hr (fun t ht hW => ⟨⟨rfl, by rw [ht]; exact hP⟩, hS.F ht⟩) hS.2.2 hd hlocks
  exact h (p, l, e, rm, s, m, vals.toArray, below, meth, c, MQ below (fun _ st oc t => (oc = .returned none ∧ va_P T.1 xcl ws' t.heap) ∧ va_F (va_A ws s.heap.size) st t) vals.toArray s 0 0 (va_A ws s.heap.size), va_A ws s.heap.size)
    ⟨B.exec, B.bytes, hml, hown, hts, hK, fun q h => Or.inr h, rfl, hSX⟩
    hF _ _ _ hl hP hD va_S.rf
theorem CT.A {l : Launch} {y : MethodName} {wy wy' : List Cond} {rm : Room} {T : TT} {vals : List Value} {ws ws' : va_W} {cc : ByteArray} {maxL : Nat} {rn : String} {b : Nat} {lv0 : List (Nat × Value)} (hy : plainName y.cls = true) (hw : wy = Cond.code y cc maxL (some (.object rn)) :: wy') (hlen : (lg_sl vals).length ≤ maxL) (hlv : lv_args 0 vals = lv0)
    (h : ∀ M : MB, FM T M cc y.cls maxL wy rm → FinA T M cc maxL (.ref b) ws' → VV T M maxL lv0 ws 0 0 0 []) : CT l y wy rm T vals ws (some (.ref b)) ws' := by
  intro sz
  refine Met.ofW (cc := cc) (maxL := maxL) (ret := some (.object rn)) hy hw ?_
  intro p e s m args below meth c s₁ B hml hv
  obtain ⟨rfl, hsz, hP, hK, hD0, hSX⟩ := hv
  have hr := B.returns
  have hts := atoms_spec (ws := wy) B.pre
  have hown : s.vm.findClass y.cls = some m.cls := findClass_of_methodNamed B.named
  have hlocks := B.notSynchronized
  subst hsz
  have hD := hD0.self (sz := s.heap.size)
  have hl := lv_entry vals (n := maxL) hlen
  rw [lg_entry_eq]
  rw [hlv] at hl
  have hF : FinA T (p, l, e, rm, s, m, vals.toArray, below, meth, c, MQ below (fun _ st oc t => (oc = .returned (some (.ref b)) ∧ va_P T.1 xcl ws' t.heap) ∧ va_F (va_A ws s.heap.size) st t) vals.toArray s 0 0 (va_A ws s.heap.size), va_A ws s.heap.size) cc maxL (.ref b) ws' := by
    intro lv pc hd ls H locs hl hP hD hS
    show W p l e rm s m vals.toArray below meth c H locs 0 0 (MQ below (fun _ st oc t => (oc = .returned (some (.ref b)) ∧ va_P T.1 xcl ws' t.heap) ∧ va_F (va_A ws s.heap.size) st t) vals.toArray s 0 0 (va_A ws s.heap.size)) (F0 m pc ls [.ref b])
    exact W.aret (v := .ref b) B.exec B.bytes hr (Or.inl ⟨rn, rfl⟩) (Or.inr ⟨b, rfl⟩) (fun t ht hW => ⟨⟨rfl, by rw [ht]; exact hP⟩, hS.F ht⟩) hS.2.2 hd hlocks
  exact h (p, l, e, rm, s, m, vals.toArray, below, meth, c, MQ below (fun _ st oc t => (oc = .returned (some (.ref b)) ∧ va_P T.1 xcl ws' t.heap) ∧ va_F (va_A ws s.heap.size) st t) vals.toArray s 0 0 (va_A ws s.heap.size), va_A ws s.heap.size)
    ⟨B.exec, B.bytes, hml, hown, hts, hK, fun q h => Or.inr h, rfl, hSX⟩
    hF _ _ _ hl hP hD va_S.rf
section Calls2
variable {T : TT} {M : MB} {cc : ByteArray} {own : String} {nL : Nat} {Ts : List Cond} {R0 : Room} {lv lv' : List (Nat × Value)} {ws ws' : va_W} {ce sl pc : Nat} {rest : List Value}
theorem xr_callV (hM : FM T M cc own nL Ts R0) {y : MethodName} {wy wy' : List Cond} {bytes : ByteArray} {maxL index n : Nat} {rt : Option FieldType} {rm : Room} {C : String} {b : Nat} {As : List Value} {wc cs : va_W} {ret : Option Value} (hct : CT M.2.1 y wy rm T (.ref b :: As) wc ret cs)
    (hg : GoodIn Ts (wsV own index C y wy)) (hw : wy = Cond.code y bytes maxL rt :: wy') (hrm : rm.cells = 0 ∧ rm.slots = 0) (hy : y.cls = C ∧ y.cls ≠ "java/lang/invoke/MethodHandle" ∧ y.cls ≠ "java/lang/invoke/VarHandle" ∧ (parseMethodDescriptor y.desc).map (fun d => d.parameters.length) = some n) (hn : As.length = n) (hR : rm.frames + 1 ≤ R0.frames ∧ 8 + (maxL + 11) + rm.locals ≤ R0.locals)
    (is : List Nat) (hnd : va_nd is = true) (hs : is.map (fun i => ws[i]?) = wc.map some) (hadr : cs.map Prod.fst = wc.map Prod.fst) {q : vw_C} {fs : List Value} (jr ci : Nat) (hq : xcl[ci]? = some q) (hqC : q.1 = C) (hrec : wc[jr]? = some (b, ob ci fs)) {st st' : List Value} (hst : st = As.reverse ++ .ref b :: rest) (hst' : ret.toList ++ rest = st') (hcat : (rest.map fun v => v.category).sum ≤ 8) (hce : ce ≤ R0.cells ∧ sl ≤ R0.slots) (hset : setA ws is cs = ws') (hd : decode cc pc = .ok (.invokevirtual index, 3))
    (k : VV T M nL lv ws' ce sl (pc + 3) st') : VV T M nL lv ws ce sl pc st := by
  obtain ⟨p, l, e, R, s, m, args, below, meth, c, Q, A⟩ := M
  obtain ⟨hx, hb, hml, hown, hts, hK, hA, hR0, hSX⟩ := hM
  intro ls H locs hl hP hD hS
  subst hset hst hst'
  have hPc : va_P T.1 xcl wc H := hP.sub is (xl_fm hs)
  have hDc := hD.sub is hnd hs
  have hFc := va_free hD hS hA is hs
  have hR1 : R = R0 := hR0
  have hrun := va_runV (R := R) (p := p) (l := l) (m := m) (s := s) (args := args) (c := c) (H := H) (locs := locs) (cells := ce) (slots := sl) (below := below) (e := e) (meth := meth) (g := F0 m pc ls (As.reverse ++ .ref b :: rest)) (As := As) (rest := rest) ⟨hx, hb, hml, hown, hts⟩ (hct H.size) (cwV n hts hg hw hrm.1 hrm.2 hy (by rw [hR1]; exact hR)) ⟨xl_blind, by have h9 := va_recv hK hPc hq hrec; rw [hqC] at h9; exact h9, fun U hU hW => ⟨rfl, by rw [hU], by rw [hU]; exact hPc, va_K.moved hW.alike hK, hDc.weaken (fun _ _ _ _ => trivial), by rw [hU]; exact ((hSX.kept hS.2.1).narrow hFc).warm hW⟩⟩ rfl hn hl.1 rfl (lv_room hcat) hd ⟨by rw [hR1]; exact hce.1, by rw [hR1]; exact hce.2⟩
  intro X hXH X0
  obtain ⟨v, st₀, t, T', L, h0, X', hL, e1, e2, ⟨⟨hoc, hP1⟩, hF⟩, sts⟩ := hrun X hXH X0
  have hv : v = ret := by injection hoc
  subst hv
  obtain ⟨hz, hk⟩ := hF
  rw [h0] at hz hk
  have hSn := xl_S (L := L) hS hz hk hFc hL
  obtain ⟨t2, a1, b1⟩ := k ls t.heap (locs ++ L) hl (va_P.setA hP hD is hs hadr hk hP1) (hD.adr (setA_fst is ws cs wc hs hadr hnd)) hSn T' e1 X'
  exact ⟨t2, sts t2 a1, b1⟩
theorem xr_callS (hM : FM T M cc own nL Ts R0) {y : MethodName} {wy wy' : List Cond} {bytes : ByteArray} {maxL index n : Nat} {rt : Option FieldType} {rm : Room}  {As : List Value} {wc cs : va_W} {ret : Option Value} (hct : CT M.2.1 y wy rm T As wc ret cs)
    (hg : GoodIn Ts (va_wsS own index y wy)) (hw : wy = Cond.code y bytes maxL rt :: wy') (hrm : rm.cells = 0 ∧ rm.slots = 0) (hy : y.cls ≠ "java/lang/invoke/MethodHandle" ∧ y.cls ≠ "java/lang/invoke/VarHandle" ∧ (parseMethodDescriptor y.desc).map (fun d => d.parameters.length) = some n) (hn : As.length = n) (hR : rm.frames + 1 ≤ R0.frames ∧ 8 + (maxL + 11) + rm.locals ≤ R0.locals)
    (is : List Nat) (hnd : va_nd is = true) (hs : is.map (fun i => ws[i]?) = wc.map some) (hadr : cs.map Prod.fst = wc.map Prod.fst)  {st st' : List Value} (hst : st = As.reverse ++ rest) (hst' : ret.toList ++ rest = st') (hcat : (rest.map fun v => v.category).sum ≤ 8) (hce : ce ≤ R0.cells ∧ sl ≤ R0.slots) (hset : setA ws is cs = ws') (hd : decode cc pc = .ok (.invokestatic index, 3))
    (k : VV T M nL lv ws' ce sl (pc + 3) st') : VV T M nL lv ws ce sl pc st := by
  obtain ⟨p, l, e, R, s, m, args, below, meth, c, Q, A⟩ := M
  obtain ⟨hx, hb, hml, hown, hts, hK, hA, hR0, hSX⟩ := hM
  intro ls H locs hl hP hD hS
  subst hset hst hst'
  have hPc : va_P T.1 xcl wc H := hP.sub is (xl_fm hs)
  have hDc := hD.sub is hnd hs
  have hFc := va_free hD hS hA is hs
  have hR1 : R = R0 := hR0
  have hrun := va_runS (R := R) (p := p) (l := l) (m := m) (s := s) (args := args) (c := c) (H := H) (locs := locs) (cells := ce) (slots := sl) (below := below) (e := e) (meth := meth) (g := F0 m pc ls (As.reverse ++ rest)) (As := As) (rest := rest) ⟨hx, hb, hml, hown, hts⟩ (hct H.size) (va_cwS n hts hg hw hrm.1 hrm.2 hy (by rw [hR1]; exact hR)) ⟨xl_blind, fun U hU hW => ⟨rfl, by rw [hU], by rw [hU]; exact hPc, va_K.moved hW.alike hK, hDc.weaken (fun _ _ _ _ => trivial), by rw [hU]; exact ((hSX.kept hS.2.1).narrow hFc).warm hW⟩⟩ rfl hn hl.1 rfl (lv_room hcat) hd ⟨by rw [hR1]; exact hce.1, by rw [hR1]; exact hce.2⟩
  intro X hXH X0
  obtain ⟨v, st₀, t, T', L, h0, X', hL, e1, e2, ⟨⟨hoc, hP1⟩, hF⟩, sts⟩ := hrun X hXH X0
  have hv : v = ret := by injection hoc
  subst hv
  obtain ⟨hz, hk⟩ := hF
  rw [h0] at hz hk
  have hSn := xl_S (L := L) hS hz hk hFc hL
  obtain ⟨t2, a1, b1⟩ := k ls t.heap (locs ++ L) hl (va_P.setA hP hD is hs hadr hk hP1) (hD.adr (setA_fst is ws cs wc hs hadr hnd)) hSn T' e1 X'
  exact ⟨t2, sts t2 a1, b1⟩
theorem xr_callVr (hM : FM T M cc own nL Ts R0) {y : MethodName} {wy wy' : List Cond} {bytes : ByteArray} {maxL index n : Nat} {rt : Option FieldType} {rm : Room} {C : String} {b : Nat} {As : List Value} {wc : va_W} {ret : Option Value} (hct : CT M.2.1 y wy rm T (.ref b :: As) wc ret wc)
    (hg : GoodIn Ts (wsV own index C y wy)) (hw : wy = Cond.code y bytes maxL rt :: wy') (hrm : rm.cells = 0 ∧ rm.slots = 0) (hy : y.cls = C ∧ y.cls ≠ "java/lang/invoke/MethodHandle" ∧ y.cls ≠ "java/lang/invoke/VarHandle" ∧ (parseMethodDescriptor y.desc).map (fun d => d.parameters.length) = some n) (hn : As.length = n) (hR : rm.frames + 1 ≤ R0.frames ∧ 8 + (maxL + 11) + rm.locals ≤ R0.locals)
    (is : List Nat) (hnd : va_nd is = true) (hs : is.map (fun i => ws[i]?) = wc.map some) {q : vw_C} {fs : List Value} (jr ci : Nat) (hq : xcl[ci]? = some q) (hqC : q.1 = C) (hrec : wc[jr]? = some (b, ob ci fs)) {st st' : List Value} (hst : st = As.reverse ++ .ref b :: rest) (hst' : ret.toList ++ rest = st') (hcat : (rest.map fun v => v.category).sum ≤ 8) (hce : ce ≤ R0.cells ∧ sl ≤ R0.slots) (hd : decode cc pc = .ok (.invokevirtual index, 3))
    (k : VV T M nL lv ws ce sl (pc + 3) st') : VV T M nL lv ws ce sl pc st :=
  xr_callV hM hct hg hw hrm hy hn hR is hnd hs rfl jr ci hq hqC hrec hst hst' hcat hce (setA_self is ws wc hs) hd k
theorem xr_callSr (hM : FM T M cc own nL Ts R0) {y : MethodName} {wy wy' : List Cond} {bytes : ByteArray} {maxL index n : Nat} {rt : Option FieldType} {rm : Room}  {As : List Value} {wc : va_W} {ret : Option Value} (hct : CT M.2.1 y wy rm T As wc ret wc)
    (hg : GoodIn Ts (va_wsS own index y wy)) (hw : wy = Cond.code y bytes maxL rt :: wy') (hrm : rm.cells = 0 ∧ rm.slots = 0) (hy : y.cls ≠ "java/lang/invoke/MethodHandle" ∧ y.cls ≠ "java/lang/invoke/VarHandle" ∧ (parseMethodDescriptor y.desc).map (fun d => d.parameters.length) = some n) (hn : As.length = n) (hR : rm.frames + 1 ≤ R0.frames ∧ 8 + (maxL + 11) + rm.locals ≤ R0.locals)
    (is : List Nat) (hnd : va_nd is = true) (hs : is.map (fun i => ws[i]?) = wc.map some)  {st st' : List Value} (hst : st = As.reverse ++ rest) (hst' : ret.toList ++ rest = st') (hcat : (rest.map fun v => v.category).sum ≤ 8) (hce : ce ≤ R0.cells ∧ sl ≤ R0.slots) (hd : decode cc pc = .ok (.invokestatic index, 3))
    (k : VV T M nL lv ws ce sl (pc + 3) st') : VV T M nL lv ws ce sl pc st :=
  xr_callS hM hct hg hw hrm hy hn hR is hnd hs rfl hst hst' hcat hce (setA_self is ws wc hs) hd k
theorem xr_callSNr (hM : FM T M cc RX3 nL Ts R0) {wy wy' : List Cond} {bytes : ByteArray} {maxL n : Nat} {rt : Option FieldType} {rm : Room} {As : List Value} {wc : va_W} {ret : Option Value} (hct : CT M.2.1 yX4_isOutside wy rm T As wc ret wc)
    (hg : GoodIn Ts wy) (hw : wy = Cond.code yX4_isOutside bytes maxL rt :: wy') (hrm : rm.cells = 0 ∧ rm.slots = 0) (hy : yX4_isOutside.cls ≠ "java/lang/invoke/MethodHandle" ∧ yX4_isOutside.cls ≠ "java/lang/invoke/VarHandle" ∧ (parseMethodDescriptor yX4_isOutside.desc).map (fun d => d.parameters.length) = some n) (hi0 : Cond.initialized RX4 ∈ Ts) (hs0 : Cond.static yX4_isOutside ∈ Ts) (hn : As.length = n) (hR : rm.frames + 1 ≤ R0.frames ∧ 8 + (maxL + 11) + rm.locals ≤ R0.locals)
    (is : List Nat) (hnd : va_nd is = true) (hs : is.map (fun i => ws[i]?) = wc.map some) {st st' : List Value} (hst : st = As.reverse ++ rest) (hst' : ret.toList ++ rest = st') (hcat : (rest.map fun v => v.category).sum ≤ 8) (hce : ce ≤ R0.cells ∧ sl ≤ R0.slots) (hd : decode cc pc = .ok (.invokestatic 35, 3))
    (k : VV T M nL lv ws ce sl (pc + 3) st') : VV T M nL lv ws ce sl pc st := by
  obtain ⟨p, l, e, R, s, m, args, below, meth, c, Q, A⟩ := M
  obtain ⟨hx, hb, hml, hown, hts, hK, hA, hR0, hSX⟩ := hM
  intro ls H locs hl hP hD hS
  subst hst hst'
  have hPc : va_P T.1 xcl wc H := hP.sub is (xl_fm hs)
  have hDc := hD.sub is hnd hs
  have hFc := va_free hD hS hA is hs
  have hR1 : R = R0 := hR0
  have hrun := va_runSN (R := R) (p := p) (l := l) (m := m) (s := s) (args := args) (c := c) (H := H) (locs := locs) (cells := ce) (slots := sl) (below := below) (e := e) (meth := meth) (g := F0 m pc ls (As.reverse ++ rest)) (As := As) (rest := rest) ⟨hx, hb, hml, hown, hts⟩ (hct H.size) ⟨va_cnB n hts hg hw hrm.1 hrm.2 hSX.1 (hts _ hi0) hy (by rw [hR1]; exact hR), hts _ hs0, trivial⟩ ⟨xl_blind, fun U hU hW => ⟨rfl, by rw [hU], by rw [hU]; exact hPc, va_K.moved hW.alike hK, hDc.weaken (fun _ _ _ _ => trivial), by rw [hU]; exact ((hSX.kept hS.2.1).narrow hFc).warm hW⟩⟩ rfl hn hl.1 rfl (lv_room hcat) hd ⟨by rw [hR1]; exact hce.1, by rw [hR1]; exact hce.2⟩
  intro X hXH X0
  obtain ⟨v, st₀, t, T', L, h0, X', hL, e1, e2, ⟨⟨hoc, hP1⟩, hF⟩, sts⟩ := hrun X hXH X0
  have hv : v = ret := by injection hoc
  subst hv
  obtain ⟨hz, hk⟩ := hF
  rw [h0] at hz hk
  have hSn := xl_S (L := L) hS hz hk hFc hL
  obtain ⟨t2, a1, b1⟩ := k ls t.heap (locs ++ L) hl ((setA_self is ws wc hs) ▸ va_P.setA hP hD is hs rfl hk hP1) (hD) hSn T' e1 X'
  exact ⟨t2, sts t2 a1, b1⟩
-- ends
theorem xr_iret {v v' : Int} (hF : FinI T M cc nL (iv v) ws') (hd : decode cc pc = .ok (.ireturn, 1)) (hv : v' = v) (hw : ws = ws') : VV T M nL lv ws 0 0 pc [iv v'] := by subst hv hw; exact hF lv pc hd
theorem xr_vret (hF : FinV T M cc nL ws') (hd : decode cc pc = .ok (.return_, 1)) (hw : ws = ws') : VV T M nL lv ws 0 0 pc [] := by subst hw; exact hF lv pc hd
theorem xr_aret {b b' : Nat} (hF : FinA T M cc nL (.ref b) ws') (hd : decode cc pc = .ok (.areturn, 1)) (hv : b' = b) (hw : ws = ws') : VV T M nL lv ws 0 0 pc [.ref b'] := by subst hv hw; exact hF lv pc hd
/-- the world told otherwise -/
theorem xr_ws (h : ∀ H, va_P T.1 xcl ws H → va_P T.1 xcl ws' H) (ha : ws'.map Prod.fst = ws.map Prod.fst) (k : VV T M nL lv ws' ce sl pc rest) : VV T M nL lv ws ce sl pc rest :=
  fun ls H locs hl hP hD hS => k ls H locs hl (h H hP) (hD.adr ha) hS
theorem arrV_congr (cI : ClassId) (N : Nat) (f g : Nat → Value) (h : ∀ j, j < N → f j = g j) : arrV cI N f = arrV cI N g := by
  unfold arrV
  congr 1
  apply Array.ext
  · simp
  · intro i h1 h2
    simp only [Array.getElem_ofFn]
    exact h i (by simpa using h1)
/-- an array's cell holds what it holds below its length -/
theorem va_P.arr {D : va_G} {cl : List vw_C} {ws : va_W} {H : Heap} (hP : va_P D cl ws H) (q : Nat) {a n : Nat} {c : ClassId} {w w' : Nat → Int} (he : ws[q]? = some (a, ia c n w)) (hw : ∀ j, j < n → w j = w' j) : va_P D cl (ws.set q (a, ia c n w')) H := by
  intro k e hk
  rw [List.getElem?_set] at hk
  split at hk
  · rename_i hqk
    subst hqk
    split at hk
    · cases hk
      have h1 := hP q _ he
      show H[a]? = some (vp_cell c (n, .inl (fun j => Int32.ofInt (w' j))))
      have h2 : H[a]? = some (vp_cell c (n, .inl (fun j => Int32.ofInt (w j)))) := h1
      rw [h2]
      show some (arrV c n (fun j => .int (Int32.ofInt (w j)))) = some (arrV c n (fun j => .int (Int32.ofInt (w' j))))
      rw [arrV_congr c n _ _ (fun j hj => by rw [hw j hj])]
    · cases hk
  · exact hP k e hk
-- switches
theorem xr_tableIn (hM : FM T M cc own nL Ts R0) {dflt lo hi k x off : Int} {offs : Array Int} {len : Nat} (tgt : Nat) (hd : decode cc pc = .ok (.tableswitch dflt lo hi offs, len)) (hxk : x = k) (h1 : lo ≤ k ∧ k ≤ hi) (h2 : -2147483648 ≤ k ∧ k < 2147483648) (ho : offs[(k - lo).toNat]? = some off) (ht : (pc : Int) + off = (tgt : Int))
    (kk : VV T M nL lv ws ce sl tgt rest) : VV T M nL lv ws ce sl pc (iv x :: rest) := by
  obtain ⟨p, l, e, R, s, m, args, below, meth, c, Q, A⟩ := M
  obtain ⟨hx, hb, hml, hown, hts, hK, hA, hR0, hSX⟩ := hM
  intro ls H locs hl hP hD hS
  subst hxk
  have e := Int32.toInt_ofInt_of_le (n := x) (by omega) (by omega)
  exact lv_tableIn hx hb hd (by rw [e]; omega) (by rw [e]; omega) (by rw [e]; exact ho) ht (kk ls H locs hl hP hD hS)
theorem xr_tableOut (hM : FM T M cc own nL Ts R0) {dflt lo hi x : Int} {offs : Array Int} {len : Nat} (tgt : Nat) (hd : decode cc pc = .ok (.tableswitch dflt lo hi offs, len)) (h2 : -2147483648 ≤ x ∧ x < 2147483648) (h1 : x < lo ∨ hi < x) (ht : (pc : Int) + dflt = (tgt : Int))
    (kk : VV T M nL lv ws ce sl tgt rest) : VV T M nL lv ws ce sl pc (iv x :: rest) := by
  obtain ⟨p, l, e, R, s, m, args, below, meth, c, Q, A⟩ := M
  obtain ⟨hx, hb, hml, hown, hts, hK, hA, hR0, hSX⟩ := hM
  intro ls H locs hl hP hD hS
  have e := Int32.toInt_ofInt_of_le (n := x) (by omega) (by omega)
  exact lv_tableOut hx hb hd (by rw [e]; exact h1) ht (kk ls H locs hl hP hD hS)
theorem xr_lookup (hM : FM T M cc own nL Ts R0) {dflt x off : Int} {ps : Array (Int × Int)} {len : Nat} (tgt : Nat) (hd : decode cc pc = .ok (.lookupswitch dflt ps, len)) (hp : (ps.toList.zip (ps.toList.drop 1)).all (fun (a, next) => a.1 < next.1) = true) (h2 : -2147483648 ≤ x ∧ x < 2147483648) (ho : Op.lookupswitch.offset ps.toList dflt x = off) (ht : (pc : Int) + off = (tgt : Int))
    (kk : VV T M nL lv ws ce sl tgt rest) : VV T M nL lv ws ce sl pc (iv x :: rest) := by
  obtain ⟨p, l, e, R, s, m, args, below, meth, c, Q, A⟩ := M
  obtain ⟨hx, hb, hml, hown, hts, hK, hA, hR0, hSX⟩ := hM
  intro ls H locs hl hP hD hS
  have e := Int32.toInt_ofInt_of_le (n := x) (by omega) (by omega)
  exact lv_lookup hx hb hd hp (by rw [e]; exact ho) ht (kk ls H locs hl hP hD hS)
theorem xr_lookupK (hM : FM T M cc own nL Ts R0) {dflt x k off : Int} {ps : Array (Int × Int)} {len : Nat} (tgt : Nat) (hd : decode cc pc = .ok (.lookupswitch dflt ps, len)) (hp : (ps.toList.zip (ps.toList.drop 1)).all (fun (a, next) => a.1 < next.1) = true) (hxk : x = k) (h2 : -2147483648 ≤ k ∧ k < 2147483648) (ho : Op.lookupswitch.offset ps.toList dflt k = off) (ht : (pc : Int) + off = (tgt : Int))
    (kk : VV T M nL lv ws ce sl tgt rest) : VV T M nL lv ws ce sl pc (iv x :: rest) := by
  subst hxk
  exact xr_lookup hM tgt hd hp h2 ho ht kk
theorem xl_def2 {a1 o1 a2 o2 d x : Int} (h1 : x ≠ a1) (h2 : x ≠ a2) : Op.lookupswitch.offset [(a1, o1), (a2, o2)] d x = d := by
  simp [Op.lookupswitch.offset, Ne.symm h1, Ne.symm h2]
theorem xl_def6 {a1 o1 a2 o2 a3 o3 a4 o4 a5 o5 a6 o6 d x : Int} (h1 : x ≠ a1) (h2 : x ≠ a2) (h3 : x ≠ a3) (h4 : x ≠ a4) (h5 : x ≠ a5) (h6 : x ≠ a6) : Op.lookupswitch.offset [(a1, o1), (a2, o2), (a3, o3), (a4, o4), (a5, o5), (a6, o6)] d x = d := by
  simp [Op.lookupswitch.offset, Ne.symm h1, Ne.symm h2, Ne.symm h3, Ne.symm h4, Ne.symm h5, Ne.symm h6]
end Calls2
end
section
/-! ===== SEGMENTS: a world as a list of objects' worlds, for calls that take whole objects ===== -/
def setG {α : Type} : List α → List Nat → List α → List α
  | ws, i :: is, c :: cs => setG (ws.set i c) is cs
  | ws, _, _ => ws
theorem setG_map {α β : Type} (f : α → β) (is : List Nat) (ws cs wc : List α) (hs : is.map (fun i => ws[i]?) = wc.map some) (hadr : cs.map f = wc.map f) (hn : va_nd is = true) : (setG ws is cs).map f = ws.map f := by
  induction is generalizing ws cs wc with
  | nil => cases cs <;> rfl
  | cons i is ih =>
    cases cs with
    | nil => rfl
    | cons c cs =>
      cases wc with
      | nil => simp at hs
      | cons w wc =>
        simp only [List.map_cons, List.cons.injEq] at hs hadr
        simp only [va_nd, Bool.and_eq_true, decide_eq_true_eq] at hn
        have hset : (ws.set i c).map f = ws.map f := by
          have h1 : (ws.map f)[i]? = some (f c) := by rw [List.getElem?_map, hs.1, hadr.1]; rfl
          rw [List.map_set]
          apply List.ext_getElem?
          intro j
          rw [List.getElem?_set]
          split
          · rename_i hij
            subst hij
            split
            · exact h1.symm
            · rename_i hlt
              rw [List.getElem?_eq_none (by simpa using hlt)] at h1
              cases h1
          · rfl
        show (setG (ws.set i c) is cs).map f = ws.map f
        rw [ih (ws.set i c) cs wc ?_ hadr.2 hn.2, hset]
        rw [← hs.2]
        apply List.map_congr_left
        intro j hj
        rw [List.getElem?_set_ne]
        intro he
        subst he
        exact hn.1 hj
theorem setG_get {α : Type} (is : List Nat) (ws cs : List α) (k : Nat) (q : α) (hl : is.length = cs.length) (h : (setG ws is cs)[k]? = some q) : (k ∉ is ∧ ws[k]? = some q) ∨ q ∈ cs := by
  induction is generalizing ws cs with
  | nil =>
    refine Or.inl ⟨List.not_mem_nil, ?_⟩
    cases cs <;> exact h
  | cons i is ih =>
    cases cs with
    | nil => simp at hl
    | cons c cs =>
      rcases ih (ws.set i c) cs (by simpa using hl) h with ⟨h1, h2⟩ | h1
      · by_cases hik : i = k
        · subst hik
          rw [List.getElem?_set] at h2
          simp only [if_true] at h2
          split at h2
          · cases h2
            exact Or.inr List.mem_cons_self
          · cases h2
        · rw [List.getElem?_set_ne hik] at h2
          exact Or.inl ⟨fun hm => (List.mem_cons.mp hm).elim (fun he => hik he.symm) h1, h2⟩
      · exact Or.inr (List.mem_cons_of_mem _ h1)
theorem setG_self {α : Type} (is : List Nat) (ws wc : List α) (hs : is.map (fun i => ws[i]?) = wc.map some) : setG ws is wc = ws := by
  induction is generalizing wc with
  | nil => cases wc <;> rfl
  | cons i is ih =>
    cases wc with
    | nil => rfl
    | cons w wc =>
      simp only [List.map_cons, List.cons.injEq] at hs
      have h1 : ws.set i w = ws := by
        apply List.ext_getElem?
        intro j
        rw [List.getElem?_set]
        split
        · rename_i hij
          subst hij
          split
          · exact hs.1.symm
          · rename_i hlt
            rw [List.getElem?_eq_none (by omega)] at hs
            cases hs.1
        · rfl
      show setG (ws.set i w) is wc = ws
      rw [h1]
      exact ih wc hs.2
theorem va_P_mem {D : va_G} {cl : List vw_C} {ws : va_W} {H : Heap} : va_P D cl ws H ↔ ∀ q ∈ ws, va_at D cl q H :=
  ⟨fun h q hq => by obtain ⟨k, hk, e⟩ := List.mem_iff_getElem.mp hq; exact h k q (by rw [List.getElem?_eq_getElem hk, e]), fun h k q hq => h q (List.mem_of_getElem? hq)⟩
theorem va_D_nd {A : Nat → Prop} {ws : va_W} : va_D A ws ↔ (ws.map Prod.fst).Pairwise (· ≠ ·) ∧ ∀ q ∈ ws, A q.1 := by
  constructor
  · intro h
    refine ⟨?_, fun q hq => ?_⟩
    · rw [List.pairwise_iff_getElem]
      intro i j hi hj hij e
      simp only [List.length_map] at hi hj
      simp only [List.getElem_map] at e
      have := h.1 i j ws[i] ws[j] (List.getElem?_eq_getElem hi) (List.getElem?_eq_getElem hj) e
      omega
    · obtain ⟨k, hk, e⟩ := List.mem_iff_getElem.mp hq
      exact h.2 k q (by rw [List.getElem?_eq_getElem hk, e])
  · intro ⟨h1, h2⟩
    rw [List.pairwise_iff_getElem] at h1
    refine ⟨fun i j p q hp hq e => ?_, fun k q hq => h2 q (List.mem_of_getElem? hq)⟩
    obtain ⟨hi, rfl⟩ := List.getElem?_eq_some_iff.mp hp
    obtain ⟨hj, rfl⟩ := List.getElem?_eq_some_iff.mp hq
    rcases Nat.lt_trichotomy i j with hl | hl | hl
    · have h9 := h1 i j (by simpa using hi) (by simpa using hj) hl
      simp only [List.getElem_map] at h9
      exact absurd e h9
    · exact hl
    · have h9 := h1 j i (by simpa using hj) (by simpa using hi) hl
      simp only [List.getElem_map] at h9
      exact absurd e.symm h9
theorem seg_dis {A : Nat → Prop} {sg : List va_W} (hD : va_D A sg.flatten) {i k : Nat} {s t : va_W} (hi : sg[i]? = some s) (hk : sg[k]? = some t) (hne : i ≠ k) {p q : Nat × va_E} (hp : p ∈ s) (hq : q ∈ t) : p.1 ≠ q.1 := by
  have h1 := (va_D_nd.mp hD).1
  rw [List.map_flatten, List.pairwise_flatten, List.pairwise_iff_getElem] at h1
  obtain ⟨hi1, rfl⟩ := List.getElem?_eq_some_iff.mp hi
  obtain ⟨hk1, rfl⟩ := List.getElem?_eq_some_iff.mp hk
  rcases Nat.lt_or_gt_of_ne hne with hl | hl
  · exact h1.2 i k (by simpa using hi1) (by simpa using hk1) hl p.1 (by simpa using ⟨p.2, hp⟩) q.1 (by simpa using ⟨q.2, hq⟩)
  · exact (h1.2 k i (by simpa using hk1) (by simpa using hi1) hl q.1 (by simpa using ⟨q.2, hq⟩) p.1 (by simpa using ⟨p.2, hp⟩)).symm
theorem seg_in {sg cs : List va_W} {is : List Nat} (hs : is.map (fun i => sg[i]?) = cs.map some) {j : Nat} {c : va_W} (hj : cs[j]? = some c) : ∃ i, is[j]? = some i ∧ sg[i]? = some c := by
  have h1 : (is.map (fun i => sg[i]?))[j]? = some (some c) := by rw [hs, List.getElem?_map, hj]; rfl
  rw [List.getElem?_map] at h1
  cases h2 : is[j]? with
  | none => rw [h2] at h1; cases h1
  | some i => rw [h2] at h1; exact ⟨i, rfl, by simpa using h1⟩
theorem seg_mem {sg cs : List va_W} {is : List Nat} (hs : is.map (fun i => sg[i]?) = cs.map some) {q : Nat × va_E} (hq : q ∈ cs.flatten) : ∃ i s, i ∈ is ∧ sg[i]? = some s ∧ q ∈ s := by
  obtain ⟨c, hc, hqc⟩ := List.mem_flatten.mp hq
  obtain ⟨j, hj, e⟩ := List.mem_iff_getElem.mp hc
  obtain ⟨i, h1, h2⟩ := seg_in hs (j := j) (c := c) (by rw [List.getElem?_eq_getElem hj, e])
  exact ⟨i, c, List.mem_of_getElem? h1, h2, hqc⟩
theorem va_nd_ne {is : List Nat} (hn : va_nd is = true) : is.Pairwise (· ≠ ·) := by
  induction is with
  | nil => exact List.Pairwise.nil
  | cons a l ih =>
    simp only [va_nd, Bool.and_eq_true, decide_eq_true_eq] at hn
    exact List.Pairwise.cons (fun b hb he => hn.1 (by rw [he]; exact hb)) (ih hn.2)
theorem seg_P {D : va_G} {cl : List vw_C} {H : Heap} {sg cs : List va_W} {is : List Nat} (hP : va_P D cl sg.flatten H) (hs : is.map (fun i => sg[i]?) = cs.map some) : va_P D cl cs.flatten H := by
  rw [va_P_mem] at hP ⊢
  intro q hq
  obtain ⟨i, s, -, h2, h3⟩ := seg_mem hs hq
  exact hP q (List.mem_flatten.mpr ⟨s, List.mem_of_getElem? h2, h3⟩)
theorem seg_D {A : Nat → Prop} {sg cs : List va_W} {is : List Nat} (hD : va_D A sg.flatten) (hn : va_nd is = true) (hs : is.map (fun i => sg[i]?) = cs.map some) : va_D A cs.flatten := by
  have h0 := va_D_nd.mp hD
  refine va_D_nd.mpr ⟨?_, fun q hq => ?_⟩
  · have h1 := h0.1
    rw [List.map_flatten, List.pairwise_flatten] at h1 ⊢
    refine ⟨fun l hl => ?_, ?_⟩
    · obtain ⟨c, hc, rfl⟩ := List.mem_map.mp hl
      obtain ⟨j, hj, e⟩ := List.mem_iff_getElem.mp hc
      obtain ⟨i, -, h2⟩ := seg_in hs (j := j) (c := c) (by rw [List.getElem?_eq_getElem hj, e])
      exact h1.1 _ (List.mem_map.mpr ⟨c, List.mem_of_getElem? h2, rfl⟩)
    · rw [List.pairwise_iff_getElem]
      intro i j hi hj hij x hx y hy
      simp only [List.length_map] at hi hj
      simp only [List.getElem_map] at hx hy
      obtain ⟨i2, a1, a2⟩ := seg_in hs (j := i) (c := cs[i]) (List.getElem?_eq_getElem hi)
      obtain ⟨j2, b1, b2⟩ := seg_in hs (j := j) (c := cs[j]) (List.getElem?_eq_getElem hj)
      obtain ⟨p, hp, rfl⟩ := List.mem_map.mp hx
      obtain ⟨q, hq, rfl⟩ := List.mem_map.mp hy
      refine seg_dis hD a2 b2 ?_ hp hq
      have hnn := va_nd_ne hn
      rw [List.pairwise_iff_getElem] at hnn
      obtain ⟨hi2, rfl⟩ := List.getElem?_eq_some_iff.mp a1
      obtain ⟨hj2, rfl⟩ := List.getElem?_eq_some_iff.mp b1
      exact hnn i j hi2 hj2 hij
  · obtain ⟨i, s, -, h2, h3⟩ := seg_mem hs hq
    exact h0.2 q (List.mem_flatten.mpr ⟨s, List.mem_of_getElem? h2, h3⟩)
theorem seg_free {A : Nat → Prop} {sg cs : List va_W} {is : List Nat} {H0 H : Heap} {locs : List Loc} (hD : va_D A sg.flatten) (hS : va_S A H0 H locs) (hA : ∀ q, H0.size ≤ q → A q) (hs : is.map (fun i => sg[i]?) = cs.map some) : ∀ q, va_A cs.flatten H.size q → A q := by
  intro q hq
  rcases hq with ⟨k, e, he⟩ | h
  · obtain ⟨i, s, -, h2, h3⟩ := seg_mem hs (List.mem_of_getElem? he)
    exact (va_D_nd.mp hD).2 _ (List.mem_flatten.mpr ⟨s, List.mem_of_getElem? h2, h3⟩)
  · exact hA q (Nat.le_trans hS.1 h)
theorem seg_set {A0 : Nat → Prop} {D : va_G} {cl : List vw_C} {sg cs cs' : List va_W} {H H1 : Heap} (hP : va_P D cl sg.flatten H) (hD : va_D A0 sg.flatten) (is : List Nat) (hs : is.map (fun i => sg[i]?) = cs.map some) (hlen : cs'.length = cs.length)
    (hk : ∀ q : Nat, q < H.size → ¬ va_A cs.flatten H.size q → H1[q]? = H[q]?) (hP1 : va_P D cl cs'.flatten H1) : va_P D cl (setG sg is cs').flatten H1 := by
  rw [va_P_mem] at hP hP1 ⊢
  intro q hq
  obtain ⟨s, hs1, hq1⟩ := List.mem_flatten.mp hq
  obtain ⟨k, hk1, e⟩ := List.mem_iff_getElem.mp hs1
  have hlen2 : is.length = cs'.length := by
    have h1 := congrArg List.length hs
    simp only [List.length_map] at h1
    omega
  rcases setG_get is sg cs' k s hlen2 (by rw [List.getElem?_eq_getElem hk1, e]) with ⟨hni, hw⟩ | hm
  · have hat := hP q (List.mem_flatten.mpr ⟨s, List.mem_of_getElem? hw, hq1⟩)
    refine hat.kept (hk q.1 hat.lt ?_)
    rintro (⟨j, e2, he⟩ | hge)
    · obtain ⟨i, t, h1, h2, h3⟩ := seg_mem hs (List.mem_of_getElem? he)
      exact seg_dis hD h2 hw (fun he => hni (he ▸ h1)) h3 hq1 rfl
    · exact absurd hat.lt (Nat.not_lt.mpr hge)
  · exact hP1 q (List.mem_flatten.mpr ⟨s, hm, hq1⟩)
theorem seg_adr {sg cs cs' : List va_W} {is : List Nat} (hs : is.map (fun i => sg[i]?) = cs.map some) (hn : va_nd is = true) (hadr : cs'.map (fun s => s.map Prod.fst) = cs.map (fun s => s.map Prod.fst)) : (setG sg is cs').flatten.map Prod.fst = sg.flatten.map Prod.fst := by
  rw [List.map_flatten, List.map_flatten]
  congr 1
  exact setG_map (fun s => s.map Prod.fst) is sg cs' cs hs hadr hn
end
section
section Calls3
variable {T : TT} {M : MB} {cc : ByteArray} {own : String} {nL : Nat} {Ts : List Cond} {R0 : Room} {lv lv' : List (Nat × Value)} {sg sg' : List va_W} {ce sl pc : Nat} {rest : List Value}
theorem xr_callVG (hM : FM T M cc own nL Ts R0) {y : MethodName} {wy wy' : List Cond} {bytes : ByteArray} {maxL index n : Nat} {rt : Option FieldType} {rm : Room} {C : String} {b : Nat} {As : List Value} {cs cs' : List va_W} {wc wc' : va_W} {ret : Option Value} (hct : CT M.2.1 y wy rm T (.ref b :: As) wc ret wc') (hwc : wc = cs.flatten) (hwc' : wc' = cs'.flatten)
    (hg : GoodIn Ts (wsV own index C y wy)) (hw : wy = Cond.code y bytes maxL rt :: wy') (hrm : rm.cells = 0 ∧ rm.slots = 0) (hy : y.cls = C ∧ y.cls ≠ "java/lang/invoke/MethodHandle" ∧ y.cls ≠ "java/lang/invoke/VarHandle" ∧ (parseMethodDescriptor y.desc).map (fun d => d.parameters.length) = some n) (hn : As.length = n) (hR : rm.frames + 1 ≤ R0.frames ∧ 8 + (maxL + 11) + rm.locals ≤ R0.locals)
    (is : List Nat) (hnd : va_nd is = true) (hs : is.map (fun i => sg[i]?) = cs.map some) (hadr : cs'.map (fun s => s.map Prod.fst) = cs.map (fun s => s.map Prod.fst)) {q : vw_C} {fs : List Value} (jr ci : Nat) (hq : xcl[ci]? = some q) (hqC : q.1 = C) (hrec : wc[jr]? = some (b, ob ci fs)) {st st' : List Value} (hst : st = As.reverse ++ .ref b :: rest) (hst' : ret.toList ++ rest = st') (hcat : (rest.map fun v => v.category).sum ≤ 8) (hce : ce ≤ R0.cells ∧ sl ≤ R0.slots) (hset : setG sg is cs' = sg') (hd : decode cc pc = .ok (.invokevirtual index, 3))
    (k : VV T M nL lv sg'.flatten ce sl (pc + 3) st') : VV T M nL lv sg.flatten ce sl pc st := by
  obtain ⟨p, l, e, R, s, m, args, below, meth, c, Q, A⟩ := M
  obtain ⟨hx, hb, hml, hown, hts, hK, hA, hR0, hSX⟩ := hM
  intro ls H locs hl hP hD hS
  subst hset hst hst' hwc hwc'
  have hlen : cs'.length = cs.length := by have h1 := congrArg List.length hadr; simpa using h1
  have hPc : va_P T.1 xcl cs.flatten H := seg_P hP hs
  have hDc := seg_D hD hnd hs
  have hFc := seg_free hD hS hA hs
  have hR1 : R = R0 := hR0
  have hrun := va_runV (R := R) (p := p) (l := l) (m := m) (s := s) (args := args) (c := c) (H := H) (locs := locs) (cells := ce) (slots := sl) (below := below) (e := e) (meth := meth) (g := F0 m pc ls (As.reverse ++ .ref b :: rest)) (As := As) (rest := rest) ⟨hx, hb, hml, hown, hts⟩ (hct H.size) (cwV n hts hg hw hrm.1 hrm.2 hy (by rw [hR1]; exact hR)) ⟨xl_blind, by have h9 := va_recv hK hPc hq hrec; rw [hqC] at h9; exact h9, fun U hU hW => ⟨rfl, by rw [hU], by rw [hU]; exact hPc, va_K.moved hW.alike hK, hDc.weaken (fun _ _ _ _ => trivial), by rw [hU]; exact ((hSX.kept hS.2.1).narrow hFc).warm hW⟩⟩ rfl hn hl.1 rfl (lv_room hcat) hd ⟨by rw [hR1]; exact hce.1, by rw [hR1]; exact hce.2⟩
  intro X hXH X0
  obtain ⟨v, st₀, t, T', L, h0, X', hL, e1, e2, ⟨⟨hoc, hP1⟩, hF⟩, sts⟩ := hrun X hXH X0
  have hv : v = ret := by injection hoc
  subst hv
  obtain ⟨hz, hk⟩ := hF
  rw [h0] at hz hk
  have hSn := xl_S (L := L) hS hz hk hFc hL
  obtain ⟨t2, a1, b1⟩ := k ls t.heap (locs ++ L) hl (seg_set hP hD is hs hlen hk hP1) (hD.adr (seg_adr hs hnd hadr)) hSn T' e1 X'
  exact ⟨t2, sts t2 a1, b1⟩
theorem xr_callSG (hM : FM T M cc own nL Ts R0) {y : MethodName} {wy wy' : List Cond} {bytes : ByteArray} {maxL index n : Nat} {rt : Option FieldType} {rm : Room}  {As : List Value} {cs cs' : List va_W} {wc wc' : va_W} {ret : Option Value} (hct : CT M.2.1 y wy rm T As wc ret wc') (hwc : wc = cs.flatten) (hwc' : wc' = cs'.flatten)
    (hg : GoodIn Ts (va_wsS own index y wy)) (hw : wy = Cond.code y bytes maxL rt :: wy') (hrm : rm.cells = 0 ∧ rm.slots = 0) (hy : y.cls ≠ "java/lang/invoke/MethodHandle" ∧ y.cls ≠ "java/lang/invoke/VarHandle" ∧ (parseMethodDescriptor y.desc).map (fun d => d.parameters.length) = some n) (hn : As.length = n) (hR : rm.frames + 1 ≤ R0.frames ∧ 8 + (maxL + 11) + rm.locals ≤ R0.locals)
    (is : List Nat) (hnd : va_nd is = true) (hs : is.map (fun i => sg[i]?) = cs.map some) (hadr : cs'.map (fun s => s.map Prod.fst) = cs.map (fun s => s.map Prod.fst))  {st st' : List Value} (hst : st = As.reverse ++ rest) (hst' : ret.toList ++ rest = st') (hcat : (rest.map fun v => v.category).sum ≤ 8) (hce : ce ≤ R0.cells ∧ sl ≤ R0.slots) (hset : setG sg is cs' = sg') (hd : decode cc pc = .ok (.invokestatic index, 3))
    (k : VV T M nL lv sg'.flatten ce sl (pc + 3) st') : VV T M nL lv sg.flatten ce sl pc st := by
  obtain ⟨p, l, e, R, s, m, args, below, meth, c, Q, A⟩ := M
  obtain ⟨hx, hb, hml, hown, hts, hK, hA, hR0, hSX⟩ := hM
  intro ls H locs hl hP hD hS
  subst hset hst hst' hwc hwc'
  have hlen : cs'.length = cs.length := by have h1 := congrArg List.length hadr; simpa using h1
  have hPc : va_P T.1 xcl cs.flatten H := seg_P hP hs
  have hDc := seg_D hD hnd hs
  have hFc := seg_free hD hS hA hs
  have hR1 : R = R0 := hR0
  have hrun := va_runS (R := R) (p := p) (l := l) (m := m) (s := s) (args := args) (c := c) (H := H) (locs := locs) (cells := ce) (slots := sl) (below := below) (e := e) (meth := meth) (g := F0 m pc ls (As.reverse ++ rest)) (As := As) (rest := rest) ⟨hx, hb, hml, hown, hts⟩ (hct H.size) (va_cwS n hts hg hw hrm.1 hrm.2 hy (by rw [hR1]; exact hR)) ⟨xl_blind, fun U hU hW => ⟨rfl, by rw [hU], by rw [hU]; exact hPc, va_K.moved hW.alike hK, hDc.weaken (fun _ _ _ _ => trivial), by rw [hU]; exact ((hSX.kept hS.2.1).narrow hFc).warm hW⟩⟩ rfl hn hl.1 rfl (lv_room hcat) hd ⟨by rw [hR1]; exact hce.1, by rw [hR1]; exact hce.2⟩
  intro X hXH X0
  obtain ⟨v, st₀, t, T', L, h0, X', hL, e1, e2, ⟨⟨hoc, hP1⟩, hF⟩, sts⟩ := hrun X hXH X0
  have hv : v = ret := by injection hoc
  subst hv
  obtain ⟨hz, hk⟩ := hF
  rw [h0] at hz hk
  have hSn := xl_S (L := L) hS hz hk hFc hL
  obtain ⟨t2, a1, b1⟩ := k ls t.heap (locs ++ L) hl (seg_set hP hD is hs hlen hk hP1) (hD.adr (seg_adr hs hnd hadr)) hSn T' e1 X'
  exact ⟨t2, sts t2 a1, b1⟩
end Calls3
end
section
/-! ===== CONTRACTS with two arrays told by what they stand for (CT2) ===== -/
abbrev AR : Type := Nat → Int
def CT2 (l : Launch) (y : MethodName) (wy : List Cond) (rm : Room) (T : TT) (vals : List Value) (ws : va_W) (ret : Option Value) (P : AR → AR → Prop) (ws' : AR → AR → va_W) : Prop :=
  ∀ sz : Nat, Met l y wy rm (va_Pc vals (fun U => U.heap.size = sz ∧ va_P T.1 xcl ws U.heap ∧ va_K T.1 xcl (xtys T) U ∧ va_D (fun _ => True) ws ∧ SX T (va_A ws sz) U U.heap))
    (fun _ st oc t => (oc = .returned ret ∧ ∃ w g : AR, P w g ∧ va_P T.1 xcl (ws' w g) t.heap) ∧ va_F (va_A ws sz) st t) 0 0 (va_A ws sz)
theorem CT2.Z {l : Launch} {y : MethodName} {wy wy' : List Cond} {rm : Room} {T : TT} {vals : List Value} {ws : va_W} {P : AR → AR → Prop} {ws' : AR → AR → va_W} {cc : ByteArray} {maxL : Nat} {rt : FieldType} {v : Int} {lv0 : List (Nat × Value)} (hy : plainName y.cls = true) (hw : wy = Cond.code y cc maxL (some rt) :: wy') (hlen : (lg_sl vals).length ≤ maxL) (hn : narrow rt (iv v) = iv v) (hlv : lv_args 0 vals = lv0)
    (h : ∀ M : MB, FM T M cc y.cls maxL wy rm → (∀ w g : AR, P w g → FinI T M cc maxL (iv v) (ws' w g)) → VV T M maxL lv0 ws 0 0 0 []) : CT2 l y wy rm T vals ws (some (iv v)) P ws' := by
  intro sz
  refine Met.ofW (cc := cc) (maxL := maxL) (ret := some rt) hy hw ?_
  intro p e s m args below meth c s₁ B hml hv
  obtain ⟨rfl, hsz, hP, hK, hD0, hSX⟩ := hv
  have hr := B.returns
  have hts := atoms_spec (ws := wy) B.pre
  have hown : s.vm.findClass y.cls = some m.cls := findClass_of_methodNamed B.named
  have hlocks := B.notSynchronized
  subst hsz
  have hD := hD0.self (sz := s.heap.size)
  have hl := lv_entry vals (n := maxL) hlen
  rw [lg_entry_eq]
  rw [hlv] at hl
  have hF : ∀ w g : AR, P w g → FinI T (p, l, e, rm, s, m, vals.toArray, below, meth, c, MQ below (fun _ st oc t => (oc = .returned (some (iv v)) ∧ ∃ w g : AR, P w g ∧ va_P T.1 xcl (ws' w g) t.heap) ∧ va_F (va_A ws s.heap.size) st t) vals.toArray s 0 0 (va_A ws s.heap.size), va_A ws s.heap.size) cc maxL (iv v) (ws' w g) := by
    intro w g hPwg lv pc hd ls H locs hl hP hD hS
    show W p l e rm s m vals.toArray below meth c H locs 0 0 (MQ below (fun _ st oc t => (oc = .returned (some (iv v)) ∧ ∃ w g : AR, P w g ∧ va_P T.1 xcl (ws' w g) t.heap) ∧ va_F (va_A ws s.heap.size) st t) vals.toArray s 0 0 (va_A ws s.heap.size)) (F0 m pc ls [.int (Int32.ofInt v)])
    exact W.zret (v := Int32.ofInt v) B.exec B.bytes hr hn (fun t ht hW => ⟨⟨rfl, w, g, hPwg, by rw [ht]; exact hP⟩, hS.F ht⟩) hS.2.2 hd hlocks
  exact h (p, l, e, rm, s, m, vals.toArray, below, meth, c, MQ below (fun _ st oc t => (oc = .returned (some (iv v)) ∧ ∃ w g : AR, P w g ∧ va_P T.1 xcl (ws' w g) t.heap) ∧ va_F (va_A ws s.heap.size) st t) vals.toArray s 0 0 (va_A ws s.heap.size), va_A ws s.heap.size)
    ⟨B.exec, B.bytes, hml, hown, hts, hK, fun q h => Or.inr h, rfl, hSX⟩
    hF _ _ _ hl hP hD va_S.rf
theorem CT2.V {l : Launch} {y : MethodName} {wy wy' : List Cond} {rm : Room} {T : TT} {vals : List Value} {ws : va_W} {P : AR → AR → Prop} {ws' : AR → AR → va_W} {cc : ByteArray} {maxL : Nat} {lv0 : List (Nat × Value)} (hy : plainName y.cls = true) (hw : wy = Cond.code y cc maxL none :: wy') (hlen : (lg_sl vals).length ≤ maxL) (hlv : lv_args 0 vals = lv0)
    (h : ∀ M : MB, FM T M cc y.cls maxL wy rm → (∀ w g : AR, P w g → FinV T M cc maxL (ws' w g)) → VV T M maxL lv0 ws 0 0 0 []) : CT2 l y wy rm T vals ws none P ws' := by
  intro sz
  refine Met.ofW (cc := cc) (maxL := maxL) (ret := none) hy hw ?_
  intro p e s m args below meth c s₁ B hml hv
  obtain ⟨rfl, hsz, hP, hK, hD0, hSX⟩ := hv
  have hr := B.returns
  have hts := atoms_spec (ws := wy) B.pre
  have hown : s.vm.findClass y.cls = some m.cls := findClass_of_methodNamed B.named
  have hlocks := B.notSynchronized
  subst hsz
  have hD := hD0.self (sz := s.heap.size)
  have hl := lv_entry vals (n := maxL) hlen
  rw [lg_entry_eq]
  rw [hlv] at hl
  have hF : ∀ w g : AR, P w g → FinV T (p, l, e, rm, s, m, vals.toArray, below, meth, c, MQ below (fun _ st oc t => (oc = .returned (none) ∧ ∃ w g : AR, P w g ∧ va_P T.1 xcl (ws' w g) t.heap) ∧ va_F (va_A ws s.heap.size) st t) vals.toArray s 0 0 (va_A ws s.heap.size), va_A ws s.heap.size) cc maxL (ws' w g) := by
    intro w g hPwg lv pc hd ls H locs hl hP hD hS
    show W p l e rm s m vals.toArray below meth c H locs 0 0 (MQ below (fun _ st oc t => (oc = .returned (none) ∧ ∃ w g : AR, P w g ∧ va_P T.1 xcl (ws' w g) t.heap) ∧ va_F (va_A ws s.heap.size) st t) vals.toArray s 0 0 (va_A ws s.heap.size)) (F0 m pc ls [])
    exact W.vret B.exec B.bytes hr (fun t ht hW => ⟨⟨rfl, w, g, hPwg, by rw [ht]; exact hP⟩, hS.F ht⟩) hS.2.2 hd hlocks
  exact h (p, l, e, rm, s, m, vals.toArray, below, meth, c, MQ below (fun _ st oc t => (oc = .returned none ∧ ∃ w g : AR, P w g ∧ va_P T.1 xcl (ws' w g) t.heap) ∧ va_F (va_A ws s.heap.size) st t) vals.toArray s 0 0 (va_A ws s.heap.size), va_A ws s.heap.size)
    ⟨B.exec, B.bytes, hml, hown, hts, hK, fun q h => Or.inr h, rfl, hSX⟩
    hF _ _ _ hl hP hD va_S.rf
section Calls4
variable {T : TT} {M : MB} {cc : ByteArray} {own : String} {nL : Nat} {Ts : List Cond} {R0 : Room} {lv lv' : List (Nat × Value)} {ws : va_W} {ce sl pc : Nat} {rest : List Value}
theorem xr_callV2 (hM : FM T M cc own nL Ts R0) {y : MethodName} {wy wy' : List Cond} {bytes : ByteArray} {maxL index n : Nat} {rt : Option FieldType} {rm : Room} {C : String} {b : Nat} {As : List Value} {wc : va_W} {P : AR → AR → Prop} {cs ws' : AR → AR → va_W} {ret : Option Value} (hct : CT2 M.2.1 y wy rm T (.ref b :: As) wc ret P cs)
    (hg : GoodIn Ts (wsV own index C y wy)) (hw : wy = Cond.code y bytes maxL rt :: wy') (hrm : rm.cells = 0 ∧ rm.slots = 0) (hy : y.cls = C ∧ y.cls ≠ "java/lang/invoke/MethodHandle" ∧ y.cls ≠ "java/lang/invoke/VarHandle" ∧ (parseMethodDescriptor y.desc).map (fun d => d.parameters.length) = some n) (hn : As.length = n) (hR : rm.frames + 1 ≤ R0.frames ∧ 8 + (maxL + 11) + rm.locals ≤ R0.locals)
    (is : List Nat) (hnd : va_nd is = true) (hs : is.map (fun i => ws[i]?) = wc.map some) (hadr : ∀ w g, (cs w g).map Prod.fst = wc.map Prod.fst) {q : vw_C} {fs : List Value} (jr ci : Nat) (hq : xcl[ci]? = some q) (hqC : q.1 = C) (hrec : wc[jr]? = some (b, ob ci fs)) {st st' : List Value} (hst : st = As.reverse ++ .ref b :: rest) (hst' : ret.toList ++ rest = st') (hcat : (rest.map fun v => v.category).sum ≤ 8) (hce : ce ≤ R0.cells ∧ sl ≤ R0.slots) (hset : ∀ w g, setA ws is (cs w g) = ws' w g) (hd : decode cc pc = .ok (.invokevirtual index, 3))
    (k : ∀ w g : AR, P w g → VV T M nL lv (ws' w g) ce sl (pc + 3) st') : VV T M nL lv ws ce sl pc st := by
  obtain ⟨p, l, e, R, s, m, args, below, meth, c, Q, A⟩ := M
  obtain ⟨hx, hb, hml, hown, hts, hK, hA, hR0, hSX⟩ := hM
  intro ls H locs hl hP hD hS
  subst hst hst'
  have hPc : va_P T.1 xcl wc H := hP.sub is (xl_fm hs)
  have hDc := hD.sub is hnd hs
  have hFc := va_free hD hS hA is hs
  have hR1 : R = R0 := hR0
  have hrun := va_runV (R := R) (p := p) (l := l) (m := m) (s := s) (args := args) (c := c) (H := H) (locs := locs) (cells := ce) (slots := sl) (below := below) (e := e) (meth := meth) (g := F0 m pc ls (As.reverse ++ .ref b :: rest)) (As := As) (rest := rest) ⟨hx, hb, hml, hown, hts⟩ (hct H.size) (cwV n hts hg hw hrm.1 hrm.2 hy (by rw [hR1]; exact hR)) ⟨xl_blind, by have h9 := va_recv hK hPc hq hrec; rw [hqC] at h9; exact h9, fun U hU hW => ⟨rfl, by rw [hU], by rw [hU]; exact hPc, va_K.moved hW.alike hK, hDc.weaken (fun _ _ _ _ => trivial), by rw [hU]; exact ((hSX.kept hS.2.1).narrow hFc).warm hW⟩⟩ rfl hn hl.1 rfl (lv_room hcat) hd ⟨by rw [hR1]; exact hce.1, by rw [hR1]; exact hce.2⟩
  intro X hXH X0
  obtain ⟨v, st₀, t, T', L, h0, X', hL, e1, e2, ⟨⟨hoc, w, g, hPwg, hP1⟩, hF⟩, sts⟩ := hrun X hXH X0
  have hv : v = ret := by injection hoc
  subst hv
  obtain ⟨hz, hk⟩ := hF
  rw [h0] at hz hk
  have hSn := xl_S (L := L) hS hz hk hFc hL
  obtain ⟨t2, a1, b1⟩ := k w g hPwg ls t.heap (locs ++ L) hl (hset w g ▸ va_P.setA hP hD is hs (hadr w g) hk hP1) (hset w g ▸ hD.adr (setA_fst is ws (cs w g) wc hs (hadr w g) hnd)) hSn T' e1 X'
  exact ⟨t2, sts t2 a1, b1⟩
theorem xr_callS2 (hM : FM T M cc own nL Ts R0) {y : MethodName} {wy wy' : List Cond} {bytes : ByteArray} {maxL index n : Nat} {rt : Option FieldType} {rm : Room}  {As : List Value} {wc : va_W} {P : AR → AR → Prop} {cs ws' : AR → AR → va_W} {ret : Option Value} (hct : CT2 M.2.1 y wy rm T As wc ret P cs)
    (hg : GoodIn Ts (va_wsS own index y wy)) (hw : wy = Cond.code y bytes maxL rt :: wy') (hrm : rm.cells = 0 ∧ rm.slots = 0) (hy : y.cls ≠ "java/lang/invoke/MethodHandle" ∧ y.cls ≠ "java/lang/invoke/VarHandle" ∧ (parseMethodDescriptor y.desc).map (fun d => d.parameters.length) = some n) (hn : As.length = n) (hR : rm.frames + 1 ≤ R0.frames ∧ 8 + (maxL + 11) + rm.locals ≤ R0.locals)
    (is : List Nat) (hnd : va_nd is = true) (hs : is.map (fun i => ws[i]?) = wc.map some) (hadr : ∀ w g, (cs w g).map Prod.fst = wc.map Prod.fst)  {st st' : List Value} (hst : st = As.reverse ++ rest) (hst' : ret.toList ++ rest = st') (hcat : (rest.map fun v => v.category).sum ≤ 8) (hce : ce ≤ R0.cells ∧ sl ≤ R0.slots) (hset : ∀ w g, setA ws is (cs w g) = ws' w g) (hd : decode cc pc = .ok (.invokestatic index, 3))
    (k : ∀ w g : AR, P w g → VV T M nL lv (ws' w g) ce sl (pc + 3) st') : VV T M nL lv ws ce sl pc st := by
  obtain ⟨p, l, e, R, s, m, args, below, meth, c, Q, A⟩ := M
  obtain ⟨hx, hb, hml, hown, hts, hK, hA, hR0, hSX⟩ := hM
  intro ls H locs hl hP hD hS
  subst hst hst'
  have hPc : va_P T.1 xcl wc H := hP.sub is (xl_fm hs)
  have hDc := hD.sub is hnd hs
  have hFc := va_free hD hS hA is hs
  have hR1 : R = R0 := hR0
  have hrun := va_runS (R := R) (p := p) (l := l) (m := m) (s := s) (args := args) (c := c) (H := H) (locs := locs) (cells := ce) (slots := sl) (below := below) (e := e) (meth := meth) (g := F0 m pc ls (As.reverse ++ rest)) (As := As) (rest := rest) ⟨hx, hb, hml, hown, hts⟩ (hct H.size) (va_cwS n hts hg hw hrm.1 hrm.2 hy (by rw [hR1]; exact hR)) ⟨xl_blind, fun U hU hW => ⟨rfl, by rw [hU], by rw [hU]; exact hPc, va_K.moved hW.alike hK, hDc.weaken (fun _ _ _ _ => trivial), by rw [hU]; exact ((hSX.kept hS.2.1).narrow hFc).warm hW⟩⟩ rfl hn hl.1 rfl (lv_room hcat) hd ⟨by rw [hR1]; exact hce.1, by rw [hR1]; exact hce.2⟩
  intro X hXH X0
  obtain ⟨v, st₀, t, T', L, h0, X', hL, e1, e2, ⟨⟨hoc, w, g, hPwg, hP1⟩, hF⟩, sts⟩ := hrun X hXH X0
  have hv : v = ret := by injection hoc
  subst hv
  obtain ⟨hz, hk⟩ := hF
  rw [h0] at hz hk
  have hSn := xl_S (L := L) hS hz hk hFc hL
  obtain ⟨t2, a1, b1⟩ := k w g hPwg ls t.heap (locs ++ L) hl (hset w g ▸ va_P.setA hP hD is hs (hadr w g) hk hP1) (hset w g ▸ hD.adr (setA_fst is ws (cs w g) wc hs (hadr w g) hnd)) hSn T' e1 X'
  exact ⟨t2, sts t2 a1, b1⟩
end Calls4
end
